theorem dX3_split_19 : decode cX3_split 19 = .ok (.iload_n 1, 1) := by decide +kernel
theorem dX3_split_20 : decode cX3_split 20 = .ok (.aaload, 1) := by decide +kernel
theorem dX3_split_21 : decode cX3_split 21 = .ok (.iload_n 2, 1) := by decide +kernel
theorem dX3_split_22 : decode cX3_split 22 = .ok (.iaload, 1) := by decide +kernel
theorem dX3_split_23 : decode cX3_split 23 = .ok (.iconst 2, 1) := by decide +kernel
theorem dX3_split_24 : decode cX3_split 24 = .ok (.if_icmp .ge 7, 3) := by decide +kernel
theorem dX3_split_27 : decode cX3_split 27 = .ok (.iconst (-1), 1) := by decide +kernel
theorem dX3_split_28 : decode cX3_split 28 = .ok (.goto 9, 3) := by decide +kernel
theorem dX3_split_31 : decode cX3_split 31 = .ok (.aload_n 0, 1) := by decide +kernel
theorem dX3_split_32 : decode cX3_split 32 = .ok (.iload_n 1, 1) := by decide +kernel
theorem dX3_split_33 : decode cX3_split 33 = .ok (.iload_n 2, 1) := by decide +kernel
theorem dX3_split_34 : decode cX3_split 34 = .ok (.invokevirtual 90, 3) := by decide +kernel
theorem dX3_split_37 : decode cX3_split 37 = .ok (.ireturn, 1) := by decide +kernel
theorem dX3_step_0 : decode cX3_step 0 = .ok (.aload_n 0, 1) := by decide +kernel
theorem dX3_step_1 : decode cX3_step 1 = .ok (.iload_n 1, 1) := by decide +kernel
theorem dX3_step_2 : decode cX3_step 2 = .ok (.iload_n 2, 1) := by decide +kernel
theorem dX3_step_3 : decode cX3_step 3 = .ok (.bipush 112, 2) := by decide +kernel
theorem dX3_step_5 : decode cX3_step 5 = .ok (.bipush 116, 2) := by decide +kernel
theorem dX3_step_7 : decode cX3_step 7 = .ok (.invokevirtual 78, 3) := by decide +kernel
theorem dX3_step_10 : decode cX3_step 10 = .ok (.ifCond .eq 14, 3) := by decide +kernel
theorem dX3_step_13 : decode cX3_step 13 = .ok (.aload_n 0, 1) := by decide +kernel
theorem dX3_step_14 : decode cX3_step 14 = .ok (.getfield 37, 3) := by decide +kernel
theorem dX3_step_17 : decode cX3_step 17 = .ok (.iload_n 1, 1) := by decide +kernel
theorem dX3_step_18 : decode cX3_step 18 = .ok (.aaload, 1) := by decide +kernel
theorem dX3_step_19 : decode cX3_step 19 = .ok (.iload_n 2, 1) := by decide +kernel
theorem dX3_step_20 : decode cX3_step 20 = .ok (.iaload, 1) := by decide +kernel
theorem dX3_step_21 : decode cX3_step 21 = .ok (.ifCond .ne 5, 3) := by decide +kernel
theorem dX3_step_24 : decode cX3_step 24 = .ok (.iconst 0, 1) := by decide +kernel
theorem dX3_step_25 : decode cX3_step 25 = .ok (.ireturn, 1) := by decide +kernel
theorem dX3_step_26 : decode cX3_step 26 = .ok (.aload_n 0, 1) := by decide +kernel
theorem dX3_step_27 : decode cX3_step 27 = .ok (.getfield 37, 3) := by decide +kernel
theorem dX3_step_30 : decode cX3_step 30 = .ok (.iload_n 1, 1) := by decide +kernel
theorem dX3_step_31 : decode cX3_step 31 = .ok (.aaload, 1) := by decide +kernel
theorem dX3_step_32 : decode cX3_step 32 = .ok (.iload_n 2, 1) := by decide +kernel
theorem dX3_step_33 : decode cX3_step 33 = .ok (.dup2, 1) := by decide +kernel
theorem dX3_step_34 : decode cX3_step 34 = .ok (.iaload, 1) := by decide +kernel
theorem dX3_step_35 : decode cX3_step 35 = .ok (.iconst 1, 1) := by decide +kernel
theorem dX3_step_36 : decode cX3_step 36 = .ok (.isub, 1) := by decide +kernel
theorem dX3_step_37 : decode cX3_step 37 = .ok (.iastore, 1) := by decide +kernel
theorem dX3_step_38 : decode cX3_step 38 = .ok (.aload_n 0, 1) := by decide +kernel
theorem dX3_step_39 : decode cX3_step 39 = .ok (.iload_n 1, 1) := by decide +kernel
theorem dX3_step_40 : decode cX3_step 40 = .ok (.iload_n 2, 1) := by decide +kernel
theorem dX3_step_41 : decode cX3_step 41 = .ok (.bipush 110, 2) := by decide +kernel
theorem dX3_step_43 : decode cX3_step 43 = .ok (.iconst 1, 1) := by decide +kernel
theorem dX3_step_44 : decode cX3_step 44 = .ok (.invokevirtual 86, 3) := by decide +kernel
theorem dX3_step_47 : decode cX3_step 47 = .ok (.iconst 1, 1) := by decide +kernel
theorem dX3_step_48 : decode cX3_step 48 = .ok (.ireturn, 1) := by decide +kernel
theorem dX3_drain_0 : decode cX3_drain 0 = .ok (.aload_n 0, 1) := by decide +kernel
theorem dX3_drain_1 : decode cX3_drain 1 = .ok (.iload_n 1, 1) := by decide +kernel
theorem dX3_drain_2 : decode cX3_drain 2 = .ok (.iload_n 2, 1) := by decide +kernel
theorem dX3_drain_3 : decode cX3_drain 3 = .ok (.bipush 112, 2) := by decide +kernel
theorem dX3_drain_5 : decode cX3_drain 5 = .ok (.bipush 116, 2) := by decide +kernel
theorem dX3_drain_7 : decode cX3_drain 7 = .ok (.invokevirtual 78, 3) := by decide +kernel
theorem dX3_drain_10 : decode cX3_drain 10 = .ok (.ifCond .ne 5, 3) := by decide +kernel
theorem dX3_drain_13 : decode cX3_drain 13 = .ok (.iconst 0, 1) := by decide +kernel
theorem dX3_drain_14 : decode cX3_drain 14 = .ok (.ireturn, 1) := by decide +kernel
theorem dX3_drain_15 : decode cX3_drain 15 = .ok (.aload_n 0, 1) := by decide +kernel
theorem dX3_drain_16 : decode cX3_drain 16 = .ok (.getfield 37, 3) := by decide +kernel
theorem dX3_drain_19 : decode cX3_drain 19 = .ok (.iload_n 1, 1) := by decide +kernel
theorem dX3_drain_20 : decode cX3_drain 20 = .ok (.aaload, 1) := by decide +kernel
theorem dX3_drain_21 : decode cX3_drain 21 = .ok (.iload_n 2, 1) := by decide +kernel
theorem dX3_drain_22 : decode cX3_drain 22 = .ok (.iaload, 1) := by decide +kernel
theorem dX3_drain_23 : decode cX3_drain 23 = .ok (.istore_n 3, 1) := by decide +kernel
theorem dX3_drain_24 : decode cX3_drain 24 = .ok (.aload_n 0, 1) := by decide +kernel
theorem dX3_drain_25 : decode cX3_drain 25 = .ok (.getfield 37, 3) := by decide +kernel
theorem dX3_drain_28 : decode cX3_drain 28 = .ok (.iload_n 1, 1) := by decide +kernel
theorem dX3_drain_29 : decode cX3_drain 29 = .ok (.aaload, 1) := by decide +kernel
theorem dX3_drain_30 : decode cX3_drain 30 = .ok (.iload_n 2, 1) := by decide +kernel
theorem dX3_drain_31 : decode cX3_drain 31 = .ok (.iconst 0, 1) := by decide +kernel
theorem dX3_drain_32 : decode cX3_drain 32 = .ok (.iastore, 1) := by decide +kernel
theorem dX3_drain_33 : decode cX3_drain 33 = .ok (.iconst 0, 1) := by decide +kernel
theorem dX3_drain_34 : decode cX3_drain 34 = .ok (.istore 4, 2) := by decide +kernel
theorem dX3_drain_36 : decode cX3_drain 36 = .ok (.iload 4, 2) := by decide +kernel
theorem dX3_drain_38 : decode cX3_drain 38 = .ok (.iload_n 3, 1) := by decide +kernel
theorem dX3_drain_39 : decode cX3_drain 39 = .ok (.if_icmp .ge 18, 3) := by decide +kernel
theorem dX3_drain_42 : decode cX3_drain 42 = .ok (.aload_n 0, 1) := by decide +kernel
theorem dX3_drain_43 : decode cX3_drain 43 = .ok (.iload_n 1, 1) := by decide +kernel
theorem dX3_drain_44 : decode cX3_drain 44 = .ok (.iload_n 2, 1) := by decide +kernel
theorem dX3_drain_45 : decode cX3_drain 45 = .ok (.bipush 110, 2) := by decide +kernel
theorem dX3_drain_47 : decode cX3_drain 47 = .ok (.iconst 1, 1) := by decide +kernel
theorem dX3_drain_48 : decode cX3_drain 48 = .ok (.invokevirtual 86, 3) := by decide +kernel
theorem dX3_drain_51 : decode cX3_drain 51 = .ok (.iinc 4 1, 3) := by decide +kernel
theorem dX3_drain_54 : decode cX3_drain 54 = .ok (.goto (-18), 3) := by decide +kernel
theorem dX3_drain_57 : decode cX3_drain 57 = .ok (.iload_n 3, 1) := by decide +kernel
theorem dX3_drain_58 : decode cX3_drain 58 = .ok (.ireturn, 1) := by decide +kernel
theorem dX3_iterate_0 : decode cX3_iterate 0 = .ok (.aload_n 0, 1) := by decide +kernel
theorem dX3_iterate_1 : decode cX3_iterate 1 = .ok (.iload_n 1, 1) := by decide +kernel
theorem dX3_iterate_2 : decode cX3_iterate 2 = .ok (.iload_n 2, 1) := by decide +kernel
theorem dX3_iterate_3 : decode cX3_iterate 3 = .ok (.bipush 112, 2) := by decide +kernel
theorem dX3_iterate_5 : decode cX3_iterate 5 = .ok (.bipush 112, 2) := by decide +kernel
theorem dX3_iterate_7 : decode cX3_iterate 7 = .ok (.invokevirtual 78, 3) := by decide +kernel
theorem dX3_iterate_10 : decode cX3_iterate 10 = .ok (.ifCond .eq 26, 3) := by decide +kernel
theorem dX3_iterate_13 : decode cX3_iterate 13 = .ok (.aload_n 0, 1) := by decide +kernel
theorem dX3_iterate_14 : decode cX3_iterate 14 = .ok (.iconst 1, 1) := by decide +kernel
theorem dX3_iterate_15 : decode cX3_iterate 15 = .ok (.iconst 1, 1) := by decide +kernel
theorem dX3_iterate_16 : decode cX3_iterate 16 = .ok (.aload_n 0, 1) := by decide +kernel
theorem dX3_iterate_17 : decode cX3_iterate 17 = .ok (.getfield 28, 3) := by decide +kernel
theorem dX3_iterate_20 : decode cX3_iterate 20 = .ok (.iload_n 1, 1) := by decide +kernel
theorem dX3_iterate_21 : decode cX3_iterate 21 = .ok (.baload, 1) := by decide +kernel
theorem dX3_iterate_22 : decode cX3_iterate 22 = .ok (.ifCond .ne 7, 3) := by decide +kernel
theorem dX3_iterate_25 : decode cX3_iterate 25 = .ok (.iconst 1, 1) := by decide +kernel
theorem dX3_iterate_26 : decode cX3_iterate 26 = .ok (.goto 4, 3) := by decide +kernel
theorem dX3_iterate_29 : decode cX3_iterate 29 = .ok (.iconst 0, 1) := by decide +kernel
theorem dX3_iterate_30 : decode cX3_iterate 30 = .ok (.invokevirtual 63, 3) := by decide +kernel
theorem dX3_iterate_33 : decode cX3_iterate 33 = .ok (.ifCond .ne 5, 3) := by decide +kernel
theorem dX3_iterate_36 : decode cX3_iterate 36 = .ok (.iconst 0, 1) := by decide +kernel
theorem dX3_iterate_37 : decode cX3_iterate 37 = .ok (.ireturn, 1) := by decide +kernel
theorem dX3_iterate_38 : decode cX3_iterate 38 = .ok (.aload_n 0, 1) := by decide +kernel
theorem dX3_iterate_39 : decode cX3_iterate 39 = .ok (.getfield 34, 3) := by decide +kernel
theorem dX3_iterate_42 : decode cX3_iterate 42 = .ok (.iload_n 1, 1) := by decide +kernel
theorem dX3_iterate_43 : decode cX3_iterate 43 = .ok (.aaload, 1) := by decide +kernel
theorem dX3_iterate_44 : decode cX3_iterate 44 = .ok (.iload_n 2, 1) := by decide +kernel
theorem dX3_iterate_45 : decode cX3_iterate 45 = .ok (.bipush 116, 2) := by decide +kernel
theorem dX3_iterate_47 : decode cX3_iterate 47 = .ok (.castore, 1) := by decide +kernel
theorem dX3_iterate_48 : decode cX3_iterate 48 = .ok (.aload_n 0, 1) := by decide +kernel
theorem dX3_iterate_49 : decode cX3_iterate 49 = .ok (.getfield 37, 3) := by decide +kernel
theorem dX3_iterate_52 : decode cX3_iterate 52 = .ok (.iload_n 1, 1) := by decide +kernel
theorem dX3_iterate_53 : decode cX3_iterate 53 = .ok (.aaload, 1) := by decide +kernel
theorem dX3_iterate_54 : decode cX3_iterate 54 = .ok (.iload_n 2, 1) := by decide +kernel
theorem dX3_iterate_55 : decode cX3_iterate 55 = .ok (.iaload, 1) := by decide +kernel
theorem dX3_iterate_56 : decode cX3_iterate 56 = .ok (.ireturn, 1) := by decide +kernel
theorem dX3_hasNext_0 : decode cX3_hasNext 0 = .ok (.aload_n 0, 1) := by decide +kernel
theorem dX3_hasNext_1 : decode cX3_hasNext 1 = .ok (.iload_n 1, 1) := by decide +kernel
theorem dX3_hasNext_2 : decode cX3_hasNext 2 = .ok (.iload_n 2, 1) := by decide +kernel
theorem dX3_hasNext_3 : decode cX3_hasNext 3 = .ok (.bipush 116, 2) := by decide +kernel
theorem dX3_hasNext_5 : decode cX3_hasNext 5 = .ok (.bipush 116, 2) := by decide +kernel
theorem dX3_hasNext_7 : decode cX3_hasNext 7 = .ok (.invokevirtual 78, 3) := by decide +kernel
theorem dX3_hasNext_10 : decode cX3_hasNext 10 = .ok (.ifCond .eq 18, 3) := by decide +kernel
theorem dX3_hasNext_13 : decode cX3_hasNext 13 = .ok (.aload_n 0, 1) := by decide +kernel
theorem dX3_hasNext_14 : decode cX3_hasNext 14 = .ok (.getfield 37, 3) := by decide +kernel
theorem dX3_hasNext_17 : decode cX3_hasNext 17 = .ok (.iload_n 1, 1) := by decide +kernel
theorem dX3_hasNext_18 : decode cX3_hasNext 18 = .ok (.aaload, 1) := by decide +kernel
theorem dX3_hasNext_19 : decode cX3_hasNext 19 = .ok (.iload_n 2, 1) := by decide +kernel
theorem dX3_hasNext_20 : decode cX3_hasNext 20 = .ok (.iaload, 1) := by decide +kernel
theorem dX3_hasNext_21 : decode cX3_hasNext 21 = .ok (.ifCond .le 7, 3) := by decide +kernel
theorem dX3_hasNext_24 : decode cX3_hasNext 24 = .ok (.iconst 1, 1) := by decide +kernel
theorem dX3_hasNext_25 : decode cX3_hasNext 25 = .ok (.goto 4, 3) := by decide +kernel
theorem dX3_hasNext_28 : decode cX3_hasNext 28 = .ok (.iconst 0, 1) := by decide +kernel
theorem dX3_hasNext_29 : decode cX3_hasNext 29 = .ok (.ireturn, 1) := by decide +kernel
theorem dX3_isMost_0 : decode cX3_isMost 0 = .ok (.iload_n 0, 1) := by decide +kernel
theorem dX3_isMost_1 : decode cX3_isMost 1 = .ok (.iconst 1, 1) := by decide +kernel
theorem dX3_isMost_2 : decode cX3_isMost 2 = .ok (.if_icmp .lt 13, 3) := by decide +kernel
theorem dX3_isMost_5 : decode cX3_isMost 5 = .ok (.iload_n 0, 1) := by decide +kernel
theorem dX3_isMost_6 : decode cX3_isMost 6 = .ok (.bipush 48, 2) := by decide +kernel
theorem dX3_isMost_8 : decode cX3_isMost 8 = .ok (.if_icmp .gt 7, 3) := by decide +kernel
theorem dX3_isMost_11 : decode cX3_isMost 11 = .ok (.iconst 1, 1) := by decide +kernel
theorem dX3_isMost_12 : decode cX3_isMost 12 = .ok (.goto 4, 3) := by decide +kernel
theorem dX3_isMost_15 : decode cX3_isMost 15 = .ok (.iconst 0, 1) := by decide +kernel
theorem dX3_isMost_16 : decode cX3_isMost 16 = .ok (.ireturn, 1) := by decide +kernel
theorem dX3_crumble_0 : decode cX3_crumble 0 = .ok (.aload_n 0, 1) := by decide +kernel
theorem dX3_crumble_1 : decode cX3_crumble 1 = .ok (.iload_n 1, 1) := by decide +kernel
theorem dX3_crumble_2 : decode cX3_crumble 2 = .ok (.invokestatic 67, 3) := by decide +kernel
theorem dX3_crumble_5 : decode cX3_crumble 5 = .ok (.iload_n 2, 1) := by decide +kernel
theorem dX3_crumble_6 : decode cX3_crumble 6 = .ok (.invokestatic 93, 3) := by decide +kernel
theorem dX3_crumble_9 : decode cX3_crumble 9 = .ok (.iconst 1, 1) := by decide +kernel
theorem dX3_crumble_10 : decode cX3_crumble 10 = .ok (.invokevirtual 63, 3) := by decide +kernel
theorem dX3_crumble_13 : decode cX3_crumble 13 = .ok (.ifCond .ne 5, 3) := by decide +kernel
theorem dX3_crumble_16 : decode cX3_crumble 16 = .ok (.iconst 0, 1) := by decide +kernel
theorem dX3_crumble_17 : decode cX3_crumble 17 = .ok (.ireturn, 1) := by decide +kernel
theorem dX3_crumble_18 : decode cX3_crumble 18 = .ok (.iconst 0, 1) := by decide +kernel
theorem dX3_crumble_19 : decode cX3_crumble 19 = .ok (.istore_n 3, 1) := by decide +kernel
theorem dX3_crumble_20 : decode cX3_crumble 20 = .ok (.iconst 0, 1) := by decide +kernel
theorem dX3_crumble_21 : decode cX3_crumble 21 = .ok (.istore 4, 2) := by decide +kernel
theorem dX3_crumble_23 : decode cX3_crumble 23 = .ok (.iload 4, 2) := by decide +kernel
theorem dX3_crumble_25 : decode cX3_crumble 25 = .ok (.aload_n 0, 1) := by decide +kernel
theorem dX3_crumble_26 : decode cX3_crumble 26 = .ok (.getfield 40, 3) := by decide +kernel
theorem dX3_crumble_29 : decode cX3_crumble 29 = .ok (.iload_n 1, 1) := by decide +kernel
theorem dX3_crumble_30 : decode cX3_crumble 30 = .ok (.iaload, 1) := by decide +kernel
theorem dX3_crumble_31 : decode cX3_crumble 31 = .ok (.if_icmp .ge 50, 3) := by decide +kernel
theorem dX3_crumble_34 : decode cX3_crumble 34 = .ok (.aload_n 0, 1) := by decide +kernel
theorem dX3_crumble_35 : decode cX3_crumble 35 = .ok (.getfield 34, 3) := by decide +kernel
theorem dX3_crumble_38 : decode cX3_crumble 38 = .ok (.iload_n 1, 1) := by decide +kernel
theorem dX3_crumble_39 : decode cX3_crumble 39 = .ok (.aaload, 1) := by decide +kernel
theorem dX3_crumble_40 : decode cX3_crumble 40 = .ok (.iload 4, 2) := by decide +kernel
theorem dX3_crumble_42 : decode cX3_crumble 42 = .ok (.caload, 1) := by decide +kernel
theorem dX3_crumble_43 : decode cX3_crumble 43 = .ok (.bipush 112, 2) := by decide +kernel
theorem dX3_crumble_45 : decode cX3_crumble 45 = .ok (.if_icmp .ne 30, 3) := by decide +kernel
theorem dX3_crumble_48 : decode cX3_crumble 48 = .ok (.aload_n 0, 1) := by decide +kernel
theorem dX3_crumble_49 : decode cX3_crumble 49 = .ok (.getfield 37, 3) := by decide +kernel
theorem dX3_crumble_52 : decode cX3_crumble 52 = .ok (.iload_n 1, 1) := by decide +kernel
theorem dX3_crumble_53 : decode cX3_crumble 53 = .ok (.aaload, 1) := by decide +kernel
theorem dX3_crumble_54 : decode cX3_crumble 54 = .ok (.iload 4, 2) := by decide +kernel
theorem dX3_crumble_56 : decode cX3_crumble 56 = .ok (.iaload, 1) := by decide +kernel
theorem dX3_crumble_57 : decode cX3_crumble 57 = .ok (.iload_n 2, 1) := by decide +kernel
theorem dX3_crumble_58 : decode cX3_crumble 58 = .ok (.if_icmp .le 17, 3) := by decide +kernel
theorem dX3_crumble_61 : decode cX3_crumble 61 = .ok (.aload_n 0, 1) := by decide +kernel
theorem dX3_crumble_62 : decode cX3_crumble 62 = .ok (.iload_n 1, 1) := by decide +kernel
theorem dX3_crumble_63 : decode cX3_crumble 63 = .ok (.iload 4, 2) := by decide +kernel
theorem dX3_crumble_65 : decode cX3_crumble 65 = .ok (.invokevirtual 90, 3) := by decide +kernel
theorem dX3_crumble_68 : decode cX3_crumble 68 = .ok (.pop, 1) := by decide +kernel
theorem dX3_crumble_69 : decode cX3_crumble 69 = .ok (.iinc 3 1, 3) := by decide +kernel
theorem dX3_crumble_72 : decode cX3_crumble 72 = .ok (.goto (-49), 3) := by decide +kernel
theorem dX3_crumble_75 : decode cX3_crumble 75 = .ok (.iinc 4 1, 3) := by decide +kernel
theorem dX3_crumble_78 : decode cX3_crumble 78 = .ok (.goto (-55), 3) := by decide +kernel
theorem dX3_crumble_81 : decode cX3_crumble 81 = .ok (.iload_n 3, 1) := by decide +kernel
theorem dX3_crumble_82 : decode cX3_crumble 82 = .ok (.ireturn, 1) := by decide +kernel
theorem dX3_sweep_0 : decode cX3_sweep 0 = .ok (.aload_n 0, 1) := by decide +kernel
theorem dX3_sweep_1 : decode cX3_sweep 1 = .ok (.iload_n 1, 1) := by decide +kernel
theorem dX3_sweep_2 : decode cX3_sweep 2 = .ok (.invokestatic 67, 3) := by decide +kernel
theorem dX3_sweep_5 : decode cX3_sweep 5 = .ok (.iconst 1, 1) := by decide +kernel
theorem dX3_sweep_6 : decode cX3_sweep 6 = .ok (.iconst 1, 1) := by decide +kernel
theorem dX3_sweep_7 : decode cX3_sweep 7 = .ok (.invokevirtual 63, 3) := by decide +kernel
theorem dX3_sweep_10 : decode cX3_sweep 10 = .ok (.ifCond .ne 5, 3) := by decide +kernel
theorem dX3_sweep_13 : decode cX3_sweep 13 = .ok (.iconst 0, 1) := by decide +kernel
theorem dX3_sweep_14 : decode cX3_sweep 14 = .ok (.ireturn, 1) := by decide +kernel
theorem dX3_sweep_15 : decode cX3_sweep 15 = .ok (.iconst 0, 1) := by decide +kernel
theorem dX3_sweep_16 : decode cX3_sweep 16 = .ok (.istore_n 2, 1) := by decide +kernel
theorem dX3_sweep_17 : decode cX3_sweep 17 = .ok (.iconst 0, 1) := by decide +kernel
theorem dX3_sweep_18 : decode cX3_sweep 18 = .ok (.istore_n 3, 1) := by decide +kernel
theorem dX3_sweep_19 : decode cX3_sweep 19 = .ok (.iload_n 3, 1) := by decide +kernel
theorem dX3_sweep_20 : decode cX3_sweep 20 = .ok (.aload_n 0, 1) := by decide +kernel
theorem dX3_sweep_21 : decode cX3_sweep 21 = .ok (.getfield 40, 3) := by decide +kernel
theorem dX3_sweep_24 : decode cX3_sweep 24 = .ok (.iload_n 1, 1) := by decide +kernel
theorem dX3_sweep_25 : decode cX3_sweep 25 = .ok (.iaload, 1) := by decide +kernel
theorem dX3_sweep_26 : decode cX3_sweep 26 = .ok (.if_icmp .ge 55, 3) := by decide +kernel
theorem dX3_sweep_29 : decode cX3_sweep 29 = .ok (.aload_n 0, 1) := by decide +kernel
theorem dX3_sweep_30 : decode cX3_sweep 30 = .ok (.getfield 37, 3) := by decide +kernel
theorem dX3_sweep_33 : decode cX3_sweep 33 = .ok (.iload_n 1, 1) := by decide +kernel
theorem dX3_sweep_34 : decode cX3_sweep 34 = .ok (.aaload, 1) := by decide +kernel
theorem dX3_sweep_35 : decode cX3_sweep 35 = .ok (.iload_n 3, 1) := by decide +kernel
theorem dX3_sweep_36 : decode cX3_sweep 36 = .ok (.iaload, 1) := by decide +kernel
theorem dX3_sweep_37 : decode cX3_sweep 37 = .ok (.ifCond .le 38, 3) := by decide +kernel
theorem dX3_sweep_40 : decode cX3_sweep 40 = .ok (.aload_n 0, 1) := by decide +kernel
theorem dX3_sweep_41 : decode cX3_sweep 41 = .ok (.getfield 34, 3) := by decide +kernel
theorem dX3_sweep_44 : decode cX3_sweep 44 = .ok (.iload_n 1, 1) := by decide +kernel
theorem dX3_sweep_45 : decode cX3_sweep 45 = .ok (.aaload, 1) := by decide +kernel
theorem dX3_sweep_46 : decode cX3_sweep 46 = .ok (.iload_n 2, 1) := by decide +kernel
theorem dX3_sweep_47 : decode cX3_sweep 47 = .ok (.aload_n 0, 1) := by decide +kernel
theorem dX3_sweep_48 : decode cX3_sweep 48 = .ok (.getfield 34, 3) := by decide +kernel
theorem dX3_sweep_51 : decode cX3_sweep 51 = .ok (.iload_n 1, 1) := by decide +kernel
theorem dX3_sweep_52 : decode cX3_sweep 52 = .ok (.aaload, 1) := by decide +kernel
theorem dX3_sweep_53 : decode cX3_sweep 53 = .ok (.iload_n 3, 1) := by decide +kernel
theorem dX3_sweep_54 : decode cX3_sweep 54 = .ok (.caload, 1) := by decide +kernel
theorem dX3_sweep_55 : decode cX3_sweep 55 = .ok (.castore, 1) := by decide +kernel
theorem dX3_sweep_56 : decode cX3_sweep 56 = .ok (.aload_n 0, 1) := by decide +kernel
theorem dX3_sweep_57 : decode cX3_sweep 57 = .ok (.getfield 37, 3) := by decide +kernel
theorem dX3_sweep_60 : decode cX3_sweep 60 = .ok (.iload_n 1, 1) := by decide +kernel
theorem dX3_sweep_61 : decode cX3_sweep 61 = .ok (.aaload, 1) := by decide +kernel
theorem dX3_sweep_62 : decode cX3_sweep 62 = .ok (.iload_n 2, 1) := by decide +kernel
theorem dX3_sweep_63 : decode cX3_sweep 63 = .ok (.aload_n 0, 1) := by decide +kernel
theorem dX3_sweep_64 : decode cX3_sweep 64 = .ok (.getfield 37, 3) := by decide +kernel
theorem dX3_sweep_67 : decode cX3_sweep 67 = .ok (.iload_n 1, 1) := by decide +kernel
theorem dX3_sweep_68 : decode cX3_sweep 68 = .ok (.aaload, 1) := by decide +kernel
theorem dX3_sweep_69 : decode cX3_sweep 69 = .ok (.iload_n 3, 1) := by decide +kernel
theorem dX3_sweep_70 : decode cX3_sweep 70 = .ok (.iaload, 1) := by decide +kernel
theorem dX3_sweep_71 : decode cX3_sweep 71 = .ok (.iastore, 1) := by decide +kernel
theorem dX3_sweep_72 : decode cX3_sweep 72 = .ok (.iinc 2 1, 3) := by decide +kernel
theorem dX3_sweep_75 : decode cX3_sweep 75 = .ok (.iinc 3 1, 3) := by decide +kernel
theorem dX3_sweep_78 : decode cX3_sweep 78 = .ok (.goto (-59), 3) := by decide +kernel
theorem dX3_sweep_81 : decode cX3_sweep 81 = .ok (.aload_n 0, 1) := by decide +kernel
theorem dX3_sweep_82 : decode cX3_sweep 82 = .ok (.getfield 40, 3) := by decide +kernel
theorem dX3_sweep_85 : decode cX3_sweep 85 = .ok (.iload_n 1, 1) := by decide +kernel
theorem dX3_sweep_86 : decode cX3_sweep 86 = .ok (.iaload, 1) := by decide +kernel
theorem dX3_sweep_87 : decode cX3_sweep 87 = .ok (.iload_n 2, 1) := by decide +kernel
theorem dX3_sweep_88 : decode cX3_sweep 88 = .ok (.isub, 1) := by decide +kernel
theorem dX3_sweep_89 : decode cX3_sweep 89 = .ok (.istore_n 3, 1) := by decide +kernel
theorem dX3_sweep_90 : decode cX3_sweep 90 = .ok (.aload_n 0, 1) := by decide +kernel
theorem dX3_sweep_91 : decode cX3_sweep 91 = .ok (.getfield 40, 3) := by decide +kernel
theorem dX3_sweep_94 : decode cX3_sweep 94 = .ok (.iload_n 1, 1) := by decide +kernel
theorem dX3_sweep_95 : decode cX3_sweep 95 = .ok (.iload_n 2, 1) := by decide +kernel
theorem dX3_sweep_96 : decode cX3_sweep 96 = .ok (.iastore, 1) := by decide +kernel
theorem dX3_sweep_97 : decode cX3_sweep 97 = .ok (.iload_n 3, 1) := by decide +kernel
theorem dX3_sweep_98 : decode cX3_sweep 98 = .ok (.ireturn, 1) := by decide +kernel
theorem dX3_count_0 : decode cX3_count 0 = .ok (.iconst 0, 1) := by decide +kernel
theorem dX3_count_1 : decode cX3_count 1 = .ok (.istore_n 3, 1) := by decide +kernel
theorem dX3_count_2 : decode cX3_count 2 = .ok (.iconst 0, 1) := by decide +kernel
theorem dX3_count_3 : decode cX3_count 3 = .ok (.istore 4, 2) := by decide +kernel
theorem dX3_count_5 : decode cX3_count 5 = .ok (.iload 4, 2) := by decide +kernel
theorem dX3_count_7 : decode cX3_count 7 = .ok (.aload_n 0, 1) := by decide +kernel
theorem dX3_count_8 : decode cX3_count 8 = .ok (.getfield 40, 3) := by decide +kernel
theorem dX3_count_11 : decode cX3_count 11 = .ok (.iload_n 1, 1) := by decide +kernel
theorem dX3_count_12 : decode cX3_count 12 = .ok (.iaload, 1) := by decide +kernel
theorem dX3_count_13 : decode cX3_count 13 = .ok (.if_icmp .ge 30, 3) := by decide +kernel
theorem dX3_count_16 : decode cX3_count 16 = .ok (.iload_n 3, 1) := by decide +kernel
theorem dX3_count_17 : decode cX3_count 17 = .ok (.aload_n 0, 1) := by decide +kernel
theorem dX3_count_18 : decode cX3_count 18 = .ok (.getfield 34, 3) := by decide +kernel
theorem dX3_count_21 : decode cX3_count 21 = .ok (.iload_n 1, 1) := by decide +kernel
theorem dX3_count_22 : decode cX3_count 22 = .ok (.aaload, 1) := by decide +kernel
theorem dX3_count_23 : decode cX3_count 23 = .ok (.iload 4, 2) := by decide +kernel
theorem dX3_count_25 : decode cX3_count 25 = .ok (.caload, 1) := by decide +kernel
theorem dX3_count_26 : decode cX3_count 26 = .ok (.iload_n 2, 1) := by decide +kernel
theorem dX3_count_27 : decode cX3_count 27 = .ok (.if_icmp .ne 7, 3) := by decide +kernel
theorem dX3_count_30 : decode cX3_count 30 = .ok (.iconst 1, 1) := by decide +kernel
theorem dX3_count_31 : decode cX3_count 31 = .ok (.goto 4, 3) := by decide +kernel
theorem dX3_count_34 : decode cX3_count 34 = .ok (.iconst 0, 1) := by decide +kernel
theorem dX3_count_35 : decode cX3_count 35 = .ok (.iadd, 1) := by decide +kernel
theorem dX3_count_36 : decode cX3_count 36 = .ok (.istore_n 3, 1) := by decide +kernel
theorem dX3_count_37 : decode cX3_count 37 = .ok (.iinc 4 1, 3) := by decide +kernel
theorem dX3_count_40 : decode cX3_count 40 = .ok (.goto (-35), 3) := by decide +kernel
theorem dX3_count_43 : decode cX3_count 43 = .ok (.iload_n 3, 1) := by decide +kernel
theorem dX3_count_44 : decode cX3_count 44 = .ok (.ireturn, 1) := by decide +kernel
theorem dX3_isRead_0 : decode cX3_isRead 0 = .ok (.aload_n 0, 1) := by decide +kernel
theorem dX3_isRead_1 : decode cX3_isRead 1 = .ok (.iload_n 1, 1) := by decide +kernel
theorem dX3_isRead_2 : decode cX3_isRead 2 = .ok (.invokestatic 67, 3) := by decide +kernel
theorem dX3_isRead_5 : decode cX3_isRead 5 = .ok (.iconst 1, 1) := by decide +kernel
theorem dX3_isRead_6 : decode cX3_isRead 6 = .ok (.iconst 1, 1) := by decide +kernel
theorem dX3_isRead_7 : decode cX3_isRead 7 = .ok (.invokevirtual 63, 3) := by decide +kernel
theorem dX3_isRead_10 : decode cX3_isRead 10 = .ok (.ifCond .eq 23, 3) := by decide +kernel
theorem dX3_isRead_13 : decode cX3_isRead 13 = .ok (.aload_n 0, 1) := by decide +kernel
theorem dX3_isRead_14 : decode cX3_isRead 14 = .ok (.iload_n 1, 1) := by decide +kernel
theorem dX3_isRead_15 : decode cX3_isRead 15 = .ok (.bipush 110, 2) := by decide +kernel
theorem dX3_isRead_17 : decode cX3_isRead 17 = .ok (.invokevirtual 96, 3) := by decide +kernel
theorem dX3_isRead_20 : decode cX3_isRead 20 = .ok (.aload_n 0, 1) := by decide +kernel
theorem dX3_isRead_21 : decode cX3_isRead 21 = .ok (.getfield 40, 3) := by decide +kernel
theorem dX3_isRead_24 : decode cX3_isRead 24 = .ok (.iload_n 1, 1) := by decide +kernel
theorem dX3_isRead_25 : decode cX3_isRead 25 = .ok (.iaload, 1) := by decide +kernel
theorem dX3_isRead_26 : decode cX3_isRead 26 = .ok (.if_icmp .ne 7, 3) := by decide +kernel
theorem dX3_isRead_29 : decode cX3_isRead 29 = .ok (.iconst 1, 1) := by decide +kernel
theorem dX3_isRead_30 : decode cX3_isRead 30 = .ok (.goto 4, 3) := by decide +kernel
theorem dX3_isRead_33 : decode cX3_isRead 33 = .ok (.iconst 0, 1) := by decide +kernel
theorem dX3_isRead_34 : decode cX3_isRead 34 = .ok (.ireturn, 1) := by decide +kernel
theorem dX3_fold_0 : decode cX3_fold 0 = .ok (.iload_n 1, 1) := by decide +kernel
theorem dX3_fold_1 : decode cX3_fold 1 = .ok (.invokestatic 51, 3) := by decide +kernel
theorem dX3_fold_4 : decode cX3_fold 4 = .ok (.istore 5, 2) := by decide +kernel
theorem dX3_fold_6 : decode cX3_fold 6 = .ok (.aload_n 0, 1) := by decide +kernel
theorem dX3_fold_7 : decode cX3_fold 7 = .ok (.iload 5, 2) := by decide +kernel
theorem dX3_fold_9 : decode cX3_fold 9 = .ok (.ifCond .lt 42, 3) := by decide +kernel
theorem dX3_fold_12 : decode cX3_fold 12 = .ok (.iload_n 3, 1) := by decide +kernel
theorem dX3_fold_13 : decode cX3_fold 13 = .ok (.invokestatic 93, 3) := by decide +kernel
theorem dX3_fold_16 : decode cX3_fold 16 = .ok (.ifCond .eq 35, 3) := by decide +kernel
theorem dX3_fold_19 : decode cX3_fold 19 = .ok (.iload 4, 2) := by decide +kernel
theorem dX3_fold_21 : decode cX3_fold 21 = .ok (.bipush 115, 2) := by decide +kernel
theorem dX3_fold_23 : decode cX3_fold 23 = .ok (.if_icmp .eq 24, 3) := by decide +kernel
theorem dX3_fold_26 : decode cX3_fold 26 = .ok (.iload 4, 2) := by decide +kernel
theorem dX3_fold_28 : decode cX3_fold 28 = .ok (.bipush 120, 2) := by decide +kernel
theorem dX3_fold_30 : decode cX3_fold 30 = .ok (.if_icmp .eq 17, 3) := by decide +kernel
theorem dX3_fold_33 : decode cX3_fold 33 = .ok (.iload 4, 2) := by decide +kernel
theorem dX3_fold_35 : decode cX3_fold 35 = .ok (.bipush 104, 2) := by decide +kernel
theorem dX3_fold_37 : decode cX3_fold 37 = .ok (.if_icmp .eq 10, 3) := by decide +kernel
theorem dX3_fold_40 : decode cX3_fold 40 = .ok (.iload 4, 2) := by decide +kernel
theorem dX3_fold_42 : decode cX3_fold 42 = .ok (.bipush 102, 2) := by decide +kernel
theorem dX3_fold_44 : decode cX3_fold 44 = .ok (.if_icmp .ne 7, 3) := by decide +kernel
theorem dX3_fold_47 : decode cX3_fold 47 = .ok (.iconst 1, 1) := by decide +kernel
theorem dX3_fold_48 : decode cX3_fold 48 = .ok (.goto 4, 3) := by decide +kernel
theorem dX3_fold_51 : decode cX3_fold 51 = .ok (.iconst 0, 1) := by decide +kernel
theorem dX3_fold_52 : decode cX3_fold 52 = .ok (.iload_n 2, 1) := by decide +kernel
theorem dX3_fold_53 : decode cX3_fold 53 = .ok (.invokestatic 59, 3) := by decide +kernel
theorem dX3_fold_56 : decode cX3_fold 56 = .ok (.iconst 1, 1) := by decide +kernel
theorem dX3_fold_57 : decode cX3_fold 57 = .ok (.invokevirtual 63, 3) := by decide +kernel
theorem dX3_fold_60 : decode cX3_fold 60 = .ok (.ifCond .ne 5, 3) := by decide +kernel
theorem dX3_fold_63 : decode cX3_fold 63 = .ok (.lconst 0, 1) := by decide +kernel
theorem dX3_fold_64 : decode cX3_fold 64 = .ok (.lreturn, 1) := by decide +kernel
theorem dX3_fold_65 : decode cX3_fold 65 = .ok (.iload 4, 2) := by decide +kernel
theorem dX3_fold_67 : decode cX3_fold 67 = .ok (.bipush 102, 2) := by decide +kernel
theorem dX3_fold_69 : decode cX3_fold 69 = .ok (.if_icmp .ne 9, 3) := by decide +kernel
theorem dX3_fold_72 : decode cX3_fold 72 = .ok (.ldc2_w 100, 3) := by decide +kernel
theorem dX3_fold_75 : decode cX3_fold 75 = .ok (.goto 4, 3) := by decide +kernel
theorem dX3_fold_78 : decode cX3_fold 78 = .ok (.lconst 0, 1) := by decide +kernel
theorem dX3_fold_79 : decode cX3_fold 79 = .ok (.lstore 6, 2) := by decide +kernel
theorem dX3_fold_81 : decode cX3_fold 81 = .ok (.iconst 0, 1) := by decide +kernel
theorem dX3_fold_82 : decode cX3_fold 82 = .ok (.istore 8, 2) := by decide +kernel
theorem dX3_fold_84 : decode cX3_fold 84 = .ok (.iload 8, 2) := by decide +kernel
theorem dX3_fold_86 : decode cX3_fold 86 = .ok (.aload_n 0, 1) := by decide +kernel
theorem dX3_fold_87 : decode cX3_fold 87 = .ok (.getfield 16, 3) := by decide +kernel
theorem dX3_fold_90 : decode cX3_fold 90 = .ok (.iload 5, 2) := by decide +kernel
theorem dX3_fold_92 : decode cX3_fold 92 = .ok (.aaload, 1) := by decide +kernel
theorem dX3_fold_93 : decode cX3_fold 93 = .ok (.iload_n 2, 1) := by decide +kernel
theorem dX3_fold_94 : decode cX3_fold 94 = .ok (.iaload, 1) := by decide +kernel
theorem dX3_fold_95 : decode cX3_fold 95 = .ok (.if_icmp .ge 109, 3) := by decide +kernel
theorem dX3_fold_98 : decode cX3_fold 98 = .ok (.aload_n 0, 1) := by decide +kernel
theorem dX3_fold_99 : decode cX3_fold 99 = .ok (.getfield 11, 3) := by decide +kernel
theorem dX3_fold_102 : decode cX3_fold 102 = .ok (.iload 5, 2) := by decide +kernel
theorem dX3_fold_104 : decode cX3_fold 104 = .ok (.aaload, 1) := by decide +kernel
theorem dX3_fold_105 : decode cX3_fold 105 = .ok (.iload_n 2, 1) := by decide +kernel
theorem dX3_fold_106 : decode cX3_fold 106 = .ok (.aaload, 1) := by decide +kernel
theorem dX3_fold_107 : decode cX3_fold 107 = .ok (.iload 8, 2) := by decide +kernel
theorem dX3_fold_109 : decode cX3_fold 109 = .ok (.laload, 1) := by decide +kernel
theorem dX3_fold_110 : decode cX3_fold 110 = .ok (.lstore 9, 2) := by decide +kernel
theorem dX3_fold_112 : decode cX3_fold 112 = .ok (.iload 4, 2) := by decide +kernel
theorem dX3_fold_114 : decode cX3_fold 114 = .ok (.bipush 115, 2) := by decide +kernel
theorem dX3_fold_116 : decode cX3_fold 116 = .ok (.if_icmp .ne 13, 3) := by decide +kernel
theorem dX3_fold_119 : decode cX3_fold 119 = .ok (.lload 6, 2) := by decide +kernel
theorem dX3_fold_121 : decode cX3_fold 121 = .ok (.lload 9, 2) := by decide +kernel
theorem dX3_fold_123 : decode cX3_fold 123 = .ok (.ladd, 1) := by decide +kernel
theorem dX3_fold_124 : decode cX3_fold 124 = .ok (.lstore 6, 2) := by decide +kernel
theorem dX3_fold_126 : decode cX3_fold 126 = .ok (.goto 72, 3) := by decide +kernel
theorem dX3_fold_129 : decode cX3_fold 129 = .ok (.iload 4, 2) := by decide +kernel
theorem dX3_fold_131 : decode cX3_fold 131 = .ok (.bipush 120, 2) := by decide +kernel
theorem dX3_fold_133 : decode cX3_fold 133 = .ok (.if_icmp .ne 13, 3) := by decide +kernel
theorem dX3_fold_136 : decode cX3_fold 136 = .ok (.lload 6, 2) := by decide +kernel
theorem dX3_fold_138 : decode cX3_fold 138 = .ok (.lload 9, 2) := by decide +kernel
theorem dX3_fold_140 : decode cX3_fold 140 = .ok (.lxor, 1) := by decide +kernel
theorem dX3_fold_141 : decode cX3_fold 141 = .ok (.lstore 6, 2) := by decide +kernel
theorem dX3_fold_143 : decode cX3_fold 143 = .ok (.goto 55, 3) := by decide +kernel
theorem dX3_fold_146 : decode cX3_fold 146 = .ok (.iload 4, 2) := by decide +kernel
theorem dX3_fold_148 : decode cX3_fold 148 = .ok (.bipush 104, 2) := by decide +kernel
theorem dX3_fold_150 : decode cX3_fold 150 = .ok (.if_icmp .ne 17, 3) := by decide +kernel
theorem dX3_fold_153 : decode cX3_fold 153 = .ok (.ldc2_w 102, 3) := by decide +kernel
theorem dX3_fold_156 : decode cX3_fold 156 = .ok (.lload 6, 2) := by decide +kernel
theorem dX3_fold_158 : decode cX3_fold 158 = .ok (.lmul, 1) := by decide +kernel
theorem dX3_fold_159 : decode cX3_fold 159 = .ok (.lload 9, 2) := by decide +kernel
theorem dX3_fold_161 : decode cX3_fold 161 = .ok (.ladd, 1) := by decide +kernel
theorem dX3_fold_162 : decode cX3_fold 162 = .ok (.lstore 6, 2) := by decide +kernel
theorem dX3_fold_164 : decode cX3_fold 164 = .ok (.goto 34, 3) := by decide +kernel
theorem dX3_fold_167 : decode cX3_fold 167 = .ok (.lload 6, 2) := by decide +kernel
theorem dX3_fold_169 : decode cX3_fold 169 = .ok (.lconst 0, 1) := by decide +kernel
theorem dX3_fold_170 : decode cX3_fold 170 = .ok (.lcmp, 1) := by decide +kernel
theorem dX3_fold_171 : decode cX3_fold 171 = .ok (.ifCond .lt 22, 3) := by decide +kernel
theorem dX3_fold_174 : decode cX3_fold 174 = .ok (.lload 9, 2) := by decide +kernel
theorem dX3_fold_176 : decode cX3_fold 176 = .ok (.aload_n 0, 1) := by decide +kernel
theorem dX3_fold_177 : decode cX3_fold 177 = .ok (.getfield 11, 3) := by decide +kernel
theorem dX3_fold_180 : decode cX3_fold 180 = .ok (.iload 5, 2) := by decide +kernel
theorem dX3_fold_182 : decode cX3_fold 182 = .ok (.aaload, 1) := by decide +kernel
theorem dX3_fold_183 : decode cX3_fold 183 = .ok (.iload_n 2, 1) := by decide +kernel
theorem dX3_fold_184 : decode cX3_fold 184 = .ok (.aaload, 1) := by decide +kernel
theorem dX3_fold_185 : decode cX3_fold 185 = .ok (.lload 6, 2) := by decide +kernel
theorem dX3_fold_187 : decode cX3_fold 187 = .ok (.l2i, 1) := by decide +kernel
theorem dX3_fold_188 : decode cX3_fold 188 = .ok (.laload, 1) := by decide +kernel
theorem dX3_fold_189 : decode cX3_fold 189 = .ok (.lcmp, 1) := by decide +kernel
theorem dX3_fold_190 : decode cX3_fold 190 = .ok (.ifCond .le 8, 3) := by decide +kernel
theorem dX3_fold_193 : decode cX3_fold 193 = .ok (.iload 8, 2) := by decide +kernel
theorem dX3_fold_195 : decode cX3_fold 195 = .ok (.i2l, 1) := by decide +kernel
theorem dX3_fold_196 : decode cX3_fold 196 = .ok (.lstore 6, 2) := by decide +kernel
theorem dX3_fold_198 : decode cX3_fold 198 = .ok (.iinc 8 1, 3) := by decide +kernel
theorem dX3_fold_201 : decode cX3_fold 201 = .ok (.goto (-117), 3) := by decide +kernel
theorem dX3_fold_204 : decode cX3_fold 204 = .ok (.lload 6, 2) := by decide +kernel
theorem dX3_fold_206 : decode cX3_fold 206 = .ok (.lreturn, 1) := by decide +kernel
theorem dX3_pieces_0 : decode cX3_pieces 0 = .ok (.iload_n 1, 1) := by decide +kernel
theorem dX3_pieces_1 : decode cX3_pieces 1 = .ok (.invokestatic 51, 3) := by decide +kernel
theorem dX3_pieces_4 : decode cX3_pieces 4 = .ok (.istore 4, 2) := by decide +kernel
theorem dX3_pieces_6 : decode cX3_pieces 6 = .ok (.aload_n 0, 1) := by decide +kernel
theorem dX3_pieces_7 : decode cX3_pieces 7 = .ok (.iload 4, 2) := by decide +kernel
theorem dX3_pieces_9 : decode cX3_pieces 9 = .ok (.ifCond .lt 14, 3) := by decide +kernel
theorem dX3_pieces_12 : decode cX3_pieces 12 = .ok (.iload_n 3, 1) := by decide +kernel
theorem dX3_pieces_13 : decode cX3_pieces 13 = .ok (.invokestatic 93, 3) := by decide +kernel
theorem dX3_pieces_16 : decode cX3_pieces 16 = .ok (.ifCond .eq 7, 3) := by decide +kernel
theorem dX3_pieces_19 : decode cX3_pieces 19 = .ok (.iconst 1, 1) := by decide +kernel
theorem dX3_pieces_20 : decode cX3_pieces 20 = .ok (.goto 4, 3) := by decide +kernel
theorem dX3_pieces_23 : decode cX3_pieces 23 = .ok (.iconst 0, 1) := by decide +kernel
theorem dX3_pieces_24 : decode cX3_pieces 24 = .ok (.iload_n 2, 1) := by decide +kernel
theorem dX3_pieces_25 : decode cX3_pieces 25 = .ok (.invokestatic 59, 3) := by decide +kernel
theorem dX3_pieces_28 : decode cX3_pieces 28 = .ok (.iconst 1, 1) := by decide +kernel
theorem dX3_pieces_29 : decode cX3_pieces 29 = .ok (.invokevirtual 63, 3) := by decide +kernel
theorem dX3_pieces_32 : decode cX3_pieces 32 = .ok (.ifCond .ne 5, 3) := by decide +kernel
theorem dX3_pieces_35 : decode cX3_pieces 35 = .ok (.iconst 0, 1) := by decide +kernel
theorem dX3_pieces_36 : decode cX3_pieces 36 = .ok (.ireturn, 1) := by decide +kernel
theorem dX3_pieces_37 : decode cX3_pieces 37 = .ok (.bipush 49, 2) := by decide +kernel
theorem dX3_pieces_39 : decode cX3_pieces 39 = .ok (.newarray .int, 2) := by decide +kernel
theorem dX3_pieces_41 : decode cX3_pieces 41 = .ok (.astore 5, 2) := by decide +kernel
theorem dX3_pieces_43 : decode cX3_pieces 43 = .ok (.aload 5, 2) := by decide +kernel
theorem dX3_pieces_45 : decode cX3_pieces 45 = .ok (.aload_n 0, 1) := by decide +kernel
theorem dX3_pieces_46 : decode cX3_pieces 46 = .ok (.getfield 16, 3) := by decide +kernel
theorem dX3_pieces_49 : decode cX3_pieces 49 = .ok (.iload 4, 2) := by decide +kernel
theorem dX3_pieces_51 : decode cX3_pieces 51 = .ok (.aaload, 1) := by decide +kernel
theorem dX3_pieces_52 : decode cX3_pieces 52 = .ok (.iload_n 2, 1) := by decide +kernel
theorem dX3_pieces_53 : decode cX3_pieces 53 = .ok (.iaload, 1) := by decide +kernel
theorem dX3_pieces_54 : decode cX3_pieces 54 = .ok (.iconst 1, 1) := by decide +kernel
theorem dX3_pieces_55 : decode cX3_pieces 55 = .ok (.iastore, 1) := by decide +kernel
theorem dX3_pieces_56 : decode cX3_pieces 56 = .ok (.iconst 0, 1) := by decide +kernel
theorem dX3_pieces_57 : decode cX3_pieces 57 = .ok (.istore 6, 2) := by decide +kernel
theorem dX3_pieces_59 : decode cX3_pieces 59 = .ok (.bipush 48, 2) := by decide +kernel
theorem dX3_pieces_61 : decode cX3_pieces 61 = .ok (.istore 7, 2) := by decide +kernel
theorem dX3_pieces_63 : decode cX3_pieces 63 = .ok (.iload 7, 2) := by decide +kernel
theorem dX3_pieces_65 : decode cX3_pieces 65 = .ok (.ifCond .lt 61, 3) := by decide +kernel
theorem dX3_pieces_68 : decode cX3_pieces 68 = .ok (.iload 7, 2) := by decide +kernel
theorem dX3_pieces_70 : decode cX3_pieces 70 = .ok (.iload_n 3, 1) := by decide +kernel
theorem dX3_pieces_71 : decode cX3_pieces 71 = .ok (.if_icmp .le 39, 3) := by decide +kernel
theorem dX3_pieces_74 : decode cX3_pieces 74 = .ok (.aload 5, 2) := by decide +kernel
theorem dX3_pieces_76 : decode cX3_pieces 76 = .ok (.iload 7, 2) := by decide +kernel
theorem dX3_pieces_78 : decode cX3_pieces 78 = .ok (.iconst 2, 1) := by decide +kernel
theorem dX3_pieces_79 : decode cX3_pieces 79 = .ok (.idiv, 1) := by decide +kernel
theorem dX3_pieces_80 : decode cX3_pieces 80 = .ok (.dup2, 1) := by decide +kernel
theorem dX3_pieces_81 : decode cX3_pieces 81 = .ok (.iaload, 1) := by decide +kernel
theorem dX3_pieces_82 : decode cX3_pieces 82 = .ok (.aload 5, 2) := by decide +kernel
theorem dX3_pieces_84 : decode cX3_pieces 84 = .ok (.iload 7, 2) := by decide +kernel
theorem dX3_pieces_86 : decode cX3_pieces 86 = .ok (.iaload, 1) := by decide +kernel
theorem dX3_pieces_87 : decode cX3_pieces 87 = .ok (.iadd, 1) := by decide +kernel
theorem dX3_pieces_88 : decode cX3_pieces 88 = .ok (.iastore, 1) := by decide +kernel
theorem dX3_pieces_89 : decode cX3_pieces 89 = .ok (.aload 5, 2) := by decide +kernel
theorem dX3_pieces_91 : decode cX3_pieces 91 = .ok (.iload 7, 2) := by decide +kernel
theorem dX3_pieces_93 : decode cX3_pieces 93 = .ok (.iload 7, 2) := by decide +kernel
theorem dX3_pieces_95 : decode cX3_pieces 95 = .ok (.iconst 2, 1) := by decide +kernel
theorem dX3_pieces_96 : decode cX3_pieces 96 = .ok (.idiv, 1) := by decide +kernel
theorem dX3_pieces_97 : decode cX3_pieces 97 = .ok (.isub, 1) := by decide +kernel
theorem dX3_pieces_98 : decode cX3_pieces 98 = .ok (.dup2, 1) := by decide +kernel
theorem dX3_pieces_99 : decode cX3_pieces 99 = .ok (.iaload, 1) := by decide +kernel
theorem dX3_pieces_100 : decode cX3_pieces 100 = .ok (.aload 5, 2) := by decide +kernel
theorem dX3_pieces_102 : decode cX3_pieces 102 = .ok (.iload 7, 2) := by decide +kernel
theorem dX3_pieces_104 : decode cX3_pieces 104 = .ok (.iaload, 1) := by decide +kernel
theorem dX3_pieces_105 : decode cX3_pieces 105 = .ok (.iadd, 1) := by decide +kernel
theorem dX3_pieces_106 : decode cX3_pieces 106 = .ok (.iastore, 1) := by decide +kernel
theorem dX3_pieces_107 : decode cX3_pieces 107 = .ok (.goto 13, 3) := by decide +kernel
theorem dX3_pieces_110 : decode cX3_pieces 110 = .ok (.iload 6, 2) := by decide +kernel
theorem dX3_pieces_112 : decode cX3_pieces 112 = .ok (.aload 5, 2) := by decide +kernel
theorem dX3_pieces_114 : decode cX3_pieces 114 = .ok (.iload 7, 2) := by decide +kernel
theorem dX3_pieces_116 : decode cX3_pieces 116 = .ok (.iaload, 1) := by decide +kernel
theorem dX3_pieces_117 : decode cX3_pieces 117 = .ok (.iadd, 1) := by decide +kernel
theorem dX3_pieces_118 : decode cX3_pieces 118 = .ok (.istore 6, 2) := by decide +kernel
theorem dX3_pieces_120 : decode cX3_pieces 120 = .ok (.iinc 7 (-1), 3) := by decide +kernel
theorem dX3_pieces_123 : decode cX3_pieces 123 = .ok (.goto (-60), 3) := by decide +kernel
theorem dX3_pieces_126 : decode cX3_pieces 126 = .ok (.iload 6, 2) := by decide +kernel
theorem dX3_pieces_128 : decode cX3_pieces 128 = .ok (.ireturn, 1) := by decide +kernel
theorem dX3_share_0 : decode cX3_share 0 = .ok (.aload_n 0, 1) := by decide +kernel
theorem dX3_share_1 : decode cX3_share 1 = .ok (.iload_n 1, 1) := by decide +kernel
theorem dX3_share_2 : decode cX3_share 2 = .ok (.invokestatic 67, 3) := by decide +kernel
theorem dX3_share_5 : decode cX3_share 5 = .ok (.iconst 1, 1) := by decide +kernel
theorem dX3_share_6 : decode cX3_share 6 = .ok (.iconst 1, 1) := by decide +kernel
theorem dX3_share_7 : decode cX3_share 7 = .ok (.invokevirtual 63, 3) := by decide +kernel
theorem dX3_share_10 : decode cX3_share 10 = .ok (.ifCond .eq 26, 3) := by decide +kernel
theorem dX3_share_13 : decode cX3_share 13 = .ok (.aload_n 0, 1) := by decide +kernel
theorem dX3_share_14 : decode cX3_share 14 = .ok (.iconst 1, 1) := by decide +kernel
theorem dX3_share_15 : decode cX3_share 15 = .ok (.aload_n 0, 1) := by decide +kernel
theorem dX3_share_16 : decode cX3_share 16 = .ok (.getfield 24, 3) := by decide +kernel
theorem dX3_share_19 : decode cX3_share 19 = .ok (.iload_n 1, 1) := by decide +kernel
theorem dX3_share_20 : decode cX3_share 20 = .ok (.iaload, 1) := by decide +kernel
theorem dX3_share_21 : decode cX3_share 21 = .ok (.ifCond .le 7, 3) := by decide +kernel
theorem dX3_share_24 : decode cX3_share 24 = .ok (.iconst 1, 1) := by decide +kernel
theorem dX3_share_25 : decode cX3_share 25 = .ok (.goto 4, 3) := by decide +kernel
theorem dX3_share_28 : decode cX3_share 28 = .ok (.iconst 0, 1) := by decide +kernel
theorem dX3_share_29 : decode cX3_share 29 = .ok (.iconst 1, 1) := by decide +kernel
theorem dX3_share_30 : decode cX3_share 30 = .ok (.invokevirtual 63, 3) := by decide +kernel
theorem dX3_share_33 : decode cX3_share 33 = .ok (.ifCond .ne 5, 3) := by decide +kernel
theorem dX3_share_36 : decode cX3_share 36 = .ok (.fconst 0, 1) := by decide +kernel
theorem dX3_share_37 : decode cX3_share 37 = .ok (.freturn, 1) := by decide +kernel
theorem dX3_share_38 : decode cX3_share 38 = .ok (.aload_n 0, 1) := by decide +kernel
theorem dX3_share_39 : decode cX3_share 39 = .ok (.iload_n 1, 1) := by decide +kernel
theorem dX3_share_40 : decode cX3_share 40 = .ok (.bipush 110, 2) := by decide +kernel
theorem dX3_share_42 : decode cX3_share 42 = .ok (.invokevirtual 96, 3) := by decide +kernel
theorem dX3_share_45 : decode cX3_share 45 = .ok (.i2f, 1) := by decide +kernel
theorem dX3_share_46 : decode cX3_share 46 = .ok (.aload_n 0, 1) := by decide +kernel
theorem dX3_share_47 : decode cX3_share 47 = .ok (.getfield 24, 3) := by decide +kernel
theorem dX3_share_50 : decode cX3_share 50 = .ok (.iload_n 1, 1) := by decide +kernel
theorem dX3_share_51 : decode cX3_share 51 = .ok (.iaload, 1) := by decide +kernel
theorem dX3_share_52 : decode cX3_share 52 = .ok (.i2f, 1) := by decide +kernel
theorem dX3_share_53 : decode cX3_share 53 = .ok (.fdiv, 1) := by decide +kernel
theorem dX3_share_54 : decode cX3_share 54 = .ok (.freturn, 1) := by decide +kernel
theorem dX3_meanLeft_0 : decode cX3_meanLeft 0 = .ok (.aload_n 0, 1) := by decide +kernel
theorem dX3_meanLeft_1 : decode cX3_meanLeft 1 = .ok (.iload_n 1, 1) := by decide +kernel
theorem dX3_meanLeft_2 : decode cX3_meanLeft 2 = .ok (.invokestatic 67, 3) := by decide +kernel
theorem dX3_meanLeft_5 : decode cX3_meanLeft 5 = .ok (.iconst 1, 1) := by decide +kernel
theorem dX3_meanLeft_6 : decode cX3_meanLeft 6 = .ok (.iconst 1, 1) := by decide +kernel
theorem dX3_meanLeft_7 : decode cX3_meanLeft 7 = .ok (.invokevirtual 63, 3) := by decide +kernel
theorem dX3_meanLeft_10 : decode cX3_meanLeft 10 = .ok (.ifCond .ne 5, 3) := by decide +kernel
theorem dX3_meanLeft_13 : decode cX3_meanLeft 13 = .ok (.dconst 0, 1) := by decide +kernel
theorem dX3_meanLeft_14 : decode cX3_meanLeft 14 = .ok (.dreturn, 1) := by decide +kernel
theorem dX3_meanLeft_15 : decode cX3_meanLeft 15 = .ok (.aload_n 0, 1) := by decide +kernel
theorem dX3_meanLeft_16 : decode cX3_meanLeft 16 = .ok (.iload_n 1, 1) := by decide +kernel
theorem dX3_meanLeft_17 : decode cX3_meanLeft 17 = .ok (.bipush 110, 2) := by decide +kernel
theorem dX3_meanLeft_19 : decode cX3_meanLeft 19 = .ok (.invokevirtual 96, 3) := by decide +kernel
theorem dX3_meanLeft_22 : decode cX3_meanLeft 22 = .ok (.istore_n 2, 1) := by decide +kernel
theorem dX3_meanLeft_23 : decode cX3_meanLeft 23 = .ok (.aload_n 0, 1) := by decide +kernel
theorem dX3_meanLeft_24 : decode cX3_meanLeft 24 = .ok (.iconst 1, 1) := by decide +kernel
theorem dX3_meanLeft_25 : decode cX3_meanLeft 25 = .ok (.iload_n 2, 1) := by decide +kernel
theorem dX3_meanLeft_26 : decode cX3_meanLeft 26 = .ok (.aload_n 0, 1) := by decide +kernel
theorem dX3_meanLeft_27 : decode cX3_meanLeft 27 = .ok (.getfield 40, 3) := by decide +kernel
theorem dX3_meanLeft_30 : decode cX3_meanLeft 30 = .ok (.iload_n 1, 1) := by decide +kernel
theorem dX3_meanLeft_31 : decode cX3_meanLeft 31 = .ok (.iaload, 1) := by decide +kernel
theorem dX3_meanLeft_32 : decode cX3_meanLeft 32 = .ok (.if_icmp .ge 7, 3) := by decide +kernel
theorem dX3_meanLeft_35 : decode cX3_meanLeft 35 = .ok (.iconst 1, 1) := by decide +kernel
theorem dX3_meanLeft_36 : decode cX3_meanLeft 36 = .ok (.goto 4, 3) := by decide +kernel
theorem dX3_meanLeft_39 : decode cX3_meanLeft 39 = .ok (.iconst 0, 1) := by decide +kernel
theorem dX3_meanLeft_40 : decode cX3_meanLeft 40 = .ok (.iconst 1, 1) := by decide +kernel
theorem dX3_meanLeft_41 : decode cX3_meanLeft 41 = .ok (.invokevirtual 63, 3) := by decide +kernel
theorem dX3_meanLeft_44 : decode cX3_meanLeft 44 = .ok (.ifCond .ne 5, 3) := by decide +kernel
theorem dX3_meanLeft_47 : decode cX3_meanLeft 47 = .ok (.dconst 0, 1) := by decide +kernel
theorem dX3_meanLeft_48 : decode cX3_meanLeft 48 = .ok (.dreturn, 1) := by decide +kernel
theorem dX3_meanLeft_49 : decode cX3_meanLeft 49 = .ok (.aload_n 0, 1) := by decide +kernel
theorem dX3_meanLeft_50 : decode cX3_meanLeft 50 = .ok (.getfield 24, 3) := by decide +kernel
theorem dX3_meanLeft_53 : decode cX3_meanLeft 53 = .ok (.iload_n 1, 1) := by decide +kernel
theorem dX3_meanLeft_54 : decode cX3_meanLeft 54 = .ok (.iaload, 1) := by decide +kernel
theorem dX3_meanLeft_55 : decode cX3_meanLeft 55 = .ok (.iload_n 2, 1) := by decide +kernel
theorem dX3_meanLeft_56 : decode cX3_meanLeft 56 = .ok (.isub, 1) := by decide +kernel
theorem dX3_meanLeft_57 : decode cX3_meanLeft 57 = .ok (.i2d, 1) := by decide +kernel
theorem dX3_meanLeft_58 : decode cX3_meanLeft 58 = .ok (.aload_n 0, 1) := by decide +kernel
theorem dX3_meanLeft_59 : decode cX3_meanLeft 59 = .ok (.getfield 40, 3) := by decide +kernel
theorem dX3_meanLeft_62 : decode cX3_meanLeft 62 = .ok (.iload_n 1, 1) := by decide +kernel
theorem dX3_meanLeft_63 : decode cX3_meanLeft 63 = .ok (.iaload, 1) := by decide +kernel
theorem dX3_meanLeft_64 : decode cX3_meanLeft 64 = .ok (.iload_n 2, 1) := by decide +kernel
theorem dX3_meanLeft_65 : decode cX3_meanLeft 65 = .ok (.isub, 1) := by decide +kernel
theorem dX3_meanLeft_66 : decode cX3_meanLeft 66 = .ok (.i2d, 1) := by decide +kernel
theorem dX3_meanLeft_67 : decode cX3_meanLeft 67 = .ok (.ddiv, 1) := by decide +kernel
theorem dX3_meanLeft_68 : decode cX3_meanLeft 68 = .ok (.dreturn, 1) := by decide +kernel
theorem dX3_checksum_0 : decode cX3_checksum 0 = .ok (.aload_n 0, 1) := by decide +kernel
theorem dX3_checksum_1 : decode cX3_checksum 1 = .ok (.iconst 0, 1) := by decide +kernel
theorem dX3_checksum_2 : decode cX3_checksum 2 = .ok (.putfield 43, 3) := by decide +kernel
theorem dX3_checksum_5 : decode cX3_checksum 5 = .ok (.ldc2_w 104, 3) := by decide +kernel
theorem dX3_checksum_8 : decode cX3_checksum 8 = .ok (.lstore_n 1, 1) := by decide +kernel
theorem dX3_checksum_9 : decode cX3_checksum 9 = .ok (.iconst 0, 1) := by decide +kernel
theorem dX3_checksum_10 : decode cX3_checksum 10 = .ok (.istore_n 3, 1) := by decide +kernel
theorem dX3_checksum_11 : decode cX3_checksum 11 = .ok (.iload_n 3, 1) := by decide +kernel
theorem dX3_checksum_12 : decode cX3_checksum 12 = .ok (.iconst 3, 1) := by decide +kernel
theorem dX3_checksum_13 : decode cX3_checksum 13 = .ok (.if_icmp .ge 83, 3) := by decide +kernel
theorem dX3_checksum_16 : decode cX3_checksum 16 = .ok (.iconst 0, 1) := by decide +kernel
theorem dX3_checksum_17 : decode cX3_checksum 17 = .ok (.istore 4, 2) := by decide +kernel
theorem dX3_checksum_19 : decode cX3_checksum 19 = .ok (.iload 4, 2) := by decide +kernel
theorem dX3_checksum_21 : decode cX3_checksum 21 = .ok (.iconst 4, 1) := by decide +kernel
theorem dX3_checksum_22 : decode cX3_checksum 22 = .ok (.if_icmp .ge 68, 3) := by decide +kernel
theorem dX3_checksum_25 : decode cX3_checksum 25 = .ok (.ldc2_w 102, 3) := by decide +kernel
theorem dX3_checksum_28 : decode cX3_checksum 28 = .ok (.lload_n 1, 1) := by decide +kernel
theorem dX3_checksum_29 : decode cX3_checksum 29 = .ok (.lmul, 1) := by decide +kernel
theorem dX3_checksum_30 : decode cX3_checksum 30 = .ok (.aload_n 0, 1) := by decide +kernel
theorem dX3_checksum_31 : decode cX3_checksum 31 = .ok (.getfield 16, 3) := by decide +kernel
theorem dX3_checksum_34 : decode cX3_checksum 34 = .ok (.iload_n 3, 1) := by decide +kernel
theorem dX3_checksum_35 : decode cX3_checksum 35 = .ok (.aaload, 1) := by decide +kernel
theorem dX3_checksum_36 : decode cX3_checksum 36 = .ok (.iload 4, 2) := by decide +kernel
theorem dX3_checksum_38 : decode cX3_checksum 38 = .ok (.iaload, 1) := by decide +kernel
theorem dX3_checksum_39 : decode cX3_checksum 39 = .ok (.i2l, 1) := by decide +kernel
theorem dX3_checksum_40 : decode cX3_checksum 40 = .ok (.ladd, 1) := by decide +kernel
theorem dX3_checksum_41 : decode cX3_checksum 41 = .ok (.lstore_n 1, 1) := by decide +kernel
theorem dX3_checksum_42 : decode cX3_checksum 42 = .ok (.iconst 0, 1) := by decide +kernel
theorem dX3_checksum_43 : decode cX3_checksum 43 = .ok (.istore 5, 2) := by decide +kernel
theorem dX3_checksum_45 : decode cX3_checksum 45 = .ok (.iload 5, 2) := by decide +kernel
theorem dX3_checksum_47 : decode cX3_checksum 47 = .ok (.aload_n 0, 1) := by decide +kernel
theorem dX3_checksum_48 : decode cX3_checksum 48 = .ok (.getfield 16, 3) := by decide +kernel
theorem dX3_checksum_51 : decode cX3_checksum 51 = .ok (.iload_n 3, 1) := by decide +kernel
theorem dX3_checksum_52 : decode cX3_checksum 52 = .ok (.aaload, 1) := by decide +kernel
theorem dX3_checksum_53 : decode cX3_checksum 53 = .ok (.iload 4, 2) := by decide +kernel
theorem dX3_checksum_55 : decode cX3_checksum 55 = .ok (.iaload, 1) := by decide +kernel
theorem dX3_checksum_56 : decode cX3_checksum 56 = .ok (.if_icmp .ge 28, 3) := by decide +kernel
theorem dX3_checksum_59 : decode cX3_checksum 59 = .ok (.ldc2_w 102, 3) := by decide +kernel
theorem dX3_checksum_62 : decode cX3_checksum 62 = .ok (.lload_n 1, 1) := by decide +kernel
theorem dX3_checksum_63 : decode cX3_checksum 63 = .ok (.lmul, 1) := by decide +kernel
theorem dX3_checksum_64 : decode cX3_checksum 64 = .ok (.aload_n 0, 1) := by decide +kernel
theorem dX3_checksum_65 : decode cX3_checksum 65 = .ok (.getfield 11, 3) := by decide +kernel
theorem dX3_checksum_68 : decode cX3_checksum 68 = .ok (.iload_n 3, 1) := by decide +kernel
theorem dX3_checksum_69 : decode cX3_checksum 69 = .ok (.aaload, 1) := by decide +kernel
theorem dX3_checksum_70 : decode cX3_checksum 70 = .ok (.iload 4, 2) := by decide +kernel
theorem dX3_checksum_72 : decode cX3_checksum 72 = .ok (.aaload, 1) := by decide +kernel
theorem dX3_checksum_73 : decode cX3_checksum 73 = .ok (.iload 5, 2) := by decide +kernel
theorem dX3_checksum_75 : decode cX3_checksum 75 = .ok (.laload, 1) := by decide +kernel
theorem dX3_checksum_76 : decode cX3_checksum 76 = .ok (.ladd, 1) := by decide +kernel
theorem dX3_checksum_77 : decode cX3_checksum 77 = .ok (.lstore_n 1, 1) := by decide +kernel
theorem dX3_checksum_78 : decode cX3_checksum 78 = .ok (.iinc 5 1, 3) := by decide +kernel
theorem dX3_checksum_81 : decode cX3_checksum 81 = .ok (.goto (-36), 3) := by decide +kernel
theorem dX3_checksum_84 : decode cX3_checksum 84 = .ok (.iinc 4 1, 3) := by decide +kernel
theorem dX3_checksum_87 : decode cX3_checksum 87 = .ok (.goto (-68), 3) := by decide +kernel
theorem dX3_checksum_90 : decode cX3_checksum 90 = .ok (.iinc 3 1, 3) := by decide +kernel
theorem dX3_checksum_93 : decode cX3_checksum 93 = .ok (.goto (-82), 3) := by decide +kernel
theorem dX3_checksum_96 : decode cX3_checksum 96 = .ok (.iconst 0, 1) := by decide +kernel
theorem dX3_checksum_97 : decode cX3_checksum 97 = .ok (.istore_n 3, 1) := by decide +kernel
theorem dX3_checksum_98 : decode cX3_checksum 98 = .ok (.iload_n 3, 1) := by decide +kernel
theorem dX3_checksum_99 : decode cX3_checksum 99 = .ok (.bipush 6, 2) := by decide +kernel
theorem dX3_checksum_101 : decode cX3_checksum 101 = .ok (.if_icmp .ge 120, 3) := by decide +kernel
theorem dX3_checksum_104 : decode cX3_checksum 104 = .ok (.ldc2_w 102, 3) := by decide +kernel
theorem dX3_checksum_107 : decode cX3_checksum 107 = .ok (.lload_n 1, 1) := by decide +kernel
theorem dX3_checksum_108 : decode cX3_checksum 108 = .ok (.lmul, 1) := by decide +kernel
theorem dX3_checksum_109 : decode cX3_checksum 109 = .ok (.aload_n 0, 1) := by decide +kernel
theorem dX3_checksum_110 : decode cX3_checksum 110 = .ok (.getfield 40, 3) := by decide +kernel
theorem dX3_checksum_113 : decode cX3_checksum 113 = .ok (.iload_n 3, 1) := by decide +kernel
theorem dX3_checksum_114 : decode cX3_checksum 114 = .ok (.iaload, 1) := by decide +kernel
theorem dX3_checksum_115 : decode cX3_checksum 115 = .ok (.i2l, 1) := by decide +kernel
theorem dX3_checksum_116 : decode cX3_checksum 116 = .ok (.ladd, 1) := by decide +kernel
theorem dX3_checksum_117 : decode cX3_checksum 117 = .ok (.lstore_n 1, 1) := by decide +kernel
theorem dX3_checksum_118 : decode cX3_checksum 118 = .ok (.iconst 0, 1) := by decide +kernel
theorem dX3_checksum_119 : decode cX3_checksum 119 = .ok (.istore 4, 2) := by decide +kernel
theorem dX3_checksum_121 : decode cX3_checksum 121 = .ok (.iconst 0, 1) := by decide +kernel
theorem dX3_checksum_122 : decode cX3_checksum 122 = .ok (.istore 5, 2) := by decide +kernel
theorem dX3_checksum_124 : decode cX3_checksum 124 = .ok (.iload 5, 2) := by decide +kernel
theorem dX3_checksum_126 : decode cX3_checksum 126 = .ok (.aload_n 0, 1) := by decide +kernel
theorem dX3_checksum_127 : decode cX3_checksum 127 = .ok (.getfield 40, 3) := by decide +kernel
theorem dX3_checksum_130 : decode cX3_checksum 130 = .ok (.iload_n 3, 1) := by decide +kernel
theorem dX3_checksum_131 : decode cX3_checksum 131 = .ok (.iaload, 1) := by decide +kernel
theorem dX3_checksum_132 : decode cX3_checksum 132 = .ok (.if_icmp .ge 83, 3) := by decide +kernel
theorem dX3_checksum_135 : decode cX3_checksum 135 = .ok (.ldc2_w 102, 3) := by decide +kernel
theorem dX3_checksum_138 : decode cX3_checksum 138 = .ok (.lload_n 1, 1) := by decide +kernel
theorem dX3_checksum_139 : decode cX3_checksum 139 = .ok (.lmul, 1) := by decide +kernel
theorem dX3_checksum_140 : decode cX3_checksum 140 = .ok (.aload_n 0, 1) := by decide +kernel
theorem dX3_checksum_141 : decode cX3_checksum 141 = .ok (.getfield 34, 3) := by decide +kernel
theorem dX3_checksum_144 : decode cX3_checksum 144 = .ok (.iload_n 3, 1) := by decide +kernel
theorem dX3_checksum_145 : decode cX3_checksum 145 = .ok (.aaload, 1) := by decide +kernel
theorem dX3_checksum_146 : decode cX3_checksum 146 = .ok (.iload 5, 2) := by decide +kernel
theorem dX3_checksum_148 : decode cX3_checksum 148 = .ok (.caload, 1) := by decide +kernel
theorem dX3_checksum_149 : decode cX3_checksum 149 = .ok (.i2l, 1) := by decide +kernel
theorem dX3_checksum_150 : decode cX3_checksum 150 = .ok (.ladd, 1) := by decide +kernel
theorem dX3_checksum_151 : decode cX3_checksum 151 = .ok (.lstore_n 1, 1) := by decide +kernel
theorem dX3_checksum_152 : decode cX3_checksum 152 = .ok (.ldc2_w 102, 3) := by decide +kernel
theorem dX3_checksum_155 : decode cX3_checksum 155 = .ok (.lload_n 1, 1) := by decide +kernel
theorem dX3_checksum_156 : decode cX3_checksum 156 = .ok (.lmul, 1) := by decide +kernel
theorem dX3_checksum_157 : decode cX3_checksum 157 = .ok (.aload_n 0, 1) := by decide +kernel
theorem dX3_checksum_158 : decode cX3_checksum 158 = .ok (.getfield 34, 3) := by decide +kernel
theorem dX3_checksum_161 : decode cX3_checksum 161 = .ok (.iload_n 3, 1) := by decide +kernel
theorem dX3_checksum_162 : decode cX3_checksum 162 = .ok (.aaload, 1) := by decide +kernel
theorem dX3_checksum_163 : decode cX3_checksum 163 = .ok (.iload 5, 2) := by decide +kernel
theorem dX3_checksum_165 : decode cX3_checksum 165 = .ok (.caload, 1) := by decide +kernel
theorem dX3_checksum_166 : decode cX3_checksum 166 = .ok (.bipush 110, 2) := by decide +kernel
theorem dX3_checksum_168 : decode cX3_checksum 168 = .ok (.if_icmp .ne 15, 3) := by decide +kernel
theorem dX3_checksum_171 : decode cX3_checksum 171 = .ok (.aload_n 0, 1) := by decide +kernel
theorem dX3_checksum_172 : decode cX3_checksum 172 = .ok (.getfield 21, 3) := by decide +kernel
theorem dX3_checksum_175 : decode cX3_checksum 175 = .ok (.iload_n 3, 1) := by decide +kernel
theorem dX3_checksum_176 : decode cX3_checksum 176 = .ok (.aaload, 1) := by decide +kernel
theorem dX3_checksum_177 : decode cX3_checksum 177 = .ok (.iload 4, 2) := by decide +kernel
theorem dX3_checksum_179 : decode cX3_checksum 179 = .ok (.laload, 1) := by decide +kernel
theorem dX3_checksum_180 : decode cX3_checksum 180 = .ok (.goto 13, 3) := by decide +kernel
theorem dX3_checksum_183 : decode cX3_checksum 183 = .ok (.aload_n 0, 1) := by decide +kernel
theorem dX3_checksum_184 : decode cX3_checksum 184 = .ok (.getfield 37, 3) := by decide +kernel
theorem dX3_checksum_187 : decode cX3_checksum 187 = .ok (.iload_n 3, 1) := by decide +kernel
theorem dX3_checksum_188 : decode cX3_checksum 188 = .ok (.aaload, 1) := by decide +kernel
theorem dX3_checksum_189 : decode cX3_checksum 189 = .ok (.iload 5, 2) := by decide +kernel
theorem dX3_checksum_191 : decode cX3_checksum 191 = .ok (.iaload, 1) := by decide +kernel
theorem dX3_checksum_192 : decode cX3_checksum 192 = .ok (.i2l, 1) := by decide +kernel
theorem dX3_checksum_193 : decode cX3_checksum 193 = .ok (.ladd, 1) := by decide +kernel
theorem dX3_checksum_194 : decode cX3_checksum 194 = .ok (.lstore_n 1, 1) := by decide +kernel
theorem dX3_checksum_195 : decode cX3_checksum 195 = .ok (.iload 4, 2) := by decide +kernel
theorem dX3_checksum_197 : decode cX3_checksum 197 = .ok (.aload_n 0, 1) := by decide +kernel
theorem dX3_checksum_198 : decode cX3_checksum 198 = .ok (.getfield 37, 3) := by decide +kernel
theorem dX3_checksum_201 : decode cX3_checksum 201 = .ok (.iload_n 3, 1) := by decide +kernel
theorem dX3_checksum_202 : decode cX3_checksum 202 = .ok (.aaload, 1) := by decide +kernel
theorem dX3_checksum_203 : decode cX3_checksum 203 = .ok (.iload 5, 2) := by decide +kernel
theorem dX3_checksum_205 : decode cX3_checksum 205 = .ok (.iaload, 1) := by decide +kernel
theorem dX3_checksum_206 : decode cX3_checksum 206 = .ok (.iadd, 1) := by decide +kernel
theorem dX3_checksum_207 : decode cX3_checksum 207 = .ok (.istore 4, 2) := by decide +kernel
theorem dX3_checksum_209 : decode cX3_checksum 209 = .ok (.iinc 5 1, 3) := by decide +kernel
theorem dX3_checksum_212 : decode cX3_checksum 212 = .ok (.goto (-88), 3) := by decide +kernel
theorem dX3_checksum_215 : decode cX3_checksum 215 = .ok (.iinc 3 1, 3) := by decide +kernel
theorem dX3_checksum_218 : decode cX3_checksum 218 = .ok (.goto (-120), 3) := by decide +kernel
theorem dX3_checksum_221 : decode cX3_checksum 221 = .ok (.lload_n 1, 1) := by decide +kernel
theorem dX3_checksum_222 : decode cX3_checksum 222 = .ok (.lreturn, 1) := by decide +kernel
theorem dX3_isSound_0 : decode cX3_isSound 0 = .ok (.aload_n 0, 1) := by decide +kernel
theorem dX3_isSound_1 : decode cX3_isSound 1 = .ok (.iconst 0, 1) := by decide +kernel
theorem dX3_isSound_2 : decode cX3_isSound 2 = .ok (.putfield 43, 3) := by decide +kernel
theorem dX3_isSound_5 : decode cX3_isSound 5 = .ok (.iconst 1, 1) := by decide +kernel
theorem dX3_isSound_6 : decode cX3_isSound 6 = .ok (.ireturn, 1) := by decide +kernel
theorem dL_append_0 : decode cL_append 0 = .ok (.aload 5, 2) := by decide +kernel
theorem dL_append_2 : decode cL_append 2 = .ok (.iconst 0, 1) := by decide +kernel
theorem dL_append_3 : decode cL_append 3 = .ok (.aload_n 0, 1) := by decide +kernel
theorem dL_append_4 : decode cL_append 4 = .ok (.iload_n 1, 1) := by decide +kernel
theorem dL_append_5 : decode cL_append 5 = .ok (.iload_n 2, 1) := by decide +kernel
theorem dL_append_6 : decode cL_append 6 = .ok (.lload_n 3, 1) := by decide +kernel
theorem dL_append_7 : decode cL_append 7 = .ok (.invokevirtual 7, 3) := by decide +kernel
theorem dL_append_10 : decode cL_append 10 = .ok (.i2l, 1) := by decide +kernel
theorem dL_append_11 : decode cL_append 11 = .ok (.lastore, 1) := by decide +kernel
theorem dL_append_12 : decode cL_append 12 = .ok (.goto 15, 3) := by decide +kernel
theorem dL_append_15 : decode cL_append 15 = .ok (.astore 6, 2) := by decide +kernel
theorem dL_append_17 : decode cL_append 17 = .ok (.iconst 1, 1) := by decide +kernel
theorem dL_append_18 : decode cL_append 18 = .ok (.ireturn, 1) := by decide +kernel
theorem dL_append_19 : decode cL_append 19 = .ok (.astore 6, 2) := by decide +kernel
theorem dL_append_21 : decode cL_append 21 = .ok (.iconst 2, 1) := by decide +kernel
theorem dL_append_22 : decode cL_append 22 = .ok (.ireturn, 1) := by decide +kernel
theorem dL_append_23 : decode cL_append 23 = .ok (.astore 6, 2) := by decide +kernel
theorem dL_append_25 : decode cL_append 25 = .ok (.iconst 3, 1) := by decide +kernel
theorem dL_append_26 : decode cL_append 26 = .ok (.ireturn, 1) := by decide +kernel
theorem dL_append_27 : decode cL_append 27 = .ok (.iconst 0, 1) := by decide +kernel
theorem dL_append_28 : decode cL_append 28 = .ok (.ireturn, 1) := by decide +kernel
theorem dL_lay_0 : decode cL_lay 0 = .ok (.aload 8, 2) := by decide +kernel
theorem dL_lay_2 : decode cL_lay 2 = .ok (.iconst 0, 1) := by decide +kernel
theorem dL_lay_3 : decode cL_lay 3 = .ok (.aload_n 0, 1) := by decide +kernel
theorem dL_lay_4 : decode cL_lay 4 = .ok (.iload_n 1, 1) := by decide +kernel
theorem dL_lay_5 : decode cL_lay 5 = .ok (.iload_n 2, 1) := by decide +kernel
theorem dL_lay_6 : decode cL_lay 6 = .ok (.iload_n 3, 1) := by decide +kernel
theorem dL_lay_7 : decode cL_lay 7 = .ok (.lload 4, 2) := by decide +kernel
theorem dL_lay_9 : decode cL_lay 9 = .ok (.lload 6, 2) := by decide +kernel
theorem dL_lay_11 : decode cL_lay 11 = .ok (.invokevirtual 19, 3) := by decide +kernel
theorem dL_lay_14 : decode cL_lay 14 = .ok (.i2l, 1) := by decide +kernel
theorem dL_lay_15 : decode cL_lay 15 = .ok (.lastore, 1) := by decide +kernel
theorem dL_lay_16 : decode cL_lay 16 = .ok (.goto 11, 3) := by decide +kernel
theorem dL_lay_19 : decode cL_lay 19 = .ok (.astore 9, 2) := by decide +kernel
theorem dL_lay_21 : decode cL_lay 21 = .ok (.iconst 1, 1) := by decide +kernel
theorem dL_lay_22 : decode cL_lay 22 = .ok (.ireturn, 1) := by decide +kernel
theorem dL_lay_23 : decode cL_lay 23 = .ok (.astore 9, 2) := by decide +kernel
theorem dL_lay_25 : decode cL_lay 25 = .ok (.iconst 2, 1) := by decide +kernel
theorem dL_lay_26 : decode cL_lay 26 = .ok (.ireturn, 1) := by decide +kernel
theorem dL_lay_27 : decode cL_lay 27 = .ok (.iconst 0, 1) := by decide +kernel
theorem dL_lay_28 : decode cL_lay 28 = .ok (.ireturn, 1) := by decide +kernel
theorem dL_turn_0 : decode cL_turn 0 = .ok (.aload_n 3, 1) := by decide +kernel
theorem dL_turn_1 : decode cL_turn 1 = .ok (.iconst 0, 1) := by decide +kernel
theorem dL_turn_2 : decode cL_turn 2 = .ok (.aload_n 0, 1) := by decide +kernel
theorem dL_turn_3 : decode cL_turn 3 = .ok (.iload_n 1, 1) := by decide +kernel
theorem dL_turn_4 : decode cL_turn 4 = .ok (.iload_n 2, 1) := by decide +kernel
theorem dL_turn_5 : decode cL_turn 5 = .ok (.invokevirtual 23, 3) := by decide +kernel
theorem dL_turn_8 : decode cL_turn 8 = .ok (.i2l, 1) := by decide +kernel
theorem dL_turn_9 : decode cL_turn 9 = .ok (.lastore, 1) := by decide +kernel
theorem dL_turn_10 : decode cL_turn 10 = .ok (.goto 11, 3) := by decide +kernel
theorem dL_turn_13 : decode cL_turn 13 = .ok (.astore 4, 2) := by decide +kernel
theorem dL_turn_15 : decode cL_turn 15 = .ok (.iconst 1, 1) := by decide +kernel
theorem dL_turn_16 : decode cL_turn 16 = .ok (.ireturn, 1) := by decide +kernel
theorem dL_turn_17 : decode cL_turn 17 = .ok (.astore 4, 2) := by decide +kernel
theorem dL_turn_19 : decode cL_turn 19 = .ok (.iconst 2, 1) := by decide +kernel
theorem dL_turn_20 : decode cL_turn 20 = .ok (.ireturn, 1) := by decide +kernel
theorem dL_turn_21 : decode cL_turn 21 = .ok (.iconst 0, 1) := by decide +kernel
theorem dL_turn_22 : decode cL_turn 22 = .ok (.ireturn, 1) := by decide +kernel
theorem dL_length_0 : decode cL_length 0 = .ok (.aload_n 3, 1) := by decide +kernel
theorem dL_length_1 : decode cL_length 1 = .ok (.iconst 0, 1) := by decide +kernel
theorem dL_length_2 : decode cL_length 2 = .ok (.aload_n 0, 1) := by decide +kernel
theorem dL_length_3 : decode cL_length 3 = .ok (.iload_n 1, 1) := by decide +kernel
theorem dL_length_4 : decode cL_length 4 = .ok (.iload_n 2, 1) := by decide +kernel
theorem dL_length_5 : decode cL_length 5 = .ok (.invokevirtual 27, 3) := by decide +kernel
theorem dL_length_8 : decode cL_length 8 = .ok (.i2l, 1) := by decide +kernel
theorem dL_length_9 : decode cL_length 9 = .ok (.lastore, 1) := by decide +kernel
theorem dL_length_10 : decode cL_length 10 = .ok (.goto 11, 3) := by decide +kernel
theorem dL_length_13 : decode cL_length 13 = .ok (.astore 4, 2) := by decide +kernel
theorem dL_length_15 : decode cL_length 15 = .ok (.iconst 1, 1) := by decide +kernel
theorem dL_length_16 : decode cL_length 16 = .ok (.ireturn, 1) := by decide +kernel
theorem dL_length_17 : decode cL_length 17 = .ok (.astore 4, 2) := by decide +kernel
theorem dL_length_19 : decode cL_length 19 = .ok (.iconst 2, 1) := by decide +kernel
theorem dL_length_20 : decode cL_length 20 = .ok (.ireturn, 1) := by decide +kernel
theorem dL_length_21 : decode cL_length 21 = .ok (.iconst 0, 1) := by decide +kernel
theorem dL_length_22 : decode cL_length 22 = .ok (.ireturn, 1) := by decide +kernel
theorem dL_number_0 : decode cL_number 0 = .ok (.aload 4, 2) := by decide +kernel
theorem dL_number_2 : decode cL_number 2 = .ok (.iconst 0, 1) := by decide +kernel
theorem dL_number_3 : decode cL_number 3 = .ok (.aload_n 0, 1) := by decide +kernel
theorem dL_number_4 : decode cL_number 4 = .ok (.iload_n 1, 1) := by decide +kernel
theorem dL_number_5 : decode cL_number 5 = .ok (.iload_n 2, 1) := by decide +kernel
theorem dL_number_6 : decode cL_number 6 = .ok (.iload_n 3, 1) := by decide +kernel
theorem dL_number_7 : decode cL_number 7 = .ok (.invokevirtual 30, 3) := by decide +kernel
theorem dL_number_10 : decode cL_number 10 = .ok (.lastore, 1) := by decide +kernel
theorem dL_number_11 : decode cL_number 11 = .ok (.goto 11, 3) := by decide +kernel
theorem dL_number_14 : decode cL_number 14 = .ok (.astore 5, 2) := by decide +kernel
theorem dL_number_16 : decode cL_number 16 = .ok (.iconst 1, 1) := by decide +kernel
theorem dL_number_17 : decode cL_number 17 = .ok (.ireturn, 1) := by decide +kernel
theorem dL_number_18 : decode cL_number 18 = .ok (.astore 5, 2) := by decide +kernel
theorem dL_number_20 : decode cL_number 20 = .ok (.iconst 2, 1) := by decide +kernel
theorem dL_number_21 : decode cL_number 21 = .ok (.ireturn, 1) := by decide +kernel
theorem dL_number_22 : decode cL_number 22 = .ok (.iconst 0, 1) := by decide +kernel
theorem dL_number_23 : decode cL_number 23 = .ok (.ireturn, 1) := by decide +kernel
theorem dL_open_0 : decode cL_open 0 = .ok (.aload 6, 2) := by decide +kernel
theorem dL_open_2 : decode cL_open 2 = .ok (.iconst 0, 1) := by decide +kernel
theorem dL_open_3 : decode cL_open 3 = .ok (.aload_n 0, 1) := by decide +kernel
theorem dL_open_4 : decode cL_open 4 = .ok (.iload_n 1, 1) := by decide +kernel
theorem dL_open_5 : decode cL_open 5 = .ok (.iload_n 2, 1) := by decide +kernel
theorem dL_open_6 : decode cL_open 6 = .ok (.iload_n 3, 1) := by decide +kernel
theorem dL_open_7 : decode cL_open 7 = .ok (.iload 4, 2) := by decide +kernel
theorem dL_open_9 : decode cL_open 9 = .ok (.iload 5, 2) := by decide +kernel
theorem dL_open_11 : decode cL_open 11 = .ok (.invokevirtual 34, 3) := by decide +kernel
theorem dL_open_14 : decode cL_open 14 = .ok (.i2l, 1) := by decide +kernel
theorem dL_open_15 : decode cL_open 15 = .ok (.lastore, 1) := by decide +kernel
theorem dL_open_16 : decode cL_open 16 = .ok (.goto 11, 3) := by decide +kernel
theorem dL_open_19 : decode cL_open 19 = .ok (.astore 7, 2) := by decide +kernel
theorem dL_open_21 : decode cL_open 21 = .ok (.iconst 1, 1) := by decide +kernel
theorem dL_open_22 : decode cL_open 22 = .ok (.ireturn, 1) := by decide +kernel
theorem dL_open_23 : decode cL_open 23 = .ok (.astore 7, 2) := by decide +kernel
theorem dL_open_25 : decode cL_open 25 = .ok (.iconst 2, 1) := by decide +kernel
theorem dL_open_26 : decode cL_open 26 = .ok (.ireturn, 1) := by decide +kernel
theorem dL_open_27 : decode cL_open 27 = .ok (.iconst 0, 1) := by decide +kernel
theorem dL_open_28 : decode cL_open 28 = .ok (.ireturn, 1) := by decide +kernel
theorem dL_openAll_0 : decode cL_openAll 0 = .ok (.aload 4, 2) := by decide +kernel
theorem dL_openAll_2 : decode cL_openAll 2 = .ok (.iconst 0, 1) := by decide +kernel
theorem dL_openAll_3 : decode cL_openAll 3 = .ok (.aload_n 0, 1) := by decide +kernel
theorem dL_openAll_4 : decode cL_openAll 4 = .ok (.iload_n 1, 1) := by decide +kernel
theorem dL_openAll_5 : decode cL_openAll 5 = .ok (.iload_n 2, 1) := by decide +kernel
theorem dL_openAll_6 : decode cL_openAll 6 = .ok (.iload_n 3, 1) := by decide +kernel
theorem dL_openAll_7 : decode cL_openAll 7 = .ok (.invokevirtual 38, 3) := by decide +kernel
theorem dL_openAll_10 : decode cL_openAll 10 = .ok (.i2l, 1) := by decide +kernel
theorem dL_openAll_11 : decode cL_openAll 11 = .ok (.lastore, 1) := by decide +kernel
theorem dL_openAll_12 : decode cL_openAll 12 = .ok (.goto 11, 3) := by decide +kernel
theorem dL_openAll_15 : decode cL_openAll 15 = .ok (.astore 5, 2) := by decide +kernel
theorem dL_openAll_17 : decode cL_openAll 17 = .ok (.iconst 1, 1) := by decide +kernel
theorem dL_openAll_18 : decode cL_openAll 18 = .ok (.ireturn, 1) := by decide +kernel
theorem dL_openAll_19 : decode cL_openAll 19 = .ok (.astore 5, 2) := by decide +kernel
theorem dL_openAll_21 : decode cL_openAll 21 = .ok (.iconst 2, 1) := by decide +kernel
theorem dL_openAll_22 : decode cL_openAll 22 = .ok (.ireturn, 1) := by decide +kernel
theorem dL_openAll_23 : decode cL_openAll 23 = .ok (.iconst 0, 1) := by decide +kernel
theorem dL_openAll_24 : decode cL_openAll 24 = .ok (.ireturn, 1) := by decide +kernel
theorem dL_items_0 : decode cL_items 0 = .ok (.aload_n 2, 1) := by decide +kernel
theorem dL_items_1 : decode cL_items 1 = .ok (.iconst 0, 1) := by decide +kernel
theorem dL_items_2 : decode cL_items 2 = .ok (.aload_n 0, 1) := by decide +kernel
theorem dL_items_3 : decode cL_items 3 = .ok (.iload_n 1, 1) := by decide +kernel
theorem dL_items_4 : decode cL_items 4 = .ok (.invokevirtual 42, 3) := by decide +kernel
theorem dL_items_7 : decode cL_items 7 = .ok (.i2l, 1) := by decide +kernel
theorem dL_items_8 : decode cL_items 8 = .ok (.lastore, 1) := by decide +kernel
theorem dL_items_9 : decode cL_items 9 = .ok (.goto 6, 3) := by decide +kernel
theorem dL_items_12 : decode cL_items 12 = .ok (.astore_n 3, 1) := by decide +kernel
theorem dL_items_13 : decode cL_items 13 = .ok (.iconst 1, 1) := by decide +kernel
theorem dL_items_14 : decode cL_items 14 = .ok (.ireturn, 1) := by decide +kernel
theorem dL_items_15 : decode cL_items 15 = .ok (.iconst 0, 1) := by decide +kernel
theorem dL_items_16 : decode cL_items 16 = .ok (.ireturn, 1) := by decide +kernel
theorem dL_kindOf_0 : decode cL_kindOf 0 = .ok (.aload_n 3, 1) := by decide +kernel
theorem dL_kindOf_1 : decode cL_kindOf 1 = .ok (.iconst 0, 1) := by decide +kernel
theorem dL_kindOf_2 : decode cL_kindOf 2 = .ok (.aload_n 0, 1) := by decide +kernel
theorem dL_kindOf_3 : decode cL_kindOf 3 = .ok (.iload_n 1, 1) := by decide +kernel
theorem dL_kindOf_4 : decode cL_kindOf 4 = .ok (.iload_n 2, 1) := by decide +kernel
theorem dL_kindOf_5 : decode cL_kindOf 5 = .ok (.invokevirtual 46, 3) := by decide +kernel
theorem dL_kindOf_8 : decode cL_kindOf 8 = .ok (.i2l, 1) := by decide +kernel
theorem dL_kindOf_9 : decode cL_kindOf 9 = .ok (.lastore, 1) := by decide +kernel
theorem dL_kindOf_10 : decode cL_kindOf 10 = .ok (.goto 7, 3) := by decide +kernel
theorem dL_kindOf_13 : decode cL_kindOf 13 = .ok (.astore 4, 2) := by decide +kernel
theorem dL_kindOf_15 : decode cL_kindOf 15 = .ok (.iconst 1, 1) := by decide +kernel
