/-! decode rows -/
theorem dX12_way_58 : decode cX12_way 58 = .ok (.istore 5, 2) := by decide +kernel
theorem dX12_way_60 : decode cX12_way 60 = .ok (.iload 5, 2) := by decide +kernel
theorem dX12_way_62 : decode cX12_way 62 = .ok (.iload_n 3, 1) := by decide +kernel
theorem dX12_way_63 : decode cX12_way 63 = .ok (.if_icmp .ge 88, 3) := by decide +kernel
theorem dX12_way_8 : decode cX12_way 8 = .ok (.aload_n 0, 1) := by decide +kernel
theorem dX12_way_9 : decode cX12_way 9 = .ok (.iload_n 2, 1) := by decide +kernel
theorem dX1_init_0 : decode cX1_init 0 = .ok (.aload_n 0, 1) := by decide +kernel
theorem dX1_init_1 : decode cX1_init 1 = .ok (.invokespecial 1, 3) := by decide +kernel
theorem dX1_init_12 : decode cX1_init 12 = .ok (.aload_n 0, 1) := by decide +kernel
theorem dX1_init_13 : decode cX1_init 13 = .ok (.bipush 64, 2) := by decide +kernel
theorem dX1_init_15 : decode cX1_init 15 = .ok (.newarray .long, 2) := by decide +kernel
theorem dX1_init_17 : decode cX1_init 17 = .ok (.putfield 13, 3) := by decide +kernel
theorem dX1_init_20 : decode cX1_init 20 = .ok (.aload_n 0, 1) := by decide +kernel
theorem dX1_init_21 : decode cX1_init 21 = .ok (.iconst 0, 1) := by decide +kernel
theorem dX1_init_22 : decode cX1_init 22 = .ok (.putfield 17, 3) := by decide +kernel
theorem dX1_init_25 : decode cX1_init 25 = .ok (.aload_n 0, 1) := by decide +kernel
theorem dX1_init_26 : decode cX1_init 26 = .ok (.iconst 0, 1) := by decide +kernel
theorem dX1_init_27 : decode cX1_init 27 = .ok (.putfield 21, 3) := by decide +kernel
theorem dX1_init_30 : decode cX1_init 30 = .ok (.aload_n 0, 1) := by decide +kernel
theorem dX1_init_31 : decode cX1_init 31 = .ok (.iconst 0, 1) := by decide +kernel
theorem dX1_init_32 : decode cX1_init 32 = .ok (.putfield 25, 3) := by decide +kernel
theorem dX1_init_35 : decode cX1_init 35 = .ok (.aload_n 0, 1) := by decide +kernel
theorem dX1_init_36 : decode cX1_init 36 = .ok (.iconst 0, 1) := by decide +kernel
theorem dX1_init_37 : decode cX1_init 37 = .ok (.putfield 28, 3) := by decide +kernel
theorem dX1_init_4 : decode cX1_init 4 = .ok (.aload_n 0, 1) := by decide +kernel
theorem dX1_init_40 : decode cX1_init 40 = .ok (.aload_n 0, 1) := by decide +kernel
theorem dX1_init_41 : decode cX1_init 41 = .ok (.iconst 0, 1) := by decide +kernel
theorem dX1_init_42 : decode cX1_init 42 = .ok (.putfield 31, 3) := by decide +kernel
theorem dX1_init_45 : decode cX1_init 45 = .ok (.aload_n 0, 1) := by decide +kernel
theorem dX1_init_46 : decode cX1_init 46 = .ok (.iconst 1, 1) := by decide +kernel
theorem dX1_init_47 : decode cX1_init 47 = .ok (.putfield 34, 3) := by decide +kernel
theorem dX1_init_5 : decode cX1_init 5 = .ok (.bipush 8, 2) := by decide +kernel
theorem dX1_init_50 : decode cX1_init 50 = .ok (.return_, 1) := by decide +kernel
theorem dX1_init_7 : decode cX1_init 7 = .ok (.newarray .int, 2) := by decide +kernel
theorem dX1_init_9 : decode cX1_init 9 = .ok (.putfield 9, 3) := by decide +kernel
theorem dX1_setTimes_0 : decode cX1_setTimes 0 = .ok (.aload_n 0, 1) := by decide +kernel
theorem dX1_setTimes_1 : decode cX1_setTimes 1 = .ok (.getfield 9, 3) := by decide +kernel
theorem dX1_setTimes_12 : decode cX1_setTimes 12 = .ok (.bipush 7, 2) := by decide +kernel
theorem dX1_setTimes_14 : decode cX1_setTimes 14 = .ok (.iload_n 2, 1) := by decide +kernel
theorem dX1_setTimes_15 : decode cX1_setTimes 15 = .ok (.iastore, 1) := by decide +kernel
theorem dX1_setTimes_16 : decode cX1_setTimes 16 = .ok (.return_, 1) := by decide +kernel
theorem dX1_setTimes_4 : decode cX1_setTimes 4 = .ok (.bipush 6, 2) := by decide +kernel
theorem dX1_setTimes_6 : decode cX1_setTimes 6 = .ok (.iload_n 1, 1) := by decide +kernel
theorem dX1_setTimes_7 : decode cX1_setTimes 7 = .ok (.iastore, 1) := by decide +kernel
theorem dX1_setTimes_8 : decode cX1_setTimes 8 = .ok (.aload_n 0, 1) := by decide +kernel
theorem dX1_setTimes_9 : decode cX1_setTimes 9 = .ok (.getfield 9, 3) := by decide +kernel
theorem dX2_fewestFirst_0 : decode cX2_fewestFirst 0 = .ok (.aload_n 0, 1) := by decide +kernel
theorem dX2_fewestFirst_1 : decode cX2_fewestFirst 1 = .ok (.invokevirtual 62, 3) := by decide +kernel
theorem dX2_fewestFirst_12 : decode cX2_fewestFirst 12 = .ok (.getfield 26, 3) := by decide +kernel
theorem dX2_fewestFirst_15 : decode cX2_fewestFirst 15 = .ok (.if_icmp .ge 19, 3) := by decide +kernel
theorem dX2_fewestFirst_34 : decode cX2_fewestFirst 34 = .ok (.iload_n 2, 1) := by decide +kernel
theorem dX2_fewestFirst_35 : decode cX2_fewestFirst 35 = .ok (.ireturn, 1) := by decide +kernel
theorem dX2_fewestFirst_4 : decode cX2_fewestFirst 4 = .ok (.istore_n 1, 1) := by decide +kernel
theorem dX2_fewestFirst_5 : decode cX2_fewestFirst 5 = .ok (.iconst 0, 1) := by decide +kernel
theorem dX2_fewestFirst_6 : decode cX2_fewestFirst 6 = .ok (.istore_n 2, 1) := by decide +kernel
theorem dX2_fewestFirst_7 : decode cX2_fewestFirst 7 = .ok (.iload_n 2, 1) := by decide +kernel
theorem dX2_fewestFirst_8 : decode cX2_fewestFirst 8 = .ok (.aload_n 0, 1) := by decide +kernel
theorem dX2_fewestFirst_9 : decode cX2_fewestFirst 9 = .ok (.getfield 18, 3) := by decide +kernel
theorem dX2_firstUnsorted_0 : decode cX2_firstUnsorted 0 = .ok (.aload_n 0, 1) := by decide +kernel
theorem dX2_firstUnsorted_1 : decode cX2_firstUnsorted 1 = .ok (.getfield 22, 3) := by decide +kernel
theorem dX2_firstUnsorted_10 : decode cX2_firstUnsorted 10 = .ok (.istore_n 2, 1) := by decide +kernel
theorem dX2_firstUnsorted_11 : decode cX2_firstUnsorted 11 = .ok (.iload_n 2, 1) := by decide +kernel
theorem dX2_firstUnsorted_12 : decode cX2_firstUnsorted 12 = .ok (.aload_n 0, 1) := by decide +kernel
theorem dX2_firstUnsorted_13 : decode cX2_firstUnsorted 13 = .ok (.getfield 22, 3) := by decide +kernel
theorem dX2_firstUnsorted_16 : decode cX2_firstUnsorted 16 = .ok (.invokevirtual 58, 3) := by decide +kernel
theorem dX2_firstUnsorted_19 : decode cX2_firstUnsorted 19 = .ok (.if_icmp .ge 35, 3) := by decide +kernel
theorem dX2_firstUnsorted_22 : decode cX2_firstUnsorted 22 = .ok (.aload_n 0, 1) := by decide +kernel
theorem dX2_firstUnsorted_23 : decode cX2_firstUnsorted 23 = .ok (.aload_n 0, 1) := by decide +kernel
theorem dX2_firstUnsorted_24 : decode cX2_firstUnsorted 24 = .ok (.getfield 22, 3) := by decide +kernel
theorem dX2_firstUnsorted_27 : decode cX2_firstUnsorted 27 = .ok (.iload_n 2, 1) := by decide +kernel
theorem dX2_firstUnsorted_28 : decode cX2_firstUnsorted 28 = .ok (.invokevirtual 44, 3) := by decide +kernel
theorem dX2_firstUnsorted_31 : decode cX2_firstUnsorted 31 = .ok (.aload_n 0, 1) := by decide +kernel
theorem dX2_firstUnsorted_32 : decode cX2_firstUnsorted 32 = .ok (.getfield 18, 3) := by decide +kernel
theorem dX2_firstUnsorted_35 : decode cX2_firstUnsorted 35 = .ok (.getfield 26, 3) := by decide +kernel
theorem dX2_firstUnsorted_38 : decode cX2_firstUnsorted 38 = .ok (.iconst (-1), 1) := by decide +kernel
theorem dX2_firstUnsorted_39 : decode cX2_firstUnsorted 39 = .ok (.invokevirtual 47, 3) := by decide +kernel
theorem dX2_firstUnsorted_4 : decode cX2_firstUnsorted 4 = .ok (.iconst 0, 1) := by decide +kernel
theorem dX2_firstUnsorted_42 : decode cX2_firstUnsorted 42 = .ok (.iload_n 1, 1) := by decide +kernel
theorem dX2_firstUnsorted_43 : decode cX2_firstUnsorted 43 = .ok (.if_icmp .eq 5, 3) := by decide +kernel
theorem dX2_firstUnsorted_48 : decode cX2_firstUnsorted 48 = .ok (.iinc 2 1, 3) := by decide +kernel
theorem dX2_firstUnsorted_5 : decode cX2_firstUnsorted 5 = .ok (.invokevirtual 44, 3) := by decide +kernel
theorem dX2_firstUnsorted_51 : decode cX2_firstUnsorted 51 = .ok (.goto (-40), 3) := by decide +kernel
theorem dX2_firstUnsorted_54 : decode cX2_firstUnsorted 54 = .ok (.iconst (-1), 1) := by decide +kernel
theorem dX2_firstUnsorted_55 : decode cX2_firstUnsorted 55 = .ok (.ireturn, 1) := by decide +kernel
theorem dX2_firstUnsorted_8 : decode cX2_firstUnsorted 8 = .ok (.istore_n 1, 1) := by decide +kernel
theorem dX2_firstUnsorted_9 : decode cX2_firstUnsorted 9 = .ok (.iconst 0, 1) := by decide +kernel
theorem dX2_init_0 : decode cX2_init 0 = .ok (.aload_n 0, 1) := by decide +kernel
theorem dX2_init_1 : decode cX2_init 1 = .ok (.invokespecial 3, 3) := by decide +kernel
theorem dX2_init_12 : decode cX2_init 12 = .ok (.aload_n 0, 1) := by decide +kernel
theorem dX2_init_13 : decode cX2_init 13 = .ok (.bipush 12, 2) := by decide +kernel
theorem dX2_init_15 : decode cX2_init 15 = .ok (.newarray .int, 2) := by decide +kernel
theorem dX2_init_17 : decode cX2_init 17 = .ok (.putfield 15, 3) := by decide +kernel
theorem dX2_init_20 : decode cX2_init 20 = .ok (.aload_n 0, 1) := by decide +kernel
theorem dX2_init_21 : decode cX2_init 21 = .ok (.aload_n 1, 1) := by decide +kernel
theorem dX2_init_22 : decode cX2_init 22 = .ok (.putfield 18, 3) := by decide +kernel
theorem dX2_init_25 : decode cX2_init 25 = .ok (.aload_n 0, 1) := by decide +kernel
theorem dX2_init_26 : decode cX2_init 26 = .ok (.aload_n 2, 1) := by decide +kernel
theorem dX2_init_27 : decode cX2_init 27 = .ok (.putfield 22, 3) := by decide +kernel
theorem dX2_init_30 : decode cX2_init 30 = .ok (.return_, 1) := by decide +kernel
theorem dX2_init_4 : decode cX2_init 4 = .ok (.aload_n 0, 1) := by decide +kernel
theorem dX2_init_5 : decode cX2_init 5 = .ok (.bipush 12, 2) := by decide +kernel
theorem dX2_init_7 : decode cX2_init 7 = .ok (.newarray .int, 2) := by decide +kernel
theorem dX2_init_9 : decode cX2_init 9 = .ok (.putfield 9, 3) := by decide +kernel
theorem dX2_needless_0 : decode cX2_needless 0 = .ok (.aload_n 0, 1) := by decide +kernel
theorem dX2_needless_1 : decode cX2_needless 1 = .ok (.invokevirtual 62, 3) := by decide +kernel
theorem dX2_needless_10 : decode cX2_needless 10 = .ok (.aload_n 0, 1) := by decide +kernel
theorem dX2_needless_11 : decode cX2_needless 11 = .ok (.getfield 18, 3) := by decide +kernel
theorem dX2_needless_14 : decode cX2_needless 14 = .ok (.getfield 26, 3) := by decide +kernel
theorem dX2_needless_17 : decode cX2_needless 17 = .ok (.if_icmp .ge 31, 3) := by decide +kernel
theorem dX2_needless_4 : decode cX2_needless 4 = .ok (.istore_n 1, 1) := by decide +kernel
theorem dX2_needless_48 : decode cX2_needless 48 = .ok (.iload_n 2, 1) := by decide +kernel
theorem dX2_needless_49 : decode cX2_needless 49 = .ok (.ireturn, 1) := by decide +kernel
theorem dX2_needless_5 : decode cX2_needless 5 = .ok (.iconst 0, 1) := by decide +kernel
theorem dX2_needless_6 : decode cX2_needless 6 = .ok (.istore_n 2, 1) := by decide +kernel
theorem dX2_needless_7 : decode cX2_needless 7 = .ok (.iconst 0, 1) := by decide +kernel
theorem dX2_needless_8 : decode cX2_needless 8 = .ok (.istore_n 3, 1) := by decide +kernel
theorem dX2_needless_9 : decode cX2_needless 9 = .ok (.iload_n 3, 1) := by decide +kernel
theorem dX2_prepare_0 : decode cX2_prepare 0 = .ok (.iconst 0, 1) := by decide +kernel
theorem dX2_prepare_1 : decode cX2_prepare 1 = .ok (.istore_n 1, 1) := by decide +kernel
theorem dX2_prepare_10 : decode cX2_prepare 10 = .ok (.if_icmp .ge 53, 3) := by decide +kernel
theorem dX2_prepare_2 : decode cX2_prepare 2 = .ok (.iload_n 1, 1) := by decide +kernel
theorem dX2_prepare_3 : decode cX2_prepare 3 = .ok (.aload_n 0, 1) := by decide +kernel
theorem dX2_prepare_4 : decode cX2_prepare 4 = .ok (.getfield 18, 3) := by decide +kernel
theorem dX2_prepare_63 : decode cX2_prepare 63 = .ok (.return_, 1) := by decide +kernel
theorem dX2_prepare_7 : decode cX2_prepare 7 = .ok (.getfield 26, 3) := by decide +kernel
theorem dX2_result_0 : decode cX2_result 0 = .ok (.aload_n 0, 1) := by decide +kernel
theorem dX2_result_1 : decode cX2_result 1 = .ok (.getfield 22, 3) := by decide +kernel
theorem dX2_result_10 : decode cX2_result 10 = .ok (.invokevirtual 44, 3) := by decide +kernel
theorem dX2_result_13 : decode cX2_result 13 = .ok (.aload_n 0, 1) := by decide +kernel
theorem dX2_result_14 : decode cX2_result 14 = .ok (.getfield 18, 3) := by decide +kernel
theorem dX2_result_17 : decode cX2_result 17 = .ok (.getfield 26, 3) := by decide +kernel
theorem dX2_result_20 : decode cX2_result 20 = .ok (.iconst (-1), 1) := by decide +kernel
theorem dX2_result_21 : decode cX2_result 21 = .ok (.invokevirtual 47, 3) := by decide +kernel
theorem dX2_result_24 : decode cX2_result 24 = .ok (.invokevirtual 51, 3) := by decide +kernel
theorem dX2_result_27 : decode cX2_result 27 = .ok (.ireturn, 1) := by decide +kernel
theorem dX2_result_4 : decode cX2_result 4 = .ok (.aload_n 0, 1) := by decide +kernel
theorem dX2_result_5 : decode cX2_result 5 = .ok (.aload_n 0, 1) := by decide +kernel
theorem dX2_result_6 : decode cX2_result 6 = .ok (.getfield 22, 3) := by decide +kernel
theorem dX2_result_9 : decode cX2_result 9 = .ok (.iload_n 1, 1) := by decide +kernel
theorem dX2_run_0 : decode cX2_run 0 = .ok (.iload_n 1, 1) := by decide +kernel
theorem dX2_run_1 : decode cX2_run 1 = .ok (.istore 4, 2) := by decide +kernel
theorem dX2_run_3 : decode cX2_run 3 = .ok (.iconst 0, 1) := by decide +kernel
theorem dX2_run_4 : decode cX2_run 4 = .ok (.istore 5, 2) := by decide +kernel
theorem dX2_run_6 : decode cX2_run 6 = .ok (.iload 5, 2) := by decide +kernel
theorem dX2_run_8 : decode cX2_run 8 = .ok (.iload_n 2, 1) := by decide +kernel
theorem dX2_run_82 : decode cX2_run 82 = .ok (.iload 4, 2) := by decide +kernel
theorem dX2_run_84 : decode cX2_run 84 = .ok (.ireturn, 1) := by decide +kernel
theorem dX2_run_9 : decode cX2_run 9 = .ok (.if_icmp .ge 73, 3) := by decide +kernel
theorem dX2_sortedAll_0 : decode cX2_sortedAll 0 = .ok (.aload_n 0, 1) := by decide +kernel
theorem dX2_sortedAll_1 : decode cX2_sortedAll 1 = .ok (.aload_n 0, 1) := by decide +kernel
theorem dX2_sortedAll_12 : decode cX2_sortedAll 12 = .ok (.ireturn, 1) := by decide +kernel
theorem dX2_sortedAll_2 : decode cX2_sortedAll 2 = .ok (.getfield 18, 3) := by decide +kernel
theorem dX2_sortedAll_5 : decode cX2_sortedAll 5 = .ok (.getfield 26, 3) := by decide +kernel
theorem dX2_sortedAll_8 : decode cX2_sortedAll 8 = .ok (.iconst (-1), 1) := by decide +kernel
theorem dX2_sortedAll_9 : decode cX2_sortedAll 9 = .ok (.invokevirtual 54, 3) := by decide +kernel
theorem dX2_tally_0 : decode cX2_tally 0 = .ok (.aload_n 0, 1) := by decide +kernel
theorem dX2_tally_1 : decode cX2_tally 1 = .ok (.getfield 22, 3) := by decide +kernel
theorem dX2_tally_10 : decode cX2_tally 10 = .ok (.istore 4, 2) := by decide +kernel
theorem dX2_tally_12 : decode cX2_tally 12 = .ok (.iconst 0, 1) := by decide +kernel
theorem dX2_tally_13 : decode cX2_tally 13 = .ok (.istore 5, 2) := by decide +kernel
theorem dX2_tally_15 : decode cX2_tally 15 = .ok (.iload 5, 2) := by decide +kernel
theorem dX2_tally_17 : decode cX2_tally 17 = .ok (.aload_n 0, 1) := by decide +kernel
theorem dX2_tally_18 : decode cX2_tally 18 = .ok (.getfield 22, 3) := by decide +kernel
theorem dX2_tally_21 : decode cX2_tally 21 = .ok (.invokevirtual 58, 3) := by decide +kernel
theorem dX2_tally_24 : decode cX2_tally 24 = .ok (.if_icmp .ge 31, 3) := by decide +kernel
theorem dX2_tally_27 : decode cX2_tally 27 = .ok (.aload_n 0, 1) := by decide +kernel
theorem dX2_tally_28 : decode cX2_tally 28 = .ok (.aload_n 0, 1) := by decide +kernel
theorem dX2_tally_29 : decode cX2_tally 29 = .ok (.getfield 22, 3) := by decide +kernel
theorem dX2_tally_32 : decode cX2_tally 32 = .ok (.iload 5, 2) := by decide +kernel
theorem dX2_tally_34 : decode cX2_tally 34 = .ok (.invokevirtual 44, 3) := by decide +kernel
theorem dX2_tally_37 : decode cX2_tally 37 = .ok (.iload_n 1, 1) := by decide +kernel
theorem dX2_tally_38 : decode cX2_tally 38 = .ok (.iload_n 2, 1) := by decide +kernel
theorem dX2_tally_39 : decode cX2_tally 39 = .ok (.invokevirtual 47, 3) := by decide +kernel
theorem dX2_tally_4 : decode cX2_tally 4 = .ok (.iconst 0, 1) := by decide +kernel
theorem dX2_tally_42 : decode cX2_tally 42 = .ok (.iload_n 3, 1) := by decide +kernel
theorem dX2_tally_43 : decode cX2_tally 43 = .ok (.if_icmp .ne 6, 3) := by decide +kernel
theorem dX2_tally_46 : decode cX2_tally 46 = .ok (.iinc 4 1, 3) := by decide +kernel
theorem dX2_tally_49 : decode cX2_tally 49 = .ok (.iinc 5 1, 3) := by decide +kernel
theorem dX2_tally_5 : decode cX2_tally 5 = .ok (.invokevirtual 44, 3) := by decide +kernel
theorem dX2_tally_52 : decode cX2_tally 52 = .ok (.goto (-37), 3) := by decide +kernel
theorem dX2_tally_55 : decode cX2_tally 55 = .ok (.iload 4, 2) := by decide +kernel
theorem dX2_tally_57 : decode cX2_tally 57 = .ok (.ireturn, 1) := by decide +kernel
theorem dX2_tally_8 : decode cX2_tally 8 = .ok (.istore_n 3, 1) := by decide +kernel
theorem dX2_tally_9 : decode cX2_tally 9 = .ok (.iconst 0, 1) := by decide +kernel
theorem dX3_init_0 : decode cX3_init 0 = .ok (.aload_n 0, 1) := by decide +kernel
theorem dX3_init_1 : decode cX3_init 1 = .ok (.invokespecial 5, 3) := by decide +kernel
theorem dX3_init_11 : decode cX3_init 11 = .ok (.aload_n 0, 1) := by decide +kernel
theorem dX3_init_12 : decode cX3_init 12 = .ok (.iconst 0, 1) := by decide +kernel
theorem dX3_init_13 : decode cX3_init 13 = .ok (.newarray .int, 2) := by decide +kernel
theorem dX3_init_15 : decode cX3_init 15 = .ok (.putfield 17, 3) := by decide +kernel
theorem dX3_init_18 : decode cX3_init 18 = .ok (.aload_n 0, 1) := by decide +kernel
theorem dX3_init_19 : decode cX3_init 19 = .ok (.sipush 1261, 3) := by decide +kernel
theorem dX3_init_22 : decode cX3_init 22 = .ok (.newarray .int, 2) := by decide +kernel
theorem dX3_init_24 : decode cX3_init 24 = .ok (.putfield 20, 3) := by decide +kernel
theorem dX3_init_27 : decode cX3_init 27 = .ok (.aload_n 0, 1) := by decide +kernel
theorem dX3_init_28 : decode cX3_init 28 = .ok (.sipush 1260, 3) := by decide +kernel
theorem dX3_init_31 : decode cX3_init 31 = .ok (.newarray .int, 2) := by decide +kernel
theorem dX3_init_33 : decode cX3_init 33 = .ok (.putfield 23, 3) := by decide +kernel
theorem dX3_init_36 : decode cX3_init 36 = .ok (.aload_n 0, 1) := by decide +kernel
theorem dX3_init_37 : decode cX3_init 37 = .ok (.sipush 1260, 3) := by decide +kernel
theorem dX3_init_4 : decode cX3_init 4 = .ok (.aload_n 0, 1) := by decide +kernel
theorem dX3_init_40 : decode cX3_init 40 = .ok (.newarray .int, 2) := by decide +kernel
theorem dX3_init_42 : decode cX3_init 42 = .ok (.putfield 26, 3) := by decide +kernel
theorem dX3_init_45 : decode cX3_init 45 = .ok (.aload_n 0, 1) := by decide +kernel
theorem dX3_init_46 : decode cX3_init 46 = .ok (.iconst 0, 1) := by decide +kernel
theorem dX3_init_47 : decode cX3_init 47 = .ok (.putfield 29, 3) := by decide +kernel
theorem dX3_init_5 : decode cX3_init 5 = .ok (.iconst 0, 1) := by decide +kernel
theorem dX3_init_50 : decode cX3_init 50 = .ok (.aload_n 0, 1) := by decide +kernel
theorem dX3_init_51 : decode cX3_init 51 = .ok (.aload_n 1, 1) := by decide +kernel
theorem dX3_init_52 : decode cX3_init 52 = .ok (.putfield 33, 3) := by decide +kernel
theorem dX3_init_55 : decode cX3_init 55 = .ok (.aload_n 0, 1) := by decide +kernel
theorem dX3_init_56 : decode cX3_init 56 = .ok (.aload_n 2, 1) := by decide +kernel
theorem dX3_init_57 : decode cX3_init 57 = .ok (.putfield 37, 3) := by decide +kernel
theorem dX3_init_6 : decode cX3_init 6 = .ok (.newarray .int, 2) := by decide +kernel
theorem dX3_init_60 : decode cX3_init 60 = .ok (.return_, 1) := by decide +kernel
theorem dX3_init_8 : decode cX3_init 8 = .ok (.putfield 11, 3) := by decide +kernel
theorem dX4_init_0 : decode cX4_init 0 = .ok (.aload_n 0, 1) := by decide +kernel
theorem dX4_init_1 : decode cX4_init 1 = .ok (.invokespecial 3, 3) := by decide +kernel
theorem dX4_init_11 : decode cX4_init 11 = .ok (.aload_n 0, 1) := by decide +kernel
theorem dX4_init_12 : decode cX4_init 12 = .ok (.iconst 0, 1) := by decide +kernel
theorem dX4_init_13 : decode cX4_init 13 = .ok (.newarray .int, 2) := by decide +kernel
theorem dX4_init_15 : decode cX4_init 15 = .ok (.putfield 15, 3) := by decide +kernel
theorem dX4_init_18 : decode cX4_init 18 = .ok (.aload_n 0, 1) := by decide +kernel
theorem dX4_init_19 : decode cX4_init 19 = .ok (.iconst 0, 1) := by decide +kernel
theorem dX4_init_20 : decode cX4_init 20 = .ok (.putfield 18, 3) := by decide +kernel
theorem dX4_init_23 : decode cX4_init 23 = .ok (.aload_n 0, 1) := by decide +kernel
theorem dX4_init_24 : decode cX4_init 24 = .ok (.aload_n 1, 1) := by decide +kernel
theorem dX4_init_25 : decode cX4_init 25 = .ok (.putfield 22, 3) := by decide +kernel
theorem dX4_init_28 : decode cX4_init 28 = .ok (.aload_n 0, 1) := by decide +kernel
theorem dX4_init_29 : decode cX4_init 29 = .ok (.aload_n 2, 1) := by decide +kernel
theorem dX4_init_30 : decode cX4_init 30 = .ok (.putfield 26, 3) := by decide +kernel
theorem dX4_init_33 : decode cX4_init 33 = .ok (.return_, 1) := by decide +kernel
theorem dX4_init_4 : decode cX4_init 4 = .ok (.aload_n 0, 1) := by decide +kernel
theorem dX4_init_5 : decode cX4_init 5 = .ok (.iconst 0, 1) := by decide +kernel
theorem dX4_init_6 : decode cX4_init 6 = .ok (.newarray .int, 2) := by decide +kernel
theorem dX4_init_8 : decode cX4_init 8 = .ok (.putfield 9, 3) := by decide +kernel
theorem dX5_advance_0 : decode cX5_advance 0 = .ok (.aload_n 0, 1) := by decide +kernel
theorem dX5_advance_1 : decode cX5_advance 1 = .ok (.aload_n 0, 1) := by decide +kernel
theorem dX5_advance_12 : decode cX5_advance 12 = .ok (.aload_n 0, 1) := by decide +kernel
theorem dX5_advance_13 : decode cX5_advance 13 = .ok (.getfield 15, 3) := by decide +kernel
theorem dX5_advance_16 : decode cX5_advance 16 = .ok (.if_icmp .ge 30, 3) := by decide +kernel
theorem dX5_advance_2 : decode cX5_advance 2 = .ok (.getfield 25, 3) := by decide +kernel
theorem dX5_advance_263 : decode cX5_advance 263 = .ok (.return_, 1) := by decide +kernel
theorem dX5_advance_46 : decode cX5_advance 46 = .ok (.aload_n 0, 1) := by decide +kernel
theorem dX5_advance_47 : decode cX5_advance 47 = .ok (.aload_n 0, 1) := by decide +kernel
theorem dX5_advance_48 : decode cX5_advance 48 = .ok (.getfield 22, 3) := by decide +kernel
theorem dX5_advance_5 : decode cX5_advance 5 = .ok (.putfield 22, 3) := by decide +kernel
theorem dX5_advance_51 : decode cX5_advance 51 = .ok (.putfield 25, 3) := by decide +kernel
theorem dX5_advance_54 : decode cX5_advance 54 = .ok (.aload_n 0, 1) := by decide +kernel
theorem dX5_advance_55 : decode cX5_advance 55 = .ok (.getfield 22, 3) := by decide +kernel
theorem dX5_advance_58 : decode cX5_advance 58 = .ok (.aload_n 0, 1) := by decide +kernel
theorem dX5_advance_59 : decode cX5_advance 59 = .ok (.getfield 15, 3) := by decide +kernel
theorem dX5_advance_62 : decode cX5_advance 62 = .ok (.if_icmp .lt 12, 3) := by decide +kernel
theorem dX5_advance_65 : decode cX5_advance 65 = .ok (.aload_n 0, 1) := by decide +kernel
theorem dX5_advance_66 : decode cX5_advance 66 = .ok (.bipush 17, 2) := by decide +kernel
theorem dX5_advance_68 : decode cX5_advance 68 = .ok (.putfield 19, 3) := by decide +kernel
theorem dX5_advance_71 : decode cX5_advance 71 = .ok (.goto 192, 3) := by decide +kernel
theorem dX5_advance_8 : decode cX5_advance 8 = .ok (.aload_n 0, 1) := by decide +kernel
theorem dX5_advance_9 : decode cX5_advance 9 = .ok (.getfield 22, 3) := by decide +kernel
theorem dX5_clause_0 : decode cX5_clause 0 = .ok (.aload_n 0, 1) := by decide +kernel
theorem dX5_clause_1 : decode cX5_clause 1 = .ok (.getfield 19, 3) := by decide +kernel
theorem dX5_clause_10 : decode cX5_clause 10 = .ok (.iconst 1, 1) := by decide +kernel
theorem dX5_clause_11 : decode cX5_clause 11 = .ok (.if_icmp .eq 13, 3) := by decide +kernel
theorem dX5_clause_14 : decode cX5_clause 14 = .ok (.iload_n 1, 1) := by decide +kernel
theorem dX5_clause_15 : decode cX5_clause 15 = .ok (.iconst 2, 1) := by decide +kernel
theorem dX5_clause_16 : decode cX5_clause 16 = .ok (.if_icmp .eq 8, 3) := by decide +kernel
theorem dX5_clause_19 : decode cX5_clause 19 = .ok (.aload_n 0, 1) := by decide +kernel
theorem dX5_clause_20 : decode cX5_clause 20 = .ok (.invokevirtual 54, 3) := by decide +kernel
theorem dX5_clause_23 : decode cX5_clause 23 = .ok (.ireturn, 1) := by decide +kernel
theorem dX5_clause_4 : decode cX5_clause 4 = .ok (.istore_n 1, 1) := by decide +kernel
theorem dX5_clause_5 : decode cX5_clause 5 = .ok (.iload_n 1, 1) := by decide +kernel
theorem dX5_clause_6 : decode cX5_clause 6 = .ok (.ifCond .eq 18, 3) := by decide +kernel
theorem dX5_clause_9 : decode cX5_clause 9 = .ok (.iload_n 1, 1) := by decide +kernel
theorem dX5_compile_0 : decode cX5_compile 0 = .ok (.aload_n 0, 1) := by decide +kernel
theorem dX5_compile_1 : decode cX5_compile 1 = .ok (.iconst 0, 1) := by decide +kernel
theorem dX5_compile_10 : decode cX5_compile 10 = .ok (.aload_n 0, 1) := by decide +kernel
theorem dX5_compile_100 : decode cX5_compile 100 = .ok (.ireturn, 1) := by decide +kernel
theorem dX5_compile_11 : decode cX5_compile 11 = .ok (.iconst 0, 1) := by decide +kernel
theorem dX5_compile_12 : decode cX5_compile 12 = .ok (.putfield 40, 3) := by decide +kernel
theorem dX5_compile_15 : decode cX5_compile 15 = .ok (.aload_n 0, 1) := by decide +kernel
theorem dX5_compile_16 : decode cX5_compile 16 = .ok (.iconst (-1), 1) := by decide +kernel
theorem dX5_compile_17 : decode cX5_compile 17 = .ok (.putfield 34, 3) := by decide +kernel
theorem dX5_compile_2 : decode cX5_compile 2 = .ok (.putfield 25, 3) := by decide +kernel
theorem dX5_compile_20 : decode cX5_compile 20 = .ok (.aload_n 0, 1) := by decide +kernel
theorem dX5_compile_21 : decode cX5_compile 21 = .ok (.invokevirtual 43, 3) := by decide +kernel
theorem dX5_compile_24 : decode cX5_compile 24 = .ok (.aload_n 0, 1) := by decide +kernel
theorem dX5_compile_25 : decode cX5_compile 25 = .ok (.invokevirtual 46, 3) := by decide +kernel
theorem dX5_compile_28 : decode cX5_compile 28 = .ok (.istore_n 1, 1) := by decide +kernel
theorem dX5_compile_29 : decode cX5_compile 29 = .ok (.iconst 1, 1) := by decide +kernel
theorem dX5_compile_30 : decode cX5_compile 30 = .ok (.istore_n 2, 1) := by decide +kernel
theorem dX5_compile_31 : decode cX5_compile 31 = .ok (.iload_n 2, 1) := by decide +kernel
theorem dX5_compile_32 : decode cX5_compile 32 = .ok (.bipush 12, 2) := by decide +kernel
theorem dX5_compile_34 : decode cX5_compile 34 = .ok (.if_icmp .gt 44, 3) := by decide +kernel
theorem dX5_compile_37 : decode cX5_compile 37 = .ok (.iload_n 1, 1) := by decide +kernel
theorem dX5_compile_38 : decode cX5_compile 38 = .ok (.ifCond .eq 40, 3) := by decide +kernel
theorem dX5_compile_5 : decode cX5_compile 5 = .ok (.aload_n 0, 1) := by decide +kernel
theorem dX5_compile_6 : decode cX5_compile 6 = .ok (.iconst 0, 1) := by decide +kernel
theorem dX5_compile_7 : decode cX5_compile 7 = .ok (.putfield 31, 3) := by decide +kernel
theorem dX5_compile_78 : decode cX5_compile 78 = .ok (.iload_n 1, 1) := by decide +kernel
theorem dX5_compile_79 : decode cX5_compile 79 = .ok (.ifCond .eq 17, 3) := by decide +kernel
theorem dX5_compile_96 : decode cX5_compile 96 = .ok (.aload_n 0, 1) := by decide +kernel
theorem dX5_compile_97 : decode cX5_compile 97 = .ok (.getfield 34, 3) := by decide +kernel
theorem dX5_cut_0 : decode cX5_cut 0 = .ok (.iload_n 1, 1) := by decide +kernel
theorem dX5_cut_1 : decode cX5_cut 1 = .ok (.ifCond .lt 11, 3) := by decide +kernel
theorem dX5_cut_12 : decode cX5_cut 12 = .ok (.iconst 0, 1) := by decide +kernel
theorem dX5_cut_13 : decode cX5_cut 13 = .ok (.ireturn, 1) := by decide +kernel
theorem dX5_cut_14 : decode cX5_cut 14 = .ok (.aload_n 0, 1) := by decide +kernel
theorem dX5_cut_15 : decode cX5_cut 15 = .ok (.iload_n 1, 1) := by decide +kernel
theorem dX5_cut_16 : decode cX5_cut 16 = .ok (.putfield 15, 3) := by decide +kernel
theorem dX5_cut_19 : decode cX5_cut 19 = .ok (.iconst 1, 1) := by decide +kernel
theorem dX5_cut_20 : decode cX5_cut 20 = .ok (.ireturn, 1) := by decide +kernel
theorem dX5_cut_4 : decode cX5_cut 4 = .ok (.iload_n 1, 1) := by decide +kernel
theorem dX5_cut_5 : decode cX5_cut 5 = .ok (.aload_n 0, 1) := by decide +kernel
theorem dX5_cut_6 : decode cX5_cut 6 = .ok (.getfield 15, 3) := by decide +kernel
theorem dX5_cut_9 : decode cX5_cut 9 = .ok (.if_icmp .le 5, 3) := by decide +kernel
theorem dX5_hasRoom_0 : decode cX5_hasRoom 0 = .ok (.aload_n 0, 1) := by decide +kernel
theorem dX5_hasRoom_1 : decode cX5_hasRoom 1 = .ok (.getfield 15, 3) := by decide +kernel
theorem dX5_hasRoom_12 : decode cX5_hasRoom 12 = .ok (.iconst 1, 1) := by decide +kernel
theorem dX5_hasRoom_13 : decode cX5_hasRoom 13 = .ok (.goto 4, 3) := by decide +kernel
theorem dX5_hasRoom_17 : decode cX5_hasRoom 17 = .ok (.ireturn, 1) := by decide +kernel
theorem dX5_hasRoom_4 : decode cX5_hasRoom 4 = .ok (.iload_n 1, 1) := by decide +kernel
theorem dX5_hasRoom_5 : decode cX5_hasRoom 5 = .ok (.iadd, 1) := by decide +kernel
theorem dX5_hasRoom_6 : decode cX5_hasRoom 6 = .ok (.sipush 400, 3) := by decide +kernel
theorem dX5_hasRoom_9 : decode cX5_hasRoom 9 = .ok (.if_icmp .gt 7, 3) := by decide +kernel
theorem dX5_holdsColours_0 : decode cX5_holdsColours 0 = .ok (.aload_n 0, 1) := by decide +kernel
theorem dX5_holdsColours_1 : decode cX5_holdsColours 1 = .ok (.getfield 15, 3) := by decide +kernel
theorem dX5_holdsColours_17 : decode cX5_holdsColours 17 = .ok (.iconst 0, 1) := by decide +kernel
theorem dX5_holdsColours_18 : decode cX5_holdsColours 18 = .ok (.ireturn, 1) := by decide +kernel
theorem dX5_holdsColours_4 : decode cX5_holdsColours 4 = .ok (.iconst 1, 1) := by decide +kernel
theorem dX5_holdsColours_5 : decode cX5_holdsColours 5 = .ok (.if_icmp .lt 12, 3) := by decide +kernel
theorem dX5_init_0 : decode cX5_init 0 = .ok (.aload_n 0, 1) := by decide +kernel
theorem dX5_init_1 : decode cX5_init 1 = .ok (.invokespecial 3, 3) := by decide +kernel
theorem dX5_init_10 : decode cX5_init 10 = .ok (.putfield 11, 3) := by decide +kernel
theorem dX5_init_13 : decode cX5_init 13 = .ok (.aload_n 0, 1) := by decide +kernel
theorem dX5_init_14 : decode cX5_init 14 = .ok (.iconst 0, 1) := by decide +kernel
theorem dX5_init_15 : decode cX5_init 15 = .ok (.putfield 15, 3) := by decide +kernel
theorem dX5_init_18 : decode cX5_init 18 = .ok (.aload_n 0, 1) := by decide +kernel
theorem dX5_init_19 : decode cX5_init 19 = .ok (.bipush 17, 2) := by decide +kernel
theorem dX5_init_21 : decode cX5_init 21 = .ok (.putfield 19, 3) := by decide +kernel
theorem dX5_init_24 : decode cX5_init 24 = .ok (.aload_n 0, 1) := by decide +kernel
theorem dX5_init_25 : decode cX5_init 25 = .ok (.iconst 0, 1) := by decide +kernel
theorem dX5_init_26 : decode cX5_init 26 = .ok (.putfield 22, 3) := by decide +kernel
theorem dX5_init_29 : decode cX5_init 29 = .ok (.aload_n 0, 1) := by decide +kernel
theorem dX5_init_30 : decode cX5_init 30 = .ok (.iconst 0, 1) := by decide +kernel
theorem dX5_init_31 : decode cX5_init 31 = .ok (.putfield 25, 3) := by decide +kernel
theorem dX5_init_34 : decode cX5_init 34 = .ok (.aload_n 0, 1) := by decide +kernel
theorem dX5_init_35 : decode cX5_init 35 = .ok (.iconst 0, 1) := by decide +kernel
theorem dX5_init_36 : decode cX5_init 36 = .ok (.putfield 28, 3) := by decide +kernel
theorem dX5_init_39 : decode cX5_init 39 = .ok (.aload_n 0, 1) := by decide +kernel
theorem dX5_init_4 : decode cX5_init 4 = .ok (.aload_n 0, 1) := by decide +kernel
theorem dX5_init_40 : decode cX5_init 40 = .ok (.iconst 0, 1) := by decide +kernel
theorem dX5_init_41 : decode cX5_init 41 = .ok (.putfield 31, 3) := by decide +kernel
theorem dX5_init_44 : decode cX5_init 44 = .ok (.aload_n 0, 1) := by decide +kernel
theorem dX5_init_45 : decode cX5_init 45 = .ok (.iconst (-1), 1) := by decide +kernel
theorem dX5_init_46 : decode cX5_init 46 = .ok (.putfield 34, 3) := by decide +kernel
theorem dX5_init_49 : decode cX5_init 49 = .ok (.aload_n 0, 1) := by decide +kernel
theorem dX5_init_5 : decode cX5_init 5 = .ok (.sipush 400, 3) := by decide +kernel
theorem dX5_init_50 : decode cX5_init 50 = .ok (.sipush 412, 3) := by decide +kernel
theorem dX5_init_53 : decode cX5_init 53 = .ok (.newarray .int, 2) := by decide +kernel
theorem dX5_init_55 : decode cX5_init 55 = .ok (.putfield 37, 3) := by decide +kernel
theorem dX5_init_58 : decode cX5_init 58 = .ok (.aload_n 0, 1) := by decide +kernel
theorem dX5_init_59 : decode cX5_init 59 = .ok (.iconst 0, 1) := by decide +kernel
theorem dX5_init_60 : decode cX5_init 60 = .ok (.putfield 40, 3) := by decide +kernel
theorem dX5_init_63 : decode cX5_init 63 = .ok (.return_, 1) := by decide +kernel
theorem dX5_init_8 : decode cX5_init 8 = .ok (.newarray .int, 2) := by decide +kernel
theorem dX5_length_0 : decode cX5_length 0 = .ok (.aload_n 0, 1) := by decide +kernel
theorem dX5_length_1 : decode cX5_length 1 = .ok (.getfield 15, 3) := by decide +kernel
theorem dX5_length_4 : decode cX5_length 4 = .ok (.ireturn, 1) := by decide +kernel
theorem dX5_take_0 : decode cX5_take 0 = .ok (.bipush 24, 2) := by decide +kernel
theorem dX5_take_11 : decode cX5_take 11 = .ok (.sipush 400, 3) := by decide +kernel
theorem dX5_take_14 : decode cX5_take 14 = .ok (.if_icmp .ge 35, 3) := by decide +kernel
theorem dX5_take_17 : decode cX5_take 17 = .ok (.aload_n 0, 1) := by decide +kernel
theorem dX5_take_18 : decode cX5_take 18 = .ok (.getfield 11, 3) := by decide +kernel
theorem dX5_take_2 : decode cX5_take 2 = .ok (.istore_n 2, 1) := by decide +kernel
theorem dX5_take_21 : decode cX5_take 21 = .ok (.aload_n 0, 1) := by decide +kernel
theorem dX5_take_22 : decode cX5_take 22 = .ok (.getfield 15, 3) := by decide +kernel
theorem dX5_take_25 : decode cX5_take 25 = .ok (.iload_n 1, 1) := by decide +kernel
theorem dX5_take_26 : decode cX5_take 26 = .ok (.iload_n 2, 1) := by decide +kernel
theorem dX5_take_27 : decode cX5_take 27 = .ok (.ishr, 1) := by decide +kernel
theorem dX5_take_28 : decode cX5_take 28 = .ok (.sipush 255, 3) := by decide +kernel
theorem dX5_take_3 : decode cX5_take 3 = .ok (.iload_n 2, 1) := by decide +kernel
theorem dX5_take_31 : decode cX5_take 31 = .ok (.iand, 1) := by decide +kernel
theorem dX5_take_32 : decode cX5_take 32 = .ok (.iastore, 1) := by decide +kernel
theorem dX5_take_33 : decode cX5_take 33 = .ok (.aload_n 0, 1) := by decide +kernel
theorem dX5_take_34 : decode cX5_take 34 = .ok (.dup, 1) := by decide +kernel
theorem dX5_take_35 : decode cX5_take 35 = .ok (.getfield 15, 3) := by decide +kernel
theorem dX5_take_38 : decode cX5_take 38 = .ok (.iconst 1, 1) := by decide +kernel
theorem dX5_take_39 : decode cX5_take 39 = .ok (.iadd, 1) := by decide +kernel
theorem dX5_take_4 : decode cX5_take 4 = .ok (.ifCond .lt 45, 3) := by decide +kernel
theorem dX5_take_40 : decode cX5_take 40 = .ok (.putfield 15, 3) := by decide +kernel
theorem dX5_take_43 : decode cX5_take 43 = .ok (.iinc 2 (-8), 3) := by decide +kernel
theorem dX5_take_46 : decode cX5_take 46 = .ok (.goto (-43), 3) := by decide +kernel
theorem dX5_take_49 : decode cX5_take 49 = .ok (.return_, 1) := by decide +kernel
theorem dX5_take_7 : decode cX5_take 7 = .ok (.aload_n 0, 1) := by decide +kernel
theorem dX5_take_8 : decode cX5_take 8 = .ok (.getfield 15, 3) := by decide +kernel
theorem dX5_wrong_0 : decode cX5_wrong 0 = .ok (.aload_n 0, 1) := by decide +kernel
theorem dX5_wrong_1 : decode cX5_wrong 1 = .ok (.aload_n 0, 1) := by decide +kernel
theorem dX5_wrong_2 : decode cX5_wrong 2 = .ok (.getfield 22, 3) := by decide +kernel
theorem dX5_wrong_5 : decode cX5_wrong 5 = .ok (.putfield 34, 3) := by decide +kernel
theorem dX5_wrong_8 : decode cX5_wrong 8 = .ok (.iconst 0, 1) := by decide +kernel
theorem dX5_wrong_9 : decode cX5_wrong 9 = .ok (.ireturn, 1) := by decide +kernel
theorem dX6_at_0 : decode cX6_at 0 = .ok (.iload_n 1, 1) := by decide +kernel
theorem dX6_at_1 : decode cX6_at 1 = .ok (.ifCond .lt 20, 3) := by decide +kernel
theorem dX6_at_12 : decode cX6_at 12 = .ok (.aload_n 0, 1) := by decide +kernel
theorem dX6_at_13 : decode cX6_at 13 = .ok (.getfield 15, 3) := by decide +kernel
theorem dX6_at_16 : decode cX6_at 16 = .ok (.iload_n 1, 1) := by decide +kernel
theorem dX6_at_17 : decode cX6_at 17 = .ok (.iaload, 1) := by decide +kernel
theorem dX6_at_18 : decode cX6_at 18 = .ok (.goto 4, 3) := by decide +kernel
theorem dX6_at_21 : decode cX6_at 21 = .ok (.iconst (-1), 1) := by decide +kernel
theorem dX6_at_22 : decode cX6_at 22 = .ok (.ireturn, 1) := by decide +kernel
theorem dX6_at_4 : decode cX6_at 4 = .ok (.iload_n 1, 1) := by decide +kernel
theorem dX6_at_5 : decode cX6_at 5 = .ok (.aload_n 0, 1) := by decide +kernel
theorem dX6_at_6 : decode cX6_at 6 = .ok (.getfield 19, 3) := by decide +kernel
theorem dX6_at_9 : decode cX6_at 9 = .ok (.if_icmp .ge 12, 3) := by decide +kernel
theorem dX6_best_0 : decode cX6_best 0 = .ok (.aload_n 0, 1) := by decide +kernel
theorem dX6_best_1 : decode cX6_best 1 = .ok (.getfield 32, 3) := by decide +kernel
theorem dX6_best_4 : decode cX6_best 4 = .ok (.ireturn, 1) := by decide +kernel
theorem dX6_change_0 : decode cX6_change 0 = .ok (.aload_n 0, 1) := by decide +kernel
theorem dX6_change_1 : decode cX6_change 1 = .ok (.iconst (-1), 1) := by decide +kernel
theorem dX6_change_10 : decode cX6_change 10 = .ok (.return_, 1) := by decide +kernel
theorem dX6_change_2 : decode cX6_change 2 = .ok (.putfield 23, 3) := by decide +kernel
theorem dX6_change_5 : decode cX6_change 5 = .ok (.aload_n 0, 1) := by decide +kernel
theorem dX6_change_6 : decode cX6_change 6 = .ok (.iconst (-1), 1) := by decide +kernel
theorem dX6_change_7 : decode cX6_change 7 = .ok (.putfield 38, 3) := by decide +kernel
theorem dX6_choose_0 : decode cX6_choose 0 = .ok (.aload_n 0, 1) := by decide +kernel
theorem dX6_choose_1 : decode cX6_choose 1 = .ok (.getfield 38, 3) := by decide +kernel
theorem dX6_choose_102 : decode cX6_choose 102 = .ok (.iinc 2 1, 3) := by decide +kernel
theorem dX6_choose_105 : decode cX6_choose 105 = .ok (.goto (-44), 3) := by decide +kernel
theorem dX6_choose_108 : decode cX6_choose 108 = .ok (.return_, 1) := by decide +kernel
theorem dX6_choose_11 : decode cX6_choose 11 = .ok (.if_icmp .ne 4, 3) := by decide +kernel
theorem dX6_choose_15 : decode cX6_choose 15 = .ok (.aload_n 0, 1) := by decide +kernel
theorem dX6_choose_16 : decode cX6_choose 16 = .ok (.aload_n 0, 1) := by decide +kernel
theorem dX6_choose_17 : decode cX6_choose 17 = .ok (.getfield 49, 3) := by decide +kernel
theorem dX6_choose_20 : decode cX6_choose 20 = .ok (.invokevirtual 57, 3) := by decide +kernel
theorem dX6_choose_23 : decode cX6_choose 23 = .ok (.putfield 38, 3) := by decide +kernel
theorem dX6_choose_26 : decode cX6_choose 26 = .ok (.aload_n 0, 1) := by decide +kernel
theorem dX6_choose_27 : decode cX6_choose 27 = .ok (.getfield 45, 3) := by decide +kernel
theorem dX6_choose_30 : decode cX6_choose 30 = .ok (.invokevirtual 63, 3) := by decide +kernel
theorem dX6_choose_33 : decode cX6_choose 33 = .ok (.istore_n 1, 1) := by decide +kernel
theorem dX6_choose_34 : decode cX6_choose 34 = .ok (.aload_n 0, 1) := by decide +kernel
theorem dX6_choose_35 : decode cX6_choose 35 = .ok (.getfield 26, 3) := by decide +kernel
theorem dX6_choose_38 : decode cX6_choose 38 = .ok (.iconst 0, 1) := by decide +kernel
theorem dX6_choose_39 : decode cX6_choose 39 = .ok (.iload_n 1, 1) := by decide +kernel
theorem dX6_choose_4 : decode cX6_choose 4 = .ok (.aload_n 0, 1) := by decide +kernel
theorem dX6_choose_40 : decode cX6_choose 40 = .ok (.iconst (-1), 1) := by decide +kernel
theorem dX6_choose_41 : decode cX6_choose 41 = .ok (.invokestatic 87, 3) := by decide +kernel
theorem dX6_choose_44 : decode cX6_choose 44 = .ok (.aload_n 0, 1) := by decide +kernel
theorem dX6_choose_45 : decode cX6_choose 45 = .ok (.iconst 0, 1) := by decide +kernel
theorem dX6_choose_46 : decode cX6_choose 46 = .ok (.putfield 32, 3) := by decide +kernel
theorem dX6_choose_49 : decode cX6_choose 49 = .ok (.aload_n 0, 1) := by decide +kernel
theorem dX6_choose_5 : decode cX6_choose 5 = .ok (.getfield 49, 3) := by decide +kernel
theorem dX6_choose_50 : decode cX6_choose 50 = .ok (.aload_n 0, 1) := by decide +kernel
theorem dX6_choose_51 : decode cX6_choose 51 = .ok (.getfield 19, 3) := by decide +kernel
theorem dX6_choose_54 : decode cX6_choose 54 = .ok (.iconst 1, 1) := by decide +kernel
theorem dX6_choose_55 : decode cX6_choose 55 = .ok (.iadd, 1) := by decide +kernel
theorem dX6_choose_56 : decode cX6_choose 56 = .ok (.putfield 35, 3) := by decide +kernel
theorem dX6_choose_59 : decode cX6_choose 59 = .ok (.iconst 0, 1) := by decide +kernel
theorem dX6_choose_60 : decode cX6_choose 60 = .ok (.istore_n 2, 1) := by decide +kernel
theorem dX6_choose_61 : decode cX6_choose 61 = .ok (.iload_n 2, 1) := by decide +kernel
theorem dX6_choose_62 : decode cX6_choose 62 = .ok (.iload_n 1, 1) := by decide +kernel
theorem dX6_choose_63 : decode cX6_choose 63 = .ok (.if_icmp .ge 45, 3) := by decide +kernel
theorem dX6_choose_66 : decode cX6_choose 66 = .ok (.aload_n 0, 1) := by decide +kernel
theorem dX6_choose_67 : decode cX6_choose 67 = .ok (.getfield 35, 3) := by decide +kernel
theorem dX6_choose_70 : decode cX6_choose 70 = .ok (.iconst 1, 1) := by decide +kernel
theorem dX6_choose_71 : decode cX6_choose 71 = .ok (.if_icmp .le 37, 3) := by decide +kernel
theorem dX6_choose_74 : decode cX6_choose 74 = .ok (.aload_n 0, 1) := by decide +kernel
theorem dX6_choose_75 : decode cX6_choose 75 = .ok (.iload_n 2, 1) := by decide +kernel
theorem dX6_choose_76 : decode cX6_choose 76 = .ok (.aload_n 0, 1) := by decide +kernel
theorem dX6_choose_77 : decode cX6_choose 77 = .ok (.getfield 35, 3) := by decide +kernel
theorem dX6_choose_8 : decode cX6_choose 8 = .ok (.invokevirtual 57, 3) := by decide +kernel
theorem dX6_choose_80 : decode cX6_choose 80 = .ok (.invokevirtual 93, 3) := by decide +kernel
theorem dX6_choose_83 : decode cX6_choose 83 = .ok (.istore_n 3, 1) := by decide +kernel
theorem dX6_choose_84 : decode cX6_choose 84 = .ok (.iload_n 3, 1) := by decide +kernel
theorem dX6_choose_85 : decode cX6_choose 85 = .ok (.aload_n 0, 1) := by decide +kernel
theorem dX6_choose_86 : decode cX6_choose 86 = .ok (.getfield 35, 3) := by decide +kernel
theorem dX6_choose_89 : decode cX6_choose 89 = .ok (.if_icmp .ge 13, 3) := by decide +kernel
theorem dX6_choose_92 : decode cX6_choose 92 = .ok (.aload_n 0, 1) := by decide +kernel
theorem dX6_choose_93 : decode cX6_choose 93 = .ok (.iload_n 2, 1) := by decide +kernel
theorem dX6_choose_94 : decode cX6_choose 94 = .ok (.putfield 32, 3) := by decide +kernel
theorem dX6_choose_97 : decode cX6_choose 97 = .ok (.aload_n 0, 1) := by decide +kernel
theorem dX6_choose_98 : decode cX6_choose 98 = .ok (.iload_n 3, 1) := by decide +kernel
theorem dX6_choose_99 : decode cX6_choose 99 = .ok (.putfield 35, 3) := by decide +kernel
theorem dX6_init_0 : decode cX6_init 0 = .ok (.aload_n 0, 1) := by decide +kernel
theorem dX6_init_1 : decode cX6_init 1 = .ok (.invokespecial 3, 3) := by decide +kernel
theorem dX6_init_10 : decode cX6_init 10 = .ok (.putfield 9, 3) := by decide +kernel
theorem dX6_init_13 : decode cX6_init 13 = .ok (.aload_n 0, 1) := by decide +kernel
theorem dX6_init_14 : decode cX6_init 14 = .ok (.sipush 1260, 3) := by decide +kernel
theorem dX6_init_17 : decode cX6_init 17 = .ok (.newarray .int, 2) := by decide +kernel
theorem dX6_init_19 : decode cX6_init 19 = .ok (.putfield 15, 3) := by decide +kernel
theorem dX6_init_22 : decode cX6_init 22 = .ok (.aload_n 0, 1) := by decide +kernel
theorem dX6_init_23 : decode cX6_init 23 = .ok (.iconst 0, 1) := by decide +kernel
theorem dX6_init_24 : decode cX6_init 24 = .ok (.putfield 19, 3) := by decide +kernel
theorem dX6_init_27 : decode cX6_init 27 = .ok (.aload_n 0, 1) := by decide +kernel
theorem dX6_init_28 : decode cX6_init 28 = .ok (.iconst (-1), 1) := by decide +kernel
theorem dX6_init_29 : decode cX6_init 29 = .ok (.putfield 23, 3) := by decide +kernel
theorem dX6_init_32 : decode cX6_init 32 = .ok (.aload_n 0, 1) := by decide +kernel
theorem dX6_init_33 : decode cX6_init 33 = .ok (.sipush 1260, 3) := by decide +kernel
theorem dX6_init_36 : decode cX6_init 36 = .ok (.newarray .int, 2) := by decide +kernel
theorem dX6_init_38 : decode cX6_init 38 = .ok (.putfield 26, 3) := by decide +kernel
theorem dX6_init_4 : decode cX6_init 4 = .ok (.aload_n 0, 1) := by decide +kernel
