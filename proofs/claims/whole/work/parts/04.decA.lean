/-! each instruction decoded -/
theorem d_Ck_init_0 : decode M_Ck_init.2.1 0 = .ok (.aload_n 0, 1) := by decide +kernel
theorem d_Ck_init_1 : decode M_Ck_init.2.1 1 = .ok (.invokespecial 1, 3) := by decide +kernel
theorem d_Ck_init_4 : decode M_Ck_init.2.1 4 = .ok (.aload_n 0, 1) := by decide +kernel
theorem d_Ck_init_5 : decode M_Ck_init.2.1 5 = .ok (.iconst 0, 1) := by decide +kernel
theorem d_Ck_init_6 : decode M_Ck_init.2.1 6 = .ok (.putfield 7, 3) := by decide +kernel
theorem d_Ck_init_9 : decode M_Ck_init.2.1 9 = .ok (.return_, 1) := by decide +kernel
theorem d_Ta_init_0 : decode M_Ta_init.2.1 0 = .ok (.aload_n 0, 1) := by decide +kernel
theorem d_Ta_init_1 : decode M_Ta_init.2.1 1 = .ok (.invokespecial 3, 3) := by decide +kernel
theorem d_Ta_init_4 : decode M_Ta_init.2.1 4 = .ok (.aload_n 0, 1) := by decide +kernel
theorem d_Ta_init_5 : decode M_Ta_init.2.1 5 = .ok (.bipush 10, 2) := by decide +kernel
theorem d_Ta_init_7 : decode M_Ta_init.2.1 7 = .ok (.newarray .int, 2) := by decide +kernel
theorem d_Ta_init_9 : decode M_Ta_init.2.1 9 = .ok (.putfield 9, 3) := by decide +kernel
theorem d_Ta_init_12 : decode M_Ta_init.2.1 12 = .ok (.return_, 1) := by decide +kernel
theorem d_Ne_init_0 : decode M_Ne_init.2.1 0 = .ok (.aload_n 0, 1) := by decide +kernel
theorem d_Ne_init_1 : decode M_Ne_init.2.1 1 = .ok (.invokespecial 3, 3) := by decide +kernel
theorem d_Ne_init_4 : decode M_Ne_init.2.1 4 = .ok (.aload_n 0, 1) := by decide +kernel
theorem d_Ne_init_5 : decode M_Ne_init.2.1 5 = .ok (.bipush 6, 2) := by decide +kernel
theorem d_Ne_init_7 : decode M_Ne_init.2.1 7 = .ok (.bipush 6, 2) := by decide +kernel
theorem d_Ne_init_9 : decode M_Ne_init.2.1 9 = .ok (.multianewarray 9 2, 4) := by decide +kernel
theorem d_Ne_init_13 : decode M_Ne_init.2.1 13 = .ok (.putfield 11, 3) := by decide +kernel
theorem d_Ne_init_16 : decode M_Ne_init.2.1 16 = .ok (.aload_n 0, 1) := by decide +kernel
theorem d_Ne_init_17 : decode M_Ne_init.2.1 17 = .ok (.bipush 6, 2) := by decide +kernel
theorem d_Ne_init_19 : decode M_Ne_init.2.1 19 = .ok (.bipush 6, 2) := by decide +kernel
theorem d_Ne_init_21 : decode M_Ne_init.2.1 21 = .ok (.multianewarray 9 2, 4) := by decide +kernel
theorem d_Ne_init_25 : decode M_Ne_init.2.1 25 = .ok (.putfield 16, 3) := by decide +kernel
theorem d_Ne_init_28 : decode M_Ne_init.2.1 28 = .ok (.aload_n 0, 1) := by decide +kernel
theorem d_Ne_init_29 : decode M_Ne_init.2.1 29 = .ok (.bipush 6, 2) := by decide +kernel
theorem d_Ne_init_31 : decode M_Ne_init.2.1 31 = .ok (.bipush 6, 2) := by decide +kernel
theorem d_Ne_init_33 : decode M_Ne_init.2.1 33 = .ok (.multianewarray 9 2, 4) := by decide +kernel
theorem d_Ne_init_37 : decode M_Ne_init.2.1 37 = .ok (.putfield 19, 3) := by decide +kernel
theorem d_Ne_init_40 : decode M_Ne_init.2.1 40 = .ok (.aload_n 0, 1) := by decide +kernel
theorem d_Ne_init_41 : decode M_Ne_init.2.1 41 = .ok (.bipush 6, 2) := by decide +kernel
theorem d_Ne_init_43 : decode M_Ne_init.2.1 43 = .ok (.bipush 6, 2) := by decide +kernel
theorem d_Ne_init_45 : decode M_Ne_init.2.1 45 = .ok (.multianewarray 9 2, 4) := by decide +kernel
theorem d_Ne_init_49 : decode M_Ne_init.2.1 49 = .ok (.putfield 22, 3) := by decide +kernel
theorem d_Ne_init_52 : decode M_Ne_init.2.1 52 = .ok (.aload_n 0, 1) := by decide +kernel
theorem d_Ne_init_53 : decode M_Ne_init.2.1 53 = .ok (.invokevirtual 25, 3) := by decide +kernel
theorem d_Ne_init_56 : decode M_Ne_init.2.1 56 = .ok (.return_, 1) := by decide +kernel
theorem d_Ne_measure_0 : decode M_Ne_measure.2.1 0 = .ok (.aload_n 0, 1) := by decide +kernel
theorem d_Ne_measure_1 : decode M_Ne_measure.2.1 1 = .ok (.invokevirtual 28, 3) := by decide +kernel
theorem d_Ne_measure_4 : decode M_Ne_measure.2.1 4 = .ok (.iconst 0, 1) := by decide +kernel
theorem d_Ne_measure_5 : decode M_Ne_measure.2.1 5 = .ok (.istore_n 1, 1) := by decide +kernel
theorem d_Ne_measure_6 : decode M_Ne_measure.2.1 6 = .ok (.iload_n 1, 1) := by decide +kernel
theorem d_Ne_measure_7 : decode M_Ne_measure.2.1 7 = .ok (.bipush 6, 2) := by decide +kernel
theorem d_Ne_measure_9 : decode M_Ne_measure.2.1 9 = .ok (.if_icmp .ge 14, 3) := by decide +kernel
theorem d_Ne_measure_12 : decode M_Ne_measure.2.1 12 = .ok (.aload_n 0, 1) := by decide +kernel
theorem d_Ne_measure_13 : decode M_Ne_measure.2.1 13 = .ok (.iload_n 1, 1) := by decide +kernel
theorem d_Ne_measure_14 : decode M_Ne_measure.2.1 14 = .ok (.invokevirtual 31, 3) := by decide +kernel
theorem d_Ne_measure_17 : decode M_Ne_measure.2.1 17 = .ok (.iinc 1 1, 3) := by decide +kernel
theorem d_Ne_measure_20 : decode M_Ne_measure.2.1 20 = .ok (.goto (-14), 3) := by decide +kernel
theorem d_Ne_measure_23 : decode M_Ne_measure.2.1 23 = .ok (.iconst 0, 1) := by decide +kernel
theorem d_Ne_measure_24 : decode M_Ne_measure.2.1 24 = .ok (.istore_n 1, 1) := by decide +kernel
theorem d_Ne_measure_25 : decode M_Ne_measure.2.1 25 = .ok (.iload_n 1, 1) := by decide +kernel
theorem d_Ne_measure_26 : decode M_Ne_measure.2.1 26 = .ok (.bipush 6, 2) := by decide +kernel
theorem d_Ne_measure_28 : decode M_Ne_measure.2.1 28 = .ok (.if_icmp .ge 42, 3) := by decide +kernel
theorem d_Ne_measure_31 : decode M_Ne_measure.2.1 31 = .ok (.iconst 0, 1) := by decide +kernel
theorem d_Ne_measure_32 : decode M_Ne_measure.2.1 32 = .ok (.istore_n 2, 1) := by decide +kernel
theorem d_Ne_measure_33 : decode M_Ne_measure.2.1 33 = .ok (.iload_n 2, 1) := by decide +kernel
theorem d_Ne_measure_34 : decode M_Ne_measure.2.1 34 = .ok (.bipush 6, 2) := by decide +kernel
theorem d_Ne_measure_36 : decode M_Ne_measure.2.1 36 = .ok (.if_icmp .ge 23, 3) := by decide +kernel
theorem d_Ne_measure_39 : decode M_Ne_measure.2.1 39 = .ok (.aload_n 0, 1) := by decide +kernel
theorem d_Ne_measure_40 : decode M_Ne_measure.2.1 40 = .ok (.getfield 19, 3) := by decide +kernel
theorem d_Ne_measure_43 : decode M_Ne_measure.2.1 43 = .ok (.iload_n 2, 1) := by decide +kernel
theorem d_Ne_measure_44 : decode M_Ne_measure.2.1 44 = .ok (.aaload, 1) := by decide +kernel
theorem d_Ne_measure_45 : decode M_Ne_measure.2.1 45 = .ok (.iload_n 1, 1) := by decide +kernel
theorem d_Ne_measure_46 : decode M_Ne_measure.2.1 46 = .ok (.aload_n 0, 1) := by decide +kernel
theorem d_Ne_measure_47 : decode M_Ne_measure.2.1 47 = .ok (.iload_n 2, 1) := by decide +kernel
theorem d_Ne_measure_48 : decode M_Ne_measure.2.1 48 = .ok (.iload_n 1, 1) := by decide +kernel
theorem d_Ne_measure_49 : decode M_Ne_measure.2.1 49 = .ok (.invokevirtual 35, 3) := by decide +kernel
theorem d_Ne_measure_52 : decode M_Ne_measure.2.1 52 = .ok (.iastore, 1) := by decide +kernel
theorem d_Ne_measure_53 : decode M_Ne_measure.2.1 53 = .ok (.iinc 2 1, 3) := by decide +kernel
theorem d_Ne_measure_56 : decode M_Ne_measure.2.1 56 = .ok (.goto (-23), 3) := by decide +kernel
theorem d_Ne_measure_59 : decode M_Ne_measure.2.1 59 = .ok (.aload_n 0, 1) := by decide +kernel
theorem d_Ne_measure_60 : decode M_Ne_measure.2.1 60 = .ok (.iload_n 1, 1) := by decide +kernel
theorem d_Ne_measure_61 : decode M_Ne_measure.2.1 61 = .ok (.invokevirtual 39, 3) := by decide +kernel
theorem d_Ne_measure_64 : decode M_Ne_measure.2.1 64 = .ok (.iinc 1 1, 3) := by decide +kernel
theorem d_Ne_measure_67 : decode M_Ne_measure.2.1 67 = .ok (.goto (-42), 3) := by decide +kernel
theorem d_Ne_measure_70 : decode M_Ne_measure.2.1 70 = .ok (.return_, 1) := by decide +kernel
theorem d_Ne_startLengths_0 : decode M_Ne_startLengths.2.1 0 = .ok (.iconst 0, 1) := by decide +kernel
theorem d_Ne_startLengths_1 : decode M_Ne_startLengths.2.1 1 = .ok (.istore_n 1, 1) := by decide +kernel
theorem d_Ne_startLengths_2 : decode M_Ne_startLengths.2.1 2 = .ok (.iload_n 1, 1) := by decide +kernel
theorem d_Ne_startLengths_3 : decode M_Ne_startLengths.2.1 3 = .ok (.bipush 6, 2) := by decide +kernel
theorem d_Ne_startLengths_5 : decode M_Ne_startLengths.2.1 5 = .ok (.if_icmp .ge 63, 3) := by decide +kernel
theorem d_Ne_startLengths_8 : decode M_Ne_startLengths.2.1 8 = .ok (.iconst 0, 1) := by decide +kernel
theorem d_Ne_startLengths_9 : decode M_Ne_startLengths.2.1 9 = .ok (.istore_n 2, 1) := by decide +kernel
theorem d_Ne_startLengths_10 : decode M_Ne_startLengths.2.1 10 = .ok (.iload_n 2, 1) := by decide +kernel
theorem d_Ne_startLengths_11 : decode M_Ne_startLengths.2.1 11 = .ok (.bipush 6, 2) := by decide +kernel
theorem d_Ne_startLengths_13 : decode M_Ne_startLengths.2.1 13 = .ok (.if_icmp .ge 40, 3) := by decide +kernel
theorem d_Ne_startLengths_16 : decode M_Ne_startLengths.2.1 16 = .ok (.aload_n 0, 1) := by decide +kernel
theorem d_Ne_startLengths_17 : decode M_Ne_startLengths.2.1 17 = .ok (.getfield 16, 3) := by decide +kernel
theorem d_Ne_startLengths_20 : decode M_Ne_startLengths.2.1 20 = .ok (.iload_n 1, 1) := by decide +kernel
theorem d_Ne_startLengths_21 : decode M_Ne_startLengths.2.1 21 = .ok (.aaload, 1) := by decide +kernel
theorem d_Ne_startLengths_22 : decode M_Ne_startLengths.2.1 22 = .ok (.iload_n 2, 1) := by decide +kernel
theorem d_Ne_startLengths_23 : decode M_Ne_startLengths.2.1 23 = .ok (.aload_n 0, 1) := by decide +kernel
theorem d_Ne_startLengths_24 : decode M_Ne_startLengths.2.1 24 = .ok (.iload_n 1, 1) := by decide +kernel
theorem d_Ne_startLengths_25 : decode M_Ne_startLengths.2.1 25 = .ok (.iload_n 2, 1) := by decide +kernel
theorem d_Ne_startLengths_26 : decode M_Ne_startLengths.2.1 26 = .ok (.invokevirtual 42, 3) := by decide +kernel
theorem d_Ne_startLengths_29 : decode M_Ne_startLengths.2.1 29 = .ok (.ifCond .eq 14, 3) := by decide +kernel
theorem d_Ne_startLengths_32 : decode M_Ne_startLengths.2.1 32 = .ok (.aload_n 0, 1) := by decide +kernel
theorem d_Ne_startLengths_33 : decode M_Ne_startLengths.2.1 33 = .ok (.getfield 11, 3) := by decide +kernel
theorem d_Ne_startLengths_36 : decode M_Ne_startLengths.2.1 36 = .ok (.iload_n 1, 1) := by decide +kernel
theorem d_Ne_startLengths_37 : decode M_Ne_startLengths.2.1 37 = .ok (.aaload, 1) := by decide +kernel
theorem d_Ne_startLengths_38 : decode M_Ne_startLengths.2.1 38 = .ok (.iload_n 2, 1) := by decide +kernel
theorem d_Ne_startLengths_39 : decode M_Ne_startLengths.2.1 39 = .ok (.iaload, 1) := by decide +kernel
theorem d_Ne_startLengths_40 : decode M_Ne_startLengths.2.1 40 = .ok (.goto 6, 3) := by decide +kernel
theorem d_Ne_startLengths_43 : decode M_Ne_startLengths.2.1 43 = .ok (.sipush 1000, 3) := by decide +kernel
theorem d_Ne_startLengths_46 : decode M_Ne_startLengths.2.1 46 = .ok (.iastore, 1) := by decide +kernel
theorem d_Ne_startLengths_47 : decode M_Ne_startLengths.2.1 47 = .ok (.iinc 2 1, 3) := by decide +kernel
theorem d_Ne_startLengths_50 : decode M_Ne_startLengths.2.1 50 = .ok (.goto (-40), 3) := by decide +kernel
theorem d_Ne_startLengths_53 : decode M_Ne_startLengths.2.1 53 = .ok (.aload_n 0, 1) := by decide +kernel
theorem d_Ne_startLengths_54 : decode M_Ne_startLengths.2.1 54 = .ok (.getfield 16, 3) := by decide +kernel
theorem d_Ne_startLengths_57 : decode M_Ne_startLengths.2.1 57 = .ok (.iload_n 1, 1) := by decide +kernel
theorem d_Ne_startLengths_58 : decode M_Ne_startLengths.2.1 58 = .ok (.aaload, 1) := by decide +kernel
theorem d_Ne_startLengths_59 : decode M_Ne_startLengths.2.1 59 = .ok (.iload_n 1, 1) := by decide +kernel
theorem d_Ne_startLengths_60 : decode M_Ne_startLengths.2.1 60 = .ok (.iconst 0, 1) := by decide +kernel
theorem d_Ne_startLengths_61 : decode M_Ne_startLengths.2.1 61 = .ok (.iastore, 1) := by decide +kernel
theorem d_Ne_startLengths_62 : decode M_Ne_startLengths.2.1 62 = .ok (.iinc 1 1, 3) := by decide +kernel
theorem d_Ne_startLengths_65 : decode M_Ne_startLengths.2.1 65 = .ok (.goto (-63), 3) := by decide +kernel
theorem d_Ne_startLengths_68 : decode M_Ne_startLengths.2.1 68 = .ok (.return_, 1) := by decide +kernel
theorem d_Ne_areLinked_0 : decode M_Ne_areLinked.2.1 0 = .ok (.aload_n 0, 1) := by decide +kernel
theorem d_Ne_areLinked_1 : decode M_Ne_areLinked.2.1 1 = .ok (.getfield 11, 3) := by decide +kernel
theorem d_Ne_areLinked_4 : decode M_Ne_areLinked.2.1 4 = .ok (.iload_n 1, 1) := by decide +kernel
theorem d_Ne_areLinked_5 : decode M_Ne_areLinked.2.1 5 = .ok (.aaload, 1) := by decide +kernel
theorem d_Ne_areLinked_6 : decode M_Ne_areLinked.2.1 6 = .ok (.iload_n 2, 1) := by decide +kernel
theorem d_Ne_areLinked_7 : decode M_Ne_areLinked.2.1 7 = .ok (.iaload, 1) := by decide +kernel
theorem d_Ne_areLinked_8 : decode M_Ne_areLinked.2.1 8 = .ok (.ifCond .eq 7, 3) := by decide +kernel
theorem d_Ne_areLinked_11 : decode M_Ne_areLinked.2.1 11 = .ok (.iconst 1, 1) := by decide +kernel
theorem d_Ne_areLinked_12 : decode M_Ne_areLinked.2.1 12 = .ok (.goto 4, 3) := by decide +kernel
theorem d_Ne_areLinked_15 : decode M_Ne_areLinked.2.1 15 = .ok (.iconst 0, 1) := by decide +kernel
theorem d_Ne_areLinked_16 : decode M_Ne_areLinked.2.1 16 = .ok (.ireturn, 1) := by decide +kernel
theorem d_Ne_shortenBy_0 : decode M_Ne_shortenBy.2.1 0 = .ok (.iconst 0, 1) := by decide +kernel
theorem d_Ne_shortenBy_1 : decode M_Ne_shortenBy.2.1 1 = .ok (.istore_n 2, 1) := by decide +kernel
theorem d_Ne_shortenBy_2 : decode M_Ne_shortenBy.2.1 2 = .ok (.iload_n 2, 1) := by decide +kernel
theorem d_Ne_shortenBy_3 : decode M_Ne_shortenBy.2.1 3 = .ok (.bipush 6, 2) := by decide +kernel
theorem d_Ne_shortenBy_5 : decode M_Ne_shortenBy.2.1 5 = .ok (.if_icmp .ge 59, 3) := by decide +kernel
theorem d_Ne_shortenBy_8 : decode M_Ne_shortenBy.2.1 8 = .ok (.iconst 0, 1) := by decide +kernel
theorem d_Ne_shortenBy_9 : decode M_Ne_shortenBy.2.1 9 = .ok (.istore_n 3, 1) := by decide +kernel
theorem d_Ne_shortenBy_10 : decode M_Ne_shortenBy.2.1 10 = .ok (.iload_n 3, 1) := by decide +kernel
theorem d_Ne_shortenBy_11 : decode M_Ne_shortenBy.2.1 11 = .ok (.bipush 6, 2) := by decide +kernel
theorem d_Ne_shortenBy_13 : decode M_Ne_shortenBy.2.1 13 = .ok (.if_icmp .ge 45, 3) := by decide +kernel
theorem d_Ne_shortenBy_16 : decode M_Ne_shortenBy.2.1 16 = .ok (.aload_n 0, 1) := by decide +kernel
theorem d_Ne_shortenBy_17 : decode M_Ne_shortenBy.2.1 17 = .ok (.getfield 16, 3) := by decide +kernel
theorem d_Ne_shortenBy_20 : decode M_Ne_shortenBy.2.1 20 = .ok (.iload_n 2, 1) := by decide +kernel
theorem d_Ne_shortenBy_21 : decode M_Ne_shortenBy.2.1 21 = .ok (.aaload, 1) := by decide +kernel
theorem d_Ne_shortenBy_22 : decode M_Ne_shortenBy.2.1 22 = .ok (.iload_n 3, 1) := by decide +kernel
theorem d_Ne_shortenBy_23 : decode M_Ne_shortenBy.2.1 23 = .ok (.aload_n 0, 1) := by decide +kernel
theorem d_Ne_shortenBy_24 : decode M_Ne_shortenBy.2.1 24 = .ok (.getfield 16, 3) := by decide +kernel
theorem d_Ne_shortenBy_27 : decode M_Ne_shortenBy.2.1 27 = .ok (.iload_n 2, 1) := by decide +kernel
theorem d_Ne_shortenBy_28 : decode M_Ne_shortenBy.2.1 28 = .ok (.aaload, 1) := by decide +kernel
theorem d_Ne_shortenBy_29 : decode M_Ne_shortenBy.2.1 29 = .ok (.iload_n 3, 1) := by decide +kernel
theorem d_Ne_shortenBy_30 : decode M_Ne_shortenBy.2.1 30 = .ok (.iaload, 1) := by decide +kernel
theorem d_Ne_shortenBy_31 : decode M_Ne_shortenBy.2.1 31 = .ok (.aload_n 0, 1) := by decide +kernel
theorem d_Ne_shortenBy_32 : decode M_Ne_shortenBy.2.1 32 = .ok (.getfield 16, 3) := by decide +kernel
theorem d_Ne_shortenBy_35 : decode M_Ne_shortenBy.2.1 35 = .ok (.iload_n 2, 1) := by decide +kernel
theorem d_Ne_shortenBy_36 : decode M_Ne_shortenBy.2.1 36 = .ok (.aaload, 1) := by decide +kernel
theorem d_Ne_shortenBy_37 : decode M_Ne_shortenBy.2.1 37 = .ok (.iload_n 1, 1) := by decide +kernel
theorem d_Ne_shortenBy_38 : decode M_Ne_shortenBy.2.1 38 = .ok (.iaload, 1) := by decide +kernel
theorem d_Ne_shortenBy_39 : decode M_Ne_shortenBy.2.1 39 = .ok (.aload_n 0, 1) := by decide +kernel
theorem d_Ne_shortenBy_40 : decode M_Ne_shortenBy.2.1 40 = .ok (.getfield 16, 3) := by decide +kernel
theorem d_Ne_shortenBy_43 : decode M_Ne_shortenBy.2.1 43 = .ok (.iload_n 1, 1) := by decide +kernel
theorem d_Ne_shortenBy_44 : decode M_Ne_shortenBy.2.1 44 = .ok (.aaload, 1) := by decide +kernel
theorem d_Ne_shortenBy_45 : decode M_Ne_shortenBy.2.1 45 = .ok (.iload_n 3, 1) := by decide +kernel
theorem d_Ne_shortenBy_46 : decode M_Ne_shortenBy.2.1 46 = .ok (.iaload, 1) := by decide +kernel
theorem d_Ne_shortenBy_47 : decode M_Ne_shortenBy.2.1 47 = .ok (.iadd, 1) := by decide +kernel
theorem d_Ne_shortenBy_48 : decode M_Ne_shortenBy.2.1 48 = .ok (.invokestatic 46, 3) := by decide +kernel
theorem d_Ne_shortenBy_51 : decode M_Ne_shortenBy.2.1 51 = .ok (.iastore, 1) := by decide +kernel
theorem d_Ne_shortenBy_52 : decode M_Ne_shortenBy.2.1 52 = .ok (.iinc 3 1, 3) := by decide +kernel
theorem d_Ne_shortenBy_55 : decode M_Ne_shortenBy.2.1 55 = .ok (.goto (-45), 3) := by decide +kernel
theorem d_Ne_shortenBy_58 : decode M_Ne_shortenBy.2.1 58 = .ok (.iinc 2 1, 3) := by decide +kernel
theorem d_Ne_shortenBy_61 : decode M_Ne_shortenBy.2.1 61 = .ok (.goto (-59), 3) := by decide +kernel
theorem d_Ne_shortenBy_64 : decode M_Ne_shortenBy.2.1 64 = .ok (.return_, 1) := by decide +kernel
theorem d_JM_min_0 : decode M_JM_min.2.1 0 = .ok (.iload_n 0, 1) := by decide +kernel
theorem d_JM_min_1 : decode M_JM_min.2.1 1 = .ok (.iload_n 1, 1) := by decide +kernel
theorem d_JM_min_2 : decode M_JM_min.2.1 2 = .ok (.if_icmp .gt 7, 3) := by decide +kernel
theorem d_JM_min_5 : decode M_JM_min.2.1 5 = .ok (.iload_n 0, 1) := by decide +kernel
theorem d_JM_min_6 : decode M_JM_min.2.1 6 = .ok (.goto 4, 3) := by decide +kernel
theorem d_JM_min_9 : decode M_JM_min.2.1 9 = .ok (.iload_n 1, 1) := by decide +kernel
theorem d_JM_min_10 : decode M_JM_min.2.1 10 = .ok (.ireturn, 1) := by decide +kernel
theorem d_Ne_findNext_0 : decode M_Ne_findNext.2.1 0 = .ok (.iload_n 1, 1) := by decide +kernel
theorem d_Ne_findNext_1 : decode M_Ne_findNext.2.1 1 = .ok (.iload_n 2, 1) := by decide +kernel
theorem d_Ne_findNext_2 : decode M_Ne_findNext.2.1 2 = .ok (.if_icmp .eq 12, 3) := by decide +kernel
theorem d_Ne_findNext_5 : decode M_Ne_findNext.2.1 5 = .ok (.aload_n 0, 1) := by decide +kernel
theorem d_Ne_findNext_6 : decode M_Ne_findNext.2.1 6 = .ok (.iload_n 1, 1) := by decide +kernel
theorem d_Ne_findNext_7 : decode M_Ne_findNext.2.1 7 = .ok (.iload_n 2, 1) := by decide +kernel
theorem d_Ne_findNext_8 : decode M_Ne_findNext.2.1 8 = .ok (.invokevirtual 51, 3) := by decide +kernel
theorem d_Ne_findNext_11 : decode M_Ne_findNext.2.1 11 = .ok (.ifCond .ne 5, 3) := by decide +kernel
theorem d_Ne_findNext_14 : decode M_Ne_findNext.2.1 14 = .ok (.iconst (-1), 1) := by decide +kernel
theorem d_Ne_findNext_15 : decode M_Ne_findNext.2.1 15 = .ok (.ireturn, 1) := by decide +kernel
theorem d_Ne_findNext_16 : decode M_Ne_findNext.2.1 16 = .ok (.iconst 0, 1) := by decide +kernel
theorem d_Ne_findNext_17 : decode M_Ne_findNext.2.1 17 = .ok (.istore_n 3, 1) := by decide +kernel
theorem d_Ne_findNext_18 : decode M_Ne_findNext.2.1 18 = .ok (.iload_n 3, 1) := by decide +kernel
theorem d_Ne_findNext_19 : decode M_Ne_findNext.2.1 19 = .ok (.bipush 6, 2) := by decide +kernel
theorem d_Ne_findNext_21 : decode M_Ne_findNext.2.1 21 = .ok (.if_icmp .ge 48, 3) := by decide +kernel
theorem d_Ne_findNext_24 : decode M_Ne_findNext.2.1 24 = .ok (.aload_n 0, 1) := by decide +kernel
theorem d_Ne_findNext_25 : decode M_Ne_findNext.2.1 25 = .ok (.iload_n 1, 1) := by decide +kernel
theorem d_Ne_findNext_26 : decode M_Ne_findNext.2.1 26 = .ok (.iload_n 3, 1) := by decide +kernel
theorem d_Ne_findNext_27 : decode M_Ne_findNext.2.1 27 = .ok (.invokevirtual 42, 3) := by decide +kernel
theorem d_Ne_findNext_30 : decode M_Ne_findNext.2.1 30 = .ok (.ifCond .eq 33, 3) := by decide +kernel
theorem d_Ne_findNext_33 : decode M_Ne_findNext.2.1 33 = .ok (.aload_n 0, 1) := by decide +kernel
theorem d_Ne_findNext_34 : decode M_Ne_findNext.2.1 34 = .ok (.getfield 11, 3) := by decide +kernel
theorem d_Ne_findNext_37 : decode M_Ne_findNext.2.1 37 = .ok (.iload_n 1, 1) := by decide +kernel
theorem d_Ne_findNext_38 : decode M_Ne_findNext.2.1 38 = .ok (.aaload, 1) := by decide +kernel
theorem d_Ne_findNext_39 : decode M_Ne_findNext.2.1 39 = .ok (.iload_n 3, 1) := by decide +kernel
theorem d_Ne_findNext_40 : decode M_Ne_findNext.2.1 40 = .ok (.iaload, 1) := by decide +kernel
theorem d_Ne_findNext_41 : decode M_Ne_findNext.2.1 41 = .ok (.aload_n 0, 1) := by decide +kernel
theorem d_Ne_findNext_42 : decode M_Ne_findNext.2.1 42 = .ok (.getfield 16, 3) := by decide +kernel
theorem d_Ne_findNext_45 : decode M_Ne_findNext.2.1 45 = .ok (.iload_n 3, 1) := by decide +kernel
theorem d_Ne_findNext_46 : decode M_Ne_findNext.2.1 46 = .ok (.aaload, 1) := by decide +kernel
theorem d_Ne_findNext_47 : decode M_Ne_findNext.2.1 47 = .ok (.iload_n 2, 1) := by decide +kernel
theorem d_Ne_findNext_48 : decode M_Ne_findNext.2.1 48 = .ok (.iaload, 1) := by decide +kernel
theorem d_Ne_findNext_49 : decode M_Ne_findNext.2.1 49 = .ok (.iadd, 1) := by decide +kernel
theorem d_Ne_findNext_50 : decode M_Ne_findNext.2.1 50 = .ok (.aload_n 0, 1) := by decide +kernel
theorem d_Ne_findNext_51 : decode M_Ne_findNext.2.1 51 = .ok (.getfield 16, 3) := by decide +kernel
theorem d_Ne_findNext_54 : decode M_Ne_findNext.2.1 54 = .ok (.iload_n 1, 1) := by decide +kernel
theorem d_Ne_findNext_55 : decode M_Ne_findNext.2.1 55 = .ok (.aaload, 1) := by decide +kernel
theorem d_Ne_findNext_56 : decode M_Ne_findNext.2.1 56 = .ok (.iload_n 2, 1) := by decide +kernel
theorem d_Ne_findNext_57 : decode M_Ne_findNext.2.1 57 = .ok (.iaload, 1) := by decide +kernel
theorem d_Ne_findNext_58 : decode M_Ne_findNext.2.1 58 = .ok (.if_icmp .ne 5, 3) := by decide +kernel
theorem d_Ne_findNext_61 : decode M_Ne_findNext.2.1 61 = .ok (.iload_n 3, 1) := by decide +kernel
theorem d_Ne_findNext_62 : decode M_Ne_findNext.2.1 62 = .ok (.ireturn, 1) := by decide +kernel
theorem d_Ne_findNext_63 : decode M_Ne_findNext.2.1 63 = .ok (.iinc 3 1, 3) := by decide +kernel
theorem d_Ne_findNext_66 : decode M_Ne_findNext.2.1 66 = .ok (.goto (-48), 3) := by decide +kernel
theorem d_Ne_findNext_69 : decode M_Ne_findNext.2.1 69 = .ok (.iconst (-1), 1) := by decide +kernel
theorem d_Ne_findNext_70 : decode M_Ne_findNext.2.1 70 = .ok (.ireturn, 1) := by decide +kernel
theorem d_Ne_areConnected_0 : decode M_Ne_areConnected.2.1 0 = .ok (.aload_n 0, 1) := by decide +kernel
theorem d_Ne_areConnected_1 : decode M_Ne_areConnected.2.1 1 = .ok (.getfield 16, 3) := by decide +kernel
theorem d_Ne_areConnected_4 : decode M_Ne_areConnected.2.1 4 = .ok (.iload_n 1, 1) := by decide +kernel
theorem d_Ne_areConnected_5 : decode M_Ne_areConnected.2.1 5 = .ok (.aaload, 1) := by decide +kernel
theorem d_Ne_areConnected_6 : decode M_Ne_areConnected.2.1 6 = .ok (.iload_n 2, 1) := by decide +kernel
theorem d_Ne_areConnected_7 : decode M_Ne_areConnected.2.1 7 = .ok (.iaload, 1) := by decide +kernel
theorem d_Ne_areConnected_8 : decode M_Ne_areConnected.2.1 8 = .ok (.sipush 1000, 3) := by decide +kernel
theorem d_Ne_areConnected_11 : decode M_Ne_areConnected.2.1 11 = .ok (.if_icmp .ge 7, 3) := by decide +kernel
theorem d_Ne_areConnected_14 : decode M_Ne_areConnected.2.1 14 = .ok (.iconst 1, 1) := by decide +kernel
theorem d_Ne_areConnected_15 : decode M_Ne_areConnected.2.1 15 = .ok (.goto 4, 3) := by decide +kernel
theorem d_Ne_areConnected_18 : decode M_Ne_areConnected.2.1 18 = .ok (.iconst 0, 1) := by decide +kernel
theorem d_Ne_areConnected_19 : decode M_Ne_areConnected.2.1 19 = .ok (.ireturn, 1) := by decide +kernel
theorem d_Ne_orderTowards_0 : decode M_Ne_orderTowards.2.1 0 = .ok (.aload_n 0, 1) := by decide +kernel
theorem d_Ne_orderTowards_1 : decode M_Ne_orderTowards.2.1 1 = .ok (.getfield 22, 3) := by decide +kernel
theorem d_Ne_orderTowards_4 : decode M_Ne_orderTowards.2.1 4 = .ok (.iload_n 1, 1) := by decide +kernel
theorem d_Ne_orderTowards_5 : decode M_Ne_orderTowards.2.1 5 = .ok (.aaload, 1) := by decide +kernel
theorem d_Ne_orderTowards_6 : decode M_Ne_orderTowards.2.1 6 = .ok (.astore_n 2, 1) := by decide +kernel
theorem d_Ne_orderTowards_7 : decode M_Ne_orderTowards.2.1 7 = .ok (.iconst 0, 1) := by decide +kernel
theorem d_Ne_orderTowards_8 : decode M_Ne_orderTowards.2.1 8 = .ok (.istore_n 3, 1) := by decide +kernel
theorem d_Ne_orderTowards_9 : decode M_Ne_orderTowards.2.1 9 = .ok (.iload_n 3, 1) := by decide +kernel
theorem d_Ne_orderTowards_10 : decode M_Ne_orderTowards.2.1 10 = .ok (.bipush 6, 2) := by decide +kernel
theorem d_Ne_orderTowards_12 : decode M_Ne_orderTowards.2.1 12 = .ok (.if_icmp .ge 62, 3) := by decide +kernel
theorem d_Ne_orderTowards_15 : decode M_Ne_orderTowards.2.1 15 = .ok (.iload_n 3, 1) := by decide +kernel
theorem d_Ne_orderTowards_16 : decode M_Ne_orderTowards.2.1 16 = .ok (.istore 4, 2) := by decide +kernel
theorem d_Ne_orderTowards_18 : decode M_Ne_orderTowards.2.1 18 = .ok (.iload 4, 2) := by decide +kernel
theorem d_Ne_orderTowards_20 : decode M_Ne_orderTowards.2.1 20 = .ok (.ifCond .le 43, 3) := by decide +kernel
theorem d_Ne_orderTowards_23 : decode M_Ne_orderTowards.2.1 23 = .ok (.aload_n 0, 1) := by decide +kernel
theorem d_Ne_orderTowards_24 : decode M_Ne_orderTowards.2.1 24 = .ok (.getfield 16, 3) := by decide +kernel
theorem d_Ne_orderTowards_27 : decode M_Ne_orderTowards.2.1 27 = .ok (.aload_n 2, 1) := by decide +kernel
theorem d_Ne_orderTowards_28 : decode M_Ne_orderTowards.2.1 28 = .ok (.iload 4, 2) := by decide +kernel
theorem d_Ne_orderTowards_30 : decode M_Ne_orderTowards.2.1 30 = .ok (.iconst 1, 1) := by decide +kernel
theorem d_Ne_orderTowards_31 : decode M_Ne_orderTowards.2.1 31 = .ok (.isub, 1) := by decide +kernel
theorem d_Ne_orderTowards_32 : decode M_Ne_orderTowards.2.1 32 = .ok (.iaload, 1) := by decide +kernel
theorem d_Ne_orderTowards_33 : decode M_Ne_orderTowards.2.1 33 = .ok (.aaload, 1) := by decide +kernel
theorem d_Ne_orderTowards_34 : decode M_Ne_orderTowards.2.1 34 = .ok (.iload_n 1, 1) := by decide +kernel
theorem d_Ne_orderTowards_35 : decode M_Ne_orderTowards.2.1 35 = .ok (.iaload, 1) := by decide +kernel
theorem d_Ne_orderTowards_36 : decode M_Ne_orderTowards.2.1 36 = .ok (.aload_n 0, 1) := by decide +kernel
theorem d_Ne_orderTowards_37 : decode M_Ne_orderTowards.2.1 37 = .ok (.getfield 16, 3) := by decide +kernel
theorem d_Ne_orderTowards_40 : decode M_Ne_orderTowards.2.1 40 = .ok (.iload_n 3, 1) := by decide +kernel
theorem d_Ne_orderTowards_41 : decode M_Ne_orderTowards.2.1 41 = .ok (.aaload, 1) := by decide +kernel
theorem d_Ne_orderTowards_42 : decode M_Ne_orderTowards.2.1 42 = .ok (.iload_n 1, 1) := by decide +kernel
theorem d_Ne_orderTowards_43 : decode M_Ne_orderTowards.2.1 43 = .ok (.iaload, 1) := by decide +kernel
theorem d_Ne_orderTowards_44 : decode M_Ne_orderTowards.2.1 44 = .ok (.if_icmp .ge 19, 3) := by decide +kernel
theorem d_Ne_orderTowards_47 : decode M_Ne_orderTowards.2.1 47 = .ok (.aload_n 2, 1) := by decide +kernel
theorem d_Ne_orderTowards_48 : decode M_Ne_orderTowards.2.1 48 = .ok (.iload 4, 2) := by decide +kernel
theorem d_Ne_orderTowards_50 : decode M_Ne_orderTowards.2.1 50 = .ok (.aload_n 2, 1) := by decide +kernel
theorem d_Ne_orderTowards_51 : decode M_Ne_orderTowards.2.1 51 = .ok (.iload 4, 2) := by decide +kernel
theorem d_Ne_orderTowards_53 : decode M_Ne_orderTowards.2.1 53 = .ok (.iconst 1, 1) := by decide +kernel
theorem d_Ne_orderTowards_54 : decode M_Ne_orderTowards.2.1 54 = .ok (.isub, 1) := by decide +kernel
theorem d_Ne_orderTowards_55 : decode M_Ne_orderTowards.2.1 55 = .ok (.iaload, 1) := by decide +kernel
theorem d_Ne_orderTowards_56 : decode M_Ne_orderTowards.2.1 56 = .ok (.iastore, 1) := by decide +kernel
theorem d_Ne_orderTowards_57 : decode M_Ne_orderTowards.2.1 57 = .ok (.iinc 4 (-1), 3) := by decide +kernel
theorem d_Ne_orderTowards_60 : decode M_Ne_orderTowards.2.1 60 = .ok (.goto (-42), 3) := by decide +kernel
theorem d_Ne_orderTowards_63 : decode M_Ne_orderTowards.2.1 63 = .ok (.aload_n 2, 1) := by decide +kernel
theorem d_Ne_orderTowards_64 : decode M_Ne_orderTowards.2.1 64 = .ok (.iload 4, 2) := by decide +kernel
theorem d_Ne_orderTowards_66 : decode M_Ne_orderTowards.2.1 66 = .ok (.iload_n 3, 1) := by decide +kernel
theorem d_Ne_orderTowards_67 : decode M_Ne_orderTowards.2.1 67 = .ok (.iastore, 1) := by decide +kernel
theorem d_Ne_orderTowards_68 : decode M_Ne_orderTowards.2.1 68 = .ok (.iinc 3 1, 3) := by decide +kernel
theorem d_Ne_orderTowards_71 : decode M_Ne_orderTowards.2.1 71 = .ok (.goto (-62), 3) := by decide +kernel
theorem d_Ne_orderTowards_74 : decode M_Ne_orderTowards.2.1 74 = .ok (.return_, 1) := by decide +kernel
theorem d_La_init_0 : decode M_La_init.2.1 0 = .ok (.aload_n 0, 1) := by decide +kernel
theorem d_La_init_1 : decode M_La_init.2.1 1 = .ok (.invokespecial 3, 3) := by decide +kernel
theorem d_La_init_4 : decode M_La_init.2.1 4 = .ok (.aload_n 0, 1) := by decide +kernel
theorem d_La_init_5 : decode M_La_init.2.1 5 = .ok (.bipush 6, 2) := by decide +kernel
theorem d_La_init_7 : decode M_La_init.2.1 7 = .ok (.iconst 3, 1) := by decide +kernel
theorem d_La_init_8 : decode M_La_init.2.1 8 = .ok (.multianewarray 9 2, 4) := by decide +kernel
theorem d_La_init_12 : decode M_La_init.2.1 12 = .ok (.putfield 11, 3) := by decide +kernel
theorem d_La_init_15 : decode M_La_init.2.1 15 = .ok (.aload_n 0, 1) := by decide +kernel
theorem d_La_init_16 : decode M_La_init.2.1 16 = .ok (.bipush 6, 2) := by decide +kernel
theorem d_La_init_18 : decode M_La_init.2.1 18 = .ok (.iconst 3, 1) := by decide +kernel
theorem d_La_init_19 : decode M_La_init.2.1 19 = .ok (.multianewarray 9 2, 4) := by decide +kernel
theorem d_La_init_23 : decode M_La_init.2.1 23 = .ok (.putfield 16, 3) := by decide +kernel
theorem d_La_init_26 : decode M_La_init.2.1 26 = .ok (.aload_n 0, 1) := by decide +kernel
theorem d_La_init_27 : decode M_La_init.2.1 27 = .ok (.bipush 6, 2) := by decide +kernel
theorem d_La_init_29 : decode M_La_init.2.1 29 = .ok (.iconst 3, 1) := by decide +kernel
theorem d_La_init_30 : decode M_La_init.2.1 30 = .ok (.multianewarray 9 2, 4) := by decide +kernel
theorem d_La_init_34 : decode M_La_init.2.1 34 = .ok (.putfield 19, 3) := by decide +kernel
theorem d_La_init_37 : decode M_La_init.2.1 37 = .ok (.aload_n 0, 1) := by decide +kernel
theorem d_La_init_38 : decode M_La_init.2.1 38 = .ok (.bipush 6, 2) := by decide +kernel
theorem d_La_init_40 : decode M_La_init.2.1 40 = .ok (.newarray .int, 2) := by decide +kernel
theorem d_La_init_42 : decode M_La_init.2.1 42 = .ok (.putfield 22, 3) := by decide +kernel
theorem d_La_init_45 : decode M_La_init.2.1 45 = .ok (.aload_n 0, 1) := by decide +kernel
theorem d_La_init_46 : decode M_La_init.2.1 46 = .ok (.aload_n 1, 1) := by decide +kernel
theorem d_La_init_47 : decode M_La_init.2.1 47 = .ok (.putfield 26, 3) := by decide +kernel
theorem d_La_init_50 : decode M_La_init.2.1 50 = .ok (.iconst 0, 1) := by decide +kernel
theorem d_La_init_51 : decode M_La_init.2.1 51 = .ok (.istore_n 2, 1) := by decide +kernel
theorem d_La_init_52 : decode M_La_init.2.1 52 = .ok (.iload_n 2, 1) := by decide +kernel
theorem d_La_init_53 : decode M_La_init.2.1 53 = .ok (.bipush 6, 2) := by decide +kernel
theorem d_La_init_55 : decode M_La_init.2.1 55 = .ok (.if_icmp .ge 19, 3) := by decide +kernel
theorem d_La_init_58 : decode M_La_init.2.1 58 = .ok (.aload_n 0, 1) := by decide +kernel
theorem d_La_init_59 : decode M_La_init.2.1 59 = .ok (.getfield 19, 3) := by decide +kernel
theorem d_La_init_62 : decode M_La_init.2.1 62 = .ok (.iload_n 2, 1) := by decide +kernel
theorem d_La_init_63 : decode M_La_init.2.1 63 = .ok (.aaload, 1) := by decide +kernel
theorem d_La_init_64 : decode M_La_init.2.1 64 = .ok (.iconst (-1), 1) := by decide +kernel
theorem d_La_init_65 : decode M_La_init.2.1 65 = .ok (.invokestatic 30, 3) := by decide +kernel
theorem d_La_init_68 : decode M_La_init.2.1 68 = .ok (.iinc 2 1, 3) := by decide +kernel
theorem d_La_init_71 : decode M_La_init.2.1 71 = .ok (.goto (-19), 3) := by decide +kernel
theorem d_La_init_74 : decode M_La_init.2.1 74 = .ok (.return_, 1) := by decide +kernel
theorem d_JA_fill_0 : decode M_JA_fill.2.1 0 = .ok (.iconst 0, 1) := by decide +kernel
theorem d_JA_fill_1 : decode M_JA_fill.2.1 1 = .ok (.istore_n 2, 1) := by decide +kernel
theorem d_JA_fill_2 : decode M_JA_fill.2.1 2 = .ok (.aload_n 0, 1) := by decide +kernel
theorem d_JA_fill_3 : decode M_JA_fill.2.1 3 = .ok (.arraylength, 1) := by decide +kernel
theorem d_JA_fill_4 : decode M_JA_fill.2.1 4 = .ok (.istore_n 3, 1) := by decide +kernel
theorem d_JA_fill_5 : decode M_JA_fill.2.1 5 = .ok (.iload_n 2, 1) := by decide +kernel
theorem d_JA_fill_6 : decode M_JA_fill.2.1 6 = .ok (.iload_n 3, 1) := by decide +kernel
theorem d_JA_fill_7 : decode M_JA_fill.2.1 7 = .ok (.if_icmp .ge 13, 3) := by decide +kernel
theorem d_JA_fill_10 : decode M_JA_fill.2.1 10 = .ok (.aload_n 0, 1) := by decide +kernel
theorem d_JA_fill_11 : decode M_JA_fill.2.1 11 = .ok (.iload_n 2, 1) := by decide +kernel
theorem d_JA_fill_12 : decode M_JA_fill.2.1 12 = .ok (.iload_n 1, 1) := by decide +kernel
theorem d_JA_fill_13 : decode M_JA_fill.2.1 13 = .ok (.iastore, 1) := by decide +kernel
theorem d_JA_fill_14 : decode M_JA_fill.2.1 14 = .ok (.iinc 2 1, 3) := by decide +kernel
theorem d_JA_fill_17 : decode M_JA_fill.2.1 17 = .ok (.goto (-12), 3) := by decide +kernel
theorem d_JA_fill_20 : decode M_JA_fill.2.1 20 = .ok (.return_, 1) := by decide +kernel
theorem d_Sm_init_0 : decode M_Sm_init.2.1 0 = .ok (.aload_n 0, 1) := by decide +kernel
theorem d_Sm_init_1 : decode M_Sm_init.2.1 1 = .ok (.invokespecial 3, 3) := by decide +kernel
theorem d_Sm_init_4 : decode M_Sm_init.2.1 4 = .ok (.aload_n 0, 1) := by decide +kernel
theorem d_Sm_init_5 : decode M_Sm_init.2.1 5 = .ok (.bipush 18, 2) := by decide +kernel
theorem d_Sm_init_7 : decode M_Sm_init.2.1 7 = .ok (.bipush 6, 2) := by decide +kernel
theorem d_Sm_init_9 : decode M_Sm_init.2.1 9 = .ok (.multianewarray 9 2, 4) := by decide +kernel
theorem d_Sm_init_13 : decode M_Sm_init.2.1 13 = .ok (.putfield 11, 3) := by decide +kernel
theorem d_Sm_init_16 : decode M_Sm_init.2.1 16 = .ok (.aload_n 0, 1) := by decide +kernel
theorem d_Sm_init_17 : decode M_Sm_init.2.1 17 = .ok (.bipush 18, 2) := by decide +kernel
theorem d_Sm_init_19 : decode M_Sm_init.2.1 19 = .ok (.newarray .int, 2) := by decide +kernel
theorem d_Sm_init_21 : decode M_Sm_init.2.1 21 = .ok (.putfield 16, 3) := by decide +kernel
theorem d_Sm_init_24 : decode M_Sm_init.2.1 24 = .ok (.aload_n 0, 1) := by decide +kernel
theorem d_Sm_init_25 : decode M_Sm_init.2.1 25 = .ok (.bipush 18, 2) := by decide +kernel
theorem d_Sm_init_27 : decode M_Sm_init.2.1 27 = .ok (.newarray .int, 2) := by decide +kernel
theorem d_Sm_init_29 : decode M_Sm_init.2.1 29 = .ok (.putfield 20, 3) := by decide +kernel
theorem d_Sm_init_32 : decode M_Sm_init.2.1 32 = .ok (.aload_n 0, 1) := by decide +kernel
theorem d_Sm_init_33 : decode M_Sm_init.2.1 33 = .ok (.aload_n 1, 1) := by decide +kernel
theorem d_Sm_init_34 : decode M_Sm_init.2.1 34 = .ok (.putfield 23, 3) := by decide +kernel
theorem d_Sm_init_37 : decode M_Sm_init.2.1 37 = .ok (.return_, 1) := by decide +kernel
theorem d_Ne_costOf_0 : decode M_Ne_costOf.2.1 0 = .ok (.aload_n 0, 1) := by decide +kernel
theorem d_Ne_costOf_1 : decode M_Ne_costOf.2.1 1 = .ok (.getfield 11, 3) := by decide +kernel
theorem d_Ne_costOf_4 : decode M_Ne_costOf.2.1 4 = .ok (.iload_n 1, 1) := by decide +kernel
theorem d_Ne_costOf_5 : decode M_Ne_costOf.2.1 5 = .ok (.aaload, 1) := by decide +kernel
theorem d_Ne_costOf_6 : decode M_Ne_costOf.2.1 6 = .ok (.iload_n 2, 1) := by decide +kernel
theorem d_Ne_costOf_7 : decode M_Ne_costOf.2.1 7 = .ok (.iaload, 1) := by decide +kernel
theorem d_Ne_costOf_8 : decode M_Ne_costOf.2.1 8 = .ok (.ireturn, 1) := by decide +kernel
theorem d_Ne_setCost_0 : decode M_Ne_setCost.2.1 0 = .ok (.aload_n 0, 1) := by decide +kernel
theorem d_Ne_setCost_1 : decode M_Ne_setCost.2.1 1 = .ok (.getfield 11, 3) := by decide +kernel
theorem d_Ne_setCost_4 : decode M_Ne_setCost.2.1 4 = .ok (.iload_n 1, 1) := by decide +kernel
theorem d_Ne_setCost_5 : decode M_Ne_setCost.2.1 5 = .ok (.aaload, 1) := by decide +kernel
theorem d_Ne_setCost_6 : decode M_Ne_setCost.2.1 6 = .ok (.iload_n 2, 1) := by decide +kernel
theorem d_Ne_setCost_7 : decode M_Ne_setCost.2.1 7 = .ok (.iload_n 3, 1) := by decide +kernel
theorem d_Ne_setCost_8 : decode M_Ne_setCost.2.1 8 = .ok (.iastore, 1) := by decide +kernel
theorem d_Ne_setCost_9 : decode M_Ne_setCost.2.1 9 = .ok (.aload_n 0, 1) := by decide +kernel
theorem d_Ne_setCost_10 : decode M_Ne_setCost.2.1 10 = .ok (.getfield 11, 3) := by decide +kernel
theorem d_Ne_setCost_13 : decode M_Ne_setCost.2.1 13 = .ok (.iload_n 2, 1) := by decide +kernel
theorem d_Ne_setCost_14 : decode M_Ne_setCost.2.1 14 = .ok (.aaload, 1) := by decide +kernel
theorem d_Ne_setCost_15 : decode M_Ne_setCost.2.1 15 = .ok (.iload_n 1, 1) := by decide +kernel
theorem d_Ne_setCost_16 : decode M_Ne_setCost.2.1 16 = .ok (.iload_n 3, 1) := by decide +kernel
theorem d_Ne_setCost_17 : decode M_Ne_setCost.2.1 17 = .ok (.iastore, 1) := by decide +kernel
theorem d_Ne_setCost_18 : decode M_Ne_setCost.2.1 18 = .ok (.aload_n 0, 1) := by decide +kernel
theorem d_Ne_setCost_19 : decode M_Ne_setCost.2.1 19 = .ok (.invokevirtual 25, 3) := by decide +kernel
theorem d_Ne_setCost_22 : decode M_Ne_setCost.2.1 22 = .ok (.return_, 1) := by decide +kernel
theorem d_Ne_fromFarthest_0 : decode M_Ne_fromFarthest.2.1 0 = .ok (.aload_n 0, 1) := by decide +kernel
theorem d_Ne_fromFarthest_1 : decode M_Ne_fromFarthest.2.1 1 = .ok (.getfield 22, 3) := by decide +kernel
theorem d_Ne_fromFarthest_4 : decode M_Ne_fromFarthest.2.1 4 = .ok (.iload_n 1, 1) := by decide +kernel
theorem d_Ne_fromFarthest_5 : decode M_Ne_fromFarthest.2.1 5 = .ok (.aaload, 1) := by decide +kernel
theorem d_Ne_fromFarthest_6 : decode M_Ne_fromFarthest.2.1 6 = .ok (.iload_n 2, 1) := by decide +kernel
theorem d_Ne_fromFarthest_7 : decode M_Ne_fromFarthest.2.1 7 = .ok (.iaload, 1) := by decide +kernel
theorem d_Ne_fromFarthest_8 : decode M_Ne_fromFarthest.2.1 8 = .ok (.ireturn, 1) := by decide +kernel
theorem d_La_isMarked_0 : decode M_La_isMarked.2.1 0 = .ok (.aload_n 0, 1) := by decide +kernel
theorem d_La_isMarked_1 : decode M_La_isMarked.2.1 1 = .ok (.getfield 26, 3) := by decide +kernel
theorem d_La_isMarked_4 : decode M_La_isMarked.2.1 4 = .ok (.invokevirtual 40, 3) := by decide +kernel
theorem d_La_isMarked_7 : decode M_La_isMarked.2.1 7 = .ok (.aload_n 0, 1) := by decide +kernel
theorem d_La_isMarked_8 : decode M_La_isMarked.2.1 8 = .ok (.getfield 16, 3) := by decide +kernel
theorem d_La_isMarked_11 : decode M_La_isMarked.2.1 11 = .ok (.iload_n 1, 1) := by decide +kernel
theorem d_La_isMarked_12 : decode M_La_isMarked.2.1 12 = .ok (.aaload, 1) := by decide +kernel
theorem d_La_isMarked_13 : decode M_La_isMarked.2.1 13 = .ok (.iload_n 2, 1) := by decide +kernel
theorem d_La_isMarked_14 : decode M_La_isMarked.2.1 14 = .ok (.iaload, 1) := by decide +kernel
theorem d_La_isMarked_15 : decode M_La_isMarked.2.1 15 = .ok (.if_icmp .ge 7, 3) := by decide +kernel
theorem d_La_isMarked_18 : decode M_La_isMarked.2.1 18 = .ok (.iconst 1, 1) := by decide +kernel
theorem d_La_isMarked_19 : decode M_La_isMarked.2.1 19 = .ok (.goto 4, 3) := by decide +kernel
theorem d_La_isMarked_22 : decode M_La_isMarked.2.1 22 = .ok (.iconst 0, 1) := by decide +kernel
theorem d_La_isMarked_23 : decode M_La_isMarked.2.1 23 = .ok (.ireturn, 1) := by decide +kernel
theorem d_Ck_time_0 : decode M_Ck_time.2.1 0 = .ok (.aload_n 0, 1) := by decide +kernel
theorem d_Ck_time_1 : decode M_Ck_time.2.1 1 = .ok (.getfield 7, 3) := by decide +kernel
theorem d_Ck_time_4 : decode M_Ck_time.2.1 4 = .ok (.ireturn, 1) := by decide +kernel
theorem d_Ne_nextTowards_0 : decode M_Ne_nextTowards.2.1 0 = .ok (.aload_n 0, 1) := by decide +kernel
theorem d_Ne_nextTowards_1 : decode M_Ne_nextTowards.2.1 1 = .ok (.getfield 19, 3) := by decide +kernel
theorem d_Ne_nextTowards_4 : decode M_Ne_nextTowards.2.1 4 = .ok (.iload_n 1, 1) := by decide +kernel
theorem d_Ne_nextTowards_5 : decode M_Ne_nextTowards.2.1 5 = .ok (.aaload, 1) := by decide +kernel
theorem d_Ne_nextTowards_6 : decode M_Ne_nextTowards.2.1 6 = .ok (.iload_n 2, 1) := by decide +kernel
theorem d_Ne_nextTowards_7 : decode M_Ne_nextTowards.2.1 7 = .ok (.iaload, 1) := by decide +kernel
theorem d_Ne_nextTowards_8 : decode M_Ne_nextTowards.2.1 8 = .ok (.ireturn, 1) := by decide +kernel
theorem d_Ta_count_0 : decode M_Ta_count.2.1 0 = .ok (.aload_n 0, 1) := by decide +kernel
theorem d_Ta_count_1 : decode M_Ta_count.2.1 1 = .ok (.getfield 9, 3) := by decide +kernel
theorem d_Ta_count_4 : decode M_Ta_count.2.1 4 = .ok (.iload_n 1, 1) := by decide +kernel
theorem d_Ta_count_5 : decode M_Ta_count.2.1 5 = .ok (.dup2, 1) := by decide +kernel
theorem d_Ta_count_6 : decode M_Ta_count.2.1 6 = .ok (.iaload, 1) := by decide +kernel
theorem d_Ta_count_7 : decode M_Ta_count.2.1 7 = .ok (.iconst 1, 1) := by decide +kernel
theorem d_Ta_count_8 : decode M_Ta_count.2.1 8 = .ok (.iadd, 1) := by decide +kernel
theorem d_Ta_count_9 : decode M_Ta_count.2.1 9 = .ok (.iastore, 1) := by decide +kernel
theorem d_Ta_count_10 : decode M_Ta_count.2.1 10 = .ok (.return_, 1) := by decide +kernel
theorem d_Sm_isSwitched_0 : decode M_Sm_isSwitched.2.1 0 = .ok (.aload_n 0, 1) := by decide +kernel
theorem d_Sm_isSwitched_1 : decode M_Sm_isSwitched.2.1 1 = .ok (.getfield 16, 3) := by decide +kernel
theorem d_Sm_isSwitched_4 : decode M_Sm_isSwitched.2.1 4 = .ok (.iload_n 1, 1) := by decide +kernel
theorem d_Sm_isSwitched_5 : decode M_Sm_isSwitched.2.1 5 = .ok (.iaload, 1) := by decide +kernel
theorem d_Sm_isSwitched_6 : decode M_Sm_isSwitched.2.1 6 = .ok (.iload_n 2, 1) := by decide +kernel
theorem d_Sm_isSwitched_7 : decode M_Sm_isSwitched.2.1 7 = .ok (.invokestatic 33, 3) := by decide +kernel
theorem d_Sm_isSwitched_10 : decode M_Sm_isSwitched.2.1 10 = .ok (.ireturn, 1) := by decide +kernel
theorem d_Sm_isAlive_0 : decode M_Sm_isAlive.2.1 0 = .ok (.aload_n 0, 1) := by decide +kernel
theorem d_Sm_isAlive_1 : decode M_Sm_isAlive.2.1 1 = .ok (.getfield 23, 3) := by decide +kernel
theorem d_Sm_isAlive_4 : decode M_Sm_isAlive.2.1 4 = .ok (.invokevirtual 27, 3) := by decide +kernel
theorem d_Sm_isAlive_7 : decode M_Sm_isAlive.2.1 7 = .ok (.aload_n 0, 1) := by decide +kernel
theorem d_Sm_isAlive_8 : decode M_Sm_isAlive.2.1 8 = .ok (.getfield 11, 3) := by decide +kernel
theorem d_Sm_isAlive_11 : decode M_Sm_isAlive.2.1 11 = .ok (.iload_n 1, 1) := by decide +kernel
theorem d_Sm_isAlive_12 : decode M_Sm_isAlive.2.1 12 = .ok (.aaload, 1) := by decide +kernel
theorem d_Sm_isAlive_13 : decode M_Sm_isAlive.2.1 13 = .ok (.iload_n 2, 1) := by decide +kernel
theorem d_Sm_isAlive_14 : decode M_Sm_isAlive.2.1 14 = .ok (.iaload, 1) := by decide +kernel
theorem d_Sm_isAlive_15 : decode M_Sm_isAlive.2.1 15 = .ok (.if_icmp .ge 7, 3) := by decide +kernel
theorem d_Sm_isAlive_18 : decode M_Sm_isAlive.2.1 18 = .ok (.iconst 1, 1) := by decide +kernel
theorem d_Sm_isAlive_19 : decode M_Sm_isAlive.2.1 19 = .ok (.goto 4, 3) := by decide +kernel
theorem d_Sm_isAlive_22 : decode M_Sm_isAlive.2.1 22 = .ok (.iconst 0, 1) := by decide +kernel
theorem d_Sm_isAlive_23 : decode M_Sm_isAlive.2.1 23 = .ok (.ireturn, 1) := by decide +kernel
theorem d_Ne_lengthOf_0 : decode M_Ne_lengthOf.2.1 0 = .ok (.aload_n 0, 1) := by decide +kernel
theorem d_Ne_lengthOf_1 : decode M_Ne_lengthOf.2.1 1 = .ok (.getfield 16, 3) := by decide +kernel
theorem d_Ne_lengthOf_4 : decode M_Ne_lengthOf.2.1 4 = .ok (.iload_n 1, 1) := by decide +kernel
theorem d_Ne_lengthOf_5 : decode M_Ne_lengthOf.2.1 5 = .ok (.aaload, 1) := by decide +kernel
theorem d_Ne_lengthOf_6 : decode M_Ne_lengthOf.2.1 6 = .ok (.iload_n 2, 1) := by decide +kernel
theorem d_Ne_lengthOf_7 : decode M_Ne_lengthOf.2.1 7 = .ok (.iaload, 1) := by decide +kernel
theorem d_Ne_lengthOf_8 : decode M_Ne_lengthOf.2.1 8 = .ok (.ireturn, 1) := by decide +kernel
theorem d_La_isMember_0 : decode M_La_isMember.2.1 0 = .ok (.aload_n 0, 1) := by decide +kernel
theorem d_La_isMember_1 : decode M_La_isMember.2.1 1 = .ok (.getfield 11, 3) := by decide +kernel
theorem d_La_isMember_4 : decode M_La_isMember.2.1 4 = .ok (.iload_n 1, 1) := by decide +kernel
theorem d_La_isMember_5 : decode M_La_isMember.2.1 5 = .ok (.aaload, 1) := by decide +kernel
theorem d_La_isMember_6 : decode M_La_isMember.2.1 6 = .ok (.iload_n 3, 1) := by decide +kernel
theorem d_La_isMember_7 : decode M_La_isMember.2.1 7 = .ok (.iaload, 1) := by decide +kernel
theorem d_La_isMember_8 : decode M_La_isMember.2.1 8 = .ok (.iload_n 2, 1) := by decide +kernel
theorem d_La_isMember_9 : decode M_La_isMember.2.1 9 = .ok (.invokestatic 36, 3) := by decide +kernel
theorem d_La_isMember_12 : decode M_La_isMember.2.1 12 = .ok (.ireturn, 1) := by decide +kernel
theorem d_La_admit_0 : decode M_La_admit.2.1 0 = .ok (.aload_n 0, 1) := by decide +kernel
theorem d_La_admit_1 : decode M_La_admit.2.1 1 = .ok (.getfield 11, 3) := by decide +kernel
theorem d_La_admit_4 : decode M_La_admit.2.1 4 = .ok (.iload_n 1, 1) := by decide +kernel
theorem d_La_admit_5 : decode M_La_admit.2.1 5 = .ok (.aaload, 1) := by decide +kernel
theorem d_La_admit_6 : decode M_La_admit.2.1 6 = .ok (.iload_n 3, 1) := by decide +kernel
theorem d_La_admit_7 : decode M_La_admit.2.1 7 = .ok (.dup2, 1) := by decide +kernel
theorem d_La_admit_8 : decode M_La_admit.2.1 8 = .ok (.iaload, 1) := by decide +kernel
theorem d_La_admit_9 : decode M_La_admit.2.1 9 = .ok (.iconst 1, 1) := by decide +kernel
theorem d_La_admit_10 : decode M_La_admit.2.1 10 = .ok (.iload_n 2, 1) := by decide +kernel
theorem d_La_admit_11 : decode M_La_admit.2.1 11 = .ok (.ishl, 1) := by decide +kernel
theorem d_La_admit_12 : decode M_La_admit.2.1 12 = .ok (.ior, 1) := by decide +kernel
theorem d_La_admit_13 : decode M_La_admit.2.1 13 = .ok (.iastore, 1) := by decide +kernel
theorem d_La_admit_14 : decode M_La_admit.2.1 14 = .ok (.aload_n 0, 1) := by decide +kernel
theorem d_La_admit_15 : decode M_La_admit.2.1 15 = .ok (.iload_n 1, 1) := by decide +kernel
theorem d_La_admit_16 : decode M_La_admit.2.1 16 = .ok (.iload_n 2, 1) := by decide +kernel
theorem d_La_admit_17 : decode M_La_admit.2.1 17 = .ok (.iload_n 3, 1) := by decide +kernel
theorem d_La_admit_18 : decode M_La_admit.2.1 18 = .ok (.invokevirtual 49, 3) := by decide +kernel
theorem d_La_admit_21 : decode M_La_admit.2.1 21 = .ok (.return_, 1) := by decide +kernel
theorem d_La_report_0 : decode M_La_report.2.1 0 = .ok (.aload_n 0, 1) := by decide +kernel
theorem d_La_report_1 : decode M_La_report.2.1 1 = .ok (.getfield 16, 3) := by decide +kernel
theorem d_La_report_4 : decode M_La_report.2.1 4 = .ok (.iload_n 1, 1) := by decide +kernel
theorem d_La_report_5 : decode M_La_report.2.1 5 = .ok (.aaload, 1) := by decide +kernel
theorem d_La_report_6 : decode M_La_report.2.1 6 = .ok (.iload_n 3, 1) := by decide +kernel
theorem d_La_report_7 : decode M_La_report.2.1 7 = .ok (.aload_n 0, 1) := by decide +kernel
theorem d_La_report_8 : decode M_La_report.2.1 8 = .ok (.getfield 26, 3) := by decide +kernel
theorem d_La_report_11 : decode M_La_report.2.1 11 = .ok (.invokevirtual 40, 3) := by decide +kernel
theorem d_La_report_14 : decode M_La_report.2.1 14 = .ok (.bipush 12, 2) := by decide +kernel
theorem d_La_report_16 : decode M_La_report.2.1 16 = .ok (.iadd, 1) := by decide +kernel
theorem d_La_report_17 : decode M_La_report.2.1 17 = .ok (.iastore, 1) := by decide +kernel
theorem d_La_report_18 : decode M_La_report.2.1 18 = .ok (.aload_n 0, 1) := by decide +kernel
theorem d_La_report_19 : decode M_La_report.2.1 19 = .ok (.getfield 19, 3) := by decide +kernel
theorem d_La_report_22 : decode M_La_report.2.1 22 = .ok (.iload_n 1, 1) := by decide +kernel
theorem d_La_report_23 : decode M_La_report.2.1 23 = .ok (.aaload, 1) := by decide +kernel
theorem d_La_report_24 : decode M_La_report.2.1 24 = .ok (.iload_n 3, 1) := by decide +kernel
theorem d_La_report_25 : decode M_La_report.2.1 25 = .ok (.iload_n 2, 1) := by decide +kernel
theorem d_La_report_26 : decode M_La_report.2.1 26 = .ok (.iastore, 1) := by decide +kernel
theorem d_La_report_27 : decode M_La_report.2.1 27 = .ok (.return_, 1) := by decide +kernel
theorem d_La_dismiss_0 : decode M_La_dismiss.2.1 0 = .ok (.aload_n 0, 1) := by decide +kernel
theorem d_La_dismiss_1 : decode M_La_dismiss.2.1 1 = .ok (.getfield 11, 3) := by decide +kernel
theorem d_La_dismiss_4 : decode M_La_dismiss.2.1 4 = .ok (.iload_n 1, 1) := by decide +kernel
theorem d_La_dismiss_5 : decode M_La_dismiss.2.1 5 = .ok (.aaload, 1) := by decide +kernel
theorem d_La_dismiss_6 : decode M_La_dismiss.2.1 6 = .ok (.iload_n 3, 1) := by decide +kernel
theorem d_La_dismiss_7 : decode M_La_dismiss.2.1 7 = .ok (.dup2, 1) := by decide +kernel
theorem d_La_dismiss_8 : decode M_La_dismiss.2.1 8 = .ok (.iaload, 1) := by decide +kernel
theorem d_La_dismiss_9 : decode M_La_dismiss.2.1 9 = .ok (.iconst 1, 1) := by decide +kernel
theorem d_La_dismiss_10 : decode M_La_dismiss.2.1 10 = .ok (.iload_n 2, 1) := by decide +kernel
theorem d_La_dismiss_11 : decode M_La_dismiss.2.1 11 = .ok (.ishl, 1) := by decide +kernel
theorem d_La_dismiss_12 : decode M_La_dismiss.2.1 12 = .ok (.iconst (-1), 1) := by decide +kernel
theorem d_La_dismiss_13 : decode M_La_dismiss.2.1 13 = .ok (.ixor, 1) := by decide +kernel
theorem d_La_dismiss_14 : decode M_La_dismiss.2.1 14 = .ok (.iand, 1) := by decide +kernel
theorem d_La_dismiss_15 : decode M_La_dismiss.2.1 15 = .ok (.iastore, 1) := by decide +kernel
theorem d_La_dismiss_16 : decode M_La_dismiss.2.1 16 = .ok (.iload 4, 2) := by decide +kernel
theorem d_La_dismiss_18 : decode M_La_dismiss.2.1 18 = .ok (.ifCond .eq 15, 3) := by decide +kernel
theorem d_La_dismiss_21 : decode M_La_dismiss.2.1 21 = .ok (.aload_n 0, 1) := by decide +kernel
theorem d_La_dismiss_22 : decode M_La_dismiss.2.1 22 = .ok (.getfield 19, 3) := by decide +kernel
theorem d_La_dismiss_25 : decode M_La_dismiss.2.1 25 = .ok (.iload_n 1, 1) := by decide +kernel
theorem d_La_dismiss_26 : decode M_La_dismiss.2.1 26 = .ok (.aaload, 1) := by decide +kernel
theorem d_La_dismiss_27 : decode M_La_dismiss.2.1 27 = .ok (.iload_n 3, 1) := by decide +kernel
theorem d_La_dismiss_28 : decode M_La_dismiss.2.1 28 = .ok (.iaload, 1) := by decide +kernel
theorem d_La_dismiss_29 : decode M_La_dismiss.2.1 29 = .ok (.iload_n 2, 1) := by decide +kernel
theorem d_La_dismiss_30 : decode M_La_dismiss.2.1 30 = .ok (.if_icmp .eq 4, 3) := by decide +kernel
theorem d_La_dismiss_33 : decode M_La_dismiss.2.1 33 = .ok (.return_, 1) := by decide +kernel
theorem d_La_dismiss_34 : decode M_La_dismiss.2.1 34 = .ok (.aload_n 0, 1) := by decide +kernel
theorem d_La_dismiss_35 : decode M_La_dismiss.2.1 35 = .ok (.iload_n 1, 1) := by decide +kernel
theorem d_La_dismiss_36 : decode M_La_dismiss.2.1 36 = .ok (.iload_n 3, 1) := by decide +kernel
theorem d_La_dismiss_37 : decode M_La_dismiss.2.1 37 = .ok (.invokevirtual 53, 3) := by decide +kernel
theorem d_La_dismiss_40 : decode M_La_dismiss.2.1 40 = .ok (.ifCond .eq 12, 3) := by decide +kernel
theorem d_La_dismiss_43 : decode M_La_dismiss.2.1 43 = .ok (.aload_n 0, 1) := by decide +kernel
theorem d_La_dismiss_44 : decode M_La_dismiss.2.1 44 = .ok (.iload_n 1, 1) := by decide +kernel
theorem d_La_dismiss_45 : decode M_La_dismiss.2.1 45 = .ok (.iload_n 3, 1) := by decide +kernel
theorem d_La_dismiss_46 : decode M_La_dismiss.2.1 46 = .ok (.invokevirtual 56, 3) := by decide +kernel
theorem d_La_dismiss_49 : decode M_La_dismiss.2.1 49 = .ok (.goto 40, 3) := by decide +kernel
theorem d_La_dismiss_52 : decode M_La_dismiss.2.1 52 = .ok (.aload_n 0, 1) := by decide +kernel
theorem d_La_dismiss_53 : decode M_La_dismiss.2.1 53 = .ok (.getfield 19, 3) := by decide +kernel
theorem d_La_dismiss_56 : decode M_La_dismiss.2.1 56 = .ok (.iload_n 1, 1) := by decide +kernel
theorem d_La_dismiss_57 : decode M_La_dismiss.2.1 57 = .ok (.aaload, 1) := by decide +kernel
theorem d_La_dismiss_58 : decode M_La_dismiss.2.1 58 = .ok (.iload_n 3, 1) := by decide +kernel
theorem d_La_dismiss_59 : decode M_La_dismiss.2.1 59 = .ok (.iconst (-1), 1) := by decide +kernel
theorem d_La_dismiss_60 : decode M_La_dismiss.2.1 60 = .ok (.iastore, 1) := by decide +kernel
theorem d_La_dismiss_61 : decode M_La_dismiss.2.1 61 = .ok (.aload_n 0, 1) := by decide +kernel
theorem d_La_dismiss_62 : decode M_La_dismiss.2.1 62 = .ok (.getfield 16, 3) := by decide +kernel
theorem d_La_dismiss_65 : decode M_La_dismiss.2.1 65 = .ok (.iload_n 1, 1) := by decide +kernel
theorem d_La_dismiss_66 : decode M_La_dismiss.2.1 66 = .ok (.aaload, 1) := by decide +kernel
theorem d_La_dismiss_67 : decode M_La_dismiss.2.1 67 = .ok (.iload_n 3, 1) := by decide +kernel
theorem d_La_dismiss_68 : decode M_La_dismiss.2.1 68 = .ok (.aload_n 0, 1) := by decide +kernel
theorem d_La_dismiss_69 : decode M_La_dismiss.2.1 69 = .ok (.getfield 16, 3) := by decide +kernel
theorem d_La_dismiss_72 : decode M_La_dismiss.2.1 72 = .ok (.iload_n 1, 1) := by decide +kernel
theorem d_La_dismiss_73 : decode M_La_dismiss.2.1 73 = .ok (.aaload, 1) := by decide +kernel
theorem d_La_dismiss_74 : decode M_La_dismiss.2.1 74 = .ok (.iload_n 3, 1) := by decide +kernel
theorem d_La_dismiss_75 : decode M_La_dismiss.2.1 75 = .ok (.iaload, 1) := by decide +kernel
theorem d_La_dismiss_76 : decode M_La_dismiss.2.1 76 = .ok (.aload_n 0, 1) := by decide +kernel
theorem d_La_dismiss_77 : decode M_La_dismiss.2.1 77 = .ok (.getfield 26, 3) := by decide +kernel
theorem d_La_dismiss_80 : decode M_La_dismiss.2.1 80 = .ok (.invokevirtual 40, 3) := by decide +kernel
theorem d_La_dismiss_83 : decode M_La_dismiss.2.1 83 = .ok (.iconst 2, 1) := by decide +kernel
theorem d_La_dismiss_84 : decode M_La_dismiss.2.1 84 = .ok (.iadd, 1) := by decide +kernel
theorem d_La_dismiss_85 : decode M_La_dismiss.2.1 85 = .ok (.invokestatic 60, 3) := by decide +kernel
theorem d_La_dismiss_88 : decode M_La_dismiss.2.1 88 = .ok (.iastore, 1) := by decide +kernel
theorem d_La_dismiss_89 : decode M_La_dismiss.2.1 89 = .ok (.return_, 1) := by decide +kernel
theorem d_La_hasMembers_0 : decode M_La_hasMembers.2.1 0 = .ok (.aload_n 0, 1) := by decide +kernel
theorem d_La_hasMembers_1 : decode M_La_hasMembers.2.1 1 = .ok (.getfield 11, 3) := by decide +kernel
theorem d_La_hasMembers_4 : decode M_La_hasMembers.2.1 4 = .ok (.iload_n 1, 1) := by decide +kernel
theorem d_La_hasMembers_5 : decode M_La_hasMembers.2.1 5 = .ok (.aaload, 1) := by decide +kernel
theorem d_La_hasMembers_6 : decode M_La_hasMembers.2.1 6 = .ok (.iload_n 2, 1) := by decide +kernel
theorem d_La_hasMembers_7 : decode M_La_hasMembers.2.1 7 = .ok (.iaload, 1) := by decide +kernel
theorem d_La_hasMembers_8 : decode M_La_hasMembers.2.1 8 = .ok (.ifCond .eq 7, 3) := by decide +kernel
theorem d_La_hasMembers_11 : decode M_La_hasMembers.2.1 11 = .ok (.iconst 1, 1) := by decide +kernel
theorem d_La_hasMembers_12 : decode M_La_hasMembers.2.1 12 = .ok (.goto 4, 3) := by decide +kernel
theorem d_La_hasMembers_15 : decode M_La_hasMembers.2.1 15 = .ok (.iconst 0, 1) := by decide +kernel
theorem d_La_hasMembers_16 : decode M_La_hasMembers.2.1 16 = .ok (.ireturn, 1) := by decide +kernel
theorem d_La_reportLowest_0 : decode M_La_reportLowest.2.1 0 = .ok (.iconst 0, 1) := by decide +kernel
theorem d_La_reportLowest_1 : decode M_La_reportLowest.2.1 1 = .ok (.istore_n 3, 1) := by decide +kernel
theorem d_La_reportLowest_2 : decode M_La_reportLowest.2.1 2 = .ok (.iload_n 3, 1) := by decide +kernel
theorem d_La_reportLowest_3 : decode M_La_reportLowest.2.1 3 = .ok (.iconst 4, 1) := by decide +kernel
theorem d_La_reportLowest_4 : decode M_La_reportLowest.2.1 4 = .ok (.if_icmp .ge 27, 3) := by decide +kernel
theorem d_La_reportLowest_7 : decode M_La_reportLowest.2.1 7 = .ok (.aload_n 0, 1) := by decide +kernel
theorem d_La_reportLowest_8 : decode M_La_reportLowest.2.1 8 = .ok (.iload_n 1, 1) := by decide +kernel
theorem d_La_reportLowest_9 : decode M_La_reportLowest.2.1 9 = .ok (.iload_n 3, 1) := by decide +kernel
theorem d_La_reportLowest_10 : decode M_La_reportLowest.2.1 10 = .ok (.iload_n 2, 1) := by decide +kernel
theorem d_La_reportLowest_11 : decode M_La_reportLowest.2.1 11 = .ok (.invokevirtual 66, 3) := by decide +kernel
theorem d_La_reportLowest_14 : decode M_La_reportLowest.2.1 14 = .ok (.ifCond .eq 11, 3) := by decide +kernel
theorem d_La_reportLowest_17 : decode M_La_reportLowest.2.1 17 = .ok (.aload_n 0, 1) := by decide +kernel
theorem d_La_reportLowest_18 : decode M_La_reportLowest.2.1 18 = .ok (.iload_n 1, 1) := by decide +kernel
theorem d_La_reportLowest_19 : decode M_La_reportLowest.2.1 19 = .ok (.iload_n 3, 1) := by decide +kernel
theorem d_La_reportLowest_20 : decode M_La_reportLowest.2.1 20 = .ok (.iload_n 2, 1) := by decide +kernel
theorem d_La_reportLowest_21 : decode M_La_reportLowest.2.1 21 = .ok (.invokevirtual 49, 3) := by decide +kernel
theorem d_La_reportLowest_24 : decode M_La_reportLowest.2.1 24 = .ok (.return_, 1) := by decide +kernel
theorem d_La_reportLowest_25 : decode M_La_reportLowest.2.1 25 = .ok (.iinc 3 1, 3) := by decide +kernel
theorem d_La_reportLowest_28 : decode M_La_reportLowest.2.1 28 = .ok (.goto (-26), 3) := by decide +kernel
theorem d_La_reportLowest_31 : decode M_La_reportLowest.2.1 31 = .ok (.return_, 1) := by decide +kernel
theorem d_La_ticksLeft_0 : decode M_La_ticksLeft.2.1 0 = .ok (.aload_n 0, 1) := by decide +kernel
theorem d_La_ticksLeft_1 : decode M_La_ticksLeft.2.1 1 = .ok (.iload_n 1, 1) := by decide +kernel
theorem d_La_ticksLeft_2 : decode M_La_ticksLeft.2.1 2 = .ok (.iload_n 2, 1) := by decide +kernel
theorem d_La_ticksLeft_3 : decode M_La_ticksLeft.2.1 3 = .ok (.invokevirtual 46, 3) := by decide +kernel
theorem d_La_ticksLeft_6 : decode M_La_ticksLeft.2.1 6 = .ok (.ifCond .eq 22, 3) := by decide +kernel
theorem d_La_ticksLeft_9 : decode M_La_ticksLeft.2.1 9 = .ok (.aload_n 0, 1) := by decide +kernel
theorem d_La_ticksLeft_10 : decode M_La_ticksLeft.2.1 10 = .ok (.getfield 16, 3) := by decide +kernel
theorem d_La_ticksLeft_13 : decode M_La_ticksLeft.2.1 13 = .ok (.iload_n 1, 1) := by decide +kernel
theorem d_La_ticksLeft_14 : decode M_La_ticksLeft.2.1 14 = .ok (.aaload, 1) := by decide +kernel
theorem d_La_ticksLeft_15 : decode M_La_ticksLeft.2.1 15 = .ok (.iload_n 2, 1) := by decide +kernel
theorem d_La_ticksLeft_16 : decode M_La_ticksLeft.2.1 16 = .ok (.iaload, 1) := by decide +kernel
theorem d_La_ticksLeft_17 : decode M_La_ticksLeft.2.1 17 = .ok (.aload_n 0, 1) := by decide +kernel
theorem d_La_ticksLeft_18 : decode M_La_ticksLeft.2.1 18 = .ok (.getfield 26, 3) := by decide +kernel
theorem d_La_ticksLeft_21 : decode M_La_ticksLeft.2.1 21 = .ok (.invokevirtual 40, 3) := by decide +kernel
theorem d_La_ticksLeft_24 : decode M_La_ticksLeft.2.1 24 = .ok (.isub, 1) := by decide +kernel
theorem d_La_ticksLeft_25 : decode M_La_ticksLeft.2.1 25 = .ok (.goto 4, 3) := by decide +kernel
theorem d_La_ticksLeft_28 : decode M_La_ticksLeft.2.1 28 = .ok (.iconst 0, 1) := by decide +kernel
theorem d_La_ticksLeft_29 : decode M_La_ticksLeft.2.1 29 = .ok (.ireturn, 1) := by decide +kernel
theorem d_Ck_tick_0 : decode M_Ck_tick.2.1 0 = .ok (.aload_n 0, 1) := by decide +kernel
theorem d_Ck_tick_1 : decode M_Ck_tick.2.1 1 = .ok (.dup, 1) := by decide +kernel
theorem d_Ck_tick_2 : decode M_Ck_tick.2.1 2 = .ok (.getfield 7, 3) := by decide +kernel
theorem d_Ck_tick_5 : decode M_Ck_tick.2.1 5 = .ok (.iconst 1, 1) := by decide +kernel
theorem d_Ck_tick_6 : decode M_Ck_tick.2.1 6 = .ok (.iadd, 1) := by decide +kernel
theorem d_Ck_tick_7 : decode M_Ck_tick.2.1 7 = .ok (.putfield 7, 3) := by decide +kernel
theorem d_Ck_tick_10 : decode M_Ck_tick.2.1 10 = .ok (.return_, 1) := by decide +kernel
theorem d_Sm_endStale_0 : decode M_Sm_endStale.2.1 0 = .ok (.iconst 0, 1) := by decide +kernel
theorem d_Sm_endStale_1 : decode M_Sm_endStale.2.1 1 = .ok (.istore_n 1, 1) := by decide +kernel
theorem d_Sm_endStale_2 : decode M_Sm_endStale.2.1 2 = .ok (.iload_n 1, 1) := by decide +kernel
theorem d_Sm_endStale_3 : decode M_Sm_endStale.2.1 3 = .ok (.bipush 18, 2) := by decide +kernel
theorem d_Sm_endStale_5 : decode M_Sm_endStale.2.1 5 = .ok (.if_icmp .ge 46, 3) := by decide +kernel
theorem d_Sm_endStale_8 : decode M_Sm_endStale.2.1 8 = .ok (.iconst 0, 1) := by decide +kernel
theorem d_Sm_endStale_9 : decode M_Sm_endStale.2.1 9 = .ok (.istore_n 2, 1) := by decide +kernel
theorem d_Sm_endStale_10 : decode M_Sm_endStale.2.1 10 = .ok (.iload_n 2, 1) := by decide +kernel
theorem d_Sm_endStale_11 : decode M_Sm_endStale.2.1 11 = .ok (.bipush 6, 2) := by decide +kernel
theorem d_Sm_endStale_13 : decode M_Sm_endStale.2.1 13 = .ok (.if_icmp .ge 32, 3) := by decide +kernel
theorem d_Sm_endStale_16 : decode M_Sm_endStale.2.1 16 = .ok (.aload_n 0, 1) := by decide +kernel
theorem d_Sm_endStale_17 : decode M_Sm_endStale.2.1 17 = .ok (.iload_n 1, 1) := by decide +kernel
theorem d_Sm_endStale_18 : decode M_Sm_endStale.2.1 18 = .ok (.iload_n 2, 1) := by decide +kernel
theorem d_Sm_endStale_19 : decode M_Sm_endStale.2.1 19 = .ok (.invokevirtual 41, 3) := by decide +kernel
theorem d_Sm_endStale_22 : decode M_Sm_endStale.2.1 22 = .ok (.ifCond .ne 17, 3) := by decide +kernel
theorem d_Sm_endStale_25 : decode M_Sm_endStale.2.1 25 = .ok (.aload_n 0, 1) := by decide +kernel
theorem d_Sm_endStale_26 : decode M_Sm_endStale.2.1 26 = .ok (.getfield 16, 3) := by decide +kernel
theorem d_Sm_endStale_29 : decode M_Sm_endStale.2.1 29 = .ok (.iload_n 1, 1) := by decide +kernel
theorem d_Sm_endStale_30 : decode M_Sm_endStale.2.1 30 = .ok (.dup2, 1) := by decide +kernel
theorem d_Sm_endStale_31 : decode M_Sm_endStale.2.1 31 = .ok (.iaload, 1) := by decide +kernel
theorem d_Sm_endStale_32 : decode M_Sm_endStale.2.1 32 = .ok (.iconst 1, 1) := by decide +kernel
theorem d_Sm_endStale_33 : decode M_Sm_endStale.2.1 33 = .ok (.iload_n 2, 1) := by decide +kernel
theorem d_Sm_endStale_34 : decode M_Sm_endStale.2.1 34 = .ok (.ishl, 1) := by decide +kernel
theorem d_Sm_endStale_35 : decode M_Sm_endStale.2.1 35 = .ok (.iconst (-1), 1) := by decide +kernel
theorem d_Sm_endStale_36 : decode M_Sm_endStale.2.1 36 = .ok (.ixor, 1) := by decide +kernel
theorem d_Sm_endStale_37 : decode M_Sm_endStale.2.1 37 = .ok (.iand, 1) := by decide +kernel
theorem d_Sm_endStale_38 : decode M_Sm_endStale.2.1 38 = .ok (.iastore, 1) := by decide +kernel
theorem d_Sm_endStale_39 : decode M_Sm_endStale.2.1 39 = .ok (.iinc 2 1, 3) := by decide +kernel
theorem d_Sm_endStale_42 : decode M_Sm_endStale.2.1 42 = .ok (.goto (-32), 3) := by decide +kernel
theorem d_Sm_endStale_45 : decode M_Sm_endStale.2.1 45 = .ok (.iinc 1 1, 3) := by decide +kernel
theorem d_Sm_endStale_48 : decode M_Sm_endStale.2.1 48 = .ok (.goto (-46), 3) := by decide +kernel
theorem d_Sm_endStale_51 : decode M_Sm_endStale.2.1 51 = .ok (.return_, 1) := by decide +kernel
theorem d_Ck_isReportTime_0 : decode M_Ck_isReportTime.2.1 0 = .ok (.aload_n 0, 1) := by decide +kernel
theorem d_Ck_isReportTime_1 : decode M_Ck_isReportTime.2.1 1 = .ok (.getfield 7, 3) := by decide +kernel
theorem d_Ck_isReportTime_4 : decode M_Ck_isReportTime.2.1 4 = .ok (.iconst 5, 1) := by decide +kernel
theorem d_Ck_isReportTime_5 : decode M_Ck_isReportTime.2.1 5 = .ok (.irem, 1) := by decide +kernel
theorem d_Ck_isReportTime_6 : decode M_Ck_isReportTime.2.1 6 = .ok (.ifCond .ne 7, 3) := by decide +kernel
theorem d_Ck_isReportTime_9 : decode M_Ck_isReportTime.2.1 9 = .ok (.iconst 1, 1) := by decide +kernel
theorem d_Ck_isReportTime_10 : decode M_Ck_isReportTime.2.1 10 = .ok (.goto 4, 3) := by decide +kernel
theorem d_Ck_isReportTime_13 : decode M_Ck_isReportTime.2.1 13 = .ok (.iconst 0, 1) := by decide +kernel
theorem d_Ck_isReportTime_14 : decode M_Ck_isReportTime.2.1 14 = .ok (.ireturn, 1) := by decide +kernel
theorem d_La_reportAll_0 : decode M_La_reportAll.2.1 0 = .ok (.iconst 0, 1) := by decide +kernel
theorem d_La_reportAll_1 : decode M_La_reportAll.2.1 1 = .ok (.istore_n 1, 1) := by decide +kernel
theorem d_La_reportAll_2 : decode M_La_reportAll.2.1 2 = .ok (.iload_n 1, 1) := by decide +kernel
theorem d_La_reportAll_3 : decode M_La_reportAll.2.1 3 = .ok (.bipush 6, 2) := by decide +kernel
theorem d_La_reportAll_5 : decode M_La_reportAll.2.1 5 = .ok (.if_icmp .ge 28, 3) := by decide +kernel
theorem d_La_reportAll_8 : decode M_La_reportAll.2.1 8 = .ok (.iconst 0, 1) := by decide +kernel
theorem d_La_reportAll_9 : decode M_La_reportAll.2.1 9 = .ok (.istore_n 2, 1) := by decide +kernel
theorem d_La_reportAll_10 : decode M_La_reportAll.2.1 10 = .ok (.iload_n 2, 1) := by decide +kernel
theorem d_La_reportAll_11 : decode M_La_reportAll.2.1 11 = .ok (.iconst 3, 1) := by decide +kernel
theorem d_La_reportAll_12 : decode M_La_reportAll.2.1 12 = .ok (.if_icmp .ge 15, 3) := by decide +kernel
theorem d_La_reportAll_15 : decode M_La_reportAll.2.1 15 = .ok (.aload_n 0, 1) := by decide +kernel
theorem d_La_reportAll_16 : decode M_La_reportAll.2.1 16 = .ok (.iload_n 1, 1) := by decide +kernel
theorem d_La_reportAll_17 : decode M_La_reportAll.2.1 17 = .ok (.iload_n 2, 1) := by decide +kernel
theorem d_La_reportAll_18 : decode M_La_reportAll.2.1 18 = .ok (.invokevirtual 56, 3) := by decide +kernel
theorem d_La_reportAll_21 : decode M_La_reportAll.2.1 21 = .ok (.iinc 2 1, 3) := by decide +kernel
theorem d_La_reportAll_24 : decode M_La_reportAll.2.1 24 = .ok (.goto (-14), 3) := by decide +kernel
theorem d_La_reportAll_27 : decode M_La_reportAll.2.1 27 = .ok (.iinc 1 1, 3) := by decide +kernel
theorem d_La_reportAll_30 : decode M_La_reportAll.2.1 30 = .ok (.goto (-28), 3) := by decide +kernel
theorem d_La_reportAll_33 : decode M_La_reportAll.2.1 33 = .ok (.return_, 1) := by decide +kernel
theorem d_Sm_hasRoomFor_0 : decode M_Sm_hasRoomFor.2.1 0 = .ok (.aload_n 0, 1) := by decide +kernel
theorem d_Sm_hasRoomFor_1 : decode M_Sm_hasRoomFor.2.1 1 = .ok (.iload_n 1, 1) := by decide +kernel
theorem d_Sm_hasRoomFor_2 : decode M_Sm_hasRoomFor.2.1 2 = .ok (.invokevirtual 44, 3) := by decide +kernel
theorem d_Sm_hasRoomFor_5 : decode M_Sm_hasRoomFor.2.1 5 = .ok (.ifCond .eq 5, 3) := by decide +kernel
theorem d_Sm_hasRoomFor_8 : decode M_Sm_hasRoomFor.2.1 8 = .ok (.iconst 1, 1) := by decide +kernel
theorem d_Sm_hasRoomFor_9 : decode M_Sm_hasRoomFor.2.1 9 = .ok (.ireturn, 1) := by decide +kernel
theorem d_Sm_hasRoomFor_10 : decode M_Sm_hasRoomFor.2.1 10 = .ok (.iconst 0, 1) := by decide +kernel
theorem d_Sm_hasRoomFor_11 : decode M_Sm_hasRoomFor.2.1 11 = .ok (.istore_n 2, 1) := by decide +kernel
theorem d_Sm_hasRoomFor_12 : decode M_Sm_hasRoomFor.2.1 12 = .ok (.iconst 0, 1) := by decide +kernel
theorem d_Sm_hasRoomFor_13 : decode M_Sm_hasRoomFor.2.1 13 = .ok (.istore_n 3, 1) := by decide +kernel
theorem d_Sm_hasRoomFor_14 : decode M_Sm_hasRoomFor.2.1 14 = .ok (.iload_n 3, 1) := by decide +kernel
theorem d_Sm_hasRoomFor_15 : decode M_Sm_hasRoomFor.2.1 15 = .ok (.bipush 18, 2) := by decide +kernel
theorem d_Sm_hasRoomFor_17 : decode M_Sm_hasRoomFor.2.1 17 = .ok (.if_icmp .ge 20, 3) := by decide +kernel
theorem d_Sm_hasRoomFor_20 : decode M_Sm_hasRoomFor.2.1 20 = .ok (.aload_n 0, 1) := by decide +kernel
theorem d_Sm_hasRoomFor_21 : decode M_Sm_hasRoomFor.2.1 21 = .ok (.iload_n 3, 1) := by decide +kernel
theorem d_Sm_hasRoomFor_22 : decode M_Sm_hasRoomFor.2.1 22 = .ok (.invokevirtual 44, 3) := by decide +kernel
theorem d_Sm_hasRoomFor_25 : decode M_Sm_hasRoomFor.2.1 25 = .ok (.ifCond .eq 6, 3) := by decide +kernel
theorem d_Sm_hasRoomFor_28 : decode M_Sm_hasRoomFor.2.1 28 = .ok (.iinc 2 1, 3) := by decide +kernel
theorem d_Sm_hasRoomFor_31 : decode M_Sm_hasRoomFor.2.1 31 = .ok (.iinc 3 1, 3) := by decide +kernel
theorem d_Sm_hasRoomFor_34 : decode M_Sm_hasRoomFor.2.1 34 = .ok (.goto (-20), 3) := by decide +kernel
theorem d_Sm_hasRoomFor_37 : decode M_Sm_hasRoomFor.2.1 37 = .ok (.iload_n 2, 1) := by decide +kernel
theorem d_Sm_hasRoomFor_38 : decode M_Sm_hasRoomFor.2.1 38 = .ok (.iconst 5, 1) := by decide +kernel
theorem d_Sm_hasRoomFor_39 : decode M_Sm_hasRoomFor.2.1 39 = .ok (.if_icmp .ge 7, 3) := by decide +kernel
theorem d_Sm_hasRoomFor_42 : decode M_Sm_hasRoomFor.2.1 42 = .ok (.iconst 1, 1) := by decide +kernel
theorem d_Sm_hasRoomFor_43 : decode M_Sm_hasRoomFor.2.1 43 = .ok (.goto 4, 3) := by decide +kernel
theorem d_Sm_hasRoomFor_46 : decode M_Sm_hasRoomFor.2.1 46 = .ok (.iconst 0, 1) := by decide +kernel
theorem d_Sm_hasRoomFor_47 : decode M_Sm_hasRoomFor.2.1 47 = .ok (.ireturn, 1) := by decide +kernel
theorem d_Sm_isAliveSomewhere_0 : decode M_Sm_isAliveSomewhere.2.1 0 = .ok (.iconst 0, 1) := by decide +kernel
theorem d_Sm_isAliveSomewhere_1 : decode M_Sm_isAliveSomewhere.2.1 1 = .ok (.istore_n 2, 1) := by decide +kernel
theorem d_Sm_isAliveSomewhere_2 : decode M_Sm_isAliveSomewhere.2.1 2 = .ok (.iload_n 2, 1) := by decide +kernel
theorem d_Sm_isAliveSomewhere_3 : decode M_Sm_isAliveSomewhere.2.1 3 = .ok (.bipush 6, 2) := by decide +kernel
theorem d_Sm_isAliveSomewhere_5 : decode M_Sm_isAliveSomewhere.2.1 5 = .ok (.if_icmp .ge 20, 3) := by decide +kernel
theorem d_Sm_isAliveSomewhere_8 : decode M_Sm_isAliveSomewhere.2.1 8 = .ok (.aload_n 0, 1) := by decide +kernel
theorem d_Sm_isAliveSomewhere_9 : decode M_Sm_isAliveSomewhere.2.1 9 = .ok (.iload_n 1, 1) := by decide +kernel
theorem d_Sm_isAliveSomewhere_10 : decode M_Sm_isAliveSomewhere.2.1 10 = .ok (.iload_n 2, 1) := by decide +kernel
theorem d_Sm_isAliveSomewhere_11 : decode M_Sm_isAliveSomewhere.2.1 11 = .ok (.invokevirtual 41, 3) := by decide +kernel
theorem d_Sm_isAliveSomewhere_14 : decode M_Sm_isAliveSomewhere.2.1 14 = .ok (.ifCond .eq 5, 3) := by decide +kernel
theorem d_Sm_isAliveSomewhere_17 : decode M_Sm_isAliveSomewhere.2.1 17 = .ok (.iconst 1, 1) := by decide +kernel
theorem d_Sm_isAliveSomewhere_18 : decode M_Sm_isAliveSomewhere.2.1 18 = .ok (.ireturn, 1) := by decide +kernel
theorem d_Sm_isAliveSomewhere_19 : decode M_Sm_isAliveSomewhere.2.1 19 = .ok (.iinc 2 1, 3) := by decide +kernel
theorem d_Sm_isAliveSomewhere_22 : decode M_Sm_isAliveSomewhere.2.1 22 = .ok (.goto (-20), 3) := by decide +kernel
theorem d_Sm_isAliveSomewhere_25 : decode M_Sm_isAliveSomewhere.2.1 25 = .ok (.iconst 0, 1) := by decide +kernel
theorem d_Sm_isAliveSomewhere_26 : decode M_Sm_isAliveSomewhere.2.1 26 = .ok (.ireturn, 1) := by decide +kernel
theorem d_Sm_renew_0 : decode M_Sm_renew.2.1 0 = .ok (.aload_n 0, 1) := by decide +kernel
theorem d_Sm_renew_1 : decode M_Sm_renew.2.1 1 = .ok (.getfield 11, 3) := by decide +kernel
theorem d_Sm_renew_4 : decode M_Sm_renew.2.1 4 = .ok (.iload_n 1, 1) := by decide +kernel
theorem d_Sm_renew_5 : decode M_Sm_renew.2.1 5 = .ok (.aaload, 1) := by decide +kernel
theorem d_Sm_renew_6 : decode M_Sm_renew.2.1 6 = .ok (.iload_n 2, 1) := by decide +kernel
theorem d_Sm_renew_7 : decode M_Sm_renew.2.1 7 = .ok (.aload_n 0, 1) := by decide +kernel
theorem d_Sm_renew_8 : decode M_Sm_renew.2.1 8 = .ok (.getfield 23, 3) := by decide +kernel
theorem d_Sm_renew_11 : decode M_Sm_renew.2.1 11 = .ok (.invokevirtual 27, 3) := by decide +kernel
theorem d_Sm_renew_14 : decode M_Sm_renew.2.1 14 = .ok (.bipush 8, 2) := by decide +kernel
theorem d_Sm_renew_16 : decode M_Sm_renew.2.1 16 = .ok (.iadd, 1) := by decide +kernel
theorem d_Sm_renew_17 : decode M_Sm_renew.2.1 17 = .ok (.iastore, 1) := by decide +kernel
theorem d_Sm_renew_18 : decode M_Sm_renew.2.1 18 = .ok (.return_, 1) := by decide +kernel
theorem d_Sm_switchOver_0 : decode M_Sm_switchOver.2.1 0 = .ok (.aload_n 0, 1) := by decide +kernel
theorem d_Sm_switchOver_1 : decode M_Sm_switchOver.2.1 1 = .ok (.iload_n 1, 1) := by decide +kernel
theorem d_Sm_switchOver_2 : decode M_Sm_switchOver.2.1 2 = .ok (.iload_n 2, 1) := by decide +kernel
theorem d_Sm_switchOver_3 : decode M_Sm_switchOver.2.1 3 = .ok (.invokevirtual 37, 3) := by decide +kernel
theorem d_Sm_switchOver_6 : decode M_Sm_switchOver.2.1 6 = .ok (.aload_n 0, 1) := by decide +kernel
theorem d_Sm_switchOver_7 : decode M_Sm_switchOver.2.1 7 = .ok (.getfield 16, 3) := by decide +kernel
theorem d_Sm_switchOver_10 : decode M_Sm_switchOver.2.1 10 = .ok (.iload_n 1, 1) := by decide +kernel
theorem d_Sm_switchOver_11 : decode M_Sm_switchOver.2.1 11 = .ok (.dup2, 1) := by decide +kernel
theorem d_Sm_switchOver_12 : decode M_Sm_switchOver.2.1 12 = .ok (.iaload, 1) := by decide +kernel
theorem d_Sm_switchOver_13 : decode M_Sm_switchOver.2.1 13 = .ok (.iconst 1, 1) := by decide +kernel
theorem d_Sm_switchOver_14 : decode M_Sm_switchOver.2.1 14 = .ok (.iload_n 2, 1) := by decide +kernel
theorem d_Sm_switchOver_15 : decode M_Sm_switchOver.2.1 15 = .ok (.ishl, 1) := by decide +kernel
theorem d_Sm_switchOver_16 : decode M_Sm_switchOver.2.1 16 = .ok (.ior, 1) := by decide +kernel
theorem d_Sm_switchOver_17 : decode M_Sm_switchOver.2.1 17 = .ok (.iastore, 1) := by decide +kernel
theorem d_Sm_switchOver_18 : decode M_Sm_switchOver.2.1 18 = .ok (.return_, 1) := by decide +kernel
theorem d_Sm_isQuiet_0 : decode M_Sm_isQuiet.2.1 0 = .ok (.aload_n 0, 1) := by decide +kernel
theorem d_Sm_isQuiet_1 : decode M_Sm_isQuiet.2.1 1 = .ok (.getfield 20, 3) := by decide +kernel
theorem d_Sm_isQuiet_4 : decode M_Sm_isQuiet.2.1 4 = .ok (.iload_n 1, 1) := by decide +kernel
theorem d_Sm_isQuiet_5 : decode M_Sm_isQuiet.2.1 5 = .ok (.iaload, 1) := by decide +kernel
theorem d_Sm_isQuiet_6 : decode M_Sm_isQuiet.2.1 6 = .ok (.aload_n 0, 1) := by decide +kernel
theorem d_Sm_isQuiet_7 : decode M_Sm_isQuiet.2.1 7 = .ok (.getfield 23, 3) := by decide +kernel
theorem d_Sm_isQuiet_10 : decode M_Sm_isQuiet.2.1 10 = .ok (.invokevirtual 27, 3) := by decide +kernel
theorem d_Sm_isQuiet_13 : decode M_Sm_isQuiet.2.1 13 = .ok (.if_icmp .le 7, 3) := by decide +kernel
theorem d_Sm_isQuiet_16 : decode M_Sm_isQuiet.2.1 16 = .ok (.iconst 1, 1) := by decide +kernel
theorem d_Sm_isQuiet_17 : decode M_Sm_isQuiet.2.1 17 = .ok (.goto 4, 3) := by decide +kernel
theorem d_Sm_isQuiet_20 : decode M_Sm_isQuiet.2.1 20 = .ok (.iconst 0, 1) := by decide +kernel
theorem d_Sm_isQuiet_21 : decode M_Sm_isQuiet.2.1 21 = .ok (.ireturn, 1) := by decide +kernel
theorem d_Sm_silence_0 : decode M_Sm_silence.2.1 0 = .ok (.aload_n 0, 1) := by decide +kernel
theorem d_Sm_silence_1 : decode M_Sm_silence.2.1 1 = .ok (.getfield 20, 3) := by decide +kernel
theorem d_Sm_silence_4 : decode M_Sm_silence.2.1 4 = .ok (.iload_n 1, 1) := by decide +kernel
theorem d_Sm_silence_5 : decode M_Sm_silence.2.1 5 = .ok (.aload_n 0, 1) := by decide +kernel
theorem d_Sm_silence_6 : decode M_Sm_silence.2.1 6 = .ok (.getfield 23, 3) := by decide +kernel
theorem d_Sm_silence_9 : decode M_Sm_silence.2.1 9 = .ok (.invokevirtual 27, 3) := by decide +kernel
theorem d_Sm_silence_12 : decode M_Sm_silence.2.1 12 = .ok (.bipush 6, 2) := by decide +kernel
theorem d_Sm_silence_14 : decode M_Sm_silence.2.1 14 = .ok (.iadd, 1) := by decide +kernel
theorem d_Sm_silence_15 : decode M_Sm_silence.2.1 15 = .ok (.iastore, 1) := by decide +kernel
theorem d_Sm_silence_16 : decode M_Sm_silence.2.1 16 = .ok (.return_, 1) := by decide +kernel
theorem d_La_hearsOrLoses_0 : decode M_La_hearsOrLoses.2.1 0 = .ok (.aload_n 0, 1) := by decide +kernel
theorem d_La_hearsOrLoses_1 : decode M_La_hearsOrLoses.2.1 1 = .ok (.getfield 22, 3) := by decide +kernel
theorem d_La_hearsOrLoses_4 : decode M_La_hearsOrLoses.2.1 4 = .ok (.iload_n 1, 1) := by decide +kernel
theorem d_La_hearsOrLoses_5 : decode M_La_hearsOrLoses.2.1 5 = .ok (.iaload, 1) := by decide +kernel
theorem d_La_hearsOrLoses_6 : decode M_La_hearsOrLoses.2.1 6 = .ok (.ifCond .ne 5, 3) := by decide +kernel
theorem d_La_hearsOrLoses_9 : decode M_La_hearsOrLoses.2.1 9 = .ok (.iconst 1, 1) := by decide +kernel
theorem d_La_hearsOrLoses_10 : decode M_La_hearsOrLoses.2.1 10 = .ok (.ireturn, 1) := by decide +kernel
theorem d_La_hearsOrLoses_11 : decode M_La_hearsOrLoses.2.1 11 = .ok (.aload_n 0, 1) := by decide +kernel
theorem d_La_hearsOrLoses_12 : decode M_La_hearsOrLoses.2.1 12 = .ok (.getfield 22, 3) := by decide +kernel
theorem d_La_hearsOrLoses_15 : decode M_La_hearsOrLoses.2.1 15 = .ok (.iload_n 1, 1) := by decide +kernel
theorem d_La_hearsOrLoses_16 : decode M_La_hearsOrLoses.2.1 16 = .ok (.dup2, 1) := by decide +kernel
theorem d_La_hearsOrLoses_17 : decode M_La_hearsOrLoses.2.1 17 = .ok (.iaload, 1) := by decide +kernel
theorem d_La_hearsOrLoses_18 : decode M_La_hearsOrLoses.2.1 18 = .ok (.iconst 1, 1) := by decide +kernel
theorem d_La_hearsOrLoses_19 : decode M_La_hearsOrLoses.2.1 19 = .ok (.isub, 1) := by decide +kernel
theorem d_La_hearsOrLoses_20 : decode M_La_hearsOrLoses.2.1 20 = .ok (.iastore, 1) := by decide +kernel
theorem d_La_hearsOrLoses_21 : decode M_La_hearsOrLoses.2.1 21 = .ok (.iconst 0, 1) := by decide +kernel
theorem d_La_hearsOrLoses_22 : decode M_La_hearsOrLoses.2.1 22 = .ok (.ireturn, 1) := by decide +kernel
theorem d_JI_bitCount_0 : decode M_JI_bitCount.2.1 0 = .ok (.iload_n 0, 1) := by decide +kernel
theorem d_JI_bitCount_1 : decode M_JI_bitCount.2.1 1 = .ok (.iload_n 0, 1) := by decide +kernel
theorem d_JI_bitCount_2 : decode M_JI_bitCount.2.1 2 = .ok (.iconst 1, 1) := by decide +kernel
theorem d_JI_bitCount_3 : decode M_JI_bitCount.2.1 3 = .ok (.iushr, 1) := by decide +kernel
theorem d_JI_bitCount_4 : decode M_JI_bitCount.2.1 4 = .ok (.ldc_w 265, 3) := by decide +kernel
theorem d_JI_bitCount_7 : decode M_JI_bitCount.2.1 7 = .ok (.iand, 1) := by decide +kernel
theorem d_JI_bitCount_8 : decode M_JI_bitCount.2.1 8 = .ok (.isub, 1) := by decide +kernel
theorem d_JI_bitCount_9 : decode M_JI_bitCount.2.1 9 = .ok (.istore_n 0, 1) := by decide +kernel
theorem d_JI_bitCount_10 : decode M_JI_bitCount.2.1 10 = .ok (.iload_n 0, 1) := by decide +kernel
theorem d_JI_bitCount_11 : decode M_JI_bitCount.2.1 11 = .ok (.ldc_w 266, 3) := by decide +kernel
theorem d_JI_bitCount_14 : decode M_JI_bitCount.2.1 14 = .ok (.iand, 1) := by decide +kernel
theorem d_JI_bitCount_15 : decode M_JI_bitCount.2.1 15 = .ok (.iload_n 0, 1) := by decide +kernel
theorem d_JI_bitCount_16 : decode M_JI_bitCount.2.1 16 = .ok (.iconst 2, 1) := by decide +kernel
theorem d_JI_bitCount_17 : decode M_JI_bitCount.2.1 17 = .ok (.iushr, 1) := by decide +kernel
theorem d_JI_bitCount_18 : decode M_JI_bitCount.2.1 18 = .ok (.ldc_w 266, 3) := by decide +kernel
theorem d_JI_bitCount_21 : decode M_JI_bitCount.2.1 21 = .ok (.iand, 1) := by decide +kernel
theorem d_JI_bitCount_22 : decode M_JI_bitCount.2.1 22 = .ok (.iadd, 1) := by decide +kernel
theorem d_JI_bitCount_23 : decode M_JI_bitCount.2.1 23 = .ok (.istore_n 0, 1) := by decide +kernel
theorem d_JI_bitCount_24 : decode M_JI_bitCount.2.1 24 = .ok (.iload_n 0, 1) := by decide +kernel
theorem d_JI_bitCount_25 : decode M_JI_bitCount.2.1 25 = .ok (.iload_n 0, 1) := by decide +kernel
theorem d_JI_bitCount_26 : decode M_JI_bitCount.2.1 26 = .ok (.iconst 4, 1) := by decide +kernel
theorem d_JI_bitCount_27 : decode M_JI_bitCount.2.1 27 = .ok (.iushr, 1) := by decide +kernel
theorem d_JI_bitCount_28 : decode M_JI_bitCount.2.1 28 = .ok (.iadd, 1) := by decide +kernel
theorem d_JI_bitCount_29 : decode M_JI_bitCount.2.1 29 = .ok (.ldc_w 267, 3) := by decide +kernel
theorem d_JI_bitCount_32 : decode M_JI_bitCount.2.1 32 = .ok (.iand, 1) := by decide +kernel
theorem d_JI_bitCount_33 : decode M_JI_bitCount.2.1 33 = .ok (.istore_n 0, 1) := by decide +kernel
theorem d_JI_bitCount_34 : decode M_JI_bitCount.2.1 34 = .ok (.iload_n 0, 1) := by decide +kernel
theorem d_JI_bitCount_35 : decode M_JI_bitCount.2.1 35 = .ok (.iload_n 0, 1) := by decide +kernel
theorem d_JI_bitCount_36 : decode M_JI_bitCount.2.1 36 = .ok (.bipush 8, 2) := by decide +kernel
theorem d_JI_bitCount_38 : decode M_JI_bitCount.2.1 38 = .ok (.iushr, 1) := by decide +kernel
theorem d_JI_bitCount_39 : decode M_JI_bitCount.2.1 39 = .ok (.iadd, 1) := by decide +kernel
theorem d_JI_bitCount_40 : decode M_JI_bitCount.2.1 40 = .ok (.istore_n 0, 1) := by decide +kernel
theorem d_JI_bitCount_41 : decode M_JI_bitCount.2.1 41 = .ok (.iload_n 0, 1) := by decide +kernel
theorem d_JI_bitCount_42 : decode M_JI_bitCount.2.1 42 = .ok (.iload_n 0, 1) := by decide +kernel
theorem d_JI_bitCount_43 : decode M_JI_bitCount.2.1 43 = .ok (.bipush 16, 2) := by decide +kernel
theorem d_JI_bitCount_45 : decode M_JI_bitCount.2.1 45 = .ok (.iushr, 1) := by decide +kernel
theorem d_JI_bitCount_46 : decode M_JI_bitCount.2.1 46 = .ok (.iadd, 1) := by decide +kernel
theorem d_JI_bitCount_47 : decode M_JI_bitCount.2.1 47 = .ok (.istore_n 0, 1) := by decide +kernel
theorem d_JI_bitCount_48 : decode M_JI_bitCount.2.1 48 = .ok (.iload_n 0, 1) := by decide +kernel
theorem d_JI_bitCount_49 : decode M_JI_bitCount.2.1 49 = .ok (.bipush 63, 2) := by decide +kernel
theorem d_JI_bitCount_51 : decode M_JI_bitCount.2.1 51 = .ok (.iand, 1) := by decide +kernel
theorem d_JI_bitCount_52 : decode M_JI_bitCount.2.1 52 = .ok (.ireturn, 1) := by decide +kernel
theorem d_Ta_countOf_0 : decode M_Ta_countOf.2.1 0 = .ok (.aload_n 0, 1) := by decide +kernel
theorem d_Ta_countOf_1 : decode M_Ta_countOf.2.1 1 = .ok (.getfield 9, 3) := by decide +kernel
theorem d_Ta_countOf_4 : decode M_Ta_countOf.2.1 4 = .ok (.iload_n 1, 1) := by decide +kernel
theorem d_Ta_countOf_5 : decode M_Ta_countOf.2.1 5 = .ok (.iaload, 1) := by decide +kernel
theorem d_Ta_countOf_6 : decode M_Ta_countOf.2.1 6 = .ok (.ireturn, 1) := by decide +kernel
theorem d_La_setLosses_0 : decode M_La_setLosses.2.1 0 = .ok (.aload_n 0, 1) := by decide +kernel
theorem d_La_setLosses_1 : decode M_La_setLosses.2.1 1 = .ok (.getfield 22, 3) := by decide +kernel
theorem d_La_setLosses_4 : decode M_La_setLosses.2.1 4 = .ok (.iload_n 1, 1) := by decide +kernel
theorem d_La_setLosses_5 : decode M_La_setLosses.2.1 5 = .ok (.iload_n 2, 1) := by decide +kernel
theorem d_La_setLosses_6 : decode M_La_setLosses.2.1 6 = .ok (.iastore, 1) := by decide +kernel
theorem d_La_setLosses_7 : decode M_La_setLosses.2.1 7 = .ok (.return_, 1) := by decide +kernel
theorem d_JM_max_0 : decode M_JM_max.2.1 0 = .ok (.iload_n 0, 1) := by decide +kernel
theorem d_JM_max_1 : decode M_JM_max.2.1 1 = .ok (.iload_n 1, 1) := by decide +kernel
theorem d_JM_max_2 : decode M_JM_max.2.1 2 = .ok (.if_icmp .lt 7, 3) := by decide +kernel
theorem d_JM_max_5 : decode M_JM_max.2.1 5 = .ok (.iload_n 0, 1) := by decide +kernel
theorem d_JM_max_6 : decode M_JM_max.2.1 6 = .ok (.goto 4, 3) := by decide +kernel
theorem d_JM_max_9 : decode M_JM_max.2.1 9 = .ok (.iload_n 1, 1) := by decide +kernel
theorem d_JM_max_10 : decode M_JM_max.2.1 10 = .ok (.ireturn, 1) := by decide +kernel
