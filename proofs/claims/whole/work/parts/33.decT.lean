theorem dT_init_0 : decode cT_init 0 = .ok (.aload_n 0, 1) := by decide +kernel
theorem dT_init_1 : decode cT_init 1 = .ok (.invokespecial 3, 3) := by decide +kernel
theorem dT_init_4 : decode cT_init 4 = .ok (.aload_n 0, 1) := by decide +kernel
theorem dT_init_5 : decode cT_init 5 = .ok (.bipush 10, 2) := by decide +kernel
theorem dT_init_7 : decode cT_init 7 = .ok (.anewarray 9, 3) := by decide +kernel
theorem dT_init_10 : decode cT_init 10 = .ok (.putfield 11, 3) := by decide +kernel
theorem dT_init_13 : decode cT_init 13 = .ok (.aload_n 0, 1) := by decide +kernel
theorem dT_init_14 : decode cT_init 14 = .ok (.bipush 10, 2) := by decide +kernel
theorem dT_init_16 : decode cT_init 16 = .ok (.anewarray 9, 3) := by decide +kernel
theorem dT_init_19 : decode cT_init 19 = .ok (.putfield 17, 3) := by decide +kernel
theorem dT_init_22 : decode cT_init 22 = .ok (.iconst 0, 1) := by decide +kernel
theorem dT_init_23 : decode cT_init 23 = .ok (.istore_n 1, 1) := by decide +kernel
theorem dT_init_24 : decode cT_init 24 = .ok (.iload_n 1, 1) := by decide +kernel
theorem dT_init_25 : decode cT_init 25 = .ok (.bipush 10, 2) := by decide +kernel
theorem dT_init_27 : decode cT_init 27 = .ok (.if_icmp .ge 35, 3) := by decide +kernel
theorem dT_init_30 : decode cT_init 30 = .ok (.aload_n 0, 1) := by decide +kernel
theorem dT_init_31 : decode cT_init 31 = .ok (.getfield 11, 3) := by decide +kernel
theorem dT_init_34 : decode cT_init 34 = .ok (.iload_n 1, 1) := by decide +kernel
theorem dT_init_35 : decode cT_init 35 = .ok (.new 9, 3) := by decide +kernel
theorem dT_init_38 : decode cT_init 38 = .ok (.dup, 1) := by decide +kernel
theorem dT_init_39 : decode cT_init 39 = .ok (.invokespecial 20, 3) := by decide +kernel
theorem dT_init_42 : decode cT_init 42 = .ok (.aastore, 1) := by decide +kernel
theorem dT_init_43 : decode cT_init 43 = .ok (.aload_n 0, 1) := by decide +kernel
theorem dT_init_44 : decode cT_init 44 = .ok (.getfield 17, 3) := by decide +kernel
theorem dT_init_47 : decode cT_init 47 = .ok (.iload_n 1, 1) := by decide +kernel
theorem dT_init_48 : decode cT_init 48 = .ok (.new 9, 3) := by decide +kernel
theorem dT_init_51 : decode cT_init 51 = .ok (.dup, 1) := by decide +kernel
theorem dT_init_52 : decode cT_init 52 = .ok (.invokespecial 20, 3) := by decide +kernel
theorem dT_init_55 : decode cT_init 55 = .ok (.aastore, 1) := by decide +kernel
theorem dT_init_56 : decode cT_init 56 = .ok (.iinc 1 1, 3) := by decide +kernel
theorem dT_init_59 : decode cT_init 59 = .ok (.goto (-35), 3) := by decide +kernel
theorem dT_init_62 : decode cT_init 62 = .ok (.aload_n 0, 1) := by decide +kernel
theorem dT_init_63 : decode cT_init 63 = .ok (.new 9, 3) := by decide +kernel
theorem dT_init_66 : decode cT_init 66 = .ok (.dup, 1) := by decide +kernel
theorem dT_init_67 : decode cT_init 67 = .ok (.invokespecial 20, 3) := by decide +kernel
theorem dT_init_70 : decode cT_init 70 = .ok (.putfield 21, 3) := by decide +kernel
theorem dT_init_73 : decode cT_init 73 = .ok (.return_, 1) := by decide +kernel
theorem dF_init_0 : decode cF_init 0 = .ok (.aload_n 0, 1) := by decide +kernel
theorem dF_init_1 : decode cF_init 1 = .ok (.invokespecial 3, 3) := by decide +kernel
theorem dF_init_4 : decode cF_init 4 = .ok (.aload_n 0, 1) := by decide +kernel
theorem dF_init_5 : decode cF_init 5 = .ok (.new 9, 3) := by decide +kernel
theorem dF_init_8 : decode cF_init 8 = .ok (.dup, 1) := by decide +kernel
theorem dF_init_9 : decode cF_init 9 = .ok (.invokespecial 11, 3) := by decide +kernel
theorem dF_init_12 : decode cF_init 12 = .ok (.putfield 12, 3) := by decide +kernel
theorem dF_init_15 : decode cF_init 15 = .ok (.return_, 1) := by decide +kernel
theorem dT_start_0 : decode cT_start 0 = .ok (.aload_n 0, 1) := by decide +kernel
theorem dT_start_1 : decode cT_start 1 = .ok (.iload_n 1, 1) := by decide +kernel
theorem dT_start_2 : decode cT_start 2 = .ok (.bipush 10, 2) := by decide +kernel
theorem dT_start_4 : decode cT_start 4 = .ok (.invokestatic 25, 3) := by decide +kernel
theorem dT_start_7 : decode cT_start 7 = .ok (.putfield 31, 3) := by decide +kernel
theorem dT_start_10 : decode cT_start 10 = .ok (.iconst 0, 1) := by decide +kernel
theorem dT_start_11 : decode cT_start 11 = .ok (.istore_n 2, 1) := by decide +kernel
theorem dT_start_12 : decode cT_start 12 = .ok (.iload_n 2, 1) := by decide +kernel
theorem dT_start_13 : decode cT_start 13 = .ok (.aload_n 0, 1) := by decide +kernel
theorem dT_start_14 : decode cT_start 14 = .ok (.getfield 31, 3) := by decide +kernel
theorem dT_start_17 : decode cT_start 17 = .ok (.if_icmp .ge 35, 3) := by decide +kernel
theorem dT_start_20 : decode cT_start 20 = .ok (.aload_n 0, 1) := by decide +kernel
theorem dT_start_21 : decode cT_start 21 = .ok (.getfield 11, 3) := by decide +kernel
theorem dT_start_24 : decode cT_start 24 = .ok (.iload_n 2, 1) := by decide +kernel
theorem dT_start_25 : decode cT_start 25 = .ok (.aaload, 1) := by decide +kernel
theorem dT_start_26 : decode cT_start 26 = .ok (.iconst 0, 1) := by decide +kernel
theorem dT_start_27 : decode cT_start 27 = .ok (.iconst 1, 1) := by decide +kernel
theorem dT_start_28 : decode cT_start 28 = .ok (.iload_n 2, 1) := by decide +kernel
theorem dT_start_29 : decode cT_start 29 = .ok (.ishl, 1) := by decide +kernel
theorem dT_start_30 : decode cT_start 30 = .ok (.invokevirtual 35, 3) := by decide +kernel
theorem dT_start_33 : decode cT_start 33 = .ok (.aload_n 0, 1) := by decide +kernel
theorem dT_start_34 : decode cT_start 34 = .ok (.getfield 17, 3) := by decide +kernel
theorem dT_start_37 : decode cT_start 37 = .ok (.iload_n 2, 1) := by decide +kernel
theorem dT_start_38 : decode cT_start 38 = .ok (.aaload, 1) := by decide +kernel
theorem dT_start_39 : decode cT_start 39 = .ok (.iconst 1, 1) := by decide +kernel
theorem dT_start_40 : decode cT_start 40 = .ok (.iload_n 2, 1) := by decide +kernel
theorem dT_start_41 : decode cT_start 41 = .ok (.ishl, 1) := by decide +kernel
theorem dT_start_42 : decode cT_start 42 = .ok (.iconst 0, 1) := by decide +kernel
theorem dT_start_43 : decode cT_start 43 = .ok (.invokevirtual 35, 3) := by decide +kernel
theorem dT_start_46 : decode cT_start 46 = .ok (.iinc 2 1, 3) := by decide +kernel
theorem dT_start_49 : decode cT_start 49 = .ok (.goto (-37), 3) := by decide +kernel
theorem dT_start_52 : decode cT_start 52 = .ok (.return_, 1) := by decide +kernel
theorem dT_pass_0 : decode cT_pass 0 = .ok (.iconst 0, 1) := by decide +kernel
theorem dT_pass_1 : decode cT_pass 1 = .ok (.istore 4, 2) := by decide +kernel
theorem dT_pass_3 : decode cT_pass 3 = .ok (.iload 4, 2) := by decide +kernel
theorem dT_pass_5 : decode cT_pass 5 = .ok (.aload_n 0, 1) := by decide +kernel
theorem dT_pass_6 : decode cT_pass 6 = .ok (.getfield 31, 3) := by decide +kernel
theorem dT_pass_9 : decode cT_pass 9 = .ok (.if_icmp .ge 35, 3) := by decide +kernel
theorem dT_pass_12 : decode cT_pass 12 = .ok (.aload_n 0, 1) := by decide +kernel
theorem dT_pass_13 : decode cT_pass 13 = .ok (.getfield 11, 3) := by decide +kernel
theorem dT_pass_16 : decode cT_pass 16 = .ok (.iload 4, 2) := by decide +kernel
theorem dT_pass_18 : decode cT_pass 18 = .ok (.aaload, 1) := by decide +kernel
theorem dT_pass_19 : decode cT_pass 19 = .ok (.iload_n 1, 1) := by decide +kernel
theorem dT_pass_20 : decode cT_pass 20 = .ok (.iload_n 2, 1) := by decide +kernel
theorem dT_pass_21 : decode cT_pass 21 = .ok (.iload_n 3, 1) := by decide +kernel
theorem dT_pass_22 : decode cT_pass 22 = .ok (.invokevirtual 39, 3) := by decide +kernel
theorem dT_pass_25 : decode cT_pass 25 = .ok (.aload_n 0, 1) := by decide +kernel
theorem dT_pass_26 : decode cT_pass 26 = .ok (.getfield 17, 3) := by decide +kernel
theorem dT_pass_29 : decode cT_pass 29 = .ok (.iload 4, 2) := by decide +kernel
theorem dT_pass_31 : decode cT_pass 31 = .ok (.aaload, 1) := by decide +kernel
theorem dT_pass_32 : decode cT_pass 32 = .ok (.iload_n 1, 1) := by decide +kernel
theorem dT_pass_33 : decode cT_pass 33 = .ok (.iload_n 2, 1) := by decide +kernel
theorem dT_pass_34 : decode cT_pass 34 = .ok (.iload_n 3, 1) := by decide +kernel
theorem dT_pass_35 : decode cT_pass 35 = .ok (.invokevirtual 39, 3) := by decide +kernel
theorem dT_pass_38 : decode cT_pass 38 = .ok (.iinc 4 1, 3) := by decide +kernel
theorem dT_pass_41 : decode cT_pass 41 = .ok (.goto (-38), 3) := by decide +kernel
theorem dT_pass_44 : decode cT_pass 44 = .ok (.return_, 1) := by decide +kernel
theorem dT_measure_0 : decode cT_measure 0 = .ok (.iconst 0, 1) := by decide +kernel
theorem dT_measure_1 : decode cT_measure 1 = .ok (.istore_n 3, 1) := by decide +kernel
theorem dT_measure_2 : decode cT_measure 2 = .ok (.iload_n 3, 1) := by decide +kernel
theorem dT_measure_3 : decode cT_measure 3 = .ok (.aload_n 0, 1) := by decide +kernel
theorem dT_measure_4 : decode cT_measure 4 = .ok (.getfield 31, 3) := by decide +kernel
theorem dT_measure_7 : decode cT_measure 7 = .ok (.if_icmp .ge 31, 3) := by decide +kernel
theorem dT_measure_10 : decode cT_measure 10 = .ok (.aload_n 0, 1) := by decide +kernel
theorem dT_measure_11 : decode cT_measure 11 = .ok (.getfield 11, 3) := by decide +kernel
theorem dT_measure_14 : decode cT_measure 14 = .ok (.iload_n 3, 1) := by decide +kernel
theorem dT_measure_15 : decode cT_measure 15 = .ok (.aaload, 1) := by decide +kernel
theorem dT_measure_16 : decode cT_measure 16 = .ok (.iload_n 1, 1) := by decide +kernel
theorem dT_measure_17 : decode cT_measure 17 = .ok (.invokevirtual 43, 3) := by decide +kernel
theorem dT_measure_20 : decode cT_measure 20 = .ok (.iconst 1, 1) := by decide +kernel
theorem dT_measure_21 : decode cT_measure 21 = .ok (.if_icmp .ne 11, 3) := by decide +kernel
theorem dT_measure_24 : decode cT_measure 24 = .ok (.aload_n 0, 1) := by decide +kernel
theorem dT_measure_25 : decode cT_measure 25 = .ok (.iload_n 3, 1) := by decide +kernel
theorem dT_measure_26 : decode cT_measure 26 = .ok (.iload_n 1, 1) := by decide +kernel
theorem dT_measure_27 : decode cT_measure 27 = .ok (.iload_n 2, 1) := by decide +kernel
theorem dT_measure_28 : decode cT_measure 28 = .ok (.invokevirtual 47, 3) := by decide +kernel
theorem dT_measure_31 : decode cT_measure 31 = .ok (.areturn, 1) := by decide +kernel
theorem dT_measure_32 : decode cT_measure 32 = .ok (.iinc 3 1, 3) := by decide +kernel
theorem dT_measure_35 : decode cT_measure 35 = .ok (.goto (-33), 3) := by decide +kernel
theorem dT_measure_38 : decode cT_measure 38 = .ok (.aload_n 0, 1) := by decide +kernel
theorem dT_measure_39 : decode cT_measure 39 = .ok (.iload_n 1, 1) := by decide +kernel
theorem dT_measure_40 : decode cT_measure 40 = .ok (.invokevirtual 51, 3) := by decide +kernel
theorem dT_measure_43 : decode cT_measure 43 = .ok (.areturn, 1) := by decide +kernel
theorem dT_collapse_0 : decode cT_collapse 0 = .ok (.aload_n 0, 1) := by decide +kernel
theorem dT_collapse_1 : decode cT_collapse 1 = .ok (.getfield 11, 3) := by decide +kernel
theorem dT_collapse_4 : decode cT_collapse 4 = .ok (.iload_n 1, 1) := by decide +kernel
theorem dT_collapse_5 : decode cT_collapse 5 = .ok (.aaload, 1) := by decide +kernel
theorem dT_collapse_6 : decode cT_collapse 6 = .ok (.astore 4, 2) := by decide +kernel
theorem dT_collapse_8 : decode cT_collapse 8 = .ok (.iconst 0, 1) := by decide +kernel
theorem dT_collapse_9 : decode cT_collapse 9 = .ok (.istore 5, 2) := by decide +kernel
theorem dT_collapse_11 : decode cT_collapse 11 = .ok (.iload 5, 2) := by decide +kernel
theorem dT_collapse_13 : decode cT_collapse 13 = .ok (.aload_n 0, 1) := by decide +kernel
theorem dT_collapse_14 : decode cT_collapse 14 = .ok (.getfield 31, 3) := by decide +kernel
theorem dT_collapse_17 : decode cT_collapse 17 = .ok (.if_icmp .ge 75, 3) := by decide +kernel
theorem dT_collapse_20 : decode cT_collapse 20 = .ok (.iload 5, 2) := by decide +kernel
theorem dT_collapse_22 : decode cT_collapse 22 = .ok (.iload_n 1, 1) := by decide +kernel
theorem dT_collapse_23 : decode cT_collapse 23 = .ok (.if_icmp .eq 30, 3) := by decide +kernel
theorem dT_collapse_26 : decode cT_collapse 26 = .ok (.aload_n 0, 1) := by decide +kernel
theorem dT_collapse_27 : decode cT_collapse 27 = .ok (.getfield 11, 3) := by decide +kernel
theorem dT_collapse_30 : decode cT_collapse 30 = .ok (.iload 5, 2) := by decide +kernel
theorem dT_collapse_32 : decode cT_collapse 32 = .ok (.aaload, 1) := by decide +kernel
theorem dT_collapse_33 : decode cT_collapse 33 = .ok (.iload_n 2, 1) := by decide +kernel
theorem dT_collapse_34 : decode cT_collapse 34 = .ok (.invokevirtual 43, 3) := by decide +kernel
theorem dT_collapse_37 : decode cT_collapse 37 = .ok (.iconst 1, 1) := by decide +kernel
theorem dT_collapse_38 : decode cT_collapse 38 = .ok (.if_icmp .ne 15, 3) := by decide +kernel
theorem dT_collapse_41 : decode cT_collapse 41 = .ok (.aload_n 0, 1) := by decide +kernel
theorem dT_collapse_42 : decode cT_collapse 42 = .ok (.getfield 11, 3) := by decide +kernel
theorem dT_collapse_45 : decode cT_collapse 45 = .ok (.iload 5, 2) := by decide +kernel
theorem dT_collapse_47 : decode cT_collapse 47 = .ok (.aaload, 1) := by decide +kernel
theorem dT_collapse_48 : decode cT_collapse 48 = .ok (.aload 4, 2) := by decide +kernel
theorem dT_collapse_50 : decode cT_collapse 50 = .ok (.invokevirtual 55, 3) := by decide +kernel
theorem dT_collapse_53 : decode cT_collapse 53 = .ok (.iload 5, 2) := by decide +kernel
theorem dT_collapse_55 : decode cT_collapse 55 = .ok (.iload_n 1, 1) := by decide +kernel
theorem dT_collapse_56 : decode cT_collapse 56 = .ok (.if_icmp .eq 30, 3) := by decide +kernel
theorem dT_collapse_59 : decode cT_collapse 59 = .ok (.aload_n 0, 1) := by decide +kernel
theorem dT_collapse_60 : decode cT_collapse 60 = .ok (.getfield 17, 3) := by decide +kernel
theorem dT_collapse_63 : decode cT_collapse 63 = .ok (.iload 5, 2) := by decide +kernel
theorem dT_collapse_65 : decode cT_collapse 65 = .ok (.aaload, 1) := by decide +kernel
theorem dT_collapse_66 : decode cT_collapse 66 = .ok (.iload_n 2, 1) := by decide +kernel
theorem dT_collapse_67 : decode cT_collapse 67 = .ok (.invokevirtual 43, 3) := by decide +kernel
theorem dT_collapse_70 : decode cT_collapse 70 = .ok (.iconst 1, 1) := by decide +kernel
theorem dT_collapse_71 : decode cT_collapse 71 = .ok (.if_icmp .ne 15, 3) := by decide +kernel
theorem dT_collapse_74 : decode cT_collapse 74 = .ok (.aload_n 0, 1) := by decide +kernel
theorem dT_collapse_75 : decode cT_collapse 75 = .ok (.getfield 17, 3) := by decide +kernel
theorem dT_collapse_78 : decode cT_collapse 78 = .ok (.iload 5, 2) := by decide +kernel
theorem dT_collapse_80 : decode cT_collapse 80 = .ok (.aaload, 1) := by decide +kernel
theorem dT_collapse_81 : decode cT_collapse 81 = .ok (.aload 4, 2) := by decide +kernel
theorem dT_collapse_83 : decode cT_collapse 83 = .ok (.invokevirtual 55, 3) := by decide +kernel
theorem dT_collapse_86 : decode cT_collapse 86 = .ok (.iinc 5 1, 3) := by decide +kernel
theorem dT_collapse_89 : decode cT_collapse 89 = .ok (.goto (-78), 3) := by decide +kernel
theorem dT_collapse_92 : decode cT_collapse 92 = .ok (.aload_n 0, 1) := by decide +kernel
theorem dT_collapse_93 : decode cT_collapse 93 = .ok (.getfield 17, 3) := by decide +kernel
theorem dT_collapse_96 : decode cT_collapse 96 = .ok (.iload_n 1, 1) := by decide +kernel
theorem dT_collapse_97 : decode cT_collapse 97 = .ok (.aaload, 1) := by decide +kernel
theorem dT_collapse_98 : decode cT_collapse 98 = .ok (.aload 4, 2) := by decide +kernel
theorem dT_collapse_100 : decode cT_collapse 100 = .ok (.invokevirtual 59, 3) := by decide +kernel
theorem dT_collapse_103 : decode cT_collapse 103 = .ok (.aload 4, 2) := by decide +kernel
theorem dT_collapse_105 : decode cT_collapse 105 = .ok (.iconst 0, 1) := by decide +kernel
theorem dT_collapse_106 : decode cT_collapse 106 = .ok (.iconst 1, 1) := by decide +kernel
theorem dT_collapse_107 : decode cT_collapse 107 = .ok (.iload_n 2, 1) := by decide +kernel
theorem dT_collapse_108 : decode cT_collapse 108 = .ok (.ishl, 1) := by decide +kernel
theorem dT_collapse_109 : decode cT_collapse 109 = .ok (.invokevirtual 35, 3) := by decide +kernel
theorem dT_collapse_112 : decode cT_collapse 112 = .ok (.aload 4, 2) := by decide +kernel
theorem dT_collapse_114 : decode cT_collapse 114 = .ok (.lconst 1, 1) := by decide +kernel
theorem dT_collapse_115 : decode cT_collapse 115 = .ok (.iload_n 3, 1) := by decide +kernel
theorem dT_collapse_116 : decode cT_collapse 116 = .ok (.lshl, 1) := by decide +kernel
theorem dT_collapse_117 : decode cT_collapse 117 = .ok (.putfield 62, 3) := by decide +kernel
theorem dT_collapse_120 : decode cT_collapse 120 = .ok (.aload 4, 2) := by decide +kernel
theorem dT_collapse_122 : decode cT_collapse 122 = .ok (.areturn, 1) := by decide +kernel
theorem dT_zFromKeepers_0 : decode cT_zFromKeepers 0 = .ok (.aload_n 0, 1) := by decide +kernel
theorem dT_zFromKeepers_1 : decode cT_zFromKeepers 1 = .ok (.getfield 21, 3) := by decide +kernel
theorem dT_zFromKeepers_4 : decode cT_zFromKeepers 4 = .ok (.iconst 0, 1) := by decide +kernel
theorem dT_zFromKeepers_5 : decode cT_zFromKeepers 5 = .ok (.iconst 0, 1) := by decide +kernel
theorem dT_zFromKeepers_6 : decode cT_zFromKeepers 6 = .ok (.invokevirtual 35, 3) := by decide +kernel
theorem dT_zFromKeepers_9 : decode cT_zFromKeepers 9 = .ok (.iconst 0, 1) := by decide +kernel
theorem dT_zFromKeepers_10 : decode cT_zFromKeepers 10 = .ok (.istore_n 2, 1) := by decide +kernel
theorem dT_zFromKeepers_11 : decode cT_zFromKeepers 11 = .ok (.iload_n 2, 1) := by decide +kernel
theorem dT_zFromKeepers_12 : decode cT_zFromKeepers 12 = .ok (.aload_n 0, 1) := by decide +kernel
theorem dT_zFromKeepers_13 : decode cT_zFromKeepers 13 = .ok (.getfield 31, 3) := by decide +kernel
theorem dT_zFromKeepers_16 : decode cT_zFromKeepers 16 = .ok (.if_icmp .ge 36, 3) := by decide +kernel
theorem dT_zFromKeepers_19 : decode cT_zFromKeepers 19 = .ok (.aload_n 0, 1) := by decide +kernel
theorem dT_zFromKeepers_20 : decode cT_zFromKeepers 20 = .ok (.getfield 17, 3) := by decide +kernel
theorem dT_zFromKeepers_23 : decode cT_zFromKeepers 23 = .ok (.iload_n 2, 1) := by decide +kernel
theorem dT_zFromKeepers_24 : decode cT_zFromKeepers 24 = .ok (.aaload, 1) := by decide +kernel
theorem dT_zFromKeepers_25 : decode cT_zFromKeepers 25 = .ok (.iload_n 1, 1) := by decide +kernel
theorem dT_zFromKeepers_26 : decode cT_zFromKeepers 26 = .ok (.invokevirtual 43, 3) := by decide +kernel
theorem dT_zFromKeepers_29 : decode cT_zFromKeepers 29 = .ok (.iconst 1, 1) := by decide +kernel
theorem dT_zFromKeepers_30 : decode cT_zFromKeepers 30 = .ok (.if_icmp .ne 16, 3) := by decide +kernel
theorem dT_zFromKeepers_33 : decode cT_zFromKeepers 33 = .ok (.aload_n 0, 1) := by decide +kernel
theorem dT_zFromKeepers_34 : decode cT_zFromKeepers 34 = .ok (.getfield 21, 3) := by decide +kernel
theorem dT_zFromKeepers_37 : decode cT_zFromKeepers 37 = .ok (.aload_n 0, 1) := by decide +kernel
theorem dT_zFromKeepers_38 : decode cT_zFromKeepers 38 = .ok (.getfield 11, 3) := by decide +kernel
theorem dT_zFromKeepers_41 : decode cT_zFromKeepers 41 = .ok (.iload_n 2, 1) := by decide +kernel
theorem dT_zFromKeepers_42 : decode cT_zFromKeepers 42 = .ok (.aaload, 1) := by decide +kernel
theorem dT_zFromKeepers_43 : decode cT_zFromKeepers 43 = .ok (.invokevirtual 55, 3) := by decide +kernel
theorem dT_zFromKeepers_46 : decode cT_zFromKeepers 46 = .ok (.iinc 2 1, 3) := by decide +kernel
theorem dT_zFromKeepers_49 : decode cT_zFromKeepers 49 = .ok (.goto (-38), 3) := by decide +kernel
theorem dT_zFromKeepers_52 : decode cT_zFromKeepers 52 = .ok (.aload_n 0, 1) := by decide +kernel
theorem dT_zFromKeepers_53 : decode cT_zFromKeepers 53 = .ok (.getfield 21, 3) := by decide +kernel
theorem dT_zFromKeepers_56 : decode cT_zFromKeepers 56 = .ok (.areturn, 1) := by decide +kernel
theorem dT_flipIfTold_0 : decode cT_flipIfTold 0 = .ok (.iconst 0, 1) := by decide +kernel
theorem dT_flipIfTold_1 : decode cT_flipIfTold 1 = .ok (.istore 5, 2) := by decide +kernel
theorem dT_flipIfTold_3 : decode cT_flipIfTold 3 = .ok (.iload 5, 2) := by decide +kernel
theorem dT_flipIfTold_5 : decode cT_flipIfTold 5 = .ok (.aload_n 0, 1) := by decide +kernel
theorem dT_flipIfTold_6 : decode cT_flipIfTold 6 = .ok (.getfield 31, 3) := by decide +kernel
theorem dT_flipIfTold_9 : decode cT_flipIfTold 9 = .ok (.if_icmp .ge 56, 3) := by decide +kernel
theorem dT_flipIfTold_12 : decode cT_flipIfTold 12 = .ok (.aload_n 0, 1) := by decide +kernel
theorem dT_flipIfTold_13 : decode cT_flipIfTold 13 = .ok (.getfield 11, 3) := by decide +kernel
theorem dT_flipIfTold_16 : decode cT_flipIfTold 16 = .ok (.iload 5, 2) := by decide +kernel
theorem dT_flipIfTold_18 : decode cT_flipIfTold 18 = .ok (.aaload, 1) := by decide +kernel
theorem dT_flipIfTold_19 : decode cT_flipIfTold 19 = .ok (.iload_n 1, 1) := by decide +kernel
theorem dT_flipIfTold_20 : decode cT_flipIfTold 20 = .ok (.invokevirtual 66, 3) := by decide +kernel
theorem dT_flipIfTold_23 : decode cT_flipIfTold 23 = .ok (.iconst 1, 1) := by decide +kernel
theorem dT_flipIfTold_24 : decode cT_flipIfTold 24 = .ok (.if_icmp .ne 35, 3) := by decide +kernel
theorem dT_flipIfTold_27 : decode cT_flipIfTold 27 = .ok (.aload_n 0, 1) := by decide +kernel
theorem dT_flipIfTold_28 : decode cT_flipIfTold 28 = .ok (.getfield 11, 3) := by decide +kernel
theorem dT_flipIfTold_31 : decode cT_flipIfTold 31 = .ok (.iload 5, 2) := by decide +kernel
theorem dT_flipIfTold_33 : decode cT_flipIfTold 33 = .ok (.aaload, 1) := by decide +kernel
theorem dT_flipIfTold_34 : decode cT_flipIfTold 34 = .ok (.dup, 1) := by decide +kernel
theorem dT_flipIfTold_35 : decode cT_flipIfTold 35 = .ok (.getfield 69, 3) := by decide +kernel
theorem dT_flipIfTold_38 : decode cT_flipIfTold 38 = .ok (.iload_n 2, 1) := by decide +kernel
theorem dT_flipIfTold_39 : decode cT_flipIfTold 39 = .ok (.ixor, 1) := by decide +kernel
theorem dT_flipIfTold_40 : decode cT_flipIfTold 40 = .ok (.putfield 69, 3) := by decide +kernel
theorem dT_flipIfTold_43 : decode cT_flipIfTold 43 = .ok (.aload_n 0, 1) := by decide +kernel
theorem dT_flipIfTold_44 : decode cT_flipIfTold 44 = .ok (.getfield 11, 3) := by decide +kernel
theorem dT_flipIfTold_47 : decode cT_flipIfTold 47 = .ok (.iload 5, 2) := by decide +kernel
theorem dT_flipIfTold_49 : decode cT_flipIfTold 49 = .ok (.aaload, 1) := by decide +kernel
theorem dT_flipIfTold_50 : decode cT_flipIfTold 50 = .ok (.dup, 1) := by decide +kernel
theorem dT_flipIfTold_51 : decode cT_flipIfTold 51 = .ok (.getfield 62, 3) := by decide +kernel
theorem dT_flipIfTold_54 : decode cT_flipIfTold 54 = .ok (.lload_n 3, 1) := by decide +kernel
theorem dT_flipIfTold_55 : decode cT_flipIfTold 55 = .ok (.lxor, 1) := by decide +kernel
theorem dT_flipIfTold_56 : decode cT_flipIfTold 56 = .ok (.putfield 62, 3) := by decide +kernel
theorem dT_flipIfTold_59 : decode cT_flipIfTold 59 = .ok (.iinc 5 1, 3) := by decide +kernel
theorem dT_flipIfTold_62 : decode cT_flipIfTold 62 = .ok (.goto (-59), 3) := by decide +kernel
theorem dT_flipIfTold_65 : decode cT_flipIfTold 65 = .ok (.return_, 1) := by decide +kernel
theorem dF_meetLook_0 : decode cF_meetLook 0 = .ok (.aload_n 0, 1) := by decide +kernel
theorem dF_meetLook_1 : decode cF_meetLook 1 = .ok (.dup, 1) := by decide +kernel
theorem dF_meetLook_2 : decode cF_meetLook 2 = .ok (.getfield 26, 3) := by decide +kernel
theorem dF_meetLook_5 : decode cF_meetLook 5 = .ok (.aload_n 0, 1) := by decide +kernel
theorem dF_meetLook_6 : decode cF_meetLook 6 = .ok (.getfield 12, 3) := by decide +kernel
theorem dF_meetLook_9 : decode cF_meetLook 9 = .ok (.iload_n 1, 1) := by decide +kernel
theorem dF_meetLook_10 : decode cF_meetLook 10 = .ok (.invokevirtual 33, 3) := by decide +kernel
theorem dF_meetLook_13 : decode cF_meetLook 13 = .ok (.i2l, 1) := by decide +kernel
theorem dF_meetLook_14 : decode cF_meetLook 14 = .ok (.iload_n 2, 1) := by decide +kernel
theorem dF_meetLook_15 : decode cF_meetLook 15 = .ok (.lshl, 1) := by decide +kernel
theorem dF_meetLook_16 : decode cF_meetLook 16 = .ok (.lor, 1) := by decide +kernel
theorem dF_meetLook_17 : decode cF_meetLook 17 = .ok (.putfield 26, 3) := by decide +kernel
theorem dF_meetLook_20 : decode cF_meetLook 20 = .ok (.aload_n 0, 1) := by decide +kernel
theorem dF_meetLook_21 : decode cF_meetLook 21 = .ok (.getfield 12, 3) := by decide +kernel
theorem dF_meetLook_24 : decode cF_meetLook 24 = .ok (.dup, 1) := by decide +kernel
theorem dF_meetLook_25 : decode cF_meetLook 25 = .ok (.getfield 37, 3) := by decide +kernel
theorem dF_meetLook_28 : decode cF_meetLook 28 = .ok (.iconst 1, 1) := by decide +kernel
theorem dF_meetLook_29 : decode cF_meetLook 29 = .ok (.iload_n 1, 1) := by decide +kernel
theorem dF_meetLook_30 : decode cF_meetLook 30 = .ok (.ishl, 1) := by decide +kernel
theorem dF_meetLook_31 : decode cF_meetLook 31 = .ok (.iconst (-1), 1) := by decide +kernel
theorem dF_meetLook_32 : decode cF_meetLook 32 = .ok (.ixor, 1) := by decide +kernel
theorem dF_meetLook_33 : decode cF_meetLook 33 = .ok (.iand, 1) := by decide +kernel
theorem dF_meetLook_34 : decode cF_meetLook 34 = .ok (.putfield 37, 3) := by decide +kernel
theorem dF_meetLook_37 : decode cF_meetLook 37 = .ok (.iload_n 3, 1) := by decide +kernel
theorem dF_meetLook_38 : decode cF_meetLook 38 = .ok (.ifCond .eq 20, 3) := by decide +kernel
theorem dF_meetLook_41 : decode cF_meetLook 41 = .ok (.aload_n 0, 1) := by decide +kernel
theorem dF_meetLook_42 : decode cF_meetLook 42 = .ok (.getfield 12, 3) := by decide +kernel
theorem dF_meetLook_45 : decode cF_meetLook 45 = .ok (.dup, 1) := by decide +kernel
theorem dF_meetLook_46 : decode cF_meetLook 46 = .ok (.getfield 40, 3) := by decide +kernel
theorem dF_meetLook_49 : decode cF_meetLook 49 = .ok (.iconst 1, 1) := by decide +kernel
theorem dF_meetLook_50 : decode cF_meetLook 50 = .ok (.iload_n 1, 1) := by decide +kernel
theorem dF_meetLook_51 : decode cF_meetLook 51 = .ok (.ishl, 1) := by decide +kernel
theorem dF_meetLook_52 : decode cF_meetLook 52 = .ok (.iconst (-1), 1) := by decide +kernel
theorem dF_meetLook_53 : decode cF_meetLook 53 = .ok (.ixor, 1) := by decide +kernel
theorem dF_meetLook_54 : decode cF_meetLook 54 = .ok (.iand, 1) := by decide +kernel
theorem dF_meetLook_55 : decode cF_meetLook 55 = .ok (.putfield 40, 3) := by decide +kernel
theorem dF_meetLook_58 : decode cF_meetLook 58 = .ok (.return_, 1) := by decide +kernel
theorem dF_start_0 : decode cF_start 0 = .ok (.iload_n 1, 1) := by decide +kernel
theorem dF_start_1 : decode cF_start 1 = .ok (.ifCond .eq 8, 3) := by decide +kernel
theorem dF_start_4 : decode cF_start 4 = .ok (.iload_n 1, 1) := by decide +kernel
theorem dF_start_5 : decode cF_start 5 = .ok (.iconst 1, 1) := by decide +kernel
theorem dF_start_6 : decode cF_start 6 = .ok (.if_icmp .ne 9, 3) := by decide +kernel
theorem dF_start_9 : decode cF_start 9 = .ok (.iconst 1, 1) := by decide +kernel
theorem dF_start_10 : decode cF_start 10 = .ok (.iload_n 2, 1) := by decide +kernel
theorem dF_start_11 : decode cF_start 11 = .ok (.ishl, 1) := by decide +kernel
theorem dF_start_12 : decode cF_start 12 = .ok (.goto 4, 3) := by decide +kernel
theorem dF_start_15 : decode cF_start 15 = .ok (.iconst 0, 1) := by decide +kernel
theorem dF_start_16 : decode cF_start 16 = .ok (.istore 4, 2) := by decide +kernel
theorem dF_start_18 : decode cF_start 18 = .ok (.iload_n 1, 1) := by decide +kernel
theorem dF_start_19 : decode cF_start 19 = .ok (.iconst 2, 1) := by decide +kernel
theorem dF_start_20 : decode cF_start 20 = .ok (.if_icmp .eq 8, 3) := by decide +kernel
theorem dF_start_23 : decode cF_start 23 = .ok (.iload_n 1, 1) := by decide +kernel
theorem dF_start_24 : decode cF_start 24 = .ok (.iconst 1, 1) := by decide +kernel
theorem dF_start_25 : decode cF_start 25 = .ok (.if_icmp .ne 9, 3) := by decide +kernel
theorem dF_start_28 : decode cF_start 28 = .ok (.iconst 1, 1) := by decide +kernel
theorem dF_start_29 : decode cF_start 29 = .ok (.iload_n 2, 1) := by decide +kernel
theorem dF_start_30 : decode cF_start 30 = .ok (.ishl, 1) := by decide +kernel
theorem dF_start_31 : decode cF_start 31 = .ok (.goto 4, 3) := by decide +kernel
theorem dF_start_34 : decode cF_start 34 = .ok (.iconst 0, 1) := by decide +kernel
theorem dF_start_35 : decode cF_start 35 = .ok (.istore 5, 2) := by decide +kernel
theorem dF_start_37 : decode cF_start 37 = .ok (.aload_n 0, 1) := by decide +kernel
theorem dF_start_38 : decode cF_start 38 = .ok (.getfield 12, 3) := by decide +kernel
theorem dF_start_41 : decode cF_start 41 = .ok (.iload 4, 2) := by decide +kernel
theorem dF_start_43 : decode cF_start 43 = .ok (.iload 5, 2) := by decide +kernel
theorem dF_start_45 : decode cF_start 45 = .ok (.invokevirtual 18, 3) := by decide +kernel
theorem dF_start_48 : decode cF_start 48 = .ok (.aload_n 0, 1) := by decide +kernel
theorem dF_start_49 : decode cF_start 49 = .ok (.iload_n 3, 1) := by decide +kernel
theorem dF_start_50 : decode cF_start 50 = .ok (.putfield 22, 3) := by decide +kernel
theorem dF_start_53 : decode cF_start 53 = .ok (.aload_n 0, 1) := by decide +kernel
theorem dF_start_54 : decode cF_start 54 = .ok (.lconst 0, 1) := by decide +kernel
theorem dF_start_55 : decode cF_start 55 = .ok (.putfield 26, 3) := by decide +kernel
theorem dF_start_58 : decode cF_start 58 = .ok (.aload_n 0, 1) := by decide +kernel
theorem dF_start_59 : decode cF_start 59 = .ok (.iconst 0, 1) := by decide +kernel
theorem dF_start_60 : decode cF_start 60 = .ok (.putfield 30, 3) := by decide +kernel
theorem dF_start_63 : decode cF_start 63 = .ok (.return_, 1) := by decide +kernel
theorem dF_meetCheck_0 : decode cF_meetCheck 0 = .ok (.aload_n 0, 1) := by decide +kernel
theorem dF_meetCheck_1 : decode cF_meetCheck 1 = .ok (.dup, 1) := by decide +kernel
theorem dF_meetCheck_2 : decode cF_meetCheck 2 = .ok (.getfield 30, 3) := by decide +kernel
theorem dF_meetCheck_5 : decode cF_meetCheck 5 = .ok (.aload_n 0, 1) := by decide +kernel
theorem dF_meetCheck_6 : decode cF_meetCheck 6 = .ok (.getfield 26, 3) := by decide +kernel
theorem dF_meetCheck_9 : decode cF_meetCheck 9 = .ok (.lload_n 2, 1) := by decide +kernel
theorem dF_meetCheck_10 : decode cF_meetCheck 10 = .ok (.land, 1) := by decide +kernel
theorem dF_meetCheck_11 : decode cF_meetCheck 11 = .ok (.invokestatic 43, 3) := by decide +kernel
theorem dF_meetCheck_14 : decode cF_meetCheck 14 = .ok (.iload_n 1, 1) := by decide +kernel
theorem dF_meetCheck_15 : decode cF_meetCheck 15 = .ok (.ishl, 1) := by decide +kernel
theorem dF_meetCheck_16 : decode cF_meetCheck 16 = .ok (.ior, 1) := by decide +kernel
theorem dF_meetCheck_17 : decode cF_meetCheck 17 = .ok (.putfield 30, 3) := by decide +kernel
theorem dF_meetCheck_20 : decode cF_meetCheck 20 = .ok (.return_, 1) := by decide +kernel
