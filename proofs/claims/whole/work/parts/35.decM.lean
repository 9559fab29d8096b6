theorem dM_init_0 : decode cM_init 0 = .ok (.aload_n 0, 1) := by decide +kernel
theorem dM_init_1 : decode cM_init 1 = .ok (.invokespecial 1, 3) := by decide +kernel
theorem dM_init_4 : decode cM_init 4 = .ok (.aload_n 0, 1) := by decide +kernel
theorem dM_init_5 : decode cM_init 5 = .ok (.sipush 300, 3) := by decide +kernel
theorem dM_init_8 : decode cM_init 8 = .ok (.newarray .int, 2) := by decide +kernel
theorem dM_init_10 : decode cM_init 10 = .ok (.putfield 7, 3) := by decide +kernel
theorem dM_init_13 : decode cM_init 13 = .ok (.aload_n 0, 1) := by decide +kernel
theorem dM_init_14 : decode cM_init 14 = .ok (.sipush 300, 3) := by decide +kernel
theorem dM_init_17 : decode cM_init 17 = .ok (.newarray .int, 2) := by decide +kernel
theorem dM_init_19 : decode cM_init 19 = .ok (.putfield 13, 3) := by decide +kernel
theorem dM_init_22 : decode cM_init 22 = .ok (.aload_n 0, 1) := by decide +kernel
theorem dM_init_23 : decode cM_init 23 = .ok (.sipush 300, 3) := by decide +kernel
theorem dM_init_26 : decode cM_init 26 = .ok (.newarray .int, 2) := by decide +kernel
theorem dM_init_28 : decode cM_init 28 = .ok (.putfield 16, 3) := by decide +kernel
theorem dM_init_31 : decode cM_init 31 = .ok (.aload_n 0, 1) := by decide +kernel
theorem dM_init_32 : decode cM_init 32 = .ok (.bipush 40, 2) := by decide +kernel
theorem dM_init_34 : decode cM_init 34 = .ok (.newarray .int, 2) := by decide +kernel
theorem dM_init_36 : decode cM_init 36 = .ok (.putfield 19, 3) := by decide +kernel
theorem dM_init_39 : decode cM_init 39 = .ok (.aload_n 0, 1) := by decide +kernel
theorem dM_init_40 : decode cM_init 40 = .ok (.bipush 40, 2) := by decide +kernel
theorem dM_init_42 : decode cM_init 42 = .ok (.newarray .int, 2) := by decide +kernel
theorem dM_init_44 : decode cM_init 44 = .ok (.putfield 22, 3) := by decide +kernel
theorem dM_init_47 : decode cM_init 47 = .ok (.aload_n 0, 1) := by decide +kernel
theorem dM_init_48 : decode cM_init 48 = .ok (.bipush 40, 2) := by decide +kernel
theorem dM_init_50 : decode cM_init 50 = .ok (.newarray .int, 2) := by decide +kernel
theorem dM_init_52 : decode cM_init 52 = .ok (.putfield 25, 3) := by decide +kernel
theorem dM_init_55 : decode cM_init 55 = .ok (.aload_n 0, 1) := by decide +kernel
theorem dM_init_56 : decode cM_init 56 = .ok (.bipush 16, 2) := by decide +kernel
theorem dM_init_58 : decode cM_init 58 = .ok (.newarray .long, 2) := by decide +kernel
theorem dM_init_60 : decode cM_init 60 = .ok (.putfield 28, 3) := by decide +kernel
theorem dM_init_63 : decode cM_init 63 = .ok (.aload_n 0, 1) := by decide +kernel
theorem dM_init_64 : decode cM_init 64 = .ok (.bipush 10, 2) := by decide +kernel
theorem dM_init_66 : decode cM_init 66 = .ok (.newarray .int, 2) := by decide +kernel
theorem dM_init_68 : decode cM_init 68 = .ok (.putfield 32, 3) := by decide +kernel
theorem dM_init_71 : decode cM_init 71 = .ok (.aload_n 0, 1) := by decide +kernel
theorem dM_init_72 : decode cM_init 72 = .ok (.bipush 10, 2) := by decide +kernel
theorem dM_init_74 : decode cM_init 74 = .ok (.newarray .int, 2) := by decide +kernel
theorem dM_init_76 : decode cM_init 76 = .ok (.putfield 35, 3) := by decide +kernel
theorem dM_init_79 : decode cM_init 79 = .ok (.aload_n 0, 1) := by decide +kernel
theorem dM_init_80 : decode cM_init 80 = .ok (.bipush 10, 2) := by decide +kernel
theorem dM_init_82 : decode cM_init 82 = .ok (.newarray .int, 2) := by decide +kernel
theorem dM_init_84 : decode cM_init 84 = .ok (.putfield 38, 3) := by decide +kernel
theorem dM_init_87 : decode cM_init 87 = .ok (.aload_n 0, 1) := by decide +kernel
theorem dM_init_88 : decode cM_init 88 = .ok (.bipush 10, 2) := by decide +kernel
theorem dM_init_90 : decode cM_init 90 = .ok (.newarray .long, 2) := by decide +kernel
theorem dM_init_92 : decode cM_init 92 = .ok (.putfield 41, 3) := by decide +kernel
theorem dM_init_95 : decode cM_init 95 = .ok (.aload_n 0, 1) := by decide +kernel
theorem dM_init_96 : decode cM_init 96 = .ok (.bipush 60, 2) := by decide +kernel
theorem dM_init_98 : decode cM_init 98 = .ok (.newarray .int, 2) := by decide +kernel
theorem dM_init_100 : decode cM_init 100 = .ok (.putfield 44, 3) := by decide +kernel
theorem dM_init_103 : decode cM_init 103 = .ok (.aload_n 0, 1) := by decide +kernel
theorem dM_init_104 : decode cM_init 104 = .ok (.bipush 60, 2) := by decide +kernel
theorem dM_init_106 : decode cM_init 106 = .ok (.newarray .long, 2) := by decide +kernel
theorem dM_init_108 : decode cM_init 108 = .ok (.putfield 47, 3) := by decide +kernel
theorem dM_init_111 : decode cM_init 111 = .ok (.aload_n 0, 1) := by decide +kernel
theorem dM_init_112 : decode cM_init 112 = .ok (.bipush 10, 2) := by decide +kernel
theorem dM_init_114 : decode cM_init 114 = .ok (.newarray .boolean, 2) := by decide +kernel
theorem dM_init_116 : decode cM_init 116 = .ok (.putfield 50, 3) := by decide +kernel
theorem dM_init_119 : decode cM_init 119 = .ok (.aload_n 0, 1) := by decide +kernel
theorem dM_init_120 : decode cM_init 120 = .ok (.bipush 40, 2) := by decide +kernel
theorem dM_init_122 : decode cM_init 122 = .ok (.newarray .int, 2) := by decide +kernel
theorem dM_init_124 : decode cM_init 124 = .ok (.putfield 54, 3) := by decide +kernel
theorem dM_init_127 : decode cM_init 127 = .ok (.aload_n 0, 1) := by decide +kernel
theorem dM_init_128 : decode cM_init 128 = .ok (.bipush 40, 2) := by decide +kernel
theorem dM_init_130 : decode cM_init 130 = .ok (.newarray .long, 2) := by decide +kernel
theorem dM_init_132 : decode cM_init 132 = .ok (.putfield 57, 3) := by decide +kernel
theorem dM_init_135 : decode cM_init 135 = .ok (.aload_n 0, 1) := by decide +kernel
theorem dM_init_136 : decode cM_init 136 = .ok (.iconst 1, 1) := by decide +kernel
theorem dM_init_137 : decode cM_init 137 = .ok (.invokevirtual 60, 3) := by decide +kernel
theorem dM_init_140 : decode cM_init 140 = .ok (.return_, 1) := by decide +kernel
theorem dM_start_0 : decode cM_start 0 = .ok (.aload_n 0, 1) := by decide +kernel
theorem dM_start_1 : decode cM_start 1 = .ok (.iload_n 1, 1) := by decide +kernel
theorem dM_start_2 : decode cM_start 2 = .ok (.putfield 68, 3) := by decide +kernel
theorem dM_start_5 : decode cM_start 5 = .ok (.aload_n 0, 1) := by decide +kernel
theorem dM_start_6 : decode cM_start 6 = .ok (.iconst 0, 1) := by decide +kernel
theorem dM_start_7 : decode cM_start 7 = .ok (.putfield 71, 3) := by decide +kernel
theorem dM_start_10 : decode cM_start 10 = .ok (.aload_n 0, 1) := by decide +kernel
theorem dM_start_11 : decode cM_start 11 = .ok (.iconst 0, 1) := by decide +kernel
theorem dM_start_12 : decode cM_start 12 = .ok (.putfield 74, 3) := by decide +kernel
theorem dM_start_15 : decode cM_start 15 = .ok (.aload_n 0, 1) := by decide +kernel
theorem dM_start_16 : decode cM_start 16 = .ok (.iconst 0, 1) := by decide +kernel
theorem dM_start_17 : decode cM_start 17 = .ok (.putfield 77, 3) := by decide +kernel
theorem dM_start_20 : decode cM_start 20 = .ok (.aload_n 0, 1) := by decide +kernel
theorem dM_start_21 : decode cM_start 21 = .ok (.iconst 0, 1) := by decide +kernel
theorem dM_start_22 : decode cM_start 22 = .ok (.putfield 80, 3) := by decide +kernel
theorem dM_start_25 : decode cM_start 25 = .ok (.return_, 1) := by decide +kernel
theorem dM_thrown_0 : decode cM_thrown 0 = .ok (.aload_n 0, 1) := by decide +kernel
theorem dM_thrown_1 : decode cM_thrown 1 = .ok (.getfield 64, 3) := by decide +kernel
theorem dM_thrown_4 : decode cM_thrown 4 = .ok (.ireturn, 1) := by decide +kernel
theorem dM_begin_0 : decode cM_begin 0 = .ok (.aload_n 0, 1) := by decide +kernel
theorem dM_begin_1 : decode cM_begin 1 = .ok (.iconst 0, 1) := by decide +kernel
theorem dM_begin_2 : decode cM_begin 2 = .ok (.putfield 64, 3) := by decide +kernel
theorem dM_begin_5 : decode cM_begin 5 = .ok (.iload_n 1, 1) := by decide +kernel
theorem dM_begin_6 : decode cM_begin 6 = .ok (.iconst 1, 1) := by decide +kernel
theorem dM_begin_7 : decode cM_begin 7 = .ok (.if_icmp .lt 9, 3) := by decide +kernel
theorem dM_begin_10 : decode cM_begin 10 = .ok (.iload_n 1, 1) := by decide +kernel
theorem dM_begin_11 : decode cM_begin 11 = .ok (.bipush 10, 2) := by decide +kernel
theorem dM_begin_13 : decode cM_begin 13 = .ok (.if_icmp .le 5, 3) := by decide +kernel
theorem dM_begin_16 : decode cM_begin 16 = .ok (.iconst 0, 1) := by decide +kernel
theorem dM_begin_17 : decode cM_begin 17 = .ok (.ireturn, 1) := by decide +kernel
theorem dM_begin_18 : decode cM_begin 18 = .ok (.aload_n 0, 1) := by decide +kernel
theorem dM_begin_19 : decode cM_begin 19 = .ok (.iload_n 1, 1) := by decide +kernel
theorem dM_begin_20 : decode cM_begin 20 = .ok (.invokevirtual 60, 3) := by decide +kernel
theorem dM_begin_23 : decode cM_begin 23 = .ok (.iconst 1, 1) := by decide +kernel
theorem dM_begin_24 : decode cM_begin 24 = .ok (.ireturn, 1) := by decide +kernel
theorem dM_gate_0 : decode cM_gate 0 = .ok (.aload_n 0, 1) := by decide +kernel
theorem dM_gate_1 : decode cM_gate 1 = .ok (.iconst 0, 1) := by decide +kernel
theorem dM_gate_2 : decode cM_gate 2 = .ok (.putfield 64, 3) := by decide +kernel
theorem dM_gate_5 : decode cM_gate 5 = .ok (.iload_n 1, 1) := by decide +kernel
theorem dM_gate_6 : decode cM_gate 6 = .ok (.ifCond .lt 27, 3) := by decide +kernel
theorem dM_gate_9 : decode cM_gate 9 = .ok (.iload_n 1, 1) := by decide +kernel
theorem dM_gate_10 : decode cM_gate 10 = .ok (.bipush 6, 2) := by decide +kernel
theorem dM_gate_12 : decode cM_gate 12 = .ok (.if_icmp .gt 21, 3) := by decide +kernel
theorem dM_gate_15 : decode cM_gate 15 = .ok (.aload_n 0, 1) := by decide +kernel
theorem dM_gate_16 : decode cM_gate 16 = .ok (.iload_n 2, 1) := by decide +kernel
theorem dM_gate_17 : decode cM_gate 17 = .ok (.invokevirtual 83, 3) := by decide +kernel
theorem dM_gate_20 : decode cM_gate 20 = .ok (.ifCond .eq 13, 3) := by decide +kernel
theorem dM_gate_23 : decode cM_gate 23 = .ok (.aload_n 0, 1) := by decide +kernel
theorem dM_gate_24 : decode cM_gate 24 = .ok (.getfield 71, 3) := by decide +kernel
theorem dM_gate_27 : decode cM_gate 27 = .ok (.sipush 300, 3) := by decide +kernel
theorem dM_gate_30 : decode cM_gate 30 = .ok (.if_icmp .ne 5, 3) := by decide +kernel
theorem dM_gate_33 : decode cM_gate 33 = .ok (.iconst 0, 1) := by decide +kernel
theorem dM_gate_34 : decode cM_gate 34 = .ok (.ireturn, 1) := by decide +kernel
theorem dM_gate_35 : decode cM_gate 35 = .ok (.iload_n 1, 1) := by decide +kernel
theorem dM_gate_36 : decode cM_gate 36 = .ok (.iconst 2, 1) := by decide +kernel
theorem dM_gate_37 : decode cM_gate 37 = .ok (.if_icmp .lt 23, 3) := by decide +kernel
theorem dM_gate_40 : decode cM_gate 40 = .ok (.iload_n 1, 1) := by decide +kernel
theorem dM_gate_41 : decode cM_gate 41 = .ok (.iconst 4, 1) := by decide +kernel
theorem dM_gate_42 : decode cM_gate 42 = .ok (.if_icmp .gt 18, 3) := by decide +kernel
theorem dM_gate_45 : decode cM_gate 45 = .ok (.aload_n 0, 1) := by decide +kernel
theorem dM_gate_46 : decode cM_gate 46 = .ok (.iload_n 3, 1) := by decide +kernel
theorem dM_gate_47 : decode cM_gate 47 = .ok (.invokevirtual 83, 3) := by decide +kernel
theorem dM_gate_50 : decode cM_gate 50 = .ok (.ifCond .eq 8, 3) := by decide +kernel
theorem dM_gate_53 : decode cM_gate 53 = .ok (.iload_n 2, 1) := by decide +kernel
theorem dM_gate_54 : decode cM_gate 54 = .ok (.iload_n 3, 1) := by decide +kernel
theorem dM_gate_55 : decode cM_gate 55 = .ok (.if_icmp .ne 5, 3) := by decide +kernel
theorem dM_gate_58 : decode cM_gate 58 = .ok (.iconst 0, 1) := by decide +kernel
theorem dM_gate_59 : decode cM_gate 59 = .ok (.ireturn, 1) := by decide +kernel
theorem dM_gate_60 : decode cM_gate 60 = .ok (.aload_n 0, 1) := by decide +kernel
theorem dM_gate_61 : decode cM_gate 61 = .ok (.iload_n 1, 1) := by decide +kernel
theorem dM_gate_62 : decode cM_gate 62 = .ok (.iload_n 2, 1) := by decide +kernel
theorem dM_gate_63 : decode cM_gate 63 = .ok (.iload_n 3, 1) := by decide +kernel
theorem dM_gate_64 : decode cM_gate 64 = .ok (.invokevirtual 87, 3) := by decide +kernel
theorem dM_gate_67 : decode cM_gate 67 = .ok (.iconst 1, 1) := by decide +kernel
theorem dM_gate_68 : decode cM_gate 68 = .ok (.ireturn, 1) := by decide +kernel
theorem dM_isWire_0 : decode cM_isWire 0 = .ok (.iload_n 1, 1) := by decide +kernel
theorem dM_isWire_1 : decode cM_isWire 1 = .ok (.ifCond .lt 15, 3) := by decide +kernel
theorem dM_isWire_4 : decode cM_isWire 4 = .ok (.iload_n 1, 1) := by decide +kernel
theorem dM_isWire_5 : decode cM_isWire 5 = .ok (.aload_n 0, 1) := by decide +kernel
theorem dM_isWire_6 : decode cM_isWire 6 = .ok (.getfield 68, 3) := by decide +kernel
theorem dM_isWire_9 : decode cM_isWire 9 = .ok (.if_icmp .ge 7, 3) := by decide +kernel
theorem dM_isWire_12 : decode cM_isWire 12 = .ok (.iconst 1, 1) := by decide +kernel
theorem dM_isWire_13 : decode cM_isWire 13 = .ok (.goto 4, 3) := by decide +kernel
theorem dM_isWire_16 : decode cM_isWire 16 = .ok (.iconst 0, 1) := by decide +kernel
theorem dM_isWire_17 : decode cM_isWire 17 = .ok (.ireturn, 1) := by decide +kernel
theorem dM_act_0 : decode cM_act 0 = .ok (.aload_n 0, 1) := by decide +kernel
theorem dM_act_1 : decode cM_act 1 = .ok (.getfield 7, 3) := by decide +kernel
theorem dM_act_4 : decode cM_act 4 = .ok (.aload_n 0, 1) := by decide +kernel
theorem dM_act_5 : decode cM_act 5 = .ok (.getfield 71, 3) := by decide +kernel
theorem dM_act_8 : decode cM_act 8 = .ok (.iload_n 1, 1) := by decide +kernel
theorem dM_act_9 : decode cM_act 9 = .ok (.iastore, 1) := by decide +kernel
theorem dM_act_10 : decode cM_act 10 = .ok (.aload_n 0, 1) := by decide +kernel
theorem dM_act_11 : decode cM_act 11 = .ok (.getfield 13, 3) := by decide +kernel
theorem dM_act_14 : decode cM_act 14 = .ok (.aload_n 0, 1) := by decide +kernel
theorem dM_act_15 : decode cM_act 15 = .ok (.getfield 71, 3) := by decide +kernel
theorem dM_act_18 : decode cM_act 18 = .ok (.iload_n 2, 1) := by decide +kernel
theorem dM_act_19 : decode cM_act 19 = .ok (.iastore, 1) := by decide +kernel
theorem dM_act_20 : decode cM_act 20 = .ok (.aload_n 0, 1) := by decide +kernel
theorem dM_act_21 : decode cM_act 21 = .ok (.getfield 16, 3) := by decide +kernel
theorem dM_act_24 : decode cM_act 24 = .ok (.aload_n 0, 1) := by decide +kernel
theorem dM_act_25 : decode cM_act 25 = .ok (.getfield 71, 3) := by decide +kernel
theorem dM_act_28 : decode cM_act 28 = .ok (.iload_n 3, 1) := by decide +kernel
theorem dM_act_29 : decode cM_act 29 = .ok (.iastore, 1) := by decide +kernel
theorem dM_act_30 : decode cM_act 30 = .ok (.aload_n 0, 1) := by decide +kernel
theorem dM_act_31 : decode cM_act 31 = .ok (.dup, 1) := by decide +kernel
theorem dM_act_32 : decode cM_act 32 = .ok (.getfield 71, 3) := by decide +kernel
theorem dM_act_35 : decode cM_act 35 = .ok (.iconst 1, 1) := by decide +kernel
theorem dM_act_36 : decode cM_act 36 = .ok (.iadd, 1) := by decide +kernel
theorem dM_act_37 : decode cM_act 37 = .ok (.putfield 71, 3) := by decide +kernel
theorem dM_act_40 : decode cM_act 40 = .ok (.return_, 1) := by decide +kernel
theorem dM_look_0 : decode cM_look 0 = .ok (.aload_n 0, 1) := by decide +kernel
theorem dM_look_1 : decode cM_look 1 = .ok (.iconst 0, 1) := by decide +kernel
theorem dM_look_2 : decode cM_look 2 = .ok (.putfield 64, 3) := by decide +kernel
theorem dM_look_5 : decode cM_look 5 = .ok (.aload_n 0, 1) := by decide +kernel
theorem dM_look_6 : decode cM_look 6 = .ok (.iload_n 1, 1) := by decide +kernel
theorem dM_look_7 : decode cM_look 7 = .ok (.invokevirtual 83, 3) := by decide +kernel
theorem dM_look_10 : decode cM_look 10 = .ok (.ifCond .eq 22, 3) := by decide +kernel
theorem dM_look_13 : decode cM_look 13 = .ok (.aload_n 0, 1) := by decide +kernel
theorem dM_look_14 : decode cM_look 14 = .ok (.getfield 74, 3) := by decide +kernel
theorem dM_look_17 : decode cM_look 17 = .ok (.bipush 60, 2) := by decide +kernel
theorem dM_look_19 : decode cM_look 19 = .ok (.if_icmp .eq 13, 3) := by decide +kernel
theorem dM_look_22 : decode cM_look 22 = .ok (.aload_n 0, 1) := by decide +kernel
theorem dM_look_23 : decode cM_look 23 = .ok (.getfield 71, 3) := by decide +kernel
theorem dM_look_26 : decode cM_look 26 = .ok (.sipush 300, 3) := by decide +kernel
theorem dM_look_29 : decode cM_look 29 = .ok (.if_icmp .ne 5, 3) := by decide +kernel
theorem dM_look_32 : decode cM_look 32 = .ok (.iconst (-1), 1) := by decide +kernel
theorem dM_look_33 : decode cM_look 33 = .ok (.ireturn, 1) := by decide +kernel
theorem dM_look_34 : decode cM_look 34 = .ok (.aload_n 0, 1) := by decide +kernel
theorem dM_look_35 : decode cM_look 35 = .ok (.iload_n 2, 1) := by decide +kernel
theorem dM_look_36 : decode cM_look 36 = .ok (.ifCond .eq 8, 3) := by decide +kernel
theorem dM_look_39 : decode cM_look 39 = .ok (.bipush 8, 2) := by decide +kernel
theorem dM_look_41 : decode cM_look 41 = .ok (.goto 5, 3) := by decide +kernel
theorem dM_look_44 : decode cM_look 44 = .ok (.bipush 7, 2) := by decide +kernel
theorem dM_look_46 : decode cM_look 46 = .ok (.iload_n 1, 1) := by decide +kernel
theorem dM_look_47 : decode cM_look 47 = .ok (.aload_n 0, 1) := by decide +kernel
theorem dM_look_48 : decode cM_look 48 = .ok (.getfield 74, 3) := by decide +kernel
theorem dM_look_51 : decode cM_look 51 = .ok (.invokevirtual 87, 3) := by decide +kernel
theorem dM_look_54 : decode cM_look 54 = .ok (.aload_n 0, 1) := by decide +kernel
theorem dM_look_55 : decode cM_look 55 = .ok (.dup, 1) := by decide +kernel
theorem dM_look_56 : decode cM_look 56 = .ok (.getfield 74, 3) := by decide +kernel
theorem dM_look_59 : decode cM_look 59 = .ok (.iconst 1, 1) := by decide +kernel
theorem dM_look_60 : decode cM_look 60 = .ok (.iadd, 1) := by decide +kernel
theorem dM_look_61 : decode cM_look 61 = .ok (.putfield 74, 3) := by decide +kernel
theorem dM_look_64 : decode cM_look 64 = .ok (.aload_n 0, 1) := by decide +kernel
theorem dM_look_65 : decode cM_look 65 = .ok (.getfield 74, 3) := by decide +kernel
theorem dM_look_68 : decode cM_look 68 = .ok (.iconst 1, 1) := by decide +kernel
theorem dM_look_69 : decode cM_look 69 = .ok (.isub, 1) := by decide +kernel
theorem dM_look_70 : decode cM_look 70 = .ok (.ireturn, 1) := by decide +kernel
theorem dM_fault_0 : decode cM_fault 0 = .ok (.aload_n 0, 1) := by decide +kernel
theorem dM_fault_1 : decode cM_fault 1 = .ok (.iconst 0, 1) := by decide +kernel
theorem dM_fault_2 : decode cM_fault 2 = .ok (.putfield 64, 3) := by decide +kernel
theorem dM_fault_5 : decode cM_fault 5 = .ok (.iload_n 1, 1) := by decide +kernel
theorem dM_fault_6 : decode cM_fault 6 = .ok (.ifCond .lt 45, 3) := by decide +kernel
theorem dM_fault_9 : decode cM_fault 9 = .ok (.iload_n 1, 1) := by decide +kernel
theorem dM_fault_10 : decode cM_fault 10 = .ok (.iconst 2, 1) := by decide +kernel
theorem dM_fault_11 : decode cM_fault 11 = .ok (.if_icmp .gt 40, 3) := by decide +kernel
theorem dM_fault_14 : decode cM_fault 14 = .ok (.aload_n 0, 1) := by decide +kernel
theorem dM_fault_15 : decode cM_fault 15 = .ok (.iload_n 2, 1) := by decide +kernel
theorem dM_fault_16 : decode cM_fault 16 = .ok (.invokevirtual 83, 3) := by decide +kernel
theorem dM_fault_19 : decode cM_fault 19 = .ok (.ifCond .eq 32, 3) := by decide +kernel
theorem dM_fault_22 : decode cM_fault 22 = .ok (.iload_n 3, 1) := by decide +kernel
theorem dM_fault_23 : decode cM_fault 23 = .ok (.ifCond .lt 28, 3) := by decide +kernel
theorem dM_fault_26 : decode cM_fault 26 = .ok (.iload_n 3, 1) := by decide +kernel
theorem dM_fault_27 : decode cM_fault 27 = .ok (.bipush 16, 2) := by decide +kernel
theorem dM_fault_29 : decode cM_fault 29 = .ok (.if_icmp .gt 22, 3) := by decide +kernel
theorem dM_fault_32 : decode cM_fault 32 = .ok (.aload_n 0, 1) := by decide +kernel
theorem dM_fault_33 : decode cM_fault 33 = .ok (.getfield 77, 3) := by decide +kernel
theorem dM_fault_36 : decode cM_fault 36 = .ok (.bipush 40, 2) := by decide +kernel
theorem dM_fault_38 : decode cM_fault 38 = .ok (.if_icmp .eq 13, 3) := by decide +kernel
theorem dM_fault_41 : decode cM_fault 41 = .ok (.aload_n 0, 1) := by decide +kernel
theorem dM_fault_42 : decode cM_fault 42 = .ok (.getfield 71, 3) := by decide +kernel
theorem dM_fault_45 : decode cM_fault 45 = .ok (.sipush 300, 3) := by decide +kernel
theorem dM_fault_48 : decode cM_fault 48 = .ok (.if_icmp .ne 5, 3) := by decide +kernel
theorem dM_fault_51 : decode cM_fault 51 = .ok (.iconst (-1), 1) := by decide +kernel
theorem dM_fault_52 : decode cM_fault 52 = .ok (.ireturn, 1) := by decide +kernel
theorem dM_fault_53 : decode cM_fault 53 = .ok (.aload_n 0, 1) := by decide +kernel
theorem dM_fault_54 : decode cM_fault 54 = .ok (.getfield 19, 3) := by decide +kernel
theorem dM_fault_57 : decode cM_fault 57 = .ok (.aload_n 0, 1) := by decide +kernel
theorem dM_fault_58 : decode cM_fault 58 = .ok (.getfield 77, 3) := by decide +kernel
theorem dM_fault_61 : decode cM_fault 61 = .ok (.aload_n 0, 1) := by decide +kernel
theorem dM_fault_62 : decode cM_fault 62 = .ok (.getfield 71, 3) := by decide +kernel
theorem dM_fault_65 : decode cM_fault 65 = .ok (.iastore, 1) := by decide +kernel
theorem dM_fault_66 : decode cM_fault 66 = .ok (.aload_n 0, 1) := by decide +kernel
theorem dM_fault_67 : decode cM_fault 67 = .ok (.getfield 22, 3) := by decide +kernel
theorem dM_fault_70 : decode cM_fault 70 = .ok (.aload_n 0, 1) := by decide +kernel
theorem dM_fault_71 : decode cM_fault 71 = .ok (.getfield 77, 3) := by decide +kernel
theorem dM_fault_74 : decode cM_fault 74 = .ok (.iload_n 1, 1) := by decide +kernel
theorem dM_fault_75 : decode cM_fault 75 = .ok (.iastore, 1) := by decide +kernel
theorem dM_fault_76 : decode cM_fault 76 = .ok (.aload_n 0, 1) := by decide +kernel
theorem dM_fault_77 : decode cM_fault 77 = .ok (.getfield 25, 3) := by decide +kernel
theorem dM_fault_80 : decode cM_fault 80 = .ok (.aload_n 0, 1) := by decide +kernel
theorem dM_fault_81 : decode cM_fault 81 = .ok (.getfield 77, 3) := by decide +kernel
theorem dM_fault_84 : decode cM_fault 84 = .ok (.iload_n 3, 1) := by decide +kernel
theorem dM_fault_85 : decode cM_fault 85 = .ok (.iastore, 1) := by decide +kernel
theorem dM_fault_86 : decode cM_fault 86 = .ok (.aload_n 0, 1) := by decide +kernel
theorem dM_fault_87 : decode cM_fault 87 = .ok (.bipush 9, 2) := by decide +kernel
theorem dM_fault_89 : decode cM_fault 89 = .ok (.iload_n 2, 1) := by decide +kernel
theorem dM_fault_90 : decode cM_fault 90 = .ok (.aload_n 0, 1) := by decide +kernel
theorem dM_fault_91 : decode cM_fault 91 = .ok (.getfield 77, 3) := by decide +kernel
theorem dM_fault_94 : decode cM_fault 94 = .ok (.invokevirtual 87, 3) := by decide +kernel
theorem dM_fault_97 : decode cM_fault 97 = .ok (.aload_n 0, 1) := by decide +kernel
theorem dM_fault_98 : decode cM_fault 98 = .ok (.dup, 1) := by decide +kernel
theorem dM_fault_99 : decode cM_fault 99 = .ok (.getfield 77, 3) := by decide +kernel
theorem dM_fault_102 : decode cM_fault 102 = .ok (.iconst 1, 1) := by decide +kernel
theorem dM_fault_103 : decode cM_fault 103 = .ok (.iadd, 1) := by decide +kernel
theorem dM_fault_104 : decode cM_fault 104 = .ok (.putfield 77, 3) := by decide +kernel
theorem dM_fault_107 : decode cM_fault 107 = .ok (.aload_n 0, 1) := by decide +kernel
theorem dM_fault_108 : decode cM_fault 108 = .ok (.getfield 77, 3) := by decide +kernel
theorem dM_fault_111 : decode cM_fault 111 = .ok (.iconst 1, 1) := by decide +kernel
theorem dM_fault_112 : decode cM_fault 112 = .ok (.isub, 1) := by decide +kernel
theorem dM_fault_113 : decode cM_fault 113 = .ok (.ireturn, 1) := by decide +kernel
theorem dM_check_0 : decode cM_check 0 = .ok (.aload_n 0, 1) := by decide +kernel
theorem dM_check_1 : decode cM_check 1 = .ok (.iconst 0, 1) := by decide +kernel
theorem dM_check_2 : decode cM_check 2 = .ok (.putfield 64, 3) := by decide +kernel
theorem dM_check_5 : decode cM_check 5 = .ok (.lload_n 1, 1) := by decide +kernel
theorem dM_check_6 : decode cM_check 6 = .ok (.aload_n 0, 1) := by decide +kernel
theorem dM_check_7 : decode cM_check 7 = .ok (.getfield 74, 3) := by decide +kernel
theorem dM_check_10 : decode cM_check 10 = .ok (.invokestatic 91, 3) := by decide +kernel
theorem dM_check_13 : decode cM_check 13 = .ok (.ifCond .eq 12, 3) := by decide +kernel
theorem dM_check_16 : decode cM_check 16 = .ok (.aload_n 0, 1) := by decide +kernel
theorem dM_check_17 : decode cM_check 17 = .ok (.getfield 80, 3) := by decide +kernel
theorem dM_check_20 : decode cM_check 20 = .ok (.bipush 16, 2) := by decide +kernel
theorem dM_check_22 : decode cM_check 22 = .ok (.if_icmp .ne 5, 3) := by decide +kernel
theorem dM_check_25 : decode cM_check 25 = .ok (.iconst (-1), 1) := by decide +kernel
theorem dM_check_26 : decode cM_check 26 = .ok (.ireturn, 1) := by decide +kernel
theorem dM_check_27 : decode cM_check 27 = .ok (.aload_n 0, 1) := by decide +kernel
theorem dM_check_28 : decode cM_check 28 = .ok (.getfield 28, 3) := by decide +kernel
theorem dM_check_31 : decode cM_check 31 = .ok (.aload_n 0, 1) := by decide +kernel
theorem dM_check_32 : decode cM_check 32 = .ok (.getfield 80, 3) := by decide +kernel
theorem dM_check_35 : decode cM_check 35 = .ok (.lload_n 1, 1) := by decide +kernel
theorem dM_check_36 : decode cM_check 36 = .ok (.lastore, 1) := by decide +kernel
theorem dM_check_37 : decode cM_check 37 = .ok (.aload_n 0, 1) := by decide +kernel
theorem dM_check_38 : decode cM_check 38 = .ok (.dup, 1) := by decide +kernel
theorem dM_check_39 : decode cM_check 39 = .ok (.getfield 80, 3) := by decide +kernel
theorem dM_check_42 : decode cM_check 42 = .ok (.iconst 1, 1) := by decide +kernel
theorem dM_check_43 : decode cM_check 43 = .ok (.iadd, 1) := by decide +kernel
theorem dM_check_44 : decode cM_check 44 = .ok (.putfield 80, 3) := by decide +kernel
theorem dM_check_47 : decode cM_check 47 = .ok (.aload_n 0, 1) := by decide +kernel
theorem dM_check_48 : decode cM_check 48 = .ok (.getfield 80, 3) := by decide +kernel
theorem dM_check_51 : decode cM_check 51 = .ok (.iconst 1, 1) := by decide +kernel
theorem dM_check_52 : decode cM_check 52 = .ok (.isub, 1) := by decide +kernel
theorem dM_check_53 : decode cM_check 53 = .ok (.ireturn, 1) := by decide +kernel
theorem dM_isSet_0 : decode cM_isSet 0 = .ok (.lload_n 0, 1) := by decide +kernel
theorem dM_isSet_1 : decode cM_isSet 1 = .ok (.lconst 0, 1) := by decide +kernel
theorem dM_isSet_2 : decode cM_isSet 2 = .ok (.lcmp, 1) := by decide +kernel
theorem dM_isSet_3 : decode cM_isSet 3 = .ok (.ifCond .lt 15, 3) := by decide +kernel
theorem dM_isSet_6 : decode cM_isSet 6 = .ok (.lload_n 0, 1) := by decide +kernel
theorem dM_isSet_7 : decode cM_isSet 7 = .ok (.iload_n 2, 1) := by decide +kernel
theorem dM_isSet_8 : decode cM_isSet 8 = .ok (.lushr, 1) := by decide +kernel
theorem dM_isSet_9 : decode cM_isSet 9 = .ok (.lconst 0, 1) := by decide +kernel
theorem dM_isSet_10 : decode cM_isSet 10 = .ok (.lcmp, 1) := by decide +kernel
theorem dM_isSet_11 : decode cM_isSet 11 = .ok (.ifCond .ne 7, 3) := by decide +kernel
theorem dM_isSet_14 : decode cM_isSet 14 = .ok (.iconst 1, 1) := by decide +kernel
theorem dM_isSet_15 : decode cM_isSet 15 = .ok (.goto 4, 3) := by decide +kernel
theorem dM_isSet_18 : decode cM_isSet 18 = .ok (.iconst 0, 1) := by decide +kernel
theorem dM_isSet_19 : decode cM_isSet 19 = .ok (.ireturn, 1) := by decide +kernel
theorem dM_outcome_0 : decode cM_outcome 0 = .ok (.aload_n 0, 1) := by decide +kernel
theorem dM_outcome_1 : decode cM_outcome 1 = .ok (.iconst 0, 1) := by decide +kernel
theorem dM_outcome_2 : decode cM_outcome 2 = .ok (.putfield 64, 3) := by decide +kernel
theorem dM_outcome_5 : decode cM_outcome 5 = .ok (.iload_n 1, 1) := by decide +kernel
theorem dM_outcome_6 : decode cM_outcome 6 = .ok (.ifCond .lt 20, 3) := by decide +kernel
theorem dM_outcome_9 : decode cM_outcome 9 = .ok (.iload_n 1, 1) := by decide +kernel
theorem dM_outcome_10 : decode cM_outcome 10 = .ok (.aload_n 0, 1) := by decide +kernel
theorem dM_outcome_11 : decode cM_outcome 11 = .ok (.getfield 74, 3) := by decide +kernel
theorem dM_outcome_14 : decode cM_outcome 14 = .ok (.if_icmp .ge 12, 3) := by decide +kernel
theorem dM_outcome_17 : decode cM_outcome 17 = .ok (.iload_n 2, 1) := by decide +kernel
theorem dM_outcome_18 : decode cM_outcome 18 = .ok (.ifCond .lt 8, 3) := by decide +kernel
theorem dM_outcome_21 : decode cM_outcome 21 = .ok (.iload_n 2, 1) := by decide +kernel
theorem dM_outcome_22 : decode cM_outcome 22 = .ok (.iconst 1, 1) := by decide +kernel
theorem dM_outcome_23 : decode cM_outcome 23 = .ok (.if_icmp .le 7, 3) := by decide +kernel
theorem dM_outcome_26 : decode cM_outcome 26 = .ok (.ldc2_w 145, 3) := by decide +kernel
theorem dM_outcome_29 : decode cM_outcome 29 = .ok (.lreturn, 1) := by decide +kernel
theorem dM_outcome_30 : decode cM_outcome 30 = .ok (.aload_n 0, 1) := by decide +kernel
theorem dM_outcome_31 : decode cM_outcome 31 = .ok (.invokevirtual 147, 3) := by decide +kernel
theorem dM_outcome_34 : decode cM_outcome 34 = .ok (.iload_n 2, 1) := by decide +kernel
theorem dM_outcome_35 : decode cM_outcome 35 = .ok (.ifCond .ne 13, 3) := by decide +kernel
theorem dM_outcome_38 : decode cM_outcome 38 = .ok (.aload_n 0, 1) := by decide +kernel
theorem dM_outcome_39 : decode cM_outcome 39 = .ok (.getfield 44, 3) := by decide +kernel
theorem dM_outcome_42 : decode cM_outcome 42 = .ok (.iload_n 1, 1) := by decide +kernel
theorem dM_outcome_43 : decode cM_outcome 43 = .ok (.iaload, 1) := by decide +kernel
theorem dM_outcome_44 : decode cM_outcome 44 = .ok (.i2l, 1) := by decide +kernel
theorem dM_outcome_45 : decode cM_outcome 45 = .ok (.goto 9, 3) := by decide +kernel
theorem dM_outcome_48 : decode cM_outcome 48 = .ok (.aload_n 0, 1) := by decide +kernel
theorem dM_outcome_49 : decode cM_outcome 49 = .ok (.getfield 47, 3) := by decide +kernel
theorem dM_outcome_52 : decode cM_outcome 52 = .ok (.iload_n 1, 1) := by decide +kernel
theorem dM_outcome_53 : decode cM_outcome 53 = .ok (.laload, 1) := by decide +kernel
theorem dM_outcome_54 : decode cM_outcome 54 = .ok (.lreturn, 1) := by decide +kernel
theorem dM_playAll_0 : decode cM_playAll 0 = .ok (.iconst 0, 1) := by decide +kernel
theorem dM_playAll_1 : decode cM_playAll 1 = .ok (.istore_n 1, 1) := by decide +kernel
theorem dM_playAll_2 : decode cM_playAll 2 = .ok (.iload_n 1, 1) := by decide +kernel
theorem dM_playAll_3 : decode cM_playAll 3 = .ok (.aload_n 0, 1) := by decide +kernel
theorem dM_playAll_4 : decode cM_playAll 4 = .ok (.getfield 68, 3) := by decide +kernel
theorem dM_playAll_7 : decode cM_playAll 7 = .ok (.if_icmp .ge 39, 3) := by decide +kernel
theorem dM_playAll_10 : decode cM_playAll 10 = .ok (.aload_n 0, 1) := by decide +kernel
theorem dM_playAll_11 : decode cM_playAll 11 = .ok (.getfield 32, 3) := by decide +kernel
theorem dM_playAll_14 : decode cM_playAll 14 = .ok (.iload_n 1, 1) := by decide +kernel
theorem dM_playAll_15 : decode cM_playAll 15 = .ok (.iconst 0, 1) := by decide +kernel
theorem dM_playAll_16 : decode cM_playAll 16 = .ok (.iastore, 1) := by decide +kernel
theorem dM_playAll_17 : decode cM_playAll 17 = .ok (.aload_n 0, 1) := by decide +kernel
theorem dM_playAll_18 : decode cM_playAll 18 = .ok (.getfield 35, 3) := by decide +kernel
theorem dM_playAll_21 : decode cM_playAll 21 = .ok (.iload_n 1, 1) := by decide +kernel
theorem dM_playAll_22 : decode cM_playAll 22 = .ok (.iconst 1, 1) := by decide +kernel
theorem dM_playAll_23 : decode cM_playAll 23 = .ok (.iload_n 1, 1) := by decide +kernel
theorem dM_playAll_24 : decode cM_playAll 24 = .ok (.ishl, 1) := by decide +kernel
theorem dM_playAll_25 : decode cM_playAll 25 = .ok (.iastore, 1) := by decide +kernel
theorem dM_playAll_26 : decode cM_playAll 26 = .ok (.aload_n 0, 1) := by decide +kernel
theorem dM_playAll_27 : decode cM_playAll 27 = .ok (.getfield 38, 3) := by decide +kernel
theorem dM_playAll_30 : decode cM_playAll 30 = .ok (.iload_n 1, 1) := by decide +kernel
theorem dM_playAll_31 : decode cM_playAll 31 = .ok (.iconst 0, 1) := by decide +kernel
theorem dM_playAll_32 : decode cM_playAll 32 = .ok (.iastore, 1) := by decide +kernel
theorem dM_playAll_33 : decode cM_playAll 33 = .ok (.aload_n 0, 1) := by decide +kernel
theorem dM_playAll_34 : decode cM_playAll 34 = .ok (.getfield 41, 3) := by decide +kernel
theorem dM_playAll_37 : decode cM_playAll 37 = .ok (.iload_n 1, 1) := by decide +kernel
theorem dM_playAll_38 : decode cM_playAll 38 = .ok (.lconst 0, 1) := by decide +kernel
theorem dM_playAll_39 : decode cM_playAll 39 = .ok (.lastore, 1) := by decide +kernel
theorem dM_playAll_40 : decode cM_playAll 40 = .ok (.iinc 1 1, 3) := by decide +kernel
theorem dM_playAll_43 : decode cM_playAll 43 = .ok (.goto (-41), 3) := by decide +kernel
theorem dM_playAll_46 : decode cM_playAll 46 = .ok (.iconst 0, 1) := by decide +kernel
theorem dM_playAll_47 : decode cM_playAll 47 = .ok (.istore_n 1, 1) := by decide +kernel
theorem dM_playAll_48 : decode cM_playAll 48 = .ok (.iload_n 1, 1) := by decide +kernel
theorem dM_playAll_49 : decode cM_playAll 49 = .ok (.aload_n 0, 1) := by decide +kernel
theorem dM_playAll_50 : decode cM_playAll 50 = .ok (.getfield 71, 3) := by decide +kernel
theorem dM_playAll_53 : decode cM_playAll 53 = .ok (.if_icmp .ge 107, 3) := by decide +kernel
theorem dM_playAll_56 : decode cM_playAll 56 = .ok (.aload_n 0, 1) := by decide +kernel
theorem dM_playAll_57 : decode cM_playAll 57 = .ok (.getfield 7, 3) := by decide +kernel
theorem dM_playAll_60 : decode cM_playAll 60 = .ok (.iload_n 1, 1) := by decide +kernel
theorem dM_playAll_61 : decode cM_playAll 61 = .ok (.iaload, 1) := by decide +kernel
theorem dM_playAll_62 : decode cM_playAll 62 = .ok (.bipush 7, 2) := by decide +kernel
theorem dM_playAll_64 : decode cM_playAll 64 = .ok (.if_icmp .eq 14, 3) := by decide +kernel
theorem dM_playAll_67 : decode cM_playAll 67 = .ok (.aload_n 0, 1) := by decide +kernel
theorem dM_playAll_68 : decode cM_playAll 68 = .ok (.getfield 7, 3) := by decide +kernel
theorem dM_playAll_71 : decode cM_playAll 71 = .ok (.iload_n 1, 1) := by decide +kernel
theorem dM_playAll_72 : decode cM_playAll 72 = .ok (.iaload, 1) := by decide +kernel
theorem dM_playAll_73 : decode cM_playAll 73 = .ok (.bipush 8, 2) := by decide +kernel
theorem dM_playAll_75 : decode cM_playAll 75 = .ok (.if_icmp .ne 19, 3) := by decide +kernel
theorem dM_playAll_78 : decode cM_playAll 78 = .ok (.aload_n 0, 1) := by decide +kernel
theorem dM_playAll_79 : decode cM_playAll 79 = .ok (.aload_n 0, 1) := by decide +kernel
theorem dM_playAll_80 : decode cM_playAll 80 = .ok (.getfield 16, 3) := by decide +kernel
theorem dM_playAll_83 : decode cM_playAll 83 = .ok (.iload_n 1, 1) := by decide +kernel
theorem dM_playAll_84 : decode cM_playAll 84 = .ok (.iaload, 1) := by decide +kernel
theorem dM_playAll_85 : decode cM_playAll 85 = .ok (.aload_n 0, 1) := by decide +kernel
theorem dM_playAll_86 : decode cM_playAll 86 = .ok (.getfield 13, 3) := by decide +kernel
theorem dM_playAll_89 : decode cM_playAll 89 = .ok (.iload_n 1, 1) := by decide +kernel
theorem dM_playAll_90 : decode cM_playAll 90 = .ok (.iaload, 1) := by decide +kernel
theorem dM_playAll_91 : decode cM_playAll 91 = .ok (.invokevirtual 136, 3) := by decide +kernel
theorem dM_playAll_94 : decode cM_playAll 94 = .ok (.aload_n 0, 1) := by decide +kernel
theorem dM_playAll_95 : decode cM_playAll 95 = .ok (.getfield 7, 3) := by decide +kernel
theorem dM_playAll_98 : decode cM_playAll 98 = .ok (.iload_n 1, 1) := by decide +kernel
theorem dM_playAll_99 : decode cM_playAll 99 = .ok (.iaload, 1) := by decide +kernel
theorem dM_playAll_100 : decode cM_playAll 100 = .ok (.bipush 8, 2) := by decide +kernel
theorem dM_playAll_102 : decode cM_playAll 102 = .ok (.if_icmp .ne 19, 3) := by decide +kernel
theorem dM_playAll_105 : decode cM_playAll 105 = .ok (.aload_n 0, 1) := by decide +kernel
theorem dM_playAll_106 : decode cM_playAll 106 = .ok (.aload_n 0, 1) := by decide +kernel
theorem dM_playAll_107 : decode cM_playAll 107 = .ok (.getfield 16, 3) := by decide +kernel
theorem dM_playAll_110 : decode cM_playAll 110 = .ok (.iload_n 1, 1) := by decide +kernel
theorem dM_playAll_111 : decode cM_playAll 111 = .ok (.iaload, 1) := by decide +kernel
theorem dM_playAll_112 : decode cM_playAll 112 = .ok (.aload_n 0, 1) := by decide +kernel
theorem dM_playAll_113 : decode cM_playAll 113 = .ok (.getfield 13, 3) := by decide +kernel
theorem dM_playAll_116 : decode cM_playAll 116 = .ok (.iload_n 1, 1) := by decide +kernel
theorem dM_playAll_117 : decode cM_playAll 117 = .ok (.iaload, 1) := by decide +kernel
theorem dM_playAll_118 : decode cM_playAll 118 = .ok (.invokevirtual 139, 3) := by decide +kernel
theorem dM_playAll_121 : decode cM_playAll 121 = .ok (.iconst 0, 1) := by decide +kernel
theorem dM_playAll_122 : decode cM_playAll 122 = .ok (.istore_n 2, 1) := by decide +kernel
theorem dM_playAll_123 : decode cM_playAll 123 = .ok (.iload_n 2, 1) := by decide +kernel
theorem dM_playAll_124 : decode cM_playAll 124 = .ok (.aload_n 0, 1) := by decide +kernel
theorem dM_playAll_125 : decode cM_playAll 125 = .ok (.getfield 68, 3) := by decide +kernel
theorem dM_playAll_128 : decode cM_playAll 128 = .ok (.if_icmp .ge 26, 3) := by decide +kernel
theorem dM_playAll_131 : decode cM_playAll 131 = .ok (.aload_n 0, 1) := by decide +kernel
theorem dM_playAll_132 : decode cM_playAll 132 = .ok (.getfield 7, 3) := by decide +kernel
theorem dM_playAll_135 : decode cM_playAll 135 = .ok (.iload_n 1, 1) := by decide +kernel
theorem dM_playAll_136 : decode cM_playAll 136 = .ok (.iaload, 1) := by decide +kernel
theorem dM_playAll_137 : decode cM_playAll 137 = .ok (.bipush 7, 2) := by decide +kernel
theorem dM_playAll_139 : decode cM_playAll 139 = .ok (.if_icmp .ge 15, 3) := by decide +kernel
theorem dM_playAll_142 : decode cM_playAll 142 = .ok (.aload_n 0, 1) := by decide +kernel
theorem dM_playAll_143 : decode cM_playAll 143 = .ok (.iload_n 2, 1) := by decide +kernel
theorem dM_playAll_144 : decode cM_playAll 144 = .ok (.iload_n 1, 1) := by decide +kernel
theorem dM_playAll_145 : decode cM_playAll 145 = .ok (.invokevirtual 142, 3) := by decide +kernel
theorem dM_playAll_148 : decode cM_playAll 148 = .ok (.iinc 2 1, 3) := by decide +kernel
theorem dM_playAll_151 : decode cM_playAll 151 = .ok (.goto (-28), 3) := by decide +kernel
theorem dM_playAll_154 : decode cM_playAll 154 = .ok (.iinc 1 1, 3) := by decide +kernel
theorem dM_playAll_157 : decode cM_playAll 157 = .ok (.goto (-109), 3) := by decide +kernel
theorem dM_playAll_160 : decode cM_playAll 160 = .ok (.return_, 1) := by decide +kernel
theorem dM_lookAt_0 : decode cM_lookAt 0 = .ok (.iconst 0, 1) := by decide +kernel
theorem dM_lookAt_1 : decode cM_lookAt 1 = .ok (.istore_n 3, 1) := by decide +kernel
theorem dM_lookAt_2 : decode cM_lookAt 2 = .ok (.iload_n 3, 1) := by decide +kernel
theorem dM_lookAt_3 : decode cM_lookAt 3 = .ok (.aload_n 0, 1) := by decide +kernel
theorem dM_lookAt_4 : decode cM_lookAt 4 = .ok (.getfield 68, 3) := by decide +kernel
theorem dM_lookAt_7 : decode cM_lookAt 7 = .ok (.if_icmp .ge 22, 3) := by decide +kernel
theorem dM_lookAt_10 : decode cM_lookAt 10 = .ok (.aload_n 0, 1) := by decide +kernel
theorem dM_lookAt_11 : decode cM_lookAt 11 = .ok (.getfield 32, 3) := by decide +kernel
theorem dM_lookAt_14 : decode cM_lookAt 14 = .ok (.iload_n 3, 1) := by decide +kernel
theorem dM_lookAt_15 : decode cM_lookAt 15 = .ok (.iaload, 1) := by decide +kernel
theorem dM_lookAt_16 : decode cM_lookAt 16 = .ok (.iload_n 2, 1) := by decide +kernel
theorem dM_lookAt_17 : decode cM_lookAt 17 = .ok (.invokestatic 95, 3) := by decide +kernel
theorem dM_lookAt_20 : decode cM_lookAt 20 = .ok (.ifCond .ne 9, 3) := by decide +kernel
theorem dM_lookAt_23 : decode cM_lookAt 23 = .ok (.iinc 3 1, 3) := by decide +kernel
theorem dM_lookAt_26 : decode cM_lookAt 26 = .ok (.goto (-24), 3) := by decide +kernel
theorem dM_lookAt_29 : decode cM_lookAt 29 = .ok (.iload_n 3, 1) := by decide +kernel
theorem dM_lookAt_30 : decode cM_lookAt 30 = .ok (.aload_n 0, 1) := by decide +kernel
theorem dM_lookAt_31 : decode cM_lookAt 31 = .ok (.getfield 68, 3) := by decide +kernel
theorem dM_lookAt_34 : decode cM_lookAt 34 = .ok (.if_icmp .ne 10, 3) := by decide +kernel
theorem dM_lookAt_37 : decode cM_lookAt 37 = .ok (.aload_n 0, 1) := by decide +kernel
theorem dM_lookAt_38 : decode cM_lookAt 38 = .ok (.iload_n 1, 1) := by decide +kernel
theorem dM_lookAt_39 : decode cM_lookAt 39 = .ok (.iload_n 2, 1) := by decide +kernel
theorem dM_lookAt_40 : decode cM_lookAt 40 = .ok (.invokevirtual 109, 3) := by decide +kernel
theorem dM_lookAt_43 : decode cM_lookAt 43 = .ok (.return_, 1) := by decide +kernel
theorem dM_lookAt_44 : decode cM_lookAt 44 = .ok (.iconst 0, 1) := by decide +kernel
theorem dM_lookAt_45 : decode cM_lookAt 45 = .ok (.istore 4, 2) := by decide +kernel
theorem dM_lookAt_47 : decode cM_lookAt 47 = .ok (.iload 4, 2) := by decide +kernel
theorem dM_lookAt_49 : decode cM_lookAt 49 = .ok (.aload_n 0, 1) := by decide +kernel
theorem dM_lookAt_50 : decode cM_lookAt 50 = .ok (.getfield 68, 3) := by decide +kernel
theorem dM_lookAt_53 : decode cM_lookAt 53 = .ok (.if_icmp .ge 37, 3) := by decide +kernel
theorem dM_lookAt_56 : decode cM_lookAt 56 = .ok (.iload 4, 2) := by decide +kernel
theorem dM_lookAt_58 : decode cM_lookAt 58 = .ok (.iload_n 3, 1) := by decide +kernel
theorem dM_lookAt_59 : decode cM_lookAt 59 = .ok (.if_icmp .eq 25, 3) := by decide +kernel
theorem dM_lookAt_62 : decode cM_lookAt 62 = .ok (.aload_n 0, 1) := by decide +kernel
theorem dM_lookAt_63 : decode cM_lookAt 63 = .ok (.getfield 32, 3) := by decide +kernel
theorem dM_lookAt_66 : decode cM_lookAt 66 = .ok (.iload 4, 2) := by decide +kernel
theorem dM_lookAt_68 : decode cM_lookAt 68 = .ok (.iaload, 1) := by decide +kernel
theorem dM_lookAt_69 : decode cM_lookAt 69 = .ok (.iload_n 2, 1) := by decide +kernel
theorem dM_lookAt_70 : decode cM_lookAt 70 = .ok (.invokestatic 95, 3) := by decide +kernel
theorem dM_lookAt_73 : decode cM_lookAt 73 = .ok (.iconst 1, 1) := by decide +kernel
theorem dM_lookAt_74 : decode cM_lookAt 74 = .ok (.if_icmp .ne 10, 3) := by decide +kernel
theorem dM_lookAt_77 : decode cM_lookAt 77 = .ok (.aload_n 0, 1) := by decide +kernel
theorem dM_lookAt_78 : decode cM_lookAt 78 = .ok (.iload 4, 2) := by decide +kernel
theorem dM_lookAt_80 : decode cM_lookAt 80 = .ok (.iload_n 3, 1) := by decide +kernel
theorem dM_lookAt_81 : decode cM_lookAt 81 = .ok (.invokevirtual 113, 3) := by decide +kernel
theorem dM_lookAt_84 : decode cM_lookAt 84 = .ok (.iinc 4 1, 3) := by decide +kernel
theorem dM_lookAt_87 : decode cM_lookAt 87 = .ok (.goto (-40), 3) := by decide +kernel
theorem dM_lookAt_90 : decode cM_lookAt 90 = .ok (.aload_n 0, 1) := by decide +kernel
theorem dM_lookAt_91 : decode cM_lookAt 91 = .ok (.getfield 32, 3) := by decide +kernel
theorem dM_lookAt_94 : decode cM_lookAt 94 = .ok (.iload_n 3, 1) := by decide +kernel
theorem dM_lookAt_95 : decode cM_lookAt 95 = .ok (.iconst 0, 1) := by decide +kernel
theorem dM_lookAt_96 : decode cM_lookAt 96 = .ok (.iastore, 1) := by decide +kernel
theorem dM_lookAt_97 : decode cM_lookAt 97 = .ok (.aload_n 0, 1) := by decide +kernel
theorem dM_lookAt_98 : decode cM_lookAt 98 = .ok (.getfield 35, 3) := by decide +kernel
theorem dM_lookAt_101 : decode cM_lookAt 101 = .ok (.iload_n 3, 1) := by decide +kernel
theorem dM_lookAt_102 : decode cM_lookAt 102 = .ok (.iconst 1, 1) := by decide +kernel
theorem dM_lookAt_103 : decode cM_lookAt 103 = .ok (.iload_n 2, 1) := by decide +kernel
theorem dM_lookAt_104 : decode cM_lookAt 104 = .ok (.ishl, 1) := by decide +kernel
theorem dM_lookAt_105 : decode cM_lookAt 105 = .ok (.iastore, 1) := by decide +kernel
theorem dM_lookAt_106 : decode cM_lookAt 106 = .ok (.aload_n 0, 1) := by decide +kernel
theorem dM_lookAt_107 : decode cM_lookAt 107 = .ok (.getfield 38, 3) := by decide +kernel
theorem dM_lookAt_110 : decode cM_lookAt 110 = .ok (.iload_n 3, 1) := by decide +kernel
theorem dM_lookAt_111 : decode cM_lookAt 111 = .ok (.iconst 0, 1) := by decide +kernel
theorem dM_lookAt_112 : decode cM_lookAt 112 = .ok (.iastore, 1) := by decide +kernel
theorem dM_lookAt_113 : decode cM_lookAt 113 = .ok (.aload_n 0, 1) := by decide +kernel
theorem dM_lookAt_114 : decode cM_lookAt 114 = .ok (.getfield 41, 3) := by decide +kernel
theorem dM_lookAt_117 : decode cM_lookAt 117 = .ok (.iload_n 3, 1) := by decide +kernel
theorem dM_lookAt_118 : decode cM_lookAt 118 = .ok (.lconst 1, 1) := by decide +kernel
theorem dM_lookAt_119 : decode cM_lookAt 119 = .ok (.iload_n 1, 1) := by decide +kernel
theorem dM_lookAt_120 : decode cM_lookAt 120 = .ok (.lshl, 1) := by decide +kernel
theorem dM_lookAt_121 : decode cM_lookAt 121 = .ok (.lastore, 1) := by decide +kernel
theorem dM_lookAt_122 : decode cM_lookAt 122 = .ok (.aload_n 0, 1) := by decide +kernel
theorem dM_lookAt_123 : decode cM_lookAt 123 = .ok (.getfield 44, 3) := by decide +kernel
theorem dM_lookAt_126 : decode cM_lookAt 126 = .ok (.iload_n 1, 1) := by decide +kernel
theorem dM_lookAt_127 : decode cM_lookAt 127 = .ok (.iconst 0, 1) := by decide +kernel
theorem dM_lookAt_128 : decode cM_lookAt 128 = .ok (.iastore, 1) := by decide +kernel
theorem dM_lookAt_129 : decode cM_lookAt 129 = .ok (.aload_n 0, 1) := by decide +kernel
theorem dM_lookAt_130 : decode cM_lookAt 130 = .ok (.getfield 47, 3) := by decide +kernel
theorem dM_lookAt_133 : decode cM_lookAt 133 = .ok (.iload_n 1, 1) := by decide +kernel
theorem dM_lookAt_134 : decode cM_lookAt 134 = .ok (.lconst 1, 1) := by decide +kernel
theorem dM_lookAt_135 : decode cM_lookAt 135 = .ok (.iload_n 1, 1) := by decide +kernel
theorem dM_lookAt_136 : decode cM_lookAt 136 = .ok (.lshl, 1) := by decide +kernel
theorem dM_lookAt_137 : decode cM_lookAt 137 = .ok (.lastore, 1) := by decide +kernel
theorem dM_lookAt_138 : decode cM_lookAt 138 = .ok (.return_, 1) := by decide +kernel
theorem dM_bit_0 : decode cM_bit 0 = .ok (.iload_n 0, 1) := by decide +kernel
theorem dM_bit_1 : decode cM_bit 1 = .ok (.iload_n 1, 1) := by decide +kernel
theorem dM_bit_2 : decode cM_bit 2 = .ok (.ishr, 1) := by decide +kernel
theorem dM_bit_3 : decode cM_bit 3 = .ok (.iconst 1, 1) := by decide +kernel
theorem dM_bit_4 : decode cM_bit 4 = .ok (.iand, 1) := by decide +kernel
theorem dM_bit_5 : decode cM_bit 5 = .ok (.ireturn, 1) := by decide +kernel
theorem dM_solve_0 : decode cM_solve 0 = .ok (.iconst 0, 1) := by decide +kernel
theorem dM_solve_1 : decode cM_solve 1 = .ok (.istore_n 3, 1) := by decide +kernel
theorem dM_solve_2 : decode cM_solve 2 = .ok (.iload_n 3, 1) := by decide +kernel
theorem dM_solve_3 : decode cM_solve 3 = .ok (.aload_n 0, 1) := by decide +kernel
theorem dM_solve_4 : decode cM_solve 4 = .ok (.getfield 68, 3) := by decide +kernel
theorem dM_solve_7 : decode cM_solve 7 = .ok (.if_icmp .ge 16, 3) := by decide +kernel
theorem dM_solve_10 : decode cM_solve 10 = .ok (.aload_n 0, 1) := by decide +kernel
theorem dM_solve_11 : decode cM_solve 11 = .ok (.getfield 50, 3) := by decide +kernel
theorem dM_solve_14 : decode cM_solve 14 = .ok (.iload_n 3, 1) := by decide +kernel
theorem dM_solve_15 : decode cM_solve 15 = .ok (.iconst 0, 1) := by decide +kernel
theorem dM_solve_16 : decode cM_solve 16 = .ok (.bastore, 1) := by decide +kernel
theorem dM_solve_17 : decode cM_solve 17 = .ok (.iinc 3 1, 3) := by decide +kernel
theorem dM_solve_20 : decode cM_solve 20 = .ok (.goto (-18), 3) := by decide +kernel
theorem dM_solve_23 : decode cM_solve 23 = .ok (.aload_n 0, 1) := by decide +kernel
theorem dM_solve_24 : decode cM_solve 24 = .ok (.iconst 0, 1) := by decide +kernel
theorem dM_solve_25 : decode cM_solve 25 = .ok (.putfield 119, 3) := by decide +kernel
theorem dM_solve_28 : decode cM_solve 28 = .ok (.aload_n 0, 1) := by decide +kernel
theorem dM_solve_29 : decode cM_solve 29 = .ok (.iconst 0, 1) := by decide +kernel
theorem dM_solve_30 : decode cM_solve 30 = .ok (.putfield 122, 3) := by decide +kernel
theorem dM_solve_33 : decode cM_solve 33 = .ok (.aload_n 0, 1) := by decide +kernel
theorem dM_solve_34 : decode cM_solve 34 = .ok (.iconst 0, 1) := by decide +kernel
theorem dM_solve_35 : decode cM_solve 35 = .ok (.putfield 116, 3) := by decide +kernel
theorem dM_solve_38 : decode cM_solve 38 = .ok (.aload_n 0, 1) := by decide +kernel
theorem dM_solve_39 : decode cM_solve 39 = .ok (.lconst 0, 1) := by decide +kernel
theorem dM_solve_40 : decode cM_solve 40 = .ok (.putfield 125, 3) := by decide +kernel
theorem dM_solve_43 : decode cM_solve 43 = .ok (.iconst 0, 1) := by decide +kernel
theorem dM_solve_44 : decode cM_solve 44 = .ok (.istore_n 3, 1) := by decide +kernel
theorem dM_solve_45 : decode cM_solve 45 = .ok (.iload_n 3, 1) := by decide +kernel
theorem dM_solve_46 : decode cM_solve 46 = .ok (.bipush 20, 2) := by decide +kernel
theorem dM_solve_48 : decode cM_solve 48 = .ok (.if_icmp .ge 162, 3) := by decide +kernel
theorem dM_solve_51 : decode cM_solve 51 = .ok (.iconst 0, 1) := by decide +kernel
theorem dM_solve_52 : decode cM_solve 52 = .ok (.istore 4, 2) := by decide +kernel
theorem dM_solve_54 : decode cM_solve 54 = .ok (.iload 4, 2) := by decide +kernel
theorem dM_solve_56 : decode cM_solve 56 = .ok (.aload_n 0, 1) := by decide +kernel
theorem dM_solve_57 : decode cM_solve 57 = .ok (.getfield 68, 3) := by decide +kernel
theorem dM_solve_60 : decode cM_solve 60 = .ok (.if_icmp .ge 40, 3) := by decide +kernel
theorem dM_solve_63 : decode cM_solve 63 = .ok (.aload_n 0, 1) := by decide +kernel
theorem dM_solve_64 : decode cM_solve 64 = .ok (.getfield 50, 3) := by decide +kernel
theorem dM_solve_67 : decode cM_solve 67 = .ok (.iload 4, 2) := by decide +kernel
theorem dM_solve_69 : decode cM_solve 69 = .ok (.baload, 1) := by decide +kernel
theorem dM_solve_70 : decode cM_solve 70 = .ok (.ifCond .ne 24, 3) := by decide +kernel
theorem dM_solve_73 : decode cM_solve 73 = .ok (.aload_n 0, 1) := by decide +kernel
theorem dM_solve_74 : decode cM_solve 74 = .ok (.getfield 32, 3) := by decide +kernel
theorem dM_solve_77 : decode cM_solve 77 = .ok (.iload 4, 2) := by decide +kernel
theorem dM_solve_79 : decode cM_solve 79 = .ok (.iaload, 1) := by decide +kernel
theorem dM_solve_80 : decode cM_solve 80 = .ok (.aload_n 0, 1) := by decide +kernel
theorem dM_solve_81 : decode cM_solve 81 = .ok (.getfield 35, 3) := by decide +kernel
theorem dM_solve_84 : decode cM_solve 84 = .ok (.iload 4, 2) := by decide +kernel
theorem dM_solve_86 : decode cM_solve 86 = .ok (.iaload, 1) := by decide +kernel
theorem dM_solve_87 : decode cM_solve 87 = .ok (.iload_n 3, 1) := by decide +kernel
theorem dM_solve_88 : decode cM_solve 88 = .ok (.invokestatic 129, 3) := by decide +kernel
theorem dM_solve_91 : decode cM_solve 91 = .ok (.ifCond .ne 9, 3) := by decide +kernel
theorem dM_solve_94 : decode cM_solve 94 = .ok (.iinc 4 1, 3) := by decide +kernel
theorem dM_solve_97 : decode cM_solve 97 = .ok (.goto (-43), 3) := by decide +kernel
theorem dM_solve_100 : decode cM_solve 100 = .ok (.iload 4, 2) := by decide +kernel
theorem dM_solve_102 : decode cM_solve 102 = .ok (.aload_n 0, 1) := by decide +kernel
theorem dM_solve_103 : decode cM_solve 103 = .ok (.getfield 68, 3) := by decide +kernel
theorem dM_solve_106 : decode cM_solve 106 = .ok (.if_icmp .ne 6, 3) := by decide +kernel
theorem dM_solve_109 : decode cM_solve 109 = .ok (.goto 95, 3) := by decide +kernel
theorem dM_solve_112 : decode cM_solve 112 = .ok (.aload_n 0, 1) := by decide +kernel
theorem dM_solve_113 : decode cM_solve 113 = .ok (.getfield 50, 3) := by decide +kernel
theorem dM_solve_116 : decode cM_solve 116 = .ok (.iload 4, 2) := by decide +kernel
theorem dM_solve_118 : decode cM_solve 118 = .ok (.iconst 1, 1) := by decide +kernel
theorem dM_solve_119 : decode cM_solve 119 = .ok (.bastore, 1) := by decide +kernel
theorem dM_solve_120 : decode cM_solve 120 = .ok (.iconst 0, 1) := by decide +kernel
theorem dM_solve_121 : decode cM_solve 121 = .ok (.istore 5, 2) := by decide +kernel
theorem dM_solve_123 : decode cM_solve 123 = .ok (.iload 5, 2) := by decide +kernel
theorem dM_solve_125 : decode cM_solve 125 = .ok (.aload_n 0, 1) := by decide +kernel
theorem dM_solve_126 : decode cM_solve 126 = .ok (.getfield 68, 3) := by decide +kernel
theorem dM_solve_129 : decode cM_solve 129 = .ok (.if_icmp .ge 49, 3) := by decide +kernel
theorem dM_solve_132 : decode cM_solve 132 = .ok (.aload_n 0, 1) := by decide +kernel
theorem dM_solve_133 : decode cM_solve 133 = .ok (.getfield 50, 3) := by decide +kernel
theorem dM_solve_136 : decode cM_solve 136 = .ok (.iload 5, 2) := by decide +kernel
theorem dM_solve_138 : decode cM_solve 138 = .ok (.baload, 1) := by decide +kernel
theorem dM_solve_139 : decode cM_solve 139 = .ok (.ifCond .ne 33, 3) := by decide +kernel
theorem dM_solve_142 : decode cM_solve 142 = .ok (.aload_n 0, 1) := by decide +kernel
theorem dM_solve_143 : decode cM_solve 143 = .ok (.getfield 32, 3) := by decide +kernel
theorem dM_solve_146 : decode cM_solve 146 = .ok (.iload 5, 2) := by decide +kernel
theorem dM_solve_148 : decode cM_solve 148 = .ok (.iaload, 1) := by decide +kernel
theorem dM_solve_149 : decode cM_solve 149 = .ok (.aload_n 0, 1) := by decide +kernel
theorem dM_solve_150 : decode cM_solve 150 = .ok (.getfield 35, 3) := by decide +kernel
theorem dM_solve_153 : decode cM_solve 153 = .ok (.iload 5, 2) := by decide +kernel
theorem dM_solve_155 : decode cM_solve 155 = .ok (.iaload, 1) := by decide +kernel
theorem dM_solve_156 : decode cM_solve 156 = .ok (.iload_n 3, 1) := by decide +kernel
theorem dM_solve_157 : decode cM_solve 157 = .ok (.invokestatic 129, 3) := by decide +kernel
theorem dM_solve_160 : decode cM_solve 160 = .ok (.iconst 1, 1) := by decide +kernel
theorem dM_solve_161 : decode cM_solve 161 = .ok (.if_icmp .ne 11, 3) := by decide +kernel
theorem dM_solve_164 : decode cM_solve 164 = .ok (.aload_n 0, 1) := by decide +kernel
theorem dM_solve_165 : decode cM_solve 165 = .ok (.iload 5, 2) := by decide +kernel
theorem dM_solve_167 : decode cM_solve 167 = .ok (.iload 4, 2) := by decide +kernel
theorem dM_solve_169 : decode cM_solve 169 = .ok (.invokevirtual 113, 3) := by decide +kernel
theorem dM_solve_172 : decode cM_solve 172 = .ok (.iinc 5 1, 3) := by decide +kernel
theorem dM_solve_175 : decode cM_solve 175 = .ok (.goto (-52), 3) := by decide +kernel
theorem dM_solve_178 : decode cM_solve 178 = .ok (.aload_n 0, 1) := by decide +kernel
theorem dM_solve_179 : decode cM_solve 179 = .ok (.getfield 119, 3) := by decide +kernel
theorem dM_solve_182 : decode cM_solve 182 = .ok (.aload_n 0, 1) := by decide +kernel
theorem dM_solve_183 : decode cM_solve 183 = .ok (.getfield 122, 3) := by decide +kernel
theorem dM_solve_186 : decode cM_solve 186 = .ok (.iconst 1, 1) := by decide +kernel
theorem dM_solve_187 : decode cM_solve 187 = .ok (.iload_n 2, 1) := by decide +kernel
theorem dM_solve_188 : decode cM_solve 188 = .ok (.ishl, 1) := by decide +kernel
theorem dM_solve_189 : decode cM_solve 189 = .ok (.ixor, 1) := by decide +kernel
theorem dM_solve_190 : decode cM_solve 190 = .ok (.iload_n 3, 1) := by decide +kernel
theorem dM_solve_191 : decode cM_solve 191 = .ok (.invokestatic 129, 3) := by decide +kernel
theorem dM_solve_194 : decode cM_solve 194 = .ok (.iconst 1, 1) := by decide +kernel
theorem dM_solve_195 : decode cM_solve 195 = .ok (.if_icmp .ne 9, 3) := by decide +kernel
theorem dM_solve_198 : decode cM_solve 198 = .ok (.aload_n 0, 1) := by decide +kernel
theorem dM_solve_199 : decode cM_solve 199 = .ok (.iload 4, 2) := by decide +kernel
theorem dM_solve_201 : decode cM_solve 201 = .ok (.invokevirtual 133, 3) := by decide +kernel
theorem dM_solve_204 : decode cM_solve 204 = .ok (.iinc 3 1, 3) := by decide +kernel
theorem dM_solve_207 : decode cM_solve 207 = .ok (.goto (-162), 3) := by decide +kernel
theorem dM_solve_210 : decode cM_solve 210 = .ok (.aload_n 0, 1) := by decide +kernel
theorem dM_solve_211 : decode cM_solve 211 = .ok (.getfield 44, 3) := by decide +kernel
theorem dM_solve_214 : decode cM_solve 214 = .ok (.iload_n 1, 1) := by decide +kernel
theorem dM_solve_215 : decode cM_solve 215 = .ok (.aload_n 0, 1) := by decide +kernel
theorem dM_solve_216 : decode cM_solve 216 = .ok (.getfield 116, 3) := by decide +kernel
theorem dM_solve_219 : decode cM_solve 219 = .ok (.iastore, 1) := by decide +kernel
theorem dM_solve_220 : decode cM_solve 220 = .ok (.aload_n 0, 1) := by decide +kernel
theorem dM_solve_221 : decode cM_solve 221 = .ok (.getfield 47, 3) := by decide +kernel
theorem dM_solve_224 : decode cM_solve 224 = .ok (.iload_n 1, 1) := by decide +kernel
theorem dM_solve_225 : decode cM_solve 225 = .ok (.aload_n 0, 1) := by decide +kernel
theorem dM_solve_226 : decode cM_solve 226 = .ok (.getfield 125, 3) := by decide +kernel
theorem dM_solve_229 : decode cM_solve 229 = .ok (.lastore, 1) := by decide +kernel
theorem dM_solve_230 : decode cM_solve 230 = .ok (.return_, 1) := by decide +kernel
theorem dM_column_0 : decode cM_column 0 = .ok (.iload_n 2, 1) := by decide +kernel
theorem dM_column_1 : decode cM_column 1 = .ok (.bipush 10, 2) := by decide +kernel
theorem dM_column_3 : decode cM_column 3 = .ok (.if_icmp .ge 11, 3) := by decide +kernel
theorem dM_column_6 : decode cM_column 6 = .ok (.iload_n 0, 1) := by decide +kernel
theorem dM_column_7 : decode cM_column 7 = .ok (.iload_n 2, 1) := by decide +kernel
theorem dM_column_8 : decode cM_column 8 = .ok (.invokestatic 95, 3) := by decide +kernel
theorem dM_column_11 : decode cM_column 11 = .ok (.goto 11, 3) := by decide +kernel
theorem dM_column_14 : decode cM_column 14 = .ok (.iload_n 1, 1) := by decide +kernel
theorem dM_column_15 : decode cM_column 15 = .ok (.iload_n 2, 1) := by decide +kernel
theorem dM_column_16 : decode cM_column 16 = .ok (.bipush 10, 2) := by decide +kernel
theorem dM_column_18 : decode cM_column 18 = .ok (.isub, 1) := by decide +kernel
theorem dM_column_19 : decode cM_column 19 = .ok (.invokestatic 95, 3) := by decide +kernel
theorem dM_column_22 : decode cM_column 22 = .ok (.ireturn, 1) := by decide +kernel
theorem dM_multiply_0 : decode cM_multiply 0 = .ok (.aload_n 0, 1) := by decide +kernel
theorem dM_multiply_1 : decode cM_multiply 1 = .ok (.getfield 38, 3) := by decide +kernel
theorem dM_multiply_4 : decode cM_multiply 4 = .ok (.iload_n 1, 1) := by decide +kernel
theorem dM_multiply_5 : decode cM_multiply 5 = .ok (.dup2, 1) := by decide +kernel
theorem dM_multiply_6 : decode cM_multiply 6 = .ok (.iaload, 1) := by decide +kernel
theorem dM_multiply_7 : decode cM_multiply 7 = .ok (.aload_n 0, 1) := by decide +kernel
theorem dM_multiply_8 : decode cM_multiply 8 = .ok (.getfield 38, 3) := by decide +kernel
theorem dM_multiply_11 : decode cM_multiply 11 = .ok (.iload_n 2, 1) := by decide +kernel
theorem dM_multiply_12 : decode cM_multiply 12 = .ok (.iaload, 1) := by decide +kernel
theorem dM_multiply_13 : decode cM_multiply 13 = .ok (.aload_n 0, 1) := by decide +kernel
theorem dM_multiply_14 : decode cM_multiply 14 = .ok (.aload_n 0, 1) := by decide +kernel
theorem dM_multiply_15 : decode cM_multiply 15 = .ok (.getfield 32, 3) := by decide +kernel
theorem dM_multiply_18 : decode cM_multiply 18 = .ok (.iload_n 2, 1) := by decide +kernel
theorem dM_multiply_19 : decode cM_multiply 19 = .ok (.iaload, 1) := by decide +kernel
theorem dM_multiply_20 : decode cM_multiply 20 = .ok (.aload_n 0, 1) := by decide +kernel
theorem dM_multiply_21 : decode cM_multiply 21 = .ok (.getfield 35, 3) := by decide +kernel
theorem dM_multiply_24 : decode cM_multiply 24 = .ok (.iload_n 2, 1) := by decide +kernel
theorem dM_multiply_25 : decode cM_multiply 25 = .ok (.iaload, 1) := by decide +kernel
theorem dM_multiply_26 : decode cM_multiply 26 = .ok (.aload_n 0, 1) := by decide +kernel
theorem dM_multiply_27 : decode cM_multiply 27 = .ok (.getfield 32, 3) := by decide +kernel
theorem dM_multiply_30 : decode cM_multiply 30 = .ok (.iload_n 1, 1) := by decide +kernel
theorem dM_multiply_31 : decode cM_multiply 31 = .ok (.iaload, 1) := by decide +kernel
theorem dM_multiply_32 : decode cM_multiply 32 = .ok (.aload_n 0, 1) := by decide +kernel
theorem dM_multiply_33 : decode cM_multiply 33 = .ok (.getfield 35, 3) := by decide +kernel
theorem dM_multiply_36 : decode cM_multiply 36 = .ok (.iload_n 1, 1) := by decide +kernel
theorem dM_multiply_37 : decode cM_multiply 37 = .ok (.iaload, 1) := by decide +kernel
theorem dM_multiply_38 : decode cM_multiply 38 = .ok (.invokevirtual 103, 3) := by decide +kernel
theorem dM_multiply_41 : decode cM_multiply 41 = .ok (.iconst 1, 1) := by decide +kernel
theorem dM_multiply_42 : decode cM_multiply 42 = .ok (.ishr, 1) := by decide +kernel
theorem dM_multiply_43 : decode cM_multiply 43 = .ok (.ixor, 1) := by decide +kernel
theorem dM_multiply_44 : decode cM_multiply 44 = .ok (.ixor, 1) := by decide +kernel
theorem dM_multiply_45 : decode cM_multiply 45 = .ok (.iastore, 1) := by decide +kernel
theorem dM_multiply_46 : decode cM_multiply 46 = .ok (.aload_n 0, 1) := by decide +kernel
theorem dM_multiply_47 : decode cM_multiply 47 = .ok (.getfield 41, 3) := by decide +kernel
theorem dM_multiply_50 : decode cM_multiply 50 = .ok (.iload_n 1, 1) := by decide +kernel
theorem dM_multiply_51 : decode cM_multiply 51 = .ok (.dup2, 1) := by decide +kernel
theorem dM_multiply_52 : decode cM_multiply 52 = .ok (.laload, 1) := by decide +kernel
theorem dM_multiply_53 : decode cM_multiply 53 = .ok (.aload_n 0, 1) := by decide +kernel
theorem dM_multiply_54 : decode cM_multiply 54 = .ok (.getfield 41, 3) := by decide +kernel
theorem dM_multiply_57 : decode cM_multiply 57 = .ok (.iload_n 2, 1) := by decide +kernel
theorem dM_multiply_58 : decode cM_multiply 58 = .ok (.laload, 1) := by decide +kernel
theorem dM_multiply_59 : decode cM_multiply 59 = .ok (.lxor, 1) := by decide +kernel
theorem dM_multiply_60 : decode cM_multiply 60 = .ok (.lastore, 1) := by decide +kernel
theorem dM_multiply_61 : decode cM_multiply 61 = .ok (.aload_n 0, 1) := by decide +kernel
theorem dM_multiply_62 : decode cM_multiply 62 = .ok (.getfield 32, 3) := by decide +kernel
theorem dM_multiply_65 : decode cM_multiply 65 = .ok (.iload_n 1, 1) := by decide +kernel
theorem dM_multiply_66 : decode cM_multiply 66 = .ok (.dup2, 1) := by decide +kernel
theorem dM_multiply_67 : decode cM_multiply 67 = .ok (.iaload, 1) := by decide +kernel
theorem dM_multiply_68 : decode cM_multiply 68 = .ok (.aload_n 0, 1) := by decide +kernel
theorem dM_multiply_69 : decode cM_multiply 69 = .ok (.getfield 32, 3) := by decide +kernel
theorem dM_multiply_72 : decode cM_multiply 72 = .ok (.iload_n 2, 1) := by decide +kernel
theorem dM_multiply_73 : decode cM_multiply 73 = .ok (.iaload, 1) := by decide +kernel
theorem dM_multiply_74 : decode cM_multiply 74 = .ok (.ixor, 1) := by decide +kernel
theorem dM_multiply_75 : decode cM_multiply 75 = .ok (.iastore, 1) := by decide +kernel
theorem dM_multiply_76 : decode cM_multiply 76 = .ok (.aload_n 0, 1) := by decide +kernel
theorem dM_multiply_77 : decode cM_multiply 77 = .ok (.getfield 35, 3) := by decide +kernel
theorem dM_multiply_80 : decode cM_multiply 80 = .ok (.iload_n 1, 1) := by decide +kernel
theorem dM_multiply_81 : decode cM_multiply 81 = .ok (.dup2, 1) := by decide +kernel
theorem dM_multiply_82 : decode cM_multiply 82 = .ok (.iaload, 1) := by decide +kernel
theorem dM_multiply_83 : decode cM_multiply 83 = .ok (.aload_n 0, 1) := by decide +kernel
theorem dM_multiply_84 : decode cM_multiply 84 = .ok (.getfield 35, 3) := by decide +kernel
theorem dM_multiply_87 : decode cM_multiply 87 = .ok (.iload_n 2, 1) := by decide +kernel
theorem dM_multiply_88 : decode cM_multiply 88 = .ok (.iaload, 1) := by decide +kernel
theorem dM_multiply_89 : decode cM_multiply 89 = .ok (.ixor, 1) := by decide +kernel
theorem dM_multiply_90 : decode cM_multiply 90 = .ok (.iastore, 1) := by decide +kernel
theorem dM_multiply_91 : decode cM_multiply 91 = .ok (.return_, 1) := by decide +kernel
theorem dM_powers_0 : decode cM_powers 0 = .ok (.iconst 0, 1) := by decide +kernel
theorem dM_powers_1 : decode cM_powers 1 = .ok (.istore 5, 2) := by decide +kernel
theorem dM_powers_3 : decode cM_powers 3 = .ok (.iconst 0, 1) := by decide +kernel
theorem dM_powers_4 : decode cM_powers 4 = .ok (.istore 6, 2) := by decide +kernel
theorem dM_powers_6 : decode cM_powers 6 = .ok (.iload 6, 2) := by decide +kernel
theorem dM_powers_8 : decode cM_powers 8 = .ok (.aload_n 0, 1) := by decide +kernel
theorem dM_powers_9 : decode cM_powers 9 = .ok (.getfield 68, 3) := by decide +kernel
theorem dM_powers_12 : decode cM_powers 12 = .ok (.if_icmp .ge 42, 3) := by decide +kernel
theorem dM_powers_15 : decode cM_powers 15 = .ok (.iload 5, 2) := by decide +kernel
theorem dM_powers_17 : decode cM_powers 17 = .ok (.iload_n 1, 1) := by decide +kernel
theorem dM_powers_18 : decode cM_powers 18 = .ok (.iload 6, 2) := by decide +kernel
theorem dM_powers_20 : decode cM_powers 20 = .ok (.invokestatic 95, 3) := by decide +kernel
theorem dM_powers_23 : decode cM_powers 23 = .ok (.iload_n 2, 1) := by decide +kernel
theorem dM_powers_24 : decode cM_powers 24 = .ok (.iload 6, 2) := by decide +kernel
theorem dM_powers_26 : decode cM_powers 26 = .ok (.invokestatic 95, 3) := by decide +kernel
theorem dM_powers_29 : decode cM_powers 29 = .ok (.iload_n 3, 1) := by decide +kernel
theorem dM_powers_30 : decode cM_powers 30 = .ok (.iload 6, 2) := by decide +kernel
theorem dM_powers_32 : decode cM_powers 32 = .ok (.invokestatic 95, 3) := by decide +kernel
theorem dM_powers_35 : decode cM_powers 35 = .ok (.iload 4, 2) := by decide +kernel
theorem dM_powers_37 : decode cM_powers 37 = .ok (.iload 6, 2) := by decide +kernel
theorem dM_powers_39 : decode cM_powers 39 = .ok (.invokestatic 95, 3) := by decide +kernel
theorem dM_powers_42 : decode cM_powers 42 = .ok (.invokestatic 99, 3) := by decide +kernel
theorem dM_powers_45 : decode cM_powers 45 = .ok (.iadd, 1) := by decide +kernel
theorem dM_powers_46 : decode cM_powers 46 = .ok (.istore 5, 2) := by decide +kernel
theorem dM_powers_48 : decode cM_powers 48 = .ok (.iinc 6 1, 3) := by decide +kernel
theorem dM_powers_51 : decode cM_powers 51 = .ok (.goto (-45), 3) := by decide +kernel
theorem dM_powers_54 : decode cM_powers 54 = .ok (.iload 5, 2) := by decide +kernel
theorem dM_powers_56 : decode cM_powers 56 = .ok (.iconst 3, 1) := by decide +kernel
theorem dM_powers_57 : decode cM_powers 57 = .ok (.iand, 1) := by decide +kernel
theorem dM_powers_58 : decode cM_powers 58 = .ok (.ireturn, 1) := by decide +kernel
theorem dM_power_0 : decode cM_power 0 = .ok (.iload_n 0, 1) := by decide +kernel
theorem dM_power_1 : decode cM_power 1 = .ok (.ifCond .ne 9, 3) := by decide +kernel
theorem dM_power_4 : decode cM_power 4 = .ok (.iload_n 1, 1) := by decide +kernel
theorem dM_power_5 : decode cM_power 5 = .ok (.ifCond .ne 5, 3) := by decide +kernel
theorem dM_power_8 : decode cM_power 8 = .ok (.iconst 0, 1) := by decide +kernel
theorem dM_power_9 : decode cM_power 9 = .ok (.ireturn, 1) := by decide +kernel
theorem dM_power_10 : decode cM_power 10 = .ok (.iload_n 0, 1) := by decide +kernel
theorem dM_power_11 : decode cM_power 11 = .ok (.iconst 1, 1) := by decide +kernel
theorem dM_power_12 : decode cM_power 12 = .ok (.if_icmp .ne 12, 3) := by decide +kernel
theorem dM_power_15 : decode cM_power 15 = .ok (.iload_n 1, 1) := by decide +kernel
theorem dM_power_16 : decode cM_power 16 = .ok (.iconst 1, 1) := by decide +kernel
theorem dM_power_17 : decode cM_power 17 = .ok (.if_icmp .ne 7, 3) := by decide +kernel
theorem dM_power_20 : decode cM_power 20 = .ok (.iload_n 3, 1) := by decide +kernel
theorem dM_power_21 : decode cM_power 21 = .ok (.iload_n 2, 1) := by decide +kernel
theorem dM_power_22 : decode cM_power 22 = .ok (.isub, 1) := by decide +kernel
theorem dM_power_23 : decode cM_power 23 = .ok (.ireturn, 1) := by decide +kernel
theorem dM_power_24 : decode cM_power 24 = .ok (.iload_n 0, 1) := by decide +kernel
theorem dM_power_25 : decode cM_power 25 = .ok (.iconst 1, 1) := by decide +kernel
theorem dM_power_26 : decode cM_power 26 = .ok (.if_icmp .ne 13, 3) := by decide +kernel
theorem dM_power_29 : decode cM_power 29 = .ok (.iload_n 3, 1) := by decide +kernel
theorem dM_power_30 : decode cM_power 30 = .ok (.iconst 2, 1) := by decide +kernel
theorem dM_power_31 : decode cM_power 31 = .ok (.iload_n 2, 1) := by decide +kernel
theorem dM_power_32 : decode cM_power 32 = .ok (.imul, 1) := by decide +kernel
theorem dM_power_33 : decode cM_power 33 = .ok (.iconst 1, 1) := by decide +kernel
theorem dM_power_34 : decode cM_power 34 = .ok (.isub, 1) := by decide +kernel
theorem dM_power_35 : decode cM_power 35 = .ok (.imul, 1) := by decide +kernel
theorem dM_power_36 : decode cM_power 36 = .ok (.goto 10, 3) := by decide +kernel
theorem dM_power_39 : decode cM_power 39 = .ok (.iload_n 2, 1) := by decide +kernel
theorem dM_power_40 : decode cM_power 40 = .ok (.iconst 1, 1) := by decide +kernel
theorem dM_power_41 : decode cM_power 41 = .ok (.iconst 2, 1) := by decide +kernel
theorem dM_power_42 : decode cM_power 42 = .ok (.iload_n 3, 1) := by decide +kernel
theorem dM_power_43 : decode cM_power 43 = .ok (.imul, 1) := by decide +kernel
theorem dM_power_44 : decode cM_power 44 = .ok (.isub, 1) := by decide +kernel
theorem dM_power_45 : decode cM_power 45 = .ok (.imul, 1) := by decide +kernel
theorem dM_power_46 : decode cM_power 46 = .ok (.ireturn, 1) := by decide +kernel
theorem dM_takeRow_0 : decode cM_takeRow 0 = .ok (.aload_n 0, 1) := by decide +kernel
theorem dM_takeRow_1 : decode cM_takeRow 1 = .ok (.dup, 1) := by decide +kernel
theorem dM_takeRow_2 : decode cM_takeRow 2 = .ok (.getfield 116, 3) := by decide +kernel
theorem dM_takeRow_5 : decode cM_takeRow 5 = .ok (.aload_n 0, 1) := by decide +kernel
theorem dM_takeRow_6 : decode cM_takeRow 6 = .ok (.getfield 38, 3) := by decide +kernel
theorem dM_takeRow_9 : decode cM_takeRow 9 = .ok (.iload_n 1, 1) := by decide +kernel
theorem dM_takeRow_10 : decode cM_takeRow 10 = .ok (.iaload, 1) := by decide +kernel
theorem dM_takeRow_11 : decode cM_takeRow 11 = .ok (.aload_n 0, 1) := by decide +kernel
theorem dM_takeRow_12 : decode cM_takeRow 12 = .ok (.aload_n 0, 1) := by decide +kernel
theorem dM_takeRow_13 : decode cM_takeRow 13 = .ok (.getfield 32, 3) := by decide +kernel
theorem dM_takeRow_16 : decode cM_takeRow 16 = .ok (.iload_n 1, 1) := by decide +kernel
theorem dM_takeRow_17 : decode cM_takeRow 17 = .ok (.iaload, 1) := by decide +kernel
theorem dM_takeRow_18 : decode cM_takeRow 18 = .ok (.aload_n 0, 1) := by decide +kernel
theorem dM_takeRow_19 : decode cM_takeRow 19 = .ok (.getfield 35, 3) := by decide +kernel
theorem dM_takeRow_22 : decode cM_takeRow 22 = .ok (.iload_n 1, 1) := by decide +kernel
theorem dM_takeRow_23 : decode cM_takeRow 23 = .ok (.iaload, 1) := by decide +kernel
theorem dM_takeRow_24 : decode cM_takeRow 24 = .ok (.aload_n 0, 1) := by decide +kernel
theorem dM_takeRow_25 : decode cM_takeRow 25 = .ok (.getfield 119, 3) := by decide +kernel
theorem dM_takeRow_28 : decode cM_takeRow 28 = .ok (.aload_n 0, 1) := by decide +kernel
theorem dM_takeRow_29 : decode cM_takeRow 29 = .ok (.getfield 122, 3) := by decide +kernel
theorem dM_takeRow_32 : decode cM_takeRow 32 = .ok (.invokevirtual 103, 3) := by decide +kernel
theorem dM_takeRow_35 : decode cM_takeRow 35 = .ok (.iconst 1, 1) := by decide +kernel
theorem dM_takeRow_36 : decode cM_takeRow 36 = .ok (.ishr, 1) := by decide +kernel
theorem dM_takeRow_37 : decode cM_takeRow 37 = .ok (.ixor, 1) := by decide +kernel
theorem dM_takeRow_38 : decode cM_takeRow 38 = .ok (.ixor, 1) := by decide +kernel
theorem dM_takeRow_39 : decode cM_takeRow 39 = .ok (.putfield 116, 3) := by decide +kernel
theorem dM_takeRow_42 : decode cM_takeRow 42 = .ok (.aload_n 0, 1) := by decide +kernel
theorem dM_takeRow_43 : decode cM_takeRow 43 = .ok (.dup, 1) := by decide +kernel
theorem dM_takeRow_44 : decode cM_takeRow 44 = .ok (.getfield 125, 3) := by decide +kernel
theorem dM_takeRow_47 : decode cM_takeRow 47 = .ok (.aload_n 0, 1) := by decide +kernel
theorem dM_takeRow_48 : decode cM_takeRow 48 = .ok (.getfield 41, 3) := by decide +kernel
theorem dM_takeRow_51 : decode cM_takeRow 51 = .ok (.iload_n 1, 1) := by decide +kernel
theorem dM_takeRow_52 : decode cM_takeRow 52 = .ok (.laload, 1) := by decide +kernel
theorem dM_takeRow_53 : decode cM_takeRow 53 = .ok (.lxor, 1) := by decide +kernel
theorem dM_takeRow_54 : decode cM_takeRow 54 = .ok (.putfield 125, 3) := by decide +kernel
theorem dM_takeRow_57 : decode cM_takeRow 57 = .ok (.aload_n 0, 1) := by decide +kernel
theorem dM_takeRow_58 : decode cM_takeRow 58 = .ok (.dup, 1) := by decide +kernel
theorem dM_takeRow_59 : decode cM_takeRow 59 = .ok (.getfield 119, 3) := by decide +kernel
theorem dM_takeRow_62 : decode cM_takeRow 62 = .ok (.aload_n 0, 1) := by decide +kernel
theorem dM_takeRow_63 : decode cM_takeRow 63 = .ok (.getfield 32, 3) := by decide +kernel
theorem dM_takeRow_66 : decode cM_takeRow 66 = .ok (.iload_n 1, 1) := by decide +kernel
theorem dM_takeRow_67 : decode cM_takeRow 67 = .ok (.iaload, 1) := by decide +kernel
theorem dM_takeRow_68 : decode cM_takeRow 68 = .ok (.ixor, 1) := by decide +kernel
theorem dM_takeRow_69 : decode cM_takeRow 69 = .ok (.putfield 119, 3) := by decide +kernel
theorem dM_takeRow_72 : decode cM_takeRow 72 = .ok (.aload_n 0, 1) := by decide +kernel
theorem dM_takeRow_73 : decode cM_takeRow 73 = .ok (.dup, 1) := by decide +kernel
theorem dM_takeRow_74 : decode cM_takeRow 74 = .ok (.getfield 122, 3) := by decide +kernel
theorem dM_takeRow_77 : decode cM_takeRow 77 = .ok (.aload_n 0, 1) := by decide +kernel
theorem dM_takeRow_78 : decode cM_takeRow 78 = .ok (.getfield 35, 3) := by decide +kernel
theorem dM_takeRow_81 : decode cM_takeRow 81 = .ok (.iload_n 1, 1) := by decide +kernel
theorem dM_takeRow_82 : decode cM_takeRow 82 = .ok (.iaload, 1) := by decide +kernel
theorem dM_takeRow_83 : decode cM_takeRow 83 = .ok (.ixor, 1) := by decide +kernel
theorem dM_takeRow_84 : decode cM_takeRow 84 = .ok (.putfield 122, 3) := by decide +kernel
theorem dM_takeRow_87 : decode cM_takeRow 87 = .ok (.return_, 1) := by decide +kernel
theorem dM_clearWire_0 : decode cM_clearWire 0 = .ok (.iconst 0, 1) := by decide +kernel
theorem dM_clearWire_1 : decode cM_clearWire 1 = .ok (.istore_n 3, 1) := by decide +kernel
theorem dM_clearWire_2 : decode cM_clearWire 2 = .ok (.iload_n 3, 1) := by decide +kernel
theorem dM_clearWire_3 : decode cM_clearWire 3 = .ok (.aload_n 0, 1) := by decide +kernel
theorem dM_clearWire_4 : decode cM_clearWire 4 = .ok (.getfield 68, 3) := by decide +kernel
theorem dM_clearWire_7 : decode cM_clearWire 7 = .ok (.if_icmp .ge 55, 3) := by decide +kernel
theorem dM_clearWire_10 : decode cM_clearWire 10 = .ok (.aload_n 0, 1) := by decide +kernel
theorem dM_clearWire_11 : decode cM_clearWire 11 = .ok (.getfield 35, 3) := by decide +kernel
theorem dM_clearWire_14 : decode cM_clearWire 14 = .ok (.iload_n 3, 1) := by decide +kernel
theorem dM_clearWire_15 : decode cM_clearWire 15 = .ok (.iaload, 1) := by decide +kernel
theorem dM_clearWire_16 : decode cM_clearWire 16 = .ok (.iload_n 2, 1) := by decide +kernel
theorem dM_clearWire_17 : decode cM_clearWire 17 = .ok (.invokestatic 95, 3) := by decide +kernel
theorem dM_clearWire_20 : decode cM_clearWire 20 = .ok (.ifCond .ne 6, 3) := by decide +kernel
theorem dM_clearWire_23 : decode cM_clearWire 23 = .ok (.goto 33, 3) := by decide +kernel
theorem dM_clearWire_26 : decode cM_clearWire 26 = .ok (.aload_n 0, 1) := by decide +kernel
theorem dM_clearWire_27 : decode cM_clearWire 27 = .ok (.getfield 38, 3) := by decide +kernel
theorem dM_clearWire_30 : decode cM_clearWire 30 = .ok (.iload_n 3, 1) := by decide +kernel
theorem dM_clearWire_31 : decode cM_clearWire 31 = .ok (.dup2, 1) := by decide +kernel
theorem dM_clearWire_32 : decode cM_clearWire 32 = .ok (.iaload, 1) := by decide +kernel
theorem dM_clearWire_33 : decode cM_clearWire 33 = .ok (.aload_n 0, 1) := by decide +kernel
theorem dM_clearWire_34 : decode cM_clearWire 34 = .ok (.getfield 44, 3) := by decide +kernel
theorem dM_clearWire_37 : decode cM_clearWire 37 = .ok (.iload_n 1, 1) := by decide +kernel
theorem dM_clearWire_38 : decode cM_clearWire 38 = .ok (.iaload, 1) := by decide +kernel
theorem dM_clearWire_39 : decode cM_clearWire 39 = .ok (.ixor, 1) := by decide +kernel
theorem dM_clearWire_40 : decode cM_clearWire 40 = .ok (.iastore, 1) := by decide +kernel
theorem dM_clearWire_41 : decode cM_clearWire 41 = .ok (.aload_n 0, 1) := by decide +kernel
theorem dM_clearWire_42 : decode cM_clearWire 42 = .ok (.getfield 41, 3) := by decide +kernel
theorem dM_clearWire_45 : decode cM_clearWire 45 = .ok (.iload_n 3, 1) := by decide +kernel
theorem dM_clearWire_46 : decode cM_clearWire 46 = .ok (.dup2, 1) := by decide +kernel
theorem dM_clearWire_47 : decode cM_clearWire 47 = .ok (.laload, 1) := by decide +kernel
theorem dM_clearWire_48 : decode cM_clearWire 48 = .ok (.aload_n 0, 1) := by decide +kernel
theorem dM_clearWire_49 : decode cM_clearWire 49 = .ok (.getfield 47, 3) := by decide +kernel
theorem dM_clearWire_52 : decode cM_clearWire 52 = .ok (.iload_n 1, 1) := by decide +kernel
theorem dM_clearWire_53 : decode cM_clearWire 53 = .ok (.laload, 1) := by decide +kernel
theorem dM_clearWire_54 : decode cM_clearWire 54 = .ok (.lxor, 1) := by decide +kernel
theorem dM_clearWire_55 : decode cM_clearWire 55 = .ok (.lastore, 1) := by decide +kernel
theorem dM_clearWire_56 : decode cM_clearWire 56 = .ok (.iinc 3 1, 3) := by decide +kernel
theorem dM_clearWire_59 : decode cM_clearWire 59 = .ok (.goto (-57), 3) := by decide +kernel
theorem dM_clearWire_62 : decode cM_clearWire 62 = .ok (.return_, 1) := by decide +kernel
theorem dM_gateRow_0 : decode cM_gateRow 0 = .ok (.aload_n 0, 1) := by decide +kernel
theorem dM_gateRow_1 : decode cM_gateRow 1 = .ok (.getfield 13, 3) := by decide +kernel
theorem dM_gateRow_4 : decode cM_gateRow 4 = .ok (.iload_n 2, 1) := by decide +kernel
theorem dM_gateRow_5 : decode cM_gateRow 5 = .ok (.iaload, 1) := by decide +kernel
theorem dM_gateRow_6 : decode cM_gateRow 6 = .ok (.istore_n 3, 1) := by decide +kernel
theorem dM_gateRow_7 : decode cM_gateRow 7 = .ok (.aload_n 0, 1) := by decide +kernel
theorem dM_gateRow_8 : decode cM_gateRow 8 = .ok (.getfield 16, 3) := by decide +kernel
theorem dM_gateRow_11 : decode cM_gateRow 11 = .ok (.iload_n 2, 1) := by decide +kernel
theorem dM_gateRow_12 : decode cM_gateRow 12 = .ok (.iaload, 1) := by decide +kernel
theorem dM_gateRow_13 : decode cM_gateRow 13 = .ok (.istore 4, 2) := by decide +kernel
theorem dM_gateRow_15 : decode cM_gateRow 15 = .ok (.aload_n 0, 1) := by decide +kernel
theorem dM_gateRow_16 : decode cM_gateRow 16 = .ok (.getfield 32, 3) := by decide +kernel
theorem dM_gateRow_19 : decode cM_gateRow 19 = .ok (.iload_n 1, 1) := by decide +kernel
theorem dM_gateRow_20 : decode cM_gateRow 20 = .ok (.iaload, 1) := by decide +kernel
theorem dM_gateRow_21 : decode cM_gateRow 21 = .ok (.iload_n 3, 1) := by decide +kernel
theorem dM_gateRow_22 : decode cM_gateRow 22 = .ok (.invokestatic 95, 3) := by decide +kernel
theorem dM_gateRow_25 : decode cM_gateRow 25 = .ok (.istore 5, 2) := by decide +kernel
theorem dM_gateRow_27 : decode cM_gateRow 27 = .ok (.aload_n 0, 1) := by decide +kernel
theorem dM_gateRow_28 : decode cM_gateRow 28 = .ok (.getfield 35, 3) := by decide +kernel
theorem dM_gateRow_31 : decode cM_gateRow 31 = .ok (.iload_n 1, 1) := by decide +kernel
theorem dM_gateRow_32 : decode cM_gateRow 32 = .ok (.iaload, 1) := by decide +kernel
theorem dM_gateRow_33 : decode cM_gateRow 33 = .ok (.iload_n 3, 1) := by decide +kernel
theorem dM_gateRow_34 : decode cM_gateRow 34 = .ok (.invokestatic 95, 3) := by decide +kernel
theorem dM_gateRow_37 : decode cM_gateRow 37 = .ok (.istore 6, 2) := by decide +kernel
theorem dM_gateRow_39 : decode cM_gateRow 39 = .ok (.aload_n 0, 1) := by decide +kernel
theorem dM_gateRow_40 : decode cM_gateRow 40 = .ok (.getfield 7, 3) := by decide +kernel
theorem dM_gateRow_43 : decode cM_gateRow 43 = .ok (.iload_n 2, 1) := by decide +kernel
theorem dM_gateRow_44 : decode cM_gateRow 44 = .ok (.iaload, 1) := by decide +kernel
theorem dM_gateRow_45 : decode cM_gateRow 45 = .ok (.tableswitch 291 0 5 #[39, 88, 118, 197, 266, 277], 39) := by decide +kernel
theorem dM_gateRow_84 : decode cM_gateRow 84 = .ok (.aload_n 0, 1) := by decide +kernel
theorem dM_gateRow_85 : decode cM_gateRow 85 = .ok (.getfield 38, 3) := by decide +kernel
theorem dM_gateRow_88 : decode cM_gateRow 88 = .ok (.iload_n 1, 1) := by decide +kernel
theorem dM_gateRow_89 : decode cM_gateRow 89 = .ok (.dup2, 1) := by decide +kernel
theorem dM_gateRow_90 : decode cM_gateRow 90 = .ok (.iaload, 1) := by decide +kernel
theorem dM_gateRow_91 : decode cM_gateRow 91 = .ok (.iload 5, 2) := by decide +kernel
theorem dM_gateRow_93 : decode cM_gateRow 93 = .ok (.iload 6, 2) := by decide +kernel
theorem dM_gateRow_95 : decode cM_gateRow 95 = .ok (.iand, 1) := by decide +kernel
theorem dM_gateRow_96 : decode cM_gateRow 96 = .ok (.ixor, 1) := by decide +kernel
theorem dM_gateRow_97 : decode cM_gateRow 97 = .ok (.iastore, 1) := by decide +kernel
theorem dM_gateRow_98 : decode cM_gateRow 98 = .ok (.aload_n 0, 1) := by decide +kernel
theorem dM_gateRow_99 : decode cM_gateRow 99 = .ok (.getfield 32, 3) := by decide +kernel
theorem dM_gateRow_102 : decode cM_gateRow 102 = .ok (.iload_n 1, 1) := by decide +kernel
theorem dM_gateRow_103 : decode cM_gateRow 103 = .ok (.dup2, 1) := by decide +kernel
theorem dM_gateRow_104 : decode cM_gateRow 104 = .ok (.iaload, 1) := by decide +kernel
theorem dM_gateRow_105 : decode cM_gateRow 105 = .ok (.iload 5, 2) := by decide +kernel
theorem dM_gateRow_107 : decode cM_gateRow 107 = .ok (.iload 6, 2) := by decide +kernel
theorem dM_gateRow_109 : decode cM_gateRow 109 = .ok (.ixor, 1) := by decide +kernel
theorem dM_gateRow_110 : decode cM_gateRow 110 = .ok (.iload_n 3, 1) := by decide +kernel
theorem dM_gateRow_111 : decode cM_gateRow 111 = .ok (.ishl, 1) := by decide +kernel
theorem dM_gateRow_112 : decode cM_gateRow 112 = .ok (.ixor, 1) := by decide +kernel
theorem dM_gateRow_113 : decode cM_gateRow 113 = .ok (.iastore, 1) := by decide +kernel
theorem dM_gateRow_114 : decode cM_gateRow 114 = .ok (.aload_n 0, 1) := by decide +kernel
theorem dM_gateRow_115 : decode cM_gateRow 115 = .ok (.getfield 35, 3) := by decide +kernel
theorem dM_gateRow_118 : decode cM_gateRow 118 = .ok (.iload_n 1, 1) := by decide +kernel
theorem dM_gateRow_119 : decode cM_gateRow 119 = .ok (.dup2, 1) := by decide +kernel
theorem dM_gateRow_120 : decode cM_gateRow 120 = .ok (.iaload, 1) := by decide +kernel
theorem dM_gateRow_121 : decode cM_gateRow 121 = .ok (.iload 5, 2) := by decide +kernel
theorem dM_gateRow_123 : decode cM_gateRow 123 = .ok (.iload 6, 2) := by decide +kernel
theorem dM_gateRow_125 : decode cM_gateRow 125 = .ok (.ixor, 1) := by decide +kernel
theorem dM_gateRow_126 : decode cM_gateRow 126 = .ok (.iload_n 3, 1) := by decide +kernel
theorem dM_gateRow_127 : decode cM_gateRow 127 = .ok (.ishl, 1) := by decide +kernel
theorem dM_gateRow_128 : decode cM_gateRow 128 = .ok (.ixor, 1) := by decide +kernel
theorem dM_gateRow_129 : decode cM_gateRow 129 = .ok (.iastore, 1) := by decide +kernel
theorem dM_gateRow_130 : decode cM_gateRow 130 = .ok (.goto 217, 3) := by decide +kernel
theorem dM_gateRow_133 : decode cM_gateRow 133 = .ok (.aload_n 0, 1) := by decide +kernel
theorem dM_gateRow_134 : decode cM_gateRow 134 = .ok (.getfield 38, 3) := by decide +kernel
theorem dM_gateRow_137 : decode cM_gateRow 137 = .ok (.iload_n 1, 1) := by decide +kernel
theorem dM_gateRow_138 : decode cM_gateRow 138 = .ok (.dup2, 1) := by decide +kernel
theorem dM_gateRow_139 : decode cM_gateRow 139 = .ok (.iaload, 1) := by decide +kernel
theorem dM_gateRow_140 : decode cM_gateRow 140 = .ok (.iload 5, 2) := by decide +kernel
theorem dM_gateRow_142 : decode cM_gateRow 142 = .ok (.iload 6, 2) := by decide +kernel
theorem dM_gateRow_144 : decode cM_gateRow 144 = .ok (.iand, 1) := by decide +kernel
theorem dM_gateRow_145 : decode cM_gateRow 145 = .ok (.ixor, 1) := by decide +kernel
theorem dM_gateRow_146 : decode cM_gateRow 146 = .ok (.iastore, 1) := by decide +kernel
theorem dM_gateRow_147 : decode cM_gateRow 147 = .ok (.aload_n 0, 1) := by decide +kernel
theorem dM_gateRow_148 : decode cM_gateRow 148 = .ok (.getfield 35, 3) := by decide +kernel
theorem dM_gateRow_151 : decode cM_gateRow 151 = .ok (.iload_n 1, 1) := by decide +kernel
theorem dM_gateRow_152 : decode cM_gateRow 152 = .ok (.dup2, 1) := by decide +kernel
theorem dM_gateRow_153 : decode cM_gateRow 153 = .ok (.iaload, 1) := by decide +kernel
theorem dM_gateRow_154 : decode cM_gateRow 154 = .ok (.iload 5, 2) := by decide +kernel
theorem dM_gateRow_156 : decode cM_gateRow 156 = .ok (.iload_n 3, 1) := by decide +kernel
theorem dM_gateRow_157 : decode cM_gateRow 157 = .ok (.ishl, 1) := by decide +kernel
theorem dM_gateRow_158 : decode cM_gateRow 158 = .ok (.ixor, 1) := by decide +kernel
theorem dM_gateRow_159 : decode cM_gateRow 159 = .ok (.iastore, 1) := by decide +kernel
theorem dM_gateRow_160 : decode cM_gateRow 160 = .ok (.goto 187, 3) := by decide +kernel
theorem dM_gateRow_163 : decode cM_gateRow 163 = .ok (.aload_n 0, 1) := by decide +kernel
theorem dM_gateRow_164 : decode cM_gateRow 164 = .ok (.getfield 38, 3) := by decide +kernel
theorem dM_gateRow_167 : decode cM_gateRow 167 = .ok (.iload_n 1, 1) := by decide +kernel
theorem dM_gateRow_168 : decode cM_gateRow 168 = .ok (.dup2, 1) := by decide +kernel
theorem dM_gateRow_169 : decode cM_gateRow 169 = .ok (.iaload, 1) := by decide +kernel
theorem dM_gateRow_170 : decode cM_gateRow 170 = .ok (.iload 5, 2) := by decide +kernel
theorem dM_gateRow_172 : decode cM_gateRow 172 = .ok (.aload_n 0, 1) := by decide +kernel
theorem dM_gateRow_173 : decode cM_gateRow 173 = .ok (.getfield 35, 3) := by decide +kernel
theorem dM_gateRow_176 : decode cM_gateRow 176 = .ok (.iload_n 1, 1) := by decide +kernel
theorem dM_gateRow_177 : decode cM_gateRow 177 = .ok (.iaload, 1) := by decide +kernel
theorem dM_gateRow_178 : decode cM_gateRow 178 = .ok (.iload 4, 2) := by decide +kernel
theorem dM_gateRow_180 : decode cM_gateRow 180 = .ok (.invokestatic 95, 3) := by decide +kernel
theorem dM_gateRow_183 : decode cM_gateRow 183 = .ok (.iand, 1) := by decide +kernel
theorem dM_gateRow_184 : decode cM_gateRow 184 = .ok (.aload_n 0, 1) := by decide +kernel
theorem dM_gateRow_185 : decode cM_gateRow 185 = .ok (.getfield 32, 3) := by decide +kernel
theorem dM_gateRow_188 : decode cM_gateRow 188 = .ok (.iload_n 1, 1) := by decide +kernel
theorem dM_gateRow_189 : decode cM_gateRow 189 = .ok (.iaload, 1) := by decide +kernel
theorem dM_gateRow_190 : decode cM_gateRow 190 = .ok (.iload 4, 2) := by decide +kernel
theorem dM_gateRow_192 : decode cM_gateRow 192 = .ok (.invokestatic 95, 3) := by decide +kernel
theorem dM_gateRow_195 : decode cM_gateRow 195 = .ok (.iload 6, 2) := by decide +kernel
theorem dM_gateRow_197 : decode cM_gateRow 197 = .ok (.ixor, 1) := by decide +kernel
theorem dM_gateRow_198 : decode cM_gateRow 198 = .ok (.iconst 1, 1) := by decide +kernel
theorem dM_gateRow_199 : decode cM_gateRow 199 = .ok (.ixor, 1) := by decide +kernel
theorem dM_gateRow_200 : decode cM_gateRow 200 = .ok (.iand, 1) := by decide +kernel
theorem dM_gateRow_201 : decode cM_gateRow 201 = .ok (.ixor, 1) := by decide +kernel
theorem dM_gateRow_202 : decode cM_gateRow 202 = .ok (.iastore, 1) := by decide +kernel
theorem dM_gateRow_203 : decode cM_gateRow 203 = .ok (.aload_n 0, 1) := by decide +kernel
theorem dM_gateRow_204 : decode cM_gateRow 204 = .ok (.getfield 32, 3) := by decide +kernel
theorem dM_gateRow_207 : decode cM_gateRow 207 = .ok (.iload_n 1, 1) := by decide +kernel
theorem dM_gateRow_208 : decode cM_gateRow 208 = .ok (.dup2, 1) := by decide +kernel
theorem dM_gateRow_209 : decode cM_gateRow 209 = .ok (.iaload, 1) := by decide +kernel
theorem dM_gateRow_210 : decode cM_gateRow 210 = .ok (.iload 5, 2) := by decide +kernel
theorem dM_gateRow_212 : decode cM_gateRow 212 = .ok (.iload 4, 2) := by decide +kernel
theorem dM_gateRow_214 : decode cM_gateRow 214 = .ok (.ishl, 1) := by decide +kernel
theorem dM_gateRow_215 : decode cM_gateRow 215 = .ok (.ixor, 1) := by decide +kernel
theorem dM_gateRow_216 : decode cM_gateRow 216 = .ok (.iastore, 1) := by decide +kernel
theorem dM_gateRow_217 : decode cM_gateRow 217 = .ok (.aload_n 0, 1) := by decide +kernel
theorem dM_gateRow_218 : decode cM_gateRow 218 = .ok (.getfield 35, 3) := by decide +kernel
theorem dM_gateRow_221 : decode cM_gateRow 221 = .ok (.iload_n 1, 1) := by decide +kernel
theorem dM_gateRow_222 : decode cM_gateRow 222 = .ok (.dup2, 1) := by decide +kernel
theorem dM_gateRow_223 : decode cM_gateRow 223 = .ok (.iaload, 1) := by decide +kernel
theorem dM_gateRow_224 : decode cM_gateRow 224 = .ok (.aload_n 0, 1) := by decide +kernel
theorem dM_gateRow_225 : decode cM_gateRow 225 = .ok (.getfield 35, 3) := by decide +kernel
theorem dM_gateRow_228 : decode cM_gateRow 228 = .ok (.iload_n 1, 1) := by decide +kernel
theorem dM_gateRow_229 : decode cM_gateRow 229 = .ok (.iaload, 1) := by decide +kernel
theorem dM_gateRow_230 : decode cM_gateRow 230 = .ok (.iload 4, 2) := by decide +kernel
theorem dM_gateRow_232 : decode cM_gateRow 232 = .ok (.invokestatic 95, 3) := by decide +kernel
theorem dM_gateRow_235 : decode cM_gateRow 235 = .ok (.iload_n 3, 1) := by decide +kernel
theorem dM_gateRow_236 : decode cM_gateRow 236 = .ok (.ishl, 1) := by decide +kernel
theorem dM_gateRow_237 : decode cM_gateRow 237 = .ok (.ixor, 1) := by decide +kernel
theorem dM_gateRow_238 : decode cM_gateRow 238 = .ok (.iastore, 1) := by decide +kernel
theorem dM_gateRow_239 : decode cM_gateRow 239 = .ok (.goto 108, 3) := by decide +kernel
theorem dM_gateRow_242 : decode cM_gateRow 242 = .ok (.aload_n 0, 1) := by decide +kernel
theorem dM_gateRow_243 : decode cM_gateRow 243 = .ok (.getfield 38, 3) := by decide +kernel
theorem dM_gateRow_246 : decode cM_gateRow 246 = .ok (.iload_n 1, 1) := by decide +kernel
theorem dM_gateRow_247 : decode cM_gateRow 247 = .ok (.dup2, 1) := by decide +kernel
theorem dM_gateRow_248 : decode cM_gateRow 248 = .ok (.iaload, 1) := by decide +kernel
theorem dM_gateRow_249 : decode cM_gateRow 249 = .ok (.iload 5, 2) := by decide +kernel
theorem dM_gateRow_251 : decode cM_gateRow 251 = .ok (.aload_n 0, 1) := by decide +kernel
theorem dM_gateRow_252 : decode cM_gateRow 252 = .ok (.getfield 32, 3) := by decide +kernel
theorem dM_gateRow_255 : decode cM_gateRow 255 = .ok (.iload_n 1, 1) := by decide +kernel
theorem dM_gateRow_256 : decode cM_gateRow 256 = .ok (.iaload, 1) := by decide +kernel
theorem dM_gateRow_257 : decode cM_gateRow 257 = .ok (.iload 4, 2) := by decide +kernel
theorem dM_gateRow_259 : decode cM_gateRow 259 = .ok (.invokestatic 95, 3) := by decide +kernel
theorem dM_gateRow_262 : decode cM_gateRow 262 = .ok (.iand, 1) := by decide +kernel
theorem dM_gateRow_263 : decode cM_gateRow 263 = .ok (.iload 6, 2) := by decide +kernel
theorem dM_gateRow_265 : decode cM_gateRow 265 = .ok (.aload_n 0, 1) := by decide +kernel
theorem dM_gateRow_266 : decode cM_gateRow 266 = .ok (.getfield 35, 3) := by decide +kernel
theorem dM_gateRow_269 : decode cM_gateRow 269 = .ok (.iload_n 1, 1) := by decide +kernel
theorem dM_gateRow_270 : decode cM_gateRow 270 = .ok (.iaload, 1) := by decide +kernel
theorem dM_gateRow_271 : decode cM_gateRow 271 = .ok (.iload 4, 2) := by decide +kernel
theorem dM_gateRow_273 : decode cM_gateRow 273 = .ok (.invokestatic 95, 3) := by decide +kernel
theorem dM_gateRow_276 : decode cM_gateRow 276 = .ok (.ixor, 1) := by decide +kernel
theorem dM_gateRow_277 : decode cM_gateRow 277 = .ok (.iand, 1) := by decide +kernel
theorem dM_gateRow_278 : decode cM_gateRow 278 = .ok (.ixor, 1) := by decide +kernel
theorem dM_gateRow_279 : decode cM_gateRow 279 = .ok (.iastore, 1) := by decide +kernel
theorem dM_gateRow_280 : decode cM_gateRow 280 = .ok (.aload_n 0, 1) := by decide +kernel
theorem dM_gateRow_281 : decode cM_gateRow 281 = .ok (.getfield 35, 3) := by decide +kernel
theorem dM_gateRow_284 : decode cM_gateRow 284 = .ok (.iload_n 1, 1) := by decide +kernel
theorem dM_gateRow_285 : decode cM_gateRow 285 = .ok (.dup2, 1) := by decide +kernel
theorem dM_gateRow_286 : decode cM_gateRow 286 = .ok (.iaload, 1) := by decide +kernel
theorem dM_gateRow_287 : decode cM_gateRow 287 = .ok (.aload_n 0, 1) := by decide +kernel
theorem dM_gateRow_288 : decode cM_gateRow 288 = .ok (.getfield 32, 3) := by decide +kernel
theorem dM_gateRow_291 : decode cM_gateRow 291 = .ok (.iload_n 1, 1) := by decide +kernel
theorem dM_gateRow_292 : decode cM_gateRow 292 = .ok (.iaload, 1) := by decide +kernel
theorem dM_gateRow_293 : decode cM_gateRow 293 = .ok (.iload 4, 2) := by decide +kernel
theorem dM_gateRow_295 : decode cM_gateRow 295 = .ok (.invokestatic 95, 3) := by decide +kernel
theorem dM_gateRow_298 : decode cM_gateRow 298 = .ok (.iload_n 3, 1) := by decide +kernel
theorem dM_gateRow_299 : decode cM_gateRow 299 = .ok (.ishl, 1) := by decide +kernel
theorem dM_gateRow_300 : decode cM_gateRow 300 = .ok (.iload 5, 2) := by decide +kernel
theorem dM_gateRow_302 : decode cM_gateRow 302 = .ok (.iload 4, 2) := by decide +kernel
theorem dM_gateRow_304 : decode cM_gateRow 304 = .ok (.ishl, 1) := by decide +kernel
theorem dM_gateRow_305 : decode cM_gateRow 305 = .ok (.ior, 1) := by decide +kernel
theorem dM_gateRow_306 : decode cM_gateRow 306 = .ok (.ixor, 1) := by decide +kernel
theorem dM_gateRow_307 : decode cM_gateRow 307 = .ok (.iastore, 1) := by decide +kernel
theorem dM_gateRow_308 : decode cM_gateRow 308 = .ok (.goto 39, 3) := by decide +kernel
theorem dM_gateRow_311 : decode cM_gateRow 311 = .ok (.aload_n 0, 1) := by decide +kernel
theorem dM_gateRow_312 : decode cM_gateRow 312 = .ok (.iload_n 1, 1) := by decide +kernel
theorem dM_gateRow_313 : decode cM_gateRow 313 = .ok (.iload_n 3, 1) := by decide +kernel
theorem dM_gateRow_314 : decode cM_gateRow 314 = .ok (.iload 4, 2) := by decide +kernel
theorem dM_gateRow_316 : decode cM_gateRow 316 = .ok (.invokevirtual 106, 3) := by decide +kernel
theorem dM_gateRow_319 : decode cM_gateRow 319 = .ok (.goto 28, 3) := by decide +kernel
theorem dM_gateRow_322 : decode cM_gateRow 322 = .ok (.aload_n 0, 1) := by decide +kernel
theorem dM_gateRow_323 : decode cM_gateRow 323 = .ok (.getfield 38, 3) := by decide +kernel
theorem dM_gateRow_326 : decode cM_gateRow 326 = .ok (.iload_n 1, 1) := by decide +kernel
theorem dM_gateRow_327 : decode cM_gateRow 327 = .ok (.dup2, 1) := by decide +kernel
theorem dM_gateRow_328 : decode cM_gateRow 328 = .ok (.iaload, 1) := by decide +kernel
theorem dM_gateRow_329 : decode cM_gateRow 329 = .ok (.iload 6, 2) := by decide +kernel
theorem dM_gateRow_331 : decode cM_gateRow 331 = .ok (.ixor, 1) := by decide +kernel
theorem dM_gateRow_332 : decode cM_gateRow 332 = .ok (.iastore, 1) := by decide +kernel
theorem dM_gateRow_333 : decode cM_gateRow 333 = .ok (.goto 14, 3) := by decide +kernel
theorem dM_gateRow_336 : decode cM_gateRow 336 = .ok (.aload_n 0, 1) := by decide +kernel
theorem dM_gateRow_337 : decode cM_gateRow 337 = .ok (.getfield 38, 3) := by decide +kernel
theorem dM_gateRow_340 : decode cM_gateRow 340 = .ok (.iload_n 1, 1) := by decide +kernel
theorem dM_gateRow_341 : decode cM_gateRow 341 = .ok (.dup2, 1) := by decide +kernel
theorem dM_gateRow_342 : decode cM_gateRow 342 = .ok (.iaload, 1) := by decide +kernel
theorem dM_gateRow_343 : decode cM_gateRow 343 = .ok (.iload 5, 2) := by decide +kernel
theorem dM_gateRow_345 : decode cM_gateRow 345 = .ok (.ixor, 1) := by decide +kernel
theorem dM_gateRow_346 : decode cM_gateRow 346 = .ok (.iastore, 1) := by decide +kernel
theorem dM_gateRow_347 : decode cM_gateRow 347 = .ok (.return_, 1) := by decide +kernel
theorem dM_swapBits_0 : decode cM_swapBits 0 = .ok (.aload_n 0, 1) := by decide +kernel
theorem dM_swapBits_1 : decode cM_swapBits 1 = .ok (.getfield 32, 3) := by decide +kernel
theorem dM_swapBits_4 : decode cM_swapBits 4 = .ok (.iload_n 1, 1) := by decide +kernel
theorem dM_swapBits_5 : decode cM_swapBits 5 = .ok (.iaload, 1) := by decide +kernel
theorem dM_swapBits_6 : decode cM_swapBits 6 = .ok (.iload_n 2, 1) := by decide +kernel
theorem dM_swapBits_7 : decode cM_swapBits 7 = .ok (.invokestatic 95, 3) := by decide +kernel
theorem dM_swapBits_10 : decode cM_swapBits 10 = .ok (.aload_n 0, 1) := by decide +kernel
theorem dM_swapBits_11 : decode cM_swapBits 11 = .ok (.getfield 32, 3) := by decide +kernel
theorem dM_swapBits_14 : decode cM_swapBits 14 = .ok (.iload_n 1, 1) := by decide +kernel
theorem dM_swapBits_15 : decode cM_swapBits 15 = .ok (.iaload, 1) := by decide +kernel
theorem dM_swapBits_16 : decode cM_swapBits 16 = .ok (.iload_n 3, 1) := by decide +kernel
theorem dM_swapBits_17 : decode cM_swapBits 17 = .ok (.invokestatic 95, 3) := by decide +kernel
theorem dM_swapBits_20 : decode cM_swapBits 20 = .ok (.ixor, 1) := by decide +kernel
theorem dM_swapBits_21 : decode cM_swapBits 21 = .ok (.istore 4, 2) := by decide +kernel
theorem dM_swapBits_23 : decode cM_swapBits 23 = .ok (.aload_n 0, 1) := by decide +kernel
theorem dM_swapBits_24 : decode cM_swapBits 24 = .ok (.getfield 35, 3) := by decide +kernel
theorem dM_swapBits_27 : decode cM_swapBits 27 = .ok (.iload_n 1, 1) := by decide +kernel
theorem dM_swapBits_28 : decode cM_swapBits 28 = .ok (.iaload, 1) := by decide +kernel
theorem dM_swapBits_29 : decode cM_swapBits 29 = .ok (.iload_n 2, 1) := by decide +kernel
theorem dM_swapBits_30 : decode cM_swapBits 30 = .ok (.invokestatic 95, 3) := by decide +kernel
theorem dM_swapBits_33 : decode cM_swapBits 33 = .ok (.aload_n 0, 1) := by decide +kernel
theorem dM_swapBits_34 : decode cM_swapBits 34 = .ok (.getfield 35, 3) := by decide +kernel
theorem dM_swapBits_37 : decode cM_swapBits 37 = .ok (.iload_n 1, 1) := by decide +kernel
theorem dM_swapBits_38 : decode cM_swapBits 38 = .ok (.iaload, 1) := by decide +kernel
theorem dM_swapBits_39 : decode cM_swapBits 39 = .ok (.iload_n 3, 1) := by decide +kernel
theorem dM_swapBits_40 : decode cM_swapBits 40 = .ok (.invokestatic 95, 3) := by decide +kernel
theorem dM_swapBits_43 : decode cM_swapBits 43 = .ok (.ixor, 1) := by decide +kernel
theorem dM_swapBits_44 : decode cM_swapBits 44 = .ok (.istore 5, 2) := by decide +kernel
theorem dM_swapBits_46 : decode cM_swapBits 46 = .ok (.aload_n 0, 1) := by decide +kernel
theorem dM_swapBits_47 : decode cM_swapBits 47 = .ok (.getfield 32, 3) := by decide +kernel
theorem dM_swapBits_50 : decode cM_swapBits 50 = .ok (.iload_n 1, 1) := by decide +kernel
theorem dM_swapBits_51 : decode cM_swapBits 51 = .ok (.dup2, 1) := by decide +kernel
theorem dM_swapBits_52 : decode cM_swapBits 52 = .ok (.iaload, 1) := by decide +kernel
theorem dM_swapBits_53 : decode cM_swapBits 53 = .ok (.iload 4, 2) := by decide +kernel
theorem dM_swapBits_55 : decode cM_swapBits 55 = .ok (.iload_n 2, 1) := by decide +kernel
theorem dM_swapBits_56 : decode cM_swapBits 56 = .ok (.ishl, 1) := by decide +kernel
theorem dM_swapBits_57 : decode cM_swapBits 57 = .ok (.iload 4, 2) := by decide +kernel
theorem dM_swapBits_59 : decode cM_swapBits 59 = .ok (.iload_n 3, 1) := by decide +kernel
theorem dM_swapBits_60 : decode cM_swapBits 60 = .ok (.ishl, 1) := by decide +kernel
theorem dM_swapBits_61 : decode cM_swapBits 61 = .ok (.ior, 1) := by decide +kernel
theorem dM_swapBits_62 : decode cM_swapBits 62 = .ok (.ixor, 1) := by decide +kernel
theorem dM_swapBits_63 : decode cM_swapBits 63 = .ok (.iastore, 1) := by decide +kernel
theorem dM_swapBits_64 : decode cM_swapBits 64 = .ok (.aload_n 0, 1) := by decide +kernel
theorem dM_swapBits_65 : decode cM_swapBits 65 = .ok (.getfield 35, 3) := by decide +kernel
theorem dM_swapBits_68 : decode cM_swapBits 68 = .ok (.iload_n 1, 1) := by decide +kernel
theorem dM_swapBits_69 : decode cM_swapBits 69 = .ok (.dup2, 1) := by decide +kernel
theorem dM_swapBits_70 : decode cM_swapBits 70 = .ok (.iaload, 1) := by decide +kernel
theorem dM_swapBits_71 : decode cM_swapBits 71 = .ok (.iload 5, 2) := by decide +kernel
theorem dM_swapBits_73 : decode cM_swapBits 73 = .ok (.iload_n 2, 1) := by decide +kernel
theorem dM_swapBits_74 : decode cM_swapBits 74 = .ok (.ishl, 1) := by decide +kernel
theorem dM_swapBits_75 : decode cM_swapBits 75 = .ok (.iload 5, 2) := by decide +kernel
theorem dM_swapBits_77 : decode cM_swapBits 77 = .ok (.iload_n 3, 1) := by decide +kernel
theorem dM_swapBits_78 : decode cM_swapBits 78 = .ok (.ishl, 1) := by decide +kernel
theorem dM_swapBits_79 : decode cM_swapBits 79 = .ok (.ior, 1) := by decide +kernel
theorem dM_swapBits_80 : decode cM_swapBits 80 = .ok (.ixor, 1) := by decide +kernel
theorem dM_swapBits_81 : decode cM_swapBits 81 = .ok (.iastore, 1) := by decide +kernel
theorem dM_swapBits_82 : decode cM_swapBits 82 = .ok (.return_, 1) := by decide +kernel
theorem dM_told_0 : decode cM_told 0 = .ok (.aload_n 0, 1) := by decide +kernel
theorem dM_told_1 : decode cM_told 1 = .ok (.iconst 0, 1) := by decide +kernel
theorem dM_told_2 : decode cM_told 2 = .ok (.putfield 64, 3) := by decide +kernel
theorem dM_told_5 : decode cM_told 5 = .ok (.iload_n 1, 1) := by decide +kernel
theorem dM_told_6 : decode cM_told 6 = .ok (.ifCond .lt 20, 3) := by decide +kernel
theorem dM_told_9 : decode cM_told 9 = .ok (.iload_n 1, 1) := by decide +kernel
theorem dM_told_10 : decode cM_told 10 = .ok (.aload_n 0, 1) := by decide +kernel
theorem dM_told_11 : decode cM_told 11 = .ok (.getfield 80, 3) := by decide +kernel
theorem dM_told_14 : decode cM_told 14 = .ok (.if_icmp .ge 12, 3) := by decide +kernel
theorem dM_told_17 : decode cM_told 17 = .ok (.iload_n 2, 1) := by decide +kernel
theorem dM_told_18 : decode cM_told 18 = .ok (.ifCond .lt 8, 3) := by decide +kernel
theorem dM_told_21 : decode cM_told 21 = .ok (.iload_n 2, 1) := by decide +kernel
theorem dM_told_22 : decode cM_told 22 = .ok (.iconst 2, 1) := by decide +kernel
theorem dM_told_23 : decode cM_told 23 = .ok (.if_icmp .le 7, 3) := by decide +kernel
theorem dM_told_26 : decode cM_told 26 = .ok (.ldc2_w 145, 3) := by decide +kernel
theorem dM_told_29 : decode cM_told 29 = .ok (.lreturn, 1) := by decide +kernel
theorem dM_told_30 : decode cM_told 30 = .ok (.aload_n 0, 1) := by decide +kernel
theorem dM_told_31 : decode cM_told 31 = .ok (.invokevirtual 147, 3) := by decide +kernel
theorem dM_told_34 : decode cM_told 34 = .ok (.iconst 0, 1) := by decide +kernel
theorem dM_told_35 : decode cM_told 35 = .ok (.istore_n 3, 1) := by decide +kernel
theorem dM_told_36 : decode cM_told 36 = .ok (.lconst 0, 1) := by decide +kernel
theorem dM_told_37 : decode cM_told 37 = .ok (.lstore 4, 2) := by decide +kernel
theorem dM_told_39 : decode cM_told 39 = .ok (.iconst 0, 1) := by decide +kernel
theorem dM_told_40 : decode cM_told 40 = .ok (.istore 6, 2) := by decide +kernel
theorem dM_told_42 : decode cM_told 42 = .ok (.iload 6, 2) := by decide +kernel
theorem dM_told_44 : decode cM_told 44 = .ok (.aload_n 0, 1) := by decide +kernel
theorem dM_told_45 : decode cM_told 45 = .ok (.getfield 74, 3) := by decide +kernel
theorem dM_told_48 : decode cM_told 48 = .ok (.if_icmp .ge 50, 3) := by decide +kernel
theorem dM_told_51 : decode cM_told 51 = .ok (.aload_n 0, 1) := by decide +kernel
theorem dM_told_52 : decode cM_told 52 = .ok (.getfield 28, 3) := by decide +kernel
theorem dM_told_55 : decode cM_told 55 = .ok (.iload_n 1, 1) := by decide +kernel
theorem dM_told_56 : decode cM_told 56 = .ok (.laload, 1) := by decide +kernel
theorem dM_told_57 : decode cM_told 57 = .ok (.iload 6, 2) := by decide +kernel
theorem dM_told_59 : decode cM_told 59 = .ok (.lshr, 1) := by decide +kernel
theorem dM_told_60 : decode cM_told 60 = .ok (.lconst 1, 1) := by decide +kernel
theorem dM_told_61 : decode cM_told 61 = .ok (.land, 1) := by decide +kernel
theorem dM_told_62 : decode cM_told 62 = .ok (.lconst 0, 1) := by decide +kernel
theorem dM_told_63 : decode cM_told 63 = .ok (.lcmp, 1) := by decide +kernel
theorem dM_told_64 : decode cM_told 64 = .ok (.ifCond .ne 6, 3) := by decide +kernel
theorem dM_told_67 : decode cM_told 67 = .ok (.goto 25, 3) := by decide +kernel
theorem dM_told_70 : decode cM_told 70 = .ok (.iload_n 3, 1) := by decide +kernel
theorem dM_told_71 : decode cM_told 71 = .ok (.aload_n 0, 1) := by decide +kernel
theorem dM_told_72 : decode cM_told 72 = .ok (.getfield 44, 3) := by decide +kernel
theorem dM_told_75 : decode cM_told 75 = .ok (.iload 6, 2) := by decide +kernel
theorem dM_told_77 : decode cM_told 77 = .ok (.iaload, 1) := by decide +kernel
theorem dM_told_78 : decode cM_told 78 = .ok (.ixor, 1) := by decide +kernel
theorem dM_told_79 : decode cM_told 79 = .ok (.istore_n 3, 1) := by decide +kernel
theorem dM_told_80 : decode cM_told 80 = .ok (.lload 4, 2) := by decide +kernel
theorem dM_told_82 : decode cM_told 82 = .ok (.aload_n 0, 1) := by decide +kernel
theorem dM_told_83 : decode cM_told 83 = .ok (.getfield 47, 3) := by decide +kernel
theorem dM_told_86 : decode cM_told 86 = .ok (.iload 6, 2) := by decide +kernel
theorem dM_told_88 : decode cM_told 88 = .ok (.laload, 1) := by decide +kernel
theorem dM_told_89 : decode cM_told 89 = .ok (.lxor, 1) := by decide +kernel
theorem dM_told_90 : decode cM_told 90 = .ok (.lstore 4, 2) := by decide +kernel
theorem dM_told_92 : decode cM_told 92 = .ok (.iinc 6 1, 3) := by decide +kernel
theorem dM_told_95 : decode cM_told 95 = .ok (.goto (-53), 3) := by decide +kernel
theorem dM_told_98 : decode cM_told 98 = .ok (.iload_n 2, 1) := by decide +kernel
theorem dM_told_99 : decode cM_told 99 = .ok (.ifCond .ne 18, 3) := by decide +kernel
theorem dM_told_102 : decode cM_told 102 = .ok (.lload 4, 2) := by decide +kernel
theorem dM_told_104 : decode cM_told 104 = .ok (.lconst 0, 1) := by decide +kernel
theorem dM_told_105 : decode cM_told 105 = .ok (.lcmp, 1) := by decide +kernel
theorem dM_told_106 : decode cM_told 106 = .ok (.ifCond .ne 7, 3) := by decide +kernel
theorem dM_told_109 : decode cM_told 109 = .ok (.lconst 1, 1) := by decide +kernel
theorem dM_told_110 : decode cM_told 110 = .ok (.goto 19, 3) := by decide +kernel
theorem dM_told_113 : decode cM_told 113 = .ok (.lconst 0, 1) := by decide +kernel
theorem dM_told_114 : decode cM_told 114 = .ok (.goto 15, 3) := by decide +kernel
theorem dM_told_117 : decode cM_told 117 = .ok (.iload_n 2, 1) := by decide +kernel
theorem dM_told_118 : decode cM_told 118 = .ok (.iconst 1, 1) := by decide +kernel
theorem dM_told_119 : decode cM_told 119 = .ok (.if_icmp .ne 8, 3) := by decide +kernel
theorem dM_told_122 : decode cM_told 122 = .ok (.iload_n 3, 1) := by decide +kernel
theorem dM_told_123 : decode cM_told 123 = .ok (.i2l, 1) := by decide +kernel
theorem dM_told_124 : decode cM_told 124 = .ok (.goto 5, 3) := by decide +kernel
theorem dM_told_127 : decode cM_told 127 = .ok (.lload 4, 2) := by decide +kernel
theorem dM_told_129 : decode cM_told 129 = .ok (.lreturn, 1) := by decide +kernel
theorem dM_changes_0 : decode cM_changes 0 = .ok (.aload_n 0, 1) := by decide +kernel
theorem dM_changes_1 : decode cM_changes 1 = .ok (.iconst 0, 1) := by decide +kernel
theorem dM_changes_2 : decode cM_changes 2 = .ok (.putfield 64, 3) := by decide +kernel
theorem dM_changes_5 : decode cM_changes 5 = .ok (.iload_n 1, 1) := by decide +kernel
theorem dM_changes_6 : decode cM_changes 6 = .ok (.ifCond .lt 20, 3) := by decide +kernel
theorem dM_changes_9 : decode cM_changes 9 = .ok (.iload_n 1, 1) := by decide +kernel
theorem dM_changes_10 : decode cM_changes 10 = .ok (.aload_n 0, 1) := by decide +kernel
theorem dM_changes_11 : decode cM_changes 11 = .ok (.getfield 77, 3) := by decide +kernel
theorem dM_changes_14 : decode cM_changes 14 = .ok (.if_icmp .ge 12, 3) := by decide +kernel
theorem dM_changes_17 : decode cM_changes 17 = .ok (.iload_n 2, 1) := by decide +kernel
theorem dM_changes_18 : decode cM_changes 18 = .ok (.ifCond .lt 8, 3) := by decide +kernel
theorem dM_changes_21 : decode cM_changes 21 = .ok (.iload_n 2, 1) := by decide +kernel
theorem dM_changes_22 : decode cM_changes 22 = .ok (.iconst 1, 1) := by decide +kernel
theorem dM_changes_23 : decode cM_changes 23 = .ok (.if_icmp .le 7, 3) := by decide +kernel
theorem dM_changes_26 : decode cM_changes 26 = .ok (.ldc2_w 145, 3) := by decide +kernel
theorem dM_changes_29 : decode cM_changes 29 = .ok (.lreturn, 1) := by decide +kernel
theorem dM_changes_30 : decode cM_changes 30 = .ok (.aload_n 0, 1) := by decide +kernel
theorem dM_changes_31 : decode cM_changes 31 = .ok (.iload_n 1, 1) := by decide +kernel
theorem dM_changes_32 : decode cM_changes 32 = .ok (.invokevirtual 166, 3) := by decide +kernel
theorem dM_changes_35 : decode cM_changes 35 = .ok (.lstore_n 3, 1) := by decide +kernel
theorem dM_changes_36 : decode cM_changes 36 = .ok (.iload_n 2, 1) := by decide +kernel
theorem dM_changes_37 : decode cM_changes 37 = .ok (.ifCond .ne 7, 3) := by decide +kernel
theorem dM_changes_40 : decode cM_changes 40 = .ok (.lload_n 3, 1) := by decide +kernel
theorem dM_changes_41 : decode cM_changes 41 = .ok (.goto 9, 3) := by decide +kernel
theorem dM_changes_44 : decode cM_changes 44 = .ok (.aload_n 0, 1) := by decide +kernel
theorem dM_changes_45 : decode cM_changes 45 = .ok (.lload_n 3, 1) := by decide +kernel
theorem dM_changes_46 : decode cM_changes 46 = .ok (.invokevirtual 170, 3) := by decide +kernel
theorem dM_changes_49 : decode cM_changes 49 = .ok (.i2l, 1) := by decide +kernel
theorem dM_changes_50 : decode cM_changes 50 = .ok (.lreturn, 1) := by decide +kernel
theorem dM_changedBy_0 : decode cM_changedBy 0 = .ok (.aload_n 0, 1) := by decide +kernel
theorem dM_changedBy_1 : decode cM_changedBy 1 = .ok (.getfield 13, 3) := by decide +kernel
theorem dM_changedBy_4 : decode cM_changedBy 4 = .ok (.aload_n 0, 1) := by decide +kernel
theorem dM_changedBy_5 : decode cM_changedBy 5 = .ok (.getfield 19, 3) := by decide +kernel
theorem dM_changedBy_8 : decode cM_changedBy 8 = .ok (.iload_n 1, 1) := by decide +kernel
theorem dM_changedBy_9 : decode cM_changedBy 9 = .ok (.iaload, 1) := by decide +kernel
theorem dM_changedBy_10 : decode cM_changedBy 10 = .ok (.iaload, 1) := by decide +kernel
theorem dM_changedBy_11 : decode cM_changedBy 11 = .ok (.istore_n 2, 1) := by decide +kernel
theorem dM_changedBy_12 : decode cM_changedBy 12 = .ok (.aload_n 0, 1) := by decide +kernel
theorem dM_changedBy_13 : decode cM_changedBy 13 = .ok (.aload_n 0, 1) := by decide +kernel
theorem dM_changedBy_14 : decode cM_changedBy 14 = .ok (.getfield 22, 3) := by decide +kernel
theorem dM_changedBy_17 : decode cM_changedBy 17 = .ok (.iload_n 1, 1) := by decide +kernel
theorem dM_changedBy_18 : decode cM_changedBy 18 = .ok (.iaload, 1) := by decide +kernel
theorem dM_changedBy_19 : decode cM_changedBy 19 = .ok (.iconst 2, 1) := by decide +kernel
theorem dM_changedBy_20 : decode cM_changedBy 20 = .ok (.if_icmp .ne 7, 3) := by decide +kernel
theorem dM_changedBy_23 : decode cM_changedBy 23 = .ok (.iconst 0, 1) := by decide +kernel
theorem dM_changedBy_24 : decode cM_changedBy 24 = .ok (.goto 6, 3) := by decide +kernel
theorem dM_changedBy_27 : decode cM_changedBy 27 = .ok (.iconst 1, 1) := by decide +kernel
theorem dM_changedBy_28 : decode cM_changedBy 28 = .ok (.iload_n 2, 1) := by decide +kernel
theorem dM_changedBy_29 : decode cM_changedBy 29 = .ok (.ishl, 1) := by decide +kernel
theorem dM_changedBy_30 : decode cM_changedBy 30 = .ok (.putfield 150, 3) := by decide +kernel
theorem dM_changedBy_33 : decode cM_changedBy 33 = .ok (.aload_n 0, 1) := by decide +kernel
theorem dM_changedBy_34 : decode cM_changedBy 34 = .ok (.aload_n 0, 1) := by decide +kernel
theorem dM_changedBy_35 : decode cM_changedBy 35 = .ok (.getfield 22, 3) := by decide +kernel
theorem dM_changedBy_38 : decode cM_changedBy 38 = .ok (.iload_n 1, 1) := by decide +kernel
theorem dM_changedBy_39 : decode cM_changedBy 39 = .ok (.iaload, 1) := by decide +kernel
theorem dM_changedBy_40 : decode cM_changedBy 40 = .ok (.ifCond .ne 7, 3) := by decide +kernel
theorem dM_changedBy_43 : decode cM_changedBy 43 = .ok (.iconst 0, 1) := by decide +kernel
theorem dM_changedBy_44 : decode cM_changedBy 44 = .ok (.goto 6, 3) := by decide +kernel
theorem dM_changedBy_47 : decode cM_changedBy 47 = .ok (.iconst 1, 1) := by decide +kernel
theorem dM_changedBy_48 : decode cM_changedBy 48 = .ok (.iload_n 2, 1) := by decide +kernel
theorem dM_changedBy_49 : decode cM_changedBy 49 = .ok (.ishl, 1) := by decide +kernel
theorem dM_changedBy_50 : decode cM_changedBy 50 = .ok (.putfield 153, 3) := by decide +kernel
theorem dM_changedBy_53 : decode cM_changedBy 53 = .ok (.aload_n 0, 1) := by decide +kernel
theorem dM_changedBy_54 : decode cM_changedBy 54 = .ok (.lconst 0, 1) := by decide +kernel
theorem dM_changedBy_55 : decode cM_changedBy 55 = .ok (.putfield 156, 3) := by decide +kernel
theorem dM_changedBy_58 : decode cM_changedBy 58 = .ok (.aload_n 0, 1) := by decide +kernel
theorem dM_changedBy_59 : decode cM_changedBy 59 = .ok (.getfield 19, 3) := by decide +kernel
theorem dM_changedBy_62 : decode cM_changedBy 62 = .ok (.iload_n 1, 1) := by decide +kernel
theorem dM_changedBy_63 : decode cM_changedBy 63 = .ok (.iaload, 1) := by decide +kernel
theorem dM_changedBy_64 : decode cM_changedBy 64 = .ok (.iconst 1, 1) := by decide +kernel
theorem dM_changedBy_65 : decode cM_changedBy 65 = .ok (.iadd, 1) := by decide +kernel
theorem dM_changedBy_66 : decode cM_changedBy 66 = .ok (.istore_n 3, 1) := by decide +kernel
theorem dM_changedBy_67 : decode cM_changedBy 67 = .ok (.iload_n 3, 1) := by decide +kernel
theorem dM_changedBy_68 : decode cM_changedBy 68 = .ok (.aload_n 0, 1) := by decide +kernel
theorem dM_changedBy_69 : decode cM_changedBy 69 = .ok (.getfield 71, 3) := by decide +kernel
theorem dM_changedBy_72 : decode cM_changedBy 72 = .ok (.if_icmp .ge 14, 3) := by decide +kernel
theorem dM_changedBy_75 : decode cM_changedBy 75 = .ok (.aload_n 0, 1) := by decide +kernel
theorem dM_changedBy_76 : decode cM_changedBy 76 = .ok (.iload_n 3, 1) := by decide +kernel
theorem dM_changedBy_77 : decode cM_changedBy 77 = .ok (.invokevirtual 159, 3) := by decide +kernel
theorem dM_changedBy_80 : decode cM_changedBy 80 = .ok (.iinc 3 1, 3) := by decide +kernel
theorem dM_changedBy_83 : decode cM_changedBy 83 = .ok (.goto (-16), 3) := by decide +kernel
theorem dM_changedBy_86 : decode cM_changedBy 86 = .ok (.aload_n 0, 1) := by decide +kernel
theorem dM_changedBy_87 : decode cM_changedBy 87 = .ok (.getfield 156, 3) := by decide +kernel
theorem dM_changedBy_90 : decode cM_changedBy 90 = .ok (.lreturn, 1) := by decide +kernel
theorem dM_goThrough_0 : decode cM_goThrough 0 = .ok (.aload_n 0, 1) := by decide +kernel
theorem dM_goThrough_1 : decode cM_goThrough 1 = .ok (.getfield 13, 3) := by decide +kernel
theorem dM_goThrough_4 : decode cM_goThrough 4 = .ok (.iload_n 1, 1) := by decide +kernel
theorem dM_goThrough_5 : decode cM_goThrough 5 = .ok (.iaload, 1) := by decide +kernel
theorem dM_goThrough_6 : decode cM_goThrough 6 = .ok (.istore_n 2, 1) := by decide +kernel
theorem dM_goThrough_7 : decode cM_goThrough 7 = .ok (.aload_n 0, 1) := by decide +kernel
theorem dM_goThrough_8 : decode cM_goThrough 8 = .ok (.getfield 16, 3) := by decide +kernel
theorem dM_goThrough_11 : decode cM_goThrough 11 = .ok (.iload_n 1, 1) := by decide +kernel
theorem dM_goThrough_12 : decode cM_goThrough 12 = .ok (.iaload, 1) := by decide +kernel
theorem dM_goThrough_13 : decode cM_goThrough 13 = .ok (.istore_n 3, 1) := by decide +kernel
theorem dM_goThrough_14 : decode cM_goThrough 14 = .ok (.aload_n 0, 1) := by decide +kernel
theorem dM_goThrough_15 : decode cM_goThrough 15 = .ok (.getfield 150, 3) := by decide +kernel
theorem dM_goThrough_18 : decode cM_goThrough 18 = .ok (.iload_n 2, 1) := by decide +kernel
theorem dM_goThrough_19 : decode cM_goThrough 19 = .ok (.invokestatic 95, 3) := by decide +kernel
theorem dM_goThrough_22 : decode cM_goThrough 22 = .ok (.istore 4, 2) := by decide +kernel
theorem dM_goThrough_24 : decode cM_goThrough 24 = .ok (.aload_n 0, 1) := by decide +kernel
theorem dM_goThrough_25 : decode cM_goThrough 25 = .ok (.getfield 153, 3) := by decide +kernel
theorem dM_goThrough_28 : decode cM_goThrough 28 = .ok (.iload_n 2, 1) := by decide +kernel
theorem dM_goThrough_29 : decode cM_goThrough 29 = .ok (.invokestatic 95, 3) := by decide +kernel
theorem dM_goThrough_32 : decode cM_goThrough 32 = .ok (.istore 5, 2) := by decide +kernel
theorem dM_goThrough_34 : decode cM_goThrough 34 = .ok (.aload_n 0, 1) := by decide +kernel
theorem dM_goThrough_35 : decode cM_goThrough 35 = .ok (.getfield 7, 3) := by decide +kernel
theorem dM_goThrough_38 : decode cM_goThrough 38 = .ok (.iload_n 1, 1) := by decide +kernel
theorem dM_goThrough_39 : decode cM_goThrough 39 = .ok (.iaload, 1) := by decide +kernel
theorem dM_goThrough_40 : decode cM_goThrough 40 = .ok (.tableswitch 290 0 8 #[52, 87, 103, 138, 165, 290, 290, 230, 230], 52) := by decide +kernel
theorem dM_goThrough_92 : decode cM_goThrough 92 = .ok (.aload_n 0, 1) := by decide +kernel
theorem dM_goThrough_93 : decode cM_goThrough 93 = .ok (.dup, 1) := by decide +kernel
theorem dM_goThrough_94 : decode cM_goThrough 94 = .ok (.getfield 150, 3) := by decide +kernel
theorem dM_goThrough_97 : decode cM_goThrough 97 = .ok (.iload 4, 2) := by decide +kernel
theorem dM_goThrough_99 : decode cM_goThrough 99 = .ok (.iload 5, 2) := by decide +kernel
theorem dM_goThrough_101 : decode cM_goThrough 101 = .ok (.ixor, 1) := by decide +kernel
theorem dM_goThrough_102 : decode cM_goThrough 102 = .ok (.iload_n 2, 1) := by decide +kernel
theorem dM_goThrough_103 : decode cM_goThrough 103 = .ok (.ishl, 1) := by decide +kernel
theorem dM_goThrough_104 : decode cM_goThrough 104 = .ok (.ixor, 1) := by decide +kernel
theorem dM_goThrough_105 : decode cM_goThrough 105 = .ok (.putfield 150, 3) := by decide +kernel
theorem dM_goThrough_108 : decode cM_goThrough 108 = .ok (.aload_n 0, 1) := by decide +kernel
theorem dM_goThrough_109 : decode cM_goThrough 109 = .ok (.dup, 1) := by decide +kernel
theorem dM_goThrough_110 : decode cM_goThrough 110 = .ok (.getfield 153, 3) := by decide +kernel
theorem dM_goThrough_113 : decode cM_goThrough 113 = .ok (.iload 4, 2) := by decide +kernel
theorem dM_goThrough_115 : decode cM_goThrough 115 = .ok (.iload 5, 2) := by decide +kernel
theorem dM_goThrough_117 : decode cM_goThrough 117 = .ok (.ixor, 1) := by decide +kernel
theorem dM_goThrough_118 : decode cM_goThrough 118 = .ok (.iload_n 2, 1) := by decide +kernel
theorem dM_goThrough_119 : decode cM_goThrough 119 = .ok (.ishl, 1) := by decide +kernel
theorem dM_goThrough_120 : decode cM_goThrough 120 = .ok (.ixor, 1) := by decide +kernel
theorem dM_goThrough_121 : decode cM_goThrough 121 = .ok (.putfield 153, 3) := by decide +kernel
theorem dM_goThrough_124 : decode cM_goThrough 124 = .ok (.goto 206, 3) := by decide +kernel
theorem dM_goThrough_127 : decode cM_goThrough 127 = .ok (.aload_n 0, 1) := by decide +kernel
theorem dM_goThrough_128 : decode cM_goThrough 128 = .ok (.dup, 1) := by decide +kernel
theorem dM_goThrough_129 : decode cM_goThrough 129 = .ok (.getfield 153, 3) := by decide +kernel
theorem dM_goThrough_132 : decode cM_goThrough 132 = .ok (.iload 4, 2) := by decide +kernel
theorem dM_goThrough_134 : decode cM_goThrough 134 = .ok (.iload_n 2, 1) := by decide +kernel
theorem dM_goThrough_135 : decode cM_goThrough 135 = .ok (.ishl, 1) := by decide +kernel
theorem dM_goThrough_136 : decode cM_goThrough 136 = .ok (.ixor, 1) := by decide +kernel
theorem dM_goThrough_137 : decode cM_goThrough 137 = .ok (.putfield 153, 3) := by decide +kernel
theorem dM_goThrough_140 : decode cM_goThrough 140 = .ok (.goto 190, 3) := by decide +kernel
theorem dM_goThrough_143 : decode cM_goThrough 143 = .ok (.aload_n 0, 1) := by decide +kernel
theorem dM_goThrough_144 : decode cM_goThrough 144 = .ok (.dup, 1) := by decide +kernel
theorem dM_goThrough_145 : decode cM_goThrough 145 = .ok (.getfield 150, 3) := by decide +kernel
theorem dM_goThrough_148 : decode cM_goThrough 148 = .ok (.iload 4, 2) := by decide +kernel
theorem dM_goThrough_150 : decode cM_goThrough 150 = .ok (.iload_n 3, 1) := by decide +kernel
theorem dM_goThrough_151 : decode cM_goThrough 151 = .ok (.ishl, 1) := by decide +kernel
theorem dM_goThrough_152 : decode cM_goThrough 152 = .ok (.ixor, 1) := by decide +kernel
theorem dM_goThrough_153 : decode cM_goThrough 153 = .ok (.putfield 150, 3) := by decide +kernel
theorem dM_goThrough_156 : decode cM_goThrough 156 = .ok (.aload_n 0, 1) := by decide +kernel
theorem dM_goThrough_157 : decode cM_goThrough 157 = .ok (.dup, 1) := by decide +kernel
theorem dM_goThrough_158 : decode cM_goThrough 158 = .ok (.getfield 153, 3) := by decide +kernel
theorem dM_goThrough_161 : decode cM_goThrough 161 = .ok (.aload_n 0, 1) := by decide +kernel
theorem dM_goThrough_162 : decode cM_goThrough 162 = .ok (.getfield 153, 3) := by decide +kernel
theorem dM_goThrough_165 : decode cM_goThrough 165 = .ok (.iload_n 3, 1) := by decide +kernel
theorem dM_goThrough_166 : decode cM_goThrough 166 = .ok (.invokestatic 95, 3) := by decide +kernel
theorem dM_goThrough_169 : decode cM_goThrough 169 = .ok (.iload_n 2, 1) := by decide +kernel
theorem dM_goThrough_170 : decode cM_goThrough 170 = .ok (.ishl, 1) := by decide +kernel
theorem dM_goThrough_171 : decode cM_goThrough 171 = .ok (.ixor, 1) := by decide +kernel
theorem dM_goThrough_172 : decode cM_goThrough 172 = .ok (.putfield 153, 3) := by decide +kernel
theorem dM_goThrough_175 : decode cM_goThrough 175 = .ok (.goto 155, 3) := by decide +kernel
theorem dM_goThrough_178 : decode cM_goThrough 178 = .ok (.aload_n 0, 1) := by decide +kernel
theorem dM_goThrough_179 : decode cM_goThrough 179 = .ok (.dup, 1) := by decide +kernel
theorem dM_goThrough_180 : decode cM_goThrough 180 = .ok (.getfield 153, 3) := by decide +kernel
theorem dM_goThrough_183 : decode cM_goThrough 183 = .ok (.aload_n 0, 1) := by decide +kernel
theorem dM_goThrough_184 : decode cM_goThrough 184 = .ok (.getfield 150, 3) := by decide +kernel
theorem dM_goThrough_187 : decode cM_goThrough 187 = .ok (.iload_n 3, 1) := by decide +kernel
theorem dM_goThrough_188 : decode cM_goThrough 188 = .ok (.invokestatic 95, 3) := by decide +kernel
theorem dM_goThrough_191 : decode cM_goThrough 191 = .ok (.iload_n 2, 1) := by decide +kernel
theorem dM_goThrough_192 : decode cM_goThrough 192 = .ok (.ishl, 1) := by decide +kernel
theorem dM_goThrough_193 : decode cM_goThrough 193 = .ok (.iload 4, 2) := by decide +kernel
theorem dM_goThrough_195 : decode cM_goThrough 195 = .ok (.iload_n 3, 1) := by decide +kernel
theorem dM_goThrough_196 : decode cM_goThrough 196 = .ok (.ishl, 1) := by decide +kernel
theorem dM_goThrough_197 : decode cM_goThrough 197 = .ok (.ior, 1) := by decide +kernel
theorem dM_goThrough_198 : decode cM_goThrough 198 = .ok (.ixor, 1) := by decide +kernel
theorem dM_goThrough_199 : decode cM_goThrough 199 = .ok (.putfield 153, 3) := by decide +kernel
theorem dM_goThrough_202 : decode cM_goThrough 202 = .ok (.goto 128, 3) := by decide +kernel
theorem dM_goThrough_205 : decode cM_goThrough 205 = .ok (.iload 4, 2) := by decide +kernel
theorem dM_goThrough_207 : decode cM_goThrough 207 = .ok (.aload_n 0, 1) := by decide +kernel
theorem dM_goThrough_208 : decode cM_goThrough 208 = .ok (.getfield 150, 3) := by decide +kernel
theorem dM_goThrough_211 : decode cM_goThrough 211 = .ok (.iload_n 3, 1) := by decide +kernel
theorem dM_goThrough_212 : decode cM_goThrough 212 = .ok (.invokestatic 95, 3) := by decide +kernel
theorem dM_goThrough_215 : decode cM_goThrough 215 = .ok (.ixor, 1) := by decide +kernel
theorem dM_goThrough_216 : decode cM_goThrough 216 = .ok (.istore 4, 2) := by decide +kernel
theorem dM_goThrough_218 : decode cM_goThrough 218 = .ok (.iload 5, 2) := by decide +kernel
theorem dM_goThrough_220 : decode cM_goThrough 220 = .ok (.aload_n 0, 1) := by decide +kernel
theorem dM_goThrough_221 : decode cM_goThrough 221 = .ok (.getfield 153, 3) := by decide +kernel
theorem dM_goThrough_224 : decode cM_goThrough 224 = .ok (.iload_n 3, 1) := by decide +kernel
theorem dM_goThrough_225 : decode cM_goThrough 225 = .ok (.invokestatic 95, 3) := by decide +kernel
theorem dM_goThrough_228 : decode cM_goThrough 228 = .ok (.ixor, 1) := by decide +kernel
theorem dM_goThrough_229 : decode cM_goThrough 229 = .ok (.istore 5, 2) := by decide +kernel
theorem dM_goThrough_231 : decode cM_goThrough 231 = .ok (.aload_n 0, 1) := by decide +kernel
theorem dM_goThrough_232 : decode cM_goThrough 232 = .ok (.dup, 1) := by decide +kernel
theorem dM_goThrough_233 : decode cM_goThrough 233 = .ok (.getfield 150, 3) := by decide +kernel
theorem dM_goThrough_236 : decode cM_goThrough 236 = .ok (.iload 4, 2) := by decide +kernel
theorem dM_goThrough_238 : decode cM_goThrough 238 = .ok (.iload_n 2, 1) := by decide +kernel
theorem dM_goThrough_239 : decode cM_goThrough 239 = .ok (.ishl, 1) := by decide +kernel
theorem dM_goThrough_240 : decode cM_goThrough 240 = .ok (.iload 4, 2) := by decide +kernel
theorem dM_goThrough_242 : decode cM_goThrough 242 = .ok (.iload_n 3, 1) := by decide +kernel
theorem dM_goThrough_243 : decode cM_goThrough 243 = .ok (.ishl, 1) := by decide +kernel
theorem dM_goThrough_244 : decode cM_goThrough 244 = .ok (.ior, 1) := by decide +kernel
theorem dM_goThrough_245 : decode cM_goThrough 245 = .ok (.ixor, 1) := by decide +kernel
theorem dM_goThrough_246 : decode cM_goThrough 246 = .ok (.putfield 150, 3) := by decide +kernel
theorem dM_goThrough_249 : decode cM_goThrough 249 = .ok (.aload_n 0, 1) := by decide +kernel
theorem dM_goThrough_250 : decode cM_goThrough 250 = .ok (.dup, 1) := by decide +kernel
theorem dM_goThrough_251 : decode cM_goThrough 251 = .ok (.getfield 153, 3) := by decide +kernel
theorem dM_goThrough_254 : decode cM_goThrough 254 = .ok (.iload 5, 2) := by decide +kernel
theorem dM_goThrough_256 : decode cM_goThrough 256 = .ok (.iload_n 2, 1) := by decide +kernel
theorem dM_goThrough_257 : decode cM_goThrough 257 = .ok (.ishl, 1) := by decide +kernel
theorem dM_goThrough_258 : decode cM_goThrough 258 = .ok (.iload 5, 2) := by decide +kernel
theorem dM_goThrough_260 : decode cM_goThrough 260 = .ok (.iload_n 3, 1) := by decide +kernel
theorem dM_goThrough_261 : decode cM_goThrough 261 = .ok (.ishl, 1) := by decide +kernel
theorem dM_goThrough_262 : decode cM_goThrough 262 = .ok (.ior, 1) := by decide +kernel
theorem dM_goThrough_263 : decode cM_goThrough 263 = .ok (.ixor, 1) := by decide +kernel
theorem dM_goThrough_264 : decode cM_goThrough 264 = .ok (.putfield 153, 3) := by decide +kernel
theorem dM_goThrough_267 : decode cM_goThrough 267 = .ok (.goto 63, 3) := by decide +kernel
theorem dM_goThrough_270 : decode cM_goThrough 270 = .ok (.iload 4, 2) := by decide +kernel
theorem dM_goThrough_272 : decode cM_goThrough 272 = .ok (.iconst 1, 1) := by decide +kernel
theorem dM_goThrough_273 : decode cM_goThrough 273 = .ok (.if_icmp .ne 15, 3) := by decide +kernel
theorem dM_goThrough_276 : decode cM_goThrough 276 = .ok (.aload_n 0, 1) := by decide +kernel
theorem dM_goThrough_277 : decode cM_goThrough 277 = .ok (.dup, 1) := by decide +kernel
theorem dM_goThrough_278 : decode cM_goThrough 278 = .ok (.getfield 156, 3) := by decide +kernel
theorem dM_goThrough_281 : decode cM_goThrough 281 = .ok (.lconst 1, 1) := by decide +kernel
theorem dM_goThrough_282 : decode cM_goThrough 282 = .ok (.iload_n 3, 1) := by decide +kernel
theorem dM_goThrough_283 : decode cM_goThrough 283 = .ok (.lshl, 1) := by decide +kernel
theorem dM_goThrough_284 : decode cM_goThrough 284 = .ok (.lor, 1) := by decide +kernel
theorem dM_goThrough_285 : decode cM_goThrough 285 = .ok (.putfield 156, 3) := by decide +kernel
theorem dM_goThrough_288 : decode cM_goThrough 288 = .ok (.aload_n 0, 1) := by decide +kernel
theorem dM_goThrough_289 : decode cM_goThrough 289 = .ok (.dup, 1) := by decide +kernel
theorem dM_goThrough_290 : decode cM_goThrough 290 = .ok (.getfield 153, 3) := by decide +kernel
theorem dM_goThrough_293 : decode cM_goThrough 293 = .ok (.iconst 1, 1) := by decide +kernel
theorem dM_goThrough_294 : decode cM_goThrough 294 = .ok (.iload_n 2, 1) := by decide +kernel
theorem dM_goThrough_295 : decode cM_goThrough 295 = .ok (.ishl, 1) := by decide +kernel
theorem dM_goThrough_296 : decode cM_goThrough 296 = .ok (.iconst (-1), 1) := by decide +kernel
theorem dM_goThrough_297 : decode cM_goThrough 297 = .ok (.ixor, 1) := by decide +kernel
theorem dM_goThrough_298 : decode cM_goThrough 298 = .ok (.iand, 1) := by decide +kernel
theorem dM_goThrough_299 : decode cM_goThrough 299 = .ok (.putfield 153, 3) := by decide +kernel
theorem dM_goThrough_302 : decode cM_goThrough 302 = .ok (.aload_n 0, 1) := by decide +kernel
theorem dM_goThrough_303 : decode cM_goThrough 303 = .ok (.getfield 7, 3) := by decide +kernel
theorem dM_goThrough_306 : decode cM_goThrough 306 = .ok (.iload_n 1, 1) := by decide +kernel
theorem dM_goThrough_307 : decode cM_goThrough 307 = .ok (.iaload, 1) := by decide +kernel
theorem dM_goThrough_308 : decode cM_goThrough 308 = .ok (.bipush 8, 2) := by decide +kernel
theorem dM_goThrough_310 : decode cM_goThrough 310 = .ok (.if_icmp .ne 20, 3) := by decide +kernel
theorem dM_goThrough_313 : decode cM_goThrough 313 = .ok (.aload_n 0, 1) := by decide +kernel
theorem dM_goThrough_314 : decode cM_goThrough 314 = .ok (.dup, 1) := by decide +kernel
theorem dM_goThrough_315 : decode cM_goThrough 315 = .ok (.getfield 150, 3) := by decide +kernel
theorem dM_goThrough_318 : decode cM_goThrough 318 = .ok (.iconst 1, 1) := by decide +kernel
theorem dM_goThrough_319 : decode cM_goThrough 319 = .ok (.iload_n 2, 1) := by decide +kernel
theorem dM_goThrough_320 : decode cM_goThrough 320 = .ok (.ishl, 1) := by decide +kernel
theorem dM_goThrough_321 : decode cM_goThrough 321 = .ok (.iconst (-1), 1) := by decide +kernel
theorem dM_goThrough_322 : decode cM_goThrough 322 = .ok (.ixor, 1) := by decide +kernel
theorem dM_goThrough_323 : decode cM_goThrough 323 = .ok (.iand, 1) := by decide +kernel
theorem dM_goThrough_324 : decode cM_goThrough 324 = .ok (.putfield 150, 3) := by decide +kernel
theorem dM_goThrough_327 : decode cM_goThrough 327 = .ok (.goto 3, 3) := by decide +kernel
theorem dM_goThrough_330 : decode cM_goThrough 330 = .ok (.return_, 1) := by decide +kernel
theorem dM_checksOf_0 : decode cM_checksOf 0 = .ok (.iconst 0, 1) := by decide +kernel
theorem dM_checksOf_1 : decode cM_checksOf 1 = .ok (.istore_n 3, 1) := by decide +kernel
theorem dM_checksOf_2 : decode cM_checksOf 2 = .ok (.iconst 0, 1) := by decide +kernel
theorem dM_checksOf_3 : decode cM_checksOf 3 = .ok (.istore 4, 2) := by decide +kernel
theorem dM_checksOf_5 : decode cM_checksOf 5 = .ok (.iload 4, 2) := by decide +kernel
theorem dM_checksOf_7 : decode cM_checksOf 7 = .ok (.aload_n 0, 1) := by decide +kernel
theorem dM_checksOf_8 : decode cM_checksOf 8 = .ok (.getfield 80, 3) := by decide +kernel
theorem dM_checksOf_11 : decode cM_checksOf 11 = .ok (.if_icmp .ge 27, 3) := by decide +kernel
theorem dM_checksOf_14 : decode cM_checksOf 14 = .ok (.iload_n 3, 1) := by decide +kernel
theorem dM_checksOf_15 : decode cM_checksOf 15 = .ok (.lload_n 1, 1) := by decide +kernel
theorem dM_checksOf_16 : decode cM_checksOf 16 = .ok (.aload_n 0, 1) := by decide +kernel
theorem dM_checksOf_17 : decode cM_checksOf 17 = .ok (.getfield 28, 3) := by decide +kernel
theorem dM_checksOf_20 : decode cM_checksOf 20 = .ok (.iload 4, 2) := by decide +kernel
theorem dM_checksOf_22 : decode cM_checksOf 22 = .ok (.laload, 1) := by decide +kernel
theorem dM_checksOf_23 : decode cM_checksOf 23 = .ok (.land, 1) := by decide +kernel
theorem dM_checksOf_24 : decode cM_checksOf 24 = .ok (.invokestatic 162, 3) := by decide +kernel
theorem dM_checksOf_27 : decode cM_checksOf 27 = .ok (.iload 4, 2) := by decide +kernel
theorem dM_checksOf_29 : decode cM_checksOf 29 = .ok (.ishl, 1) := by decide +kernel
theorem dM_checksOf_30 : decode cM_checksOf 30 = .ok (.ior, 1) := by decide +kernel
theorem dM_checksOf_31 : decode cM_checksOf 31 = .ok (.istore_n 3, 1) := by decide +kernel
theorem dM_checksOf_32 : decode cM_checksOf 32 = .ok (.iinc 4 1, 3) := by decide +kernel
theorem dM_checksOf_35 : decode cM_checksOf 35 = .ok (.goto (-30), 3) := by decide +kernel
theorem dM_checksOf_38 : decode cM_checksOf 38 = .ok (.iload_n 3, 1) := by decide +kernel
theorem dM_checksOf_39 : decode cM_checksOf 39 = .ok (.ireturn, 1) := by decide +kernel
theorem dM_parity_0 : decode cM_parity 0 = .ok (.lload_n 0, 1) := by decide +kernel
theorem dM_parity_1 : decode cM_parity 1 = .ok (.lstore_n 2, 1) := by decide +kernel
theorem dM_parity_2 : decode cM_parity 2 = .ok (.iconst 0, 1) := by decide +kernel
theorem dM_parity_3 : decode cM_parity 3 = .ok (.istore 4, 2) := by decide +kernel
theorem dM_parity_5 : decode cM_parity 5 = .ok (.lload_n 2, 1) := by decide +kernel
theorem dM_parity_6 : decode cM_parity 6 = .ok (.lconst 0, 1) := by decide +kernel
theorem dM_parity_7 : decode cM_parity 7 = .ok (.lcmp, 1) := by decide +kernel
theorem dM_parity_8 : decode cM_parity 8 = .ok (.ifCond .eq 19, 3) := by decide +kernel
theorem dM_parity_11 : decode cM_parity 11 = .ok (.iload 4, 2) := by decide +kernel
theorem dM_parity_13 : decode cM_parity 13 = .ok (.lload_n 2, 1) := by decide +kernel
theorem dM_parity_14 : decode cM_parity 14 = .ok (.lconst 1, 1) := by decide +kernel
theorem dM_parity_15 : decode cM_parity 15 = .ok (.land, 1) := by decide +kernel
theorem dM_parity_16 : decode cM_parity 16 = .ok (.l2i, 1) := by decide +kernel
theorem dM_parity_17 : decode cM_parity 17 = .ok (.ixor, 1) := by decide +kernel
theorem dM_parity_18 : decode cM_parity 18 = .ok (.istore 4, 2) := by decide +kernel
theorem dM_parity_20 : decode cM_parity 20 = .ok (.lload_n 2, 1) := by decide +kernel
theorem dM_parity_21 : decode cM_parity 21 = .ok (.iconst 1, 1) := by decide +kernel
theorem dM_parity_22 : decode cM_parity 22 = .ok (.lushr, 1) := by decide +kernel
theorem dM_parity_23 : decode cM_parity 23 = .ok (.lstore_n 2, 1) := by decide +kernel
theorem dM_parity_24 : decode cM_parity 24 = .ok (.goto (-19), 3) := by decide +kernel
theorem dM_parity_27 : decode cM_parity 27 = .ok (.iload 4, 2) := by decide +kernel
theorem dM_parity_29 : decode cM_parity 29 = .ok (.ireturn, 1) := by decide +kernel
theorem dM_edge_0 : decode cM_edge 0 = .ok (.aload_n 0, 1) := by decide +kernel
theorem dM_edge_1 : decode cM_edge 1 = .ok (.iconst 0, 1) := by decide +kernel
theorem dM_edge_2 : decode cM_edge 2 = .ok (.putfield 64, 3) := by decide +kernel
theorem dM_edge_5 : decode cM_edge 5 = .ok (.aload_n 0, 1) := by decide +kernel
theorem dM_edge_6 : decode cM_edge 6 = .ok (.invokevirtual 180, 3) := by decide +kernel
theorem dM_edge_9 : decode cM_edge 9 = .ok (.iload_n 1, 1) := by decide +kernel
theorem dM_edge_10 : decode cM_edge 10 = .ok (.ifCond .lt 20, 3) := by decide +kernel
theorem dM_edge_13 : decode cM_edge 13 = .ok (.iload_n 1, 1) := by decide +kernel
theorem dM_edge_14 : decode cM_edge 14 = .ok (.aload_n 0, 1) := by decide +kernel
theorem dM_edge_15 : decode cM_edge 15 = .ok (.getfield 173, 3) := by decide +kernel
theorem dM_edge_18 : decode cM_edge 18 = .ok (.if_icmp .ge 12, 3) := by decide +kernel
theorem dM_edge_21 : decode cM_edge 21 = .ok (.iload_n 2, 1) := by decide +kernel
theorem dM_edge_22 : decode cM_edge 22 = .ok (.ifCond .lt 8, 3) := by decide +kernel
theorem dM_edge_25 : decode cM_edge 25 = .ok (.iload_n 2, 1) := by decide +kernel
theorem dM_edge_26 : decode cM_edge 26 = .ok (.iconst 3, 1) := by decide +kernel
theorem dM_edge_27 : decode cM_edge 27 = .ok (.if_icmp .le 7, 3) := by decide +kernel
theorem dM_edge_30 : decode cM_edge 30 = .ok (.ldc2_w 145, 3) := by decide +kernel
theorem dM_edge_33 : decode cM_edge 33 = .ok (.lreturn, 1) := by decide +kernel
theorem dM_edge_34 : decode cM_edge 34 = .ok (.iload_n 2, 1) := by decide +kernel
theorem dM_edge_35 : decode cM_edge 35 = .ok (.ifCond .ne 11, 3) := by decide +kernel
theorem dM_edge_38 : decode cM_edge 38 = .ok (.aload_n 0, 1) := by decide +kernel
theorem dM_edge_39 : decode cM_edge 39 = .ok (.getfield 54, 3) := by decide +kernel
theorem dM_edge_42 : decode cM_edge 42 = .ok (.iload_n 1, 1) := by decide +kernel
theorem dM_edge_43 : decode cM_edge 43 = .ok (.iaload, 1) := by decide +kernel
theorem dM_edge_44 : decode cM_edge 44 = .ok (.i2l, 1) := by decide +kernel
theorem dM_edge_45 : decode cM_edge 45 = .ok (.lreturn, 1) := by decide +kernel
theorem dM_edge_46 : decode cM_edge 46 = .ok (.iload_n 2, 1) := by decide +kernel
theorem dM_edge_47 : decode cM_edge 47 = .ok (.iconst 1, 1) := by decide +kernel
theorem dM_edge_48 : decode cM_edge 48 = .ok (.if_icmp .ne 10, 3) := by decide +kernel
theorem dM_edge_51 : decode cM_edge 51 = .ok (.aload_n 0, 1) := by decide +kernel
theorem dM_edge_52 : decode cM_edge 52 = .ok (.getfield 57, 3) := by decide +kernel
theorem dM_edge_55 : decode cM_edge 55 = .ok (.iload_n 1, 1) := by decide +kernel
theorem dM_edge_56 : decode cM_edge 56 = .ok (.laload, 1) := by decide +kernel
theorem dM_edge_57 : decode cM_edge 57 = .ok (.lreturn, 1) := by decide +kernel
theorem dM_edge_58 : decode cM_edge 58 = .ok (.iconst 0, 1) := by decide +kernel
theorem dM_edge_59 : decode cM_edge 59 = .ok (.istore_n 3, 1) := by decide +kernel
theorem dM_edge_60 : decode cM_edge 60 = .ok (.iconst 0, 1) := by decide +kernel
theorem dM_edge_61 : decode cM_edge 61 = .ok (.istore 4, 2) := by decide +kernel
theorem dM_edge_63 : decode cM_edge 63 = .ok (.iload 4, 2) := by decide +kernel
theorem dM_edge_65 : decode cM_edge 65 = .ok (.aload_n 0, 1) := by decide +kernel
theorem dM_edge_66 : decode cM_edge 66 = .ok (.getfield 77, 3) := by decide +kernel
theorem dM_edge_69 : decode cM_edge 69 = .ok (.if_icmp .ge 24, 3) := by decide +kernel
theorem dM_edge_72 : decode cM_edge 72 = .ok (.iload_n 3, 1) := by decide +kernel
theorem dM_edge_73 : decode cM_edge 73 = .ok (.aload_n 0, 1) := by decide +kernel
theorem dM_edge_74 : decode cM_edge 74 = .ok (.getfield 57, 3) := by decide +kernel
theorem dM_edge_77 : decode cM_edge 77 = .ok (.iload_n 1, 1) := by decide +kernel
theorem dM_edge_78 : decode cM_edge 78 = .ok (.laload, 1) := by decide +kernel
theorem dM_edge_79 : decode cM_edge 79 = .ok (.iload 4, 2) := by decide +kernel
theorem dM_edge_81 : decode cM_edge 81 = .ok (.lshr, 1) := by decide +kernel
theorem dM_edge_82 : decode cM_edge 82 = .ok (.lconst 1, 1) := by decide +kernel
theorem dM_edge_83 : decode cM_edge 83 = .ok (.land, 1) := by decide +kernel
theorem dM_edge_84 : decode cM_edge 84 = .ok (.l2i, 1) := by decide +kernel
theorem dM_edge_85 : decode cM_edge 85 = .ok (.iadd, 1) := by decide +kernel
theorem dM_edge_86 : decode cM_edge 86 = .ok (.istore_n 3, 1) := by decide +kernel
theorem dM_edge_87 : decode cM_edge 87 = .ok (.iinc 4 1, 3) := by decide +kernel
theorem dM_edge_90 : decode cM_edge 90 = .ok (.goto (-27), 3) := by decide +kernel
theorem dM_edge_93 : decode cM_edge 93 = .ok (.iload_n 3, 1) := by decide +kernel
theorem dM_edge_94 : decode cM_edge 94 = .ok (.bipush 15, 2) := by decide +kernel
theorem dM_edge_96 : decode cM_edge 96 = .ok (.if_icmp .le 10, 3) := by decide +kernel
theorem dM_edge_99 : decode cM_edge 99 = .ok (.aload_n 0, 1) := by decide +kernel
theorem dM_edge_100 : decode cM_edge 100 = .ok (.iconst 1, 1) := by decide +kernel
theorem dM_edge_101 : decode cM_edge 101 = .ok (.putfield 64, 3) := by decide +kernel
theorem dM_edge_104 : decode cM_edge 104 = .ok (.lconst 0, 1) := by decide +kernel
theorem dM_edge_105 : decode cM_edge 105 = .ok (.lreturn, 1) := by decide +kernel
theorem dM_edge_106 : decode cM_edge 106 = .ok (.aload_n 0, 1) := by decide +kernel
theorem dM_edge_107 : decode cM_edge 107 = .ok (.iload_n 1, 1) := by decide +kernel
theorem dM_edge_108 : decode cM_edge 108 = .ok (.iload_n 2, 1) := by decide +kernel
theorem dM_edge_109 : decode cM_edge 109 = .ok (.iconst 3, 1) := by decide +kernel
theorem dM_edge_110 : decode cM_edge 110 = .ok (.if_icmp .ne 7, 3) := by decide +kernel
theorem dM_edge_113 : decode cM_edge 113 = .ok (.iconst 1, 1) := by decide +kernel
theorem dM_edge_114 : decode cM_edge 114 = .ok (.goto 4, 3) := by decide +kernel
theorem dM_edge_117 : decode cM_edge 117 = .ok (.iconst 0, 1) := by decide +kernel
theorem dM_edge_118 : decode cM_edge 118 = .ok (.invokevirtual 183, 3) := by decide +kernel
theorem dM_edge_121 : decode cM_edge 121 = .ok (.lreturn, 1) := by decide +kernel
theorem dM_findEdges_0 : decode cM_findEdges 0 = .ok (.aload_n 0, 1) := by decide +kernel
theorem dM_findEdges_1 : decode cM_findEdges 1 = .ok (.iconst 0, 1) := by decide +kernel
theorem dM_findEdges_2 : decode cM_findEdges 2 = .ok (.putfield 173, 3) := by decide +kernel
theorem dM_findEdges_5 : decode cM_findEdges 5 = .ok (.iconst 0, 1) := by decide +kernel
theorem dM_findEdges_6 : decode cM_findEdges 6 = .ok (.istore_n 1, 1) := by decide +kernel
theorem dM_findEdges_7 : decode cM_findEdges 7 = .ok (.iload_n 1, 1) := by decide +kernel
theorem dM_findEdges_8 : decode cM_findEdges 8 = .ok (.aload_n 0, 1) := by decide +kernel
theorem dM_findEdges_9 : decode cM_findEdges 9 = .ok (.getfield 77, 3) := by decide +kernel
theorem dM_findEdges_12 : decode cM_findEdges 12 = .ok (.if_icmp .ge 96, 3) := by decide +kernel
theorem dM_findEdges_15 : decode cM_findEdges 15 = .ok (.aload_n 0, 1) := by decide +kernel
theorem dM_findEdges_16 : decode cM_findEdges 16 = .ok (.aload_n 0, 1) := by decide +kernel
theorem dM_findEdges_17 : decode cM_findEdges 17 = .ok (.iload_n 1, 1) := by decide +kernel
theorem dM_findEdges_18 : decode cM_findEdges 18 = .ok (.invokevirtual 166, 3) := by decide +kernel
theorem dM_findEdges_21 : decode cM_findEdges 21 = .ok (.invokevirtual 170, 3) := by decide +kernel
theorem dM_findEdges_24 : decode cM_findEdges 24 = .ok (.istore_n 2, 1) := by decide +kernel
theorem dM_findEdges_25 : decode cM_findEdges 25 = .ok (.iload_n 2, 1) := by decide +kernel
theorem dM_findEdges_26 : decode cM_findEdges 26 = .ok (.ifCond .ne 6, 3) := by decide +kernel
theorem dM_findEdges_29 : decode cM_findEdges 29 = .ok (.goto 73, 3) := by decide +kernel
theorem dM_findEdges_32 : decode cM_findEdges 32 = .ok (.iconst 0, 1) := by decide +kernel
theorem dM_findEdges_33 : decode cM_findEdges 33 = .ok (.istore_n 3, 1) := by decide +kernel
theorem dM_findEdges_34 : decode cM_findEdges 34 = .ok (.iload_n 3, 1) := by decide +kernel
theorem dM_findEdges_35 : decode cM_findEdges 35 = .ok (.aload_n 0, 1) := by decide +kernel
theorem dM_findEdges_36 : decode cM_findEdges 36 = .ok (.getfield 173, 3) := by decide +kernel
theorem dM_findEdges_39 : decode cM_findEdges 39 = .ok (.if_icmp .ge 19, 3) := by decide +kernel
theorem dM_findEdges_42 : decode cM_findEdges 42 = .ok (.aload_n 0, 1) := by decide +kernel
theorem dM_findEdges_43 : decode cM_findEdges 43 = .ok (.getfield 54, 3) := by decide +kernel
theorem dM_findEdges_46 : decode cM_findEdges 46 = .ok (.iload_n 3, 1) := by decide +kernel
theorem dM_findEdges_47 : decode cM_findEdges 47 = .ok (.iaload, 1) := by decide +kernel
theorem dM_findEdges_48 : decode cM_findEdges 48 = .ok (.iload_n 2, 1) := by decide +kernel
theorem dM_findEdges_49 : decode cM_findEdges 49 = .ok (.if_icmp .eq 9, 3) := by decide +kernel
theorem dM_findEdges_52 : decode cM_findEdges 52 = .ok (.iinc 3 1, 3) := by decide +kernel
theorem dM_findEdges_55 : decode cM_findEdges 55 = .ok (.goto (-21), 3) := by decide +kernel
theorem dM_findEdges_58 : decode cM_findEdges 58 = .ok (.iload_n 3, 1) := by decide +kernel
theorem dM_findEdges_59 : decode cM_findEdges 59 = .ok (.aload_n 0, 1) := by decide +kernel
theorem dM_findEdges_60 : decode cM_findEdges 60 = .ok (.getfield 173, 3) := by decide +kernel
theorem dM_findEdges_63 : decode cM_findEdges 63 = .ok (.if_icmp .ne 27, 3) := by decide +kernel
theorem dM_findEdges_66 : decode cM_findEdges 66 = .ok (.aload_n 0, 1) := by decide +kernel
theorem dM_findEdges_67 : decode cM_findEdges 67 = .ok (.getfield 54, 3) := by decide +kernel
theorem dM_findEdges_70 : decode cM_findEdges 70 = .ok (.iload_n 3, 1) := by decide +kernel
theorem dM_findEdges_71 : decode cM_findEdges 71 = .ok (.iload_n 2, 1) := by decide +kernel
theorem dM_findEdges_72 : decode cM_findEdges 72 = .ok (.iastore, 1) := by decide +kernel
theorem dM_findEdges_73 : decode cM_findEdges 73 = .ok (.aload_n 0, 1) := by decide +kernel
theorem dM_findEdges_74 : decode cM_findEdges 74 = .ok (.getfield 57, 3) := by decide +kernel
theorem dM_findEdges_77 : decode cM_findEdges 77 = .ok (.iload_n 3, 1) := by decide +kernel
theorem dM_findEdges_78 : decode cM_findEdges 78 = .ok (.lconst 0, 1) := by decide +kernel
theorem dM_findEdges_79 : decode cM_findEdges 79 = .ok (.lastore, 1) := by decide +kernel
theorem dM_findEdges_80 : decode cM_findEdges 80 = .ok (.aload_n 0, 1) := by decide +kernel
theorem dM_findEdges_81 : decode cM_findEdges 81 = .ok (.dup, 1) := by decide +kernel
theorem dM_findEdges_82 : decode cM_findEdges 82 = .ok (.getfield 173, 3) := by decide +kernel
theorem dM_findEdges_85 : decode cM_findEdges 85 = .ok (.iconst 1, 1) := by decide +kernel
theorem dM_findEdges_86 : decode cM_findEdges 86 = .ok (.iadd, 1) := by decide +kernel
theorem dM_findEdges_87 : decode cM_findEdges 87 = .ok (.putfield 173, 3) := by decide +kernel
theorem dM_findEdges_90 : decode cM_findEdges 90 = .ok (.aload_n 0, 1) := by decide +kernel
theorem dM_findEdges_91 : decode cM_findEdges 91 = .ok (.getfield 57, 3) := by decide +kernel
theorem dM_findEdges_94 : decode cM_findEdges 94 = .ok (.iload_n 3, 1) := by decide +kernel
theorem dM_findEdges_95 : decode cM_findEdges 95 = .ok (.dup2, 1) := by decide +kernel
theorem dM_findEdges_96 : decode cM_findEdges 96 = .ok (.laload, 1) := by decide +kernel
theorem dM_findEdges_97 : decode cM_findEdges 97 = .ok (.lconst 1, 1) := by decide +kernel
theorem dM_findEdges_98 : decode cM_findEdges 98 = .ok (.iload_n 1, 1) := by decide +kernel
theorem dM_findEdges_99 : decode cM_findEdges 99 = .ok (.lshl, 1) := by decide +kernel
theorem dM_findEdges_100 : decode cM_findEdges 100 = .ok (.lor, 1) := by decide +kernel
theorem dM_findEdges_101 : decode cM_findEdges 101 = .ok (.lastore, 1) := by decide +kernel
theorem dM_findEdges_102 : decode cM_findEdges 102 = .ok (.iinc 1 1, 3) := by decide +kernel
theorem dM_findEdges_105 : decode cM_findEdges 105 = .ok (.goto (-98), 3) := by decide +kernel
theorem dM_findEdges_108 : decode cM_findEdges 108 = .ok (.return_, 1) := by decide +kernel
theorem dM_odds_0 : decode cM_odds 0 = .ok (.lconst 1, 1) := by decide +kernel
theorem dM_odds_1 : decode cM_odds 1 = .ok (.lstore_n 3, 1) := by decide +kernel
theorem dM_odds_2 : decode cM_odds 2 = .ok (.lconst 1, 1) := by decide +kernel
theorem dM_odds_3 : decode cM_odds 3 = .ok (.lstore 5, 2) := by decide +kernel
theorem dM_odds_5 : decode cM_odds 5 = .ok (.iconst 1, 1) := by decide +kernel
theorem dM_odds_6 : decode cM_odds 6 = .ok (.istore 7, 2) := by decide +kernel
theorem dM_odds_8 : decode cM_odds 8 = .ok (.iconst 0, 1) := by decide +kernel
theorem dM_odds_9 : decode cM_odds 9 = .ok (.istore 8, 2) := by decide +kernel
theorem dM_odds_11 : decode cM_odds 11 = .ok (.iload 8, 2) := by decide +kernel
theorem dM_odds_13 : decode cM_odds 13 = .ok (.aload_n 0, 1) := by decide +kernel
theorem dM_odds_14 : decode cM_odds 14 = .ok (.getfield 77, 3) := by decide +kernel
theorem dM_odds_17 : decode cM_odds 17 = .ok (.if_icmp .ge 54, 3) := by decide +kernel
theorem dM_odds_20 : decode cM_odds 20 = .ok (.aload_n 0, 1) := by decide +kernel
theorem dM_odds_21 : decode cM_odds 21 = .ok (.getfield 57, 3) := by decide +kernel
theorem dM_odds_24 : decode cM_odds 24 = .ok (.iload_n 1, 1) := by decide +kernel
theorem dM_odds_25 : decode cM_odds 25 = .ok (.laload, 1) := by decide +kernel
theorem dM_odds_26 : decode cM_odds 26 = .ok (.iload 8, 2) := by decide +kernel
theorem dM_odds_28 : decode cM_odds 28 = .ok (.lshr, 1) := by decide +kernel
theorem dM_odds_29 : decode cM_odds 29 = .ok (.lconst 1, 1) := by decide +kernel
theorem dM_odds_30 : decode cM_odds 30 = .ok (.land, 1) := by decide +kernel
theorem dM_odds_31 : decode cM_odds 31 = .ok (.lconst 0, 1) := by decide +kernel
theorem dM_odds_32 : decode cM_odds 32 = .ok (.lcmp, 1) := by decide +kernel
theorem dM_odds_33 : decode cM_odds 33 = .ok (.ifCond .ne 6, 3) := by decide +kernel
theorem dM_odds_36 : decode cM_odds 36 = .ok (.goto 29, 3) := by decide +kernel
theorem dM_odds_39 : decode cM_odds 39 = .ok (.lload_n 3, 1) := by decide +kernel
theorem dM_odds_40 : decode cM_odds 40 = .ok (.ldc2_w 176, 3) := by decide +kernel
theorem dM_odds_43 : decode cM_odds 43 = .ok (.lmul, 1) := by decide +kernel
theorem dM_odds_44 : decode cM_odds 44 = .ok (.lstore_n 3, 1) := by decide +kernel
theorem dM_odds_45 : decode cM_odds 45 = .ok (.lload 5, 2) := by decide +kernel
theorem dM_odds_47 : decode cM_odds 47 = .ok (.ldc2_w 176, 3) := by decide +kernel
theorem dM_odds_50 : decode cM_odds 50 = .ok (.aload_n 0, 1) := by decide +kernel
theorem dM_odds_51 : decode cM_odds 51 = .ok (.getfield 25, 3) := by decide +kernel
theorem dM_odds_54 : decode cM_odds 54 = .ok (.iload 8, 2) := by decide +kernel
theorem dM_odds_56 : decode cM_odds 56 = .ok (.iaload, 1) := by decide +kernel
theorem dM_odds_57 : decode cM_odds 57 = .ok (.i2l, 1) := by decide +kernel
theorem dM_odds_58 : decode cM_odds 58 = .ok (.lsub, 1) := by decide +kernel
theorem dM_odds_59 : decode cM_odds 59 = .ok (.lmul, 1) := by decide +kernel
theorem dM_odds_60 : decode cM_odds 60 = .ok (.lstore 5, 2) := by decide +kernel
theorem dM_odds_62 : decode cM_odds 62 = .ok (.iinc 7 3, 3) := by decide +kernel
theorem dM_odds_65 : decode cM_odds 65 = .ok (.iinc 8 1, 3) := by decide +kernel
theorem dM_odds_68 : decode cM_odds 68 = .ok (.goto (-57), 3) := by decide +kernel
theorem dM_odds_71 : decode cM_odds 71 = .ok (.lload_n 3, 1) := by decide +kernel
theorem dM_odds_72 : decode cM_odds 72 = .ok (.lload 5, 2) := by decide +kernel
theorem dM_odds_74 : decode cM_odds 74 = .ok (.lsub, 1) := by decide +kernel
theorem dM_odds_75 : decode cM_odds 75 = .ok (.lstore 8, 2) := by decide +kernel
theorem dM_odds_77 : decode cM_odds 77 = .ok (.lload 8, 2) := by decide +kernel
theorem dM_odds_79 : decode cM_odds 79 = .ok (.lconst 0, 1) := by decide +kernel
theorem dM_odds_80 : decode cM_odds 80 = .ok (.lcmp, 1) := by decide +kernel
theorem dM_odds_81 : decode cM_odds 81 = .ok (.ifCond .ne 6, 3) := by decide +kernel
theorem dM_odds_84 : decode cM_odds 84 = .ok (.iconst 0, 1) := by decide +kernel
theorem dM_odds_85 : decode cM_odds 85 = .ok (.istore 7, 2) := by decide +kernel
theorem dM_odds_87 : decode cM_odds 87 = .ok (.iload 7, 2) := by decide +kernel
theorem dM_odds_89 : decode cM_odds 89 = .ok (.ifCond .le 28, 3) := by decide +kernel
theorem dM_odds_92 : decode cM_odds 92 = .ok (.lload 8, 2) := by decide +kernel
theorem dM_odds_94 : decode cM_odds 94 = .ok (.ldc2_w 178, 3) := by decide +kernel
theorem dM_odds_97 : decode cM_odds 97 = .ok (.lrem, 1) := by decide +kernel
theorem dM_odds_98 : decode cM_odds 98 = .ok (.lconst 0, 1) := by decide +kernel
theorem dM_odds_99 : decode cM_odds 99 = .ok (.lcmp, 1) := by decide +kernel
theorem dM_odds_100 : decode cM_odds 100 = .ok (.ifCond .ne 17, 3) := by decide +kernel
theorem dM_odds_103 : decode cM_odds 103 = .ok (.lload 8, 2) := by decide +kernel
theorem dM_odds_105 : decode cM_odds 105 = .ok (.ldc2_w 178, 3) := by decide +kernel
theorem dM_odds_108 : decode cM_odds 108 = .ok (.ldiv, 1) := by decide +kernel
theorem dM_odds_109 : decode cM_odds 109 = .ok (.lstore 8, 2) := by decide +kernel
theorem dM_odds_111 : decode cM_odds 111 = .ok (.iinc 7 (-1), 3) := by decide +kernel
theorem dM_odds_114 : decode cM_odds 114 = .ok (.goto (-27), 3) := by decide +kernel
theorem dM_odds_117 : decode cM_odds 117 = .ok (.iload_n 2, 1) := by decide +kernel
theorem dM_odds_118 : decode cM_odds 118 = .ok (.ifCond .eq 9, 3) := by decide +kernel
theorem dM_odds_121 : decode cM_odds 121 = .ok (.iload 7, 2) := by decide +kernel
theorem dM_odds_123 : decode cM_odds 123 = .ok (.i2l, 1) := by decide +kernel
theorem dM_odds_124 : decode cM_odds 124 = .ok (.goto 5, 3) := by decide +kernel
theorem dM_odds_127 : decode cM_odds 127 = .ok (.lload 8, 2) := by decide +kernel
theorem dM_odds_129 : decode cM_odds 129 = .ok (.lreturn, 1) := by decide +kernel
theorem dM_run_0 : decode cM_run 0 = .ok (.aload_n 0, 1) := by decide +kernel
theorem dM_run_1 : decode cM_run 1 = .ok (.iconst 0, 1) := by decide +kernel
theorem dM_run_2 : decode cM_run 2 = .ok (.putfield 64, 3) := by decide +kernel
theorem dM_run_5 : decode cM_run 5 = .ok (.lload_n 1, 1) := by decide +kernel
theorem dM_run_6 : decode cM_run 6 = .ok (.aload_n 0, 1) := by decide +kernel
theorem dM_run_7 : decode cM_run 7 = .ok (.getfield 77, 3) := by decide +kernel
theorem dM_run_10 : decode cM_run 10 = .ok (.invokestatic 91, 3) := by decide +kernel
theorem dM_run_13 : decode cM_run 13 = .ok (.ifCond .ne 7, 3) := by decide +kernel
theorem dM_run_16 : decode cM_run 16 = .ok (.ldc2_w 145, 3) := by decide +kernel
theorem dM_run_19 : decode cM_run 19 = .ok (.lreturn, 1) := by decide +kernel
theorem dM_run_20 : decode cM_run 20 = .ok (.aload_n 0, 1) := by decide +kernel
theorem dM_run_21 : decode cM_run 21 = .ok (.invokevirtual 147, 3) := by decide +kernel
theorem dM_run_24 : decode cM_run 24 = .ok (.lconst 0, 1) := by decide +kernel
theorem dM_run_25 : decode cM_run 25 = .ok (.lstore 5, 2) := by decide +kernel
theorem dM_run_27 : decode cM_run 27 = .ok (.iconst 0, 1) := by decide +kernel
theorem dM_run_28 : decode cM_run 28 = .ok (.istore 7, 2) := by decide +kernel
theorem dM_run_30 : decode cM_run 30 = .ok (.iload 7, 2) := by decide +kernel
theorem dM_run_32 : decode cM_run 32 = .ok (.aload_n 0, 1) := by decide +kernel
theorem dM_run_33 : decode cM_run 33 = .ok (.getfield 74, 3) := by decide +kernel
theorem dM_run_36 : decode cM_run 36 = .ok (.if_icmp .ge 38, 3) := by decide +kernel
theorem dM_run_39 : decode cM_run 39 = .ok (.lload 5, 2) := by decide +kernel
theorem dM_run_41 : decode cM_run 41 = .ok (.aload_n 0, 1) := by decide +kernel
theorem dM_run_42 : decode cM_run 42 = .ok (.getfield 44, 3) := by decide +kernel
theorem dM_run_45 : decode cM_run 45 = .ok (.iload 7, 2) := by decide +kernel
theorem dM_run_47 : decode cM_run 47 = .ok (.iaload, 1) := by decide +kernel
theorem dM_run_48 : decode cM_run 48 = .ok (.aload_n 0, 1) := by decide +kernel
theorem dM_run_49 : decode cM_run 49 = .ok (.getfield 47, 3) := by decide +kernel
theorem dM_run_52 : decode cM_run 52 = .ok (.iload 7, 2) := by decide +kernel
theorem dM_run_54 : decode cM_run 54 = .ok (.laload, 1) := by decide +kernel
theorem dM_run_55 : decode cM_run 55 = .ok (.lload_n 3, 1) := by decide +kernel
theorem dM_run_56 : decode cM_run 56 = .ok (.land, 1) := by decide +kernel
theorem dM_run_57 : decode cM_run 57 = .ok (.invokestatic 162, 3) := by decide +kernel
theorem dM_run_60 : decode cM_run 60 = .ok (.ixor, 1) := by decide +kernel
theorem dM_run_61 : decode cM_run 61 = .ok (.i2l, 1) := by decide +kernel
theorem dM_run_62 : decode cM_run 62 = .ok (.iload 7, 2) := by decide +kernel
theorem dM_run_64 : decode cM_run 64 = .ok (.lshl, 1) := by decide +kernel
theorem dM_run_65 : decode cM_run 65 = .ok (.lor, 1) := by decide +kernel
theorem dM_run_66 : decode cM_run 66 = .ok (.lstore 5, 2) := by decide +kernel
theorem dM_run_68 : decode cM_run 68 = .ok (.iinc 7 1, 3) := by decide +kernel
theorem dM_run_71 : decode cM_run 71 = .ok (.goto (-41), 3) := by decide +kernel
theorem dM_run_74 : decode cM_run 74 = .ok (.iconst 0, 1) := by decide +kernel
theorem dM_run_75 : decode cM_run 75 = .ok (.istore 7, 2) := by decide +kernel
theorem dM_run_77 : decode cM_run 77 = .ok (.iload 7, 2) := by decide +kernel
theorem dM_run_79 : decode cM_run 79 = .ok (.aload_n 0, 1) := by decide +kernel
theorem dM_run_80 : decode cM_run 80 = .ok (.getfield 77, 3) := by decide +kernel
theorem dM_run_83 : decode cM_run 83 = .ok (.if_icmp .ge 31, 3) := by decide +kernel
theorem dM_run_86 : decode cM_run 86 = .ok (.lload_n 1, 1) := by decide +kernel
theorem dM_run_87 : decode cM_run 87 = .ok (.iload 7, 2) := by decide +kernel
theorem dM_run_89 : decode cM_run 89 = .ok (.lshr, 1) := by decide +kernel
theorem dM_run_90 : decode cM_run 90 = .ok (.lconst 1, 1) := by decide +kernel
theorem dM_run_91 : decode cM_run 91 = .ok (.land, 1) := by decide +kernel
theorem dM_run_92 : decode cM_run 92 = .ok (.lconst 1, 1) := by decide +kernel
theorem dM_run_93 : decode cM_run 93 = .ok (.lcmp, 1) := by decide +kernel
theorem dM_run_94 : decode cM_run 94 = .ok (.ifCond .ne 14, 3) := by decide +kernel
theorem dM_run_97 : decode cM_run 97 = .ok (.lload 5, 2) := by decide +kernel
theorem dM_run_99 : decode cM_run 99 = .ok (.aload_n 0, 1) := by decide +kernel
theorem dM_run_100 : decode cM_run 100 = .ok (.iload 7, 2) := by decide +kernel
theorem dM_run_102 : decode cM_run 102 = .ok (.invokevirtual 166, 3) := by decide +kernel
theorem dM_run_105 : decode cM_run 105 = .ok (.lxor, 1) := by decide +kernel
theorem dM_run_106 : decode cM_run 106 = .ok (.lstore 5, 2) := by decide +kernel
theorem dM_run_108 : decode cM_run 108 = .ok (.iinc 7 1, 3) := by decide +kernel
theorem dM_run_111 : decode cM_run 111 = .ok (.goto (-34), 3) := by decide +kernel
theorem dM_run_114 : decode cM_run 114 = .ok (.lload 5, 2) := by decide +kernel
theorem dM_run_116 : decode cM_run 116 = .ok (.lreturn, 1) := by decide +kernel
theorem dM_total_0 : decode cM_total 0 = .ok (.aload_n 0, 1) := by decide +kernel
theorem dM_total_1 : decode cM_total 1 = .ok (.iconst 0, 1) := by decide +kernel
theorem dM_total_2 : decode cM_total 2 = .ok (.putfield 64, 3) := by decide +kernel
theorem dM_total_5 : decode cM_total 5 = .ok (.iload_n 1, 1) := by decide +kernel
theorem dM_total_6 : decode cM_total 6 = .ok (.tableswitch 72 0 5 #[38, 43, 48, 53, 58, 63], 38) := by decide +kernel
theorem dM_total_44 : decode cM_total 44 = .ok (.aload_n 0, 1) := by decide +kernel
theorem dM_total_45 : decode cM_total 45 = .ok (.getfield 68, 3) := by decide +kernel
theorem dM_total_48 : decode cM_total 48 = .ok (.ireturn, 1) := by decide +kernel
theorem dM_total_49 : decode cM_total 49 = .ok (.aload_n 0, 1) := by decide +kernel
theorem dM_total_50 : decode cM_total 50 = .ok (.getfield 71, 3) := by decide +kernel
theorem dM_total_53 : decode cM_total 53 = .ok (.ireturn, 1) := by decide +kernel
theorem dM_total_54 : decode cM_total 54 = .ok (.aload_n 0, 1) := by decide +kernel
theorem dM_total_55 : decode cM_total 55 = .ok (.getfield 74, 3) := by decide +kernel
theorem dM_total_58 : decode cM_total 58 = .ok (.ireturn, 1) := by decide +kernel
theorem dM_total_59 : decode cM_total 59 = .ok (.aload_n 0, 1) := by decide +kernel
theorem dM_total_60 : decode cM_total 60 = .ok (.getfield 77, 3) := by decide +kernel
theorem dM_total_63 : decode cM_total 63 = .ok (.ireturn, 1) := by decide +kernel
theorem dM_total_64 : decode cM_total 64 = .ok (.aload_n 0, 1) := by decide +kernel
theorem dM_total_65 : decode cM_total 65 = .ok (.getfield 80, 3) := by decide +kernel
theorem dM_total_68 : decode cM_total 68 = .ok (.ireturn, 1) := by decide +kernel
theorem dM_total_69 : decode cM_total 69 = .ok (.aload_n 0, 1) := by decide +kernel
theorem dM_total_70 : decode cM_total 70 = .ok (.invokevirtual 180, 3) := by decide +kernel
theorem dM_total_73 : decode cM_total 73 = .ok (.aload_n 0, 1) := by decide +kernel
theorem dM_total_74 : decode cM_total 74 = .ok (.getfield 173, 3) := by decide +kernel
theorem dM_total_77 : decode cM_total 77 = .ok (.ireturn, 1) := by decide +kernel
theorem dM_total_78 : decode cM_total 78 = .ok (.iconst (-1), 1) := by decide +kernel
theorem dM_total_79 : decode cM_total 79 = .ok (.ireturn, 1) := by decide +kernel
