theorem dS_init_0 : decode cS_init 0 = .ok (.aload_n 0, 1) := by decide +kernel
theorem dS_init_1 : decode cS_init 1 = .ok (.invokespecial 1, 3) := by decide +kernel
theorem dS_init_4 : decode cS_init 4 = .ok (.aload_n 0, 1) := by decide +kernel
theorem dS_init_5 : decode cS_init 5 = .ok (.new 7, 3) := by decide +kernel
theorem dS_init_8 : decode cS_init 8 = .ok (.dup, 1) := by decide +kernel
theorem dS_init_9 : decode cS_init 9 = .ok (.invokespecial 9, 3) := by decide +kernel
theorem dS_init_12 : decode cS_init 12 = .ok (.putfield 10, 3) := by decide +kernel
theorem dS_init_15 : decode cS_init 15 = .ok (.aload_n 0, 1) := by decide +kernel
theorem dS_init_16 : decode cS_init 16 = .ok (.bipush 60, 2) := by decide +kernel
theorem dS_init_18 : decode cS_init 18 = .ok (.newarray .int, 2) := by decide +kernel
theorem dS_init_20 : decode cS_init 20 = .ok (.putfield 16, 3) := by decide +kernel
theorem dS_init_23 : decode cS_init 23 = .ok (.aload_n 0, 1) := by decide +kernel
theorem dS_init_24 : decode cS_init 24 = .ok (.bipush 60, 2) := by decide +kernel
theorem dS_init_26 : decode cS_init 26 = .ok (.newarray .long, 2) := by decide +kernel
theorem dS_init_28 : decode cS_init 28 = .ok (.putfield 20, 3) := by decide +kernel
theorem dS_init_31 : decode cS_init 31 = .ok (.aload_n 0, 1) := by decide +kernel
theorem dS_init_32 : decode cS_init 32 = .ok (.bipush 40, 2) := by decide +kernel
theorem dS_init_34 : decode cS_init 34 = .ok (.anewarray 24, 3) := by decide +kernel
theorem dS_init_37 : decode cS_init 37 = .ok (.putfield 26, 3) := by decide +kernel
theorem dS_init_40 : decode cS_init 40 = .ok (.iconst 0, 1) := by decide +kernel
theorem dS_init_41 : decode cS_init 41 = .ok (.istore_n 1, 1) := by decide +kernel
theorem dS_init_42 : decode cS_init 42 = .ok (.iload_n 1, 1) := by decide +kernel
theorem dS_init_43 : decode cS_init 43 = .ok (.bipush 40, 2) := by decide +kernel
theorem dS_init_45 : decode cS_init 45 = .ok (.if_icmp .ge 22, 3) := by decide +kernel
theorem dS_init_48 : decode cS_init 48 = .ok (.aload_n 0, 1) := by decide +kernel
theorem dS_init_49 : decode cS_init 49 = .ok (.getfield 26, 3) := by decide +kernel
theorem dS_init_52 : decode cS_init 52 = .ok (.iload_n 1, 1) := by decide +kernel
theorem dS_init_53 : decode cS_init 53 = .ok (.new 24, 3) := by decide +kernel
theorem dS_init_56 : decode cS_init 56 = .ok (.dup, 1) := by decide +kernel
theorem dS_init_57 : decode cS_init 57 = .ok (.invokespecial 30, 3) := by decide +kernel
theorem dS_init_60 : decode cS_init 60 = .ok (.aastore, 1) := by decide +kernel
theorem dS_init_61 : decode cS_init 61 = .ok (.iinc 1 1, 3) := by decide +kernel
theorem dS_init_64 : decode cS_init 64 = .ok (.goto (-22), 3) := by decide +kernel
theorem dS_init_67 : decode cS_init 67 = .ok (.aload_n 0, 1) := by decide +kernel
theorem dS_init_68 : decode cS_init 68 = .ok (.bipush 16, 2) := by decide +kernel
theorem dS_init_70 : decode cS_init 70 = .ok (.newarray .int, 2) := by decide +kernel
theorem dS_init_72 : decode cS_init 72 = .ok (.putfield 31, 3) := by decide +kernel
theorem dS_init_75 : decode cS_init 75 = .ok (.aload_n 0, 1) := by decide +kernel
theorem dS_init_76 : decode cS_init 76 = .ok (.bipush 16, 2) := by decide +kernel
theorem dS_init_78 : decode cS_init 78 = .ok (.newarray .long, 2) := by decide +kernel
theorem dS_init_80 : decode cS_init 80 = .ok (.putfield 34, 3) := by decide +kernel
theorem dS_init_83 : decode cS_init 83 = .ok (.aload_n 0, 1) := by decide +kernel
theorem dS_init_84 : decode cS_init 84 = .ok (.iconst 1, 1) := by decide +kernel
theorem dS_init_85 : decode cS_init 85 = .ok (.invokevirtual 37, 3) := by decide +kernel
theorem dS_init_88 : decode cS_init 88 = .ok (.return_, 1) := by decide +kernel
theorem dS_startOver_0 : decode cS_startOver 0 = .ok (.aload_n 0, 1) := by decide +kernel
theorem dS_startOver_1 : decode cS_startOver 1 = .ok (.getfield 10, 3) := by decide +kernel
theorem dS_startOver_4 : decode cS_startOver 4 = .ok (.iload_n 1, 1) := by decide +kernel
theorem dS_startOver_5 : decode cS_startOver 5 = .ok (.invokevirtual 136, 3) := by decide +kernel
theorem dS_startOver_8 : decode cS_startOver 8 = .ok (.aload_n 0, 1) := by decide +kernel
theorem dS_startOver_9 : decode cS_startOver 9 = .ok (.iload_n 1, 1) := by decide +kernel
theorem dS_startOver_10 : decode cS_startOver 10 = .ok (.putfield 129, 3) := by decide +kernel
theorem dS_startOver_13 : decode cS_startOver 13 = .ok (.aload_n 0, 1) := by decide +kernel
theorem dS_startOver_14 : decode cS_startOver 14 = .ok (.iconst 0, 1) := by decide +kernel
theorem dS_startOver_15 : decode cS_startOver 15 = .ok (.putfield 45, 3) := by decide +kernel
theorem dS_startOver_18 : decode cS_startOver 18 = .ok (.aload_n 0, 1) := by decide +kernel
theorem dS_startOver_19 : decode cS_startOver 19 = .ok (.iconst 0, 1) := by decide +kernel
theorem dS_startOver_20 : decode cS_startOver 20 = .ok (.putfield 66, 3) := by decide +kernel
theorem dS_startOver_23 : decode cS_startOver 23 = .ok (.aload_n 0, 1) := by decide +kernel
theorem dS_startOver_24 : decode cS_startOver 24 = .ok (.iconst 0, 1) := by decide +kernel
theorem dS_startOver_25 : decode cS_startOver 25 = .ok (.putfield 56, 3) := by decide +kernel
theorem dS_startOver_28 : decode cS_startOver 28 = .ok (.aload_n 0, 1) := by decide +kernel
theorem dS_startOver_29 : decode cS_startOver 29 = .ok (.iconst 0, 1) := by decide +kernel
theorem dS_startOver_30 : decode cS_startOver 30 = .ok (.putfield 91, 3) := by decide +kernel
theorem dS_startOver_33 : decode cS_startOver 33 = .ok (.return_, 1) := by decide +kernel
theorem dS_begin_0 : decode cS_begin 0 = .ok (.iload_n 1, 1) := by decide +kernel
theorem dS_begin_1 : decode cS_begin 1 = .ok (.iconst 1, 1) := by decide +kernel
theorem dS_begin_2 : decode cS_begin 2 = .ok (.if_icmp .lt 9, 3) := by decide +kernel
theorem dS_begin_5 : decode cS_begin 5 = .ok (.iload_n 1, 1) := by decide +kernel
theorem dS_begin_6 : decode cS_begin 6 = .ok (.bipush 10, 2) := by decide +kernel
theorem dS_begin_8 : decode cS_begin 8 = .ok (.if_icmp .le 5, 3) := by decide +kernel
theorem dS_begin_11 : decode cS_begin 11 = .ok (.iconst 0, 1) := by decide +kernel
theorem dS_begin_12 : decode cS_begin 12 = .ok (.ireturn, 1) := by decide +kernel
theorem dS_begin_13 : decode cS_begin 13 = .ok (.aload_n 0, 1) := by decide +kernel
theorem dS_begin_14 : decode cS_begin 14 = .ok (.iload_n 1, 1) := by decide +kernel
theorem dS_begin_15 : decode cS_begin 15 = .ok (.invokevirtual 37, 3) := by decide +kernel
theorem dS_begin_18 : decode cS_begin 18 = .ok (.iconst 1, 1) := by decide +kernel
theorem dS_begin_19 : decode cS_begin 19 = .ok (.ireturn, 1) := by decide +kernel
theorem dS_gate_0 : decode cS_gate 0 = .ok (.iload_n 1, 1) := by decide +kernel
theorem dS_gate_1 : decode cS_gate 1 = .ok (.ifCond .lt 27, 3) := by decide +kernel
theorem dS_gate_4 : decode cS_gate 4 = .ok (.iload_n 1, 1) := by decide +kernel
theorem dS_gate_5 : decode cS_gate 5 = .ok (.bipush 6, 2) := by decide +kernel
theorem dS_gate_7 : decode cS_gate 7 = .ok (.if_icmp .gt 21, 3) := by decide +kernel
theorem dS_gate_10 : decode cS_gate 10 = .ok (.aload_n 0, 1) := by decide +kernel
theorem dS_gate_11 : decode cS_gate 11 = .ok (.iload_n 2, 1) := by decide +kernel
theorem dS_gate_12 : decode cS_gate 12 = .ok (.invokevirtual 41, 3) := by decide +kernel
theorem dS_gate_15 : decode cS_gate 15 = .ok (.ifCond .eq 13, 3) := by decide +kernel
theorem dS_gate_18 : decode cS_gate 18 = .ok (.aload_n 0, 1) := by decide +kernel
theorem dS_gate_19 : decode cS_gate 19 = .ok (.getfield 45, 3) := by decide +kernel
theorem dS_gate_22 : decode cS_gate 22 = .ok (.sipush 300, 3) := by decide +kernel
theorem dS_gate_25 : decode cS_gate 25 = .ok (.if_icmp .lt 5, 3) := by decide +kernel
theorem dS_gate_28 : decode cS_gate 28 = .ok (.iconst 0, 1) := by decide +kernel
theorem dS_gate_29 : decode cS_gate 29 = .ok (.ireturn, 1) := by decide +kernel
theorem dS_gate_30 : decode cS_gate 30 = .ok (.iload_n 1, 1) := by decide +kernel
theorem dS_gate_31 : decode cS_gate 31 = .ok (.invokestatic 49, 3) := by decide +kernel
theorem dS_gate_34 : decode cS_gate 34 = .ok (.ifCond .eq 18, 3) := by decide +kernel
theorem dS_gate_37 : decode cS_gate 37 = .ok (.aload_n 0, 1) := by decide +kernel
theorem dS_gate_38 : decode cS_gate 38 = .ok (.iload_n 3, 1) := by decide +kernel
theorem dS_gate_39 : decode cS_gate 39 = .ok (.invokevirtual 41, 3) := by decide +kernel
theorem dS_gate_42 : decode cS_gate 42 = .ok (.ifCond .eq 8, 3) := by decide +kernel
theorem dS_gate_45 : decode cS_gate 45 = .ok (.iload_n 2, 1) := by decide +kernel
theorem dS_gate_46 : decode cS_gate 46 = .ok (.iload_n 3, 1) := by decide +kernel
theorem dS_gate_47 : decode cS_gate 47 = .ok (.if_icmp .ne 5, 3) := by decide +kernel
theorem dS_gate_50 : decode cS_gate 50 = .ok (.iconst 0, 1) := by decide +kernel
theorem dS_gate_51 : decode cS_gate 51 = .ok (.ireturn, 1) := by decide +kernel
theorem dS_gate_52 : decode cS_gate 52 = .ok (.aload_n 0, 1) := by decide +kernel
theorem dS_gate_53 : decode cS_gate 53 = .ok (.getfield 10, 3) := by decide +kernel
theorem dS_gate_56 : decode cS_gate 56 = .ok (.iload_n 1, 1) := by decide +kernel
theorem dS_gate_57 : decode cS_gate 57 = .ok (.iload_n 2, 1) := by decide +kernel
theorem dS_gate_58 : decode cS_gate 58 = .ok (.iload_n 3, 1) := by decide +kernel
theorem dS_gate_59 : decode cS_gate 59 = .ok (.invokevirtual 52, 3) := by decide +kernel
theorem dS_gate_62 : decode cS_gate 62 = .ok (.iconst 0, 1) := by decide +kernel
theorem dS_gate_63 : decode cS_gate 63 = .ok (.istore 4, 2) := by decide +kernel
theorem dS_gate_65 : decode cS_gate 65 = .ok (.iload 4, 2) := by decide +kernel
theorem dS_gate_67 : decode cS_gate 67 = .ok (.aload_n 0, 1) := by decide +kernel
theorem dS_gate_68 : decode cS_gate 68 = .ok (.getfield 56, 3) := by decide +kernel
theorem dS_gate_71 : decode cS_gate 71 = .ok (.if_icmp .ge 25, 3) := by decide +kernel
theorem dS_gate_74 : decode cS_gate 74 = .ok (.aload_n 0, 1) := by decide +kernel
theorem dS_gate_75 : decode cS_gate 75 = .ok (.getfield 26, 3) := by decide +kernel
theorem dS_gate_78 : decode cS_gate 78 = .ok (.iload 4, 2) := by decide +kernel
theorem dS_gate_80 : decode cS_gate 80 = .ok (.aaload, 1) := by decide +kernel
theorem dS_gate_81 : decode cS_gate 81 = .ok (.getfield 59, 3) := by decide +kernel
theorem dS_gate_84 : decode cS_gate 84 = .ok (.iload_n 1, 1) := by decide +kernel
theorem dS_gate_85 : decode cS_gate 85 = .ok (.iload_n 2, 1) := by decide +kernel
theorem dS_gate_86 : decode cS_gate 86 = .ok (.iload_n 3, 1) := by decide +kernel
theorem dS_gate_87 : decode cS_gate 87 = .ok (.invokevirtual 63, 3) := by decide +kernel
theorem dS_gate_90 : decode cS_gate 90 = .ok (.iinc 4 1, 3) := by decide +kernel
theorem dS_gate_93 : decode cS_gate 93 = .ok (.goto (-28), 3) := by decide +kernel
theorem dS_gate_96 : decode cS_gate 96 = .ok (.aload_n 0, 1) := by decide +kernel
theorem dS_gate_97 : decode cS_gate 97 = .ok (.dup, 1) := by decide +kernel
theorem dS_gate_98 : decode cS_gate 98 = .ok (.getfield 45, 3) := by decide +kernel
theorem dS_gate_101 : decode cS_gate 101 = .ok (.iconst 1, 1) := by decide +kernel
theorem dS_gate_102 : decode cS_gate 102 = .ok (.iadd, 1) := by decide +kernel
theorem dS_gate_103 : decode cS_gate 103 = .ok (.putfield 45, 3) := by decide +kernel
theorem dS_gate_106 : decode cS_gate 106 = .ok (.iconst 1, 1) := by decide +kernel
theorem dS_gate_107 : decode cS_gate 107 = .ok (.ireturn, 1) := by decide +kernel
theorem dS_isWire_0 : decode cS_isWire 0 = .ok (.iload_n 1, 1) := by decide +kernel
theorem dS_isWire_1 : decode cS_isWire 1 = .ok (.ifCond .lt 15, 3) := by decide +kernel
theorem dS_isWire_4 : decode cS_isWire 4 = .ok (.iload_n 1, 1) := by decide +kernel
theorem dS_isWire_5 : decode cS_isWire 5 = .ok (.aload_n 0, 1) := by decide +kernel
theorem dS_isWire_6 : decode cS_isWire 6 = .ok (.getfield 129, 3) := by decide +kernel
theorem dS_isWire_9 : decode cS_isWire 9 = .ok (.if_icmp .ge 7, 3) := by decide +kernel
theorem dS_isWire_12 : decode cS_isWire 12 = .ok (.iconst 1, 1) := by decide +kernel
theorem dS_isWire_13 : decode cS_isWire 13 = .ok (.goto 4, 3) := by decide +kernel
theorem dS_isWire_16 : decode cS_isWire 16 = .ok (.iconst 0, 1) := by decide +kernel
theorem dS_isWire_17 : decode cS_isWire 17 = .ok (.ireturn, 1) := by decide +kernel
theorem dS_hasTwoWires_0 : decode cS_hasTwoWires 0 = .ok (.iload_n 0, 1) := by decide +kernel
theorem dS_hasTwoWires_1 : decode cS_hasTwoWires 1 = .ok (.iconst 2, 1) := by decide +kernel
theorem dS_hasTwoWires_2 : decode cS_hasTwoWires 2 = .ok (.if_icmp .eq 13, 3) := by decide +kernel
theorem dS_hasTwoWires_5 : decode cS_hasTwoWires 5 = .ok (.iload_n 0, 1) := by decide +kernel
theorem dS_hasTwoWires_6 : decode cS_hasTwoWires 6 = .ok (.iconst 3, 1) := by decide +kernel
theorem dS_hasTwoWires_7 : decode cS_hasTwoWires 7 = .ok (.if_icmp .eq 8, 3) := by decide +kernel
theorem dS_hasTwoWires_10 : decode cS_hasTwoWires 10 = .ok (.iload_n 0, 1) := by decide +kernel
theorem dS_hasTwoWires_11 : decode cS_hasTwoWires 11 = .ok (.iconst 4, 1) := by decide +kernel
theorem dS_hasTwoWires_12 : decode cS_hasTwoWires 12 = .ok (.if_icmp .ne 7, 3) := by decide +kernel
theorem dS_hasTwoWires_15 : decode cS_hasTwoWires 15 = .ok (.iconst 1, 1) := by decide +kernel
theorem dS_hasTwoWires_16 : decode cS_hasTwoWires 16 = .ok (.goto 4, 3) := by decide +kernel
theorem dS_hasTwoWires_19 : decode cS_hasTwoWires 19 = .ok (.iconst 0, 1) := by decide +kernel
theorem dS_hasTwoWires_20 : decode cS_hasTwoWires 20 = .ok (.ireturn, 1) := by decide +kernel
theorem dS_look_0 : decode cS_look 0 = .ok (.aload_n 0, 1) := by decide +kernel
theorem dS_look_1 : decode cS_look 1 = .ok (.iload_n 1, 1) := by decide +kernel
theorem dS_look_2 : decode cS_look 2 = .ok (.invokevirtual 41, 3) := by decide +kernel
theorem dS_look_5 : decode cS_look 5 = .ok (.ifCond .eq 22, 3) := by decide +kernel
theorem dS_look_8 : decode cS_look 8 = .ok (.aload_n 0, 1) := by decide +kernel
theorem dS_look_9 : decode cS_look 9 = .ok (.getfield 66, 3) := by decide +kernel
theorem dS_look_12 : decode cS_look 12 = .ok (.bipush 60, 2) := by decide +kernel
theorem dS_look_14 : decode cS_look 14 = .ok (.if_icmp .ge 13, 3) := by decide +kernel
theorem dS_look_17 : decode cS_look 17 = .ok (.aload_n 0, 1) := by decide +kernel
theorem dS_look_18 : decode cS_look 18 = .ok (.getfield 45, 3) := by decide +kernel
theorem dS_look_21 : decode cS_look 21 = .ok (.sipush 300, 3) := by decide +kernel
theorem dS_look_24 : decode cS_look 24 = .ok (.if_icmp .lt 5, 3) := by decide +kernel
theorem dS_look_27 : decode cS_look 27 = .ok (.iconst (-1), 1) := by decide +kernel
theorem dS_look_28 : decode cS_look 28 = .ok (.ireturn, 1) := by decide +kernel
theorem dS_look_29 : decode cS_look 29 = .ok (.aload_n 0, 1) := by decide +kernel
theorem dS_look_30 : decode cS_look 30 = .ok (.getfield 66, 3) := by decide +kernel
theorem dS_look_33 : decode cS_look 33 = .ok (.istore_n 3, 1) := by decide +kernel
theorem dS_look_34 : decode cS_look 34 = .ok (.aload_n 0, 1) := by decide +kernel
theorem dS_look_35 : decode cS_look 35 = .ok (.getfield 10, 3) := by decide +kernel
theorem dS_look_38 : decode cS_look 38 = .ok (.iload_n 1, 1) := by decide +kernel
theorem dS_look_39 : decode cS_look 39 = .ok (.iload_n 3, 1) := by decide +kernel
theorem dS_look_40 : decode cS_look 40 = .ok (.invokevirtual 69, 3) := by decide +kernel
theorem dS_look_43 : decode cS_look 43 = .ok (.astore 4, 2) := by decide +kernel
theorem dS_look_45 : decode cS_look 45 = .ok (.aload_n 0, 1) := by decide +kernel
theorem dS_look_46 : decode cS_look 46 = .ok (.getfield 16, 3) := by decide +kernel
theorem dS_look_49 : decode cS_look 49 = .ok (.iload_n 3, 1) := by decide +kernel
theorem dS_look_50 : decode cS_look 50 = .ok (.aload 4, 2) := by decide +kernel
theorem dS_look_52 : decode cS_look 52 = .ok (.getfield 73, 3) := by decide +kernel
theorem dS_look_55 : decode cS_look 55 = .ok (.iastore, 1) := by decide +kernel
theorem dS_look_56 : decode cS_look 56 = .ok (.aload_n 0, 1) := by decide +kernel
theorem dS_look_57 : decode cS_look 57 = .ok (.getfield 20, 3) := by decide +kernel
theorem dS_look_60 : decode cS_look 60 = .ok (.iload_n 3, 1) := by decide +kernel
theorem dS_look_61 : decode cS_look 61 = .ok (.aload 4, 2) := by decide +kernel
theorem dS_look_63 : decode cS_look 63 = .ok (.getfield 76, 3) := by decide +kernel
theorem dS_look_66 : decode cS_look 66 = .ok (.lastore, 1) := by decide +kernel
theorem dS_look_67 : decode cS_look 67 = .ok (.iload_n 2, 1) := by decide +kernel
theorem dS_look_68 : decode cS_look 68 = .ok (.ifCond .eq 23, 3) := by decide +kernel
theorem dS_look_71 : decode cS_look 71 = .ok (.aload_n 0, 1) := by decide +kernel
theorem dS_look_72 : decode cS_look 72 = .ok (.getfield 10, 3) := by decide +kernel
theorem dS_look_75 : decode cS_look 75 = .ok (.iload_n 1, 1) := by decide +kernel
theorem dS_look_76 : decode cS_look 76 = .ok (.aload_n 0, 1) := by decide +kernel
theorem dS_look_77 : decode cS_look 77 = .ok (.getfield 16, 3) := by decide +kernel
theorem dS_look_80 : decode cS_look 80 = .ok (.iload_n 3, 1) := by decide +kernel
theorem dS_look_81 : decode cS_look 81 = .ok (.iaload, 1) := by decide +kernel
theorem dS_look_82 : decode cS_look 82 = .ok (.aload_n 0, 1) := by decide +kernel
theorem dS_look_83 : decode cS_look 83 = .ok (.getfield 20, 3) := by decide +kernel
theorem dS_look_86 : decode cS_look 86 = .ok (.iload_n 3, 1) := by decide +kernel
theorem dS_look_87 : decode cS_look 87 = .ok (.laload, 1) := by decide +kernel
theorem dS_look_88 : decode cS_look 88 = .ok (.invokevirtual 80, 3) := by decide +kernel
theorem dS_look_91 : decode cS_look 91 = .ok (.iconst 0, 1) := by decide +kernel
theorem dS_look_92 : decode cS_look 92 = .ok (.istore 5, 2) := by decide +kernel
theorem dS_look_94 : decode cS_look 94 = .ok (.iload 5, 2) := by decide +kernel
theorem dS_look_96 : decode cS_look 96 = .ok (.aload_n 0, 1) := by decide +kernel
theorem dS_look_97 : decode cS_look 97 = .ok (.getfield 56, 3) := by decide +kernel
theorem dS_look_100 : decode cS_look 100 = .ok (.if_icmp .ge 22, 3) := by decide +kernel
theorem dS_look_103 : decode cS_look 103 = .ok (.aload_n 0, 1) := by decide +kernel
theorem dS_look_104 : decode cS_look 104 = .ok (.getfield 26, 3) := by decide +kernel
theorem dS_look_107 : decode cS_look 107 = .ok (.iload 5, 2) := by decide +kernel
theorem dS_look_109 : decode cS_look 109 = .ok (.aaload, 1) := by decide +kernel
theorem dS_look_110 : decode cS_look 110 = .ok (.iload_n 1, 1) := by decide +kernel
theorem dS_look_111 : decode cS_look 111 = .ok (.iload_n 3, 1) := by decide +kernel
theorem dS_look_112 : decode cS_look 112 = .ok (.iload_n 2, 1) := by decide +kernel
theorem dS_look_113 : decode cS_look 113 = .ok (.invokevirtual 84, 3) := by decide +kernel
theorem dS_look_116 : decode cS_look 116 = .ok (.iinc 5 1, 3) := by decide +kernel
theorem dS_look_119 : decode cS_look 119 = .ok (.goto (-25), 3) := by decide +kernel
theorem dS_look_122 : decode cS_look 122 = .ok (.aload_n 0, 1) := by decide +kernel
theorem dS_look_123 : decode cS_look 123 = .ok (.dup, 1) := by decide +kernel
theorem dS_look_124 : decode cS_look 124 = .ok (.getfield 66, 3) := by decide +kernel
theorem dS_look_127 : decode cS_look 127 = .ok (.iconst 1, 1) := by decide +kernel
theorem dS_look_128 : decode cS_look 128 = .ok (.iadd, 1) := by decide +kernel
theorem dS_look_129 : decode cS_look 129 = .ok (.putfield 66, 3) := by decide +kernel
theorem dS_look_132 : decode cS_look 132 = .ok (.aload_n 0, 1) := by decide +kernel
theorem dS_look_133 : decode cS_look 133 = .ok (.dup, 1) := by decide +kernel
theorem dS_look_134 : decode cS_look 134 = .ok (.getfield 45, 3) := by decide +kernel
theorem dS_look_137 : decode cS_look 137 = .ok (.iconst 1, 1) := by decide +kernel
theorem dS_look_138 : decode cS_look 138 = .ok (.iadd, 1) := by decide +kernel
theorem dS_look_139 : decode cS_look 139 = .ok (.putfield 45, 3) := by decide +kernel
theorem dS_look_142 : decode cS_look 142 = .ok (.iload_n 3, 1) := by decide +kernel
theorem dS_look_143 : decode cS_look 143 = .ok (.ireturn, 1) := by decide +kernel
theorem dS_fault_0 : decode cS_fault 0 = .ok (.iload_n 1, 1) := by decide +kernel
theorem dS_fault_1 : decode cS_fault 1 = .ok (.ifCond .lt 26, 3) := by decide +kernel
theorem dS_fault_4 : decode cS_fault 4 = .ok (.iload_n 1, 1) := by decide +kernel
theorem dS_fault_5 : decode cS_fault 5 = .ok (.iconst 2, 1) := by decide +kernel
theorem dS_fault_6 : decode cS_fault 6 = .ok (.if_icmp .gt 21, 3) := by decide +kernel
theorem dS_fault_9 : decode cS_fault 9 = .ok (.aload_n 0, 1) := by decide +kernel
theorem dS_fault_10 : decode cS_fault 10 = .ok (.iload_n 2, 1) := by decide +kernel
theorem dS_fault_11 : decode cS_fault 11 = .ok (.invokevirtual 41, 3) := by decide +kernel
theorem dS_fault_14 : decode cS_fault 14 = .ok (.ifCond .eq 13, 3) := by decide +kernel
theorem dS_fault_17 : decode cS_fault 17 = .ok (.iload_n 3, 1) := by decide +kernel
theorem dS_fault_18 : decode cS_fault 18 = .ok (.ifCond .lt 9, 3) := by decide +kernel
theorem dS_fault_21 : decode cS_fault 21 = .ok (.iload_n 3, 1) := by decide +kernel
theorem dS_fault_22 : decode cS_fault 22 = .ok (.bipush 16, 2) := by decide +kernel
theorem dS_fault_24 : decode cS_fault 24 = .ok (.if_icmp .le 5, 3) := by decide +kernel
theorem dS_fault_27 : decode cS_fault 27 = .ok (.iconst (-1), 1) := by decide +kernel
theorem dS_fault_28 : decode cS_fault 28 = .ok (.ireturn, 1) := by decide +kernel
theorem dS_fault_29 : decode cS_fault 29 = .ok (.aload_n 0, 1) := by decide +kernel
theorem dS_fault_30 : decode cS_fault 30 = .ok (.getfield 56, 3) := by decide +kernel
theorem dS_fault_33 : decode cS_fault 33 = .ok (.bipush 40, 2) := by decide +kernel
theorem dS_fault_35 : decode cS_fault 35 = .ok (.if_icmp .ge 13, 3) := by decide +kernel
theorem dS_fault_38 : decode cS_fault 38 = .ok (.aload_n 0, 1) := by decide +kernel
theorem dS_fault_39 : decode cS_fault 39 = .ok (.getfield 45, 3) := by decide +kernel
theorem dS_fault_42 : decode cS_fault 42 = .ok (.sipush 300, 3) := by decide +kernel
theorem dS_fault_45 : decode cS_fault 45 = .ok (.if_icmp .lt 5, 3) := by decide +kernel
theorem dS_fault_48 : decode cS_fault 48 = .ok (.iconst (-1), 1) := by decide +kernel
theorem dS_fault_49 : decode cS_fault 49 = .ok (.ireturn, 1) := by decide +kernel
theorem dS_fault_50 : decode cS_fault 50 = .ok (.aload_n 0, 1) := by decide +kernel
theorem dS_fault_51 : decode cS_fault 51 = .ok (.getfield 56, 3) := by decide +kernel
theorem dS_fault_54 : decode cS_fault 54 = .ok (.istore 4, 2) := by decide +kernel
theorem dS_fault_56 : decode cS_fault 56 = .ok (.aload_n 0, 1) := by decide +kernel
theorem dS_fault_57 : decode cS_fault 57 = .ok (.getfield 26, 3) := by decide +kernel
theorem dS_fault_60 : decode cS_fault 60 = .ok (.iload 4, 2) := by decide +kernel
theorem dS_fault_62 : decode cS_fault 62 = .ok (.aaload, 1) := by decide +kernel
theorem dS_fault_63 : decode cS_fault 63 = .ok (.iload_n 1, 1) := by decide +kernel
theorem dS_fault_64 : decode cS_fault 64 = .ok (.iload_n 2, 1) := by decide +kernel
theorem dS_fault_65 : decode cS_fault 65 = .ok (.iload_n 3, 1) := by decide +kernel
theorem dS_fault_66 : decode cS_fault 66 = .ok (.invokevirtual 88, 3) := by decide +kernel
theorem dS_fault_69 : decode cS_fault 69 = .ok (.aload_n 0, 1) := by decide +kernel
theorem dS_fault_70 : decode cS_fault 70 = .ok (.dup, 1) := by decide +kernel
theorem dS_fault_71 : decode cS_fault 71 = .ok (.getfield 56, 3) := by decide +kernel
theorem dS_fault_74 : decode cS_fault 74 = .ok (.iconst 1, 1) := by decide +kernel
theorem dS_fault_75 : decode cS_fault 75 = .ok (.iadd, 1) := by decide +kernel
theorem dS_fault_76 : decode cS_fault 76 = .ok (.putfield 56, 3) := by decide +kernel
theorem dS_fault_79 : decode cS_fault 79 = .ok (.aload_n 0, 1) := by decide +kernel
theorem dS_fault_80 : decode cS_fault 80 = .ok (.dup, 1) := by decide +kernel
theorem dS_fault_81 : decode cS_fault 81 = .ok (.getfield 45, 3) := by decide +kernel
theorem dS_fault_84 : decode cS_fault 84 = .ok (.iconst 1, 1) := by decide +kernel
theorem dS_fault_85 : decode cS_fault 85 = .ok (.iadd, 1) := by decide +kernel
theorem dS_fault_86 : decode cS_fault 86 = .ok (.putfield 45, 3) := by decide +kernel
theorem dS_fault_89 : decode cS_fault 89 = .ok (.iload 4, 2) := by decide +kernel
theorem dS_fault_91 : decode cS_fault 91 = .ok (.ireturn, 1) := by decide +kernel
theorem dS_check_0 : decode cS_check 0 = .ok (.lload_n 1, 1) := by decide +kernel
theorem dS_check_1 : decode cS_check 1 = .ok (.aload_n 0, 1) := by decide +kernel
theorem dS_check_2 : decode cS_check 2 = .ok (.getfield 66, 3) := by decide +kernel
theorem dS_check_5 : decode cS_check 5 = .ok (.lushr, 1) := by decide +kernel
theorem dS_check_6 : decode cS_check 6 = .ok (.lconst 0, 1) := by decide +kernel
theorem dS_check_7 : decode cS_check 7 = .ok (.lcmp, 1) := by decide +kernel
theorem dS_check_8 : decode cS_check 8 = .ok (.ifCond .ne 12, 3) := by decide +kernel
theorem dS_check_11 : decode cS_check 11 = .ok (.aload_n 0, 1) := by decide +kernel
theorem dS_check_12 : decode cS_check 12 = .ok (.getfield 91, 3) := by decide +kernel
theorem dS_check_15 : decode cS_check 15 = .ok (.bipush 16, 2) := by decide +kernel
theorem dS_check_17 : decode cS_check 17 = .ok (.if_icmp .lt 5, 3) := by decide +kernel
theorem dS_check_20 : decode cS_check 20 = .ok (.iconst (-1), 1) := by decide +kernel
theorem dS_check_21 : decode cS_check 21 = .ok (.ireturn, 1) := by decide +kernel
theorem dS_check_22 : decode cS_check 22 = .ok (.aload_n 0, 1) := by decide +kernel
theorem dS_check_23 : decode cS_check 23 = .ok (.getfield 91, 3) := by decide +kernel
theorem dS_check_26 : decode cS_check 26 = .ok (.istore_n 3, 1) := by decide +kernel
theorem dS_check_27 : decode cS_check 27 = .ok (.iconst 0, 1) := by decide +kernel
theorem dS_check_28 : decode cS_check 28 = .ok (.istore 4, 2) := by decide +kernel
theorem dS_check_30 : decode cS_check 30 = .ok (.lconst 0, 1) := by decide +kernel
theorem dS_check_31 : decode cS_check 31 = .ok (.lstore 5, 2) := by decide +kernel
theorem dS_check_33 : decode cS_check 33 = .ok (.iconst 0, 1) := by decide +kernel
theorem dS_check_34 : decode cS_check 34 = .ok (.istore 7, 2) := by decide +kernel
theorem dS_check_36 : decode cS_check 36 = .ok (.iload 7, 2) := by decide +kernel
theorem dS_check_38 : decode cS_check 38 = .ok (.aload_n 0, 1) := by decide +kernel
theorem dS_check_39 : decode cS_check 39 = .ok (.getfield 66, 3) := by decide +kernel
theorem dS_check_42 : decode cS_check 42 = .ok (.if_icmp .ge 42, 3) := by decide +kernel
theorem dS_check_45 : decode cS_check 45 = .ok (.lload_n 1, 1) := by decide +kernel
theorem dS_check_46 : decode cS_check 46 = .ok (.iload 7, 2) := by decide +kernel
theorem dS_check_48 : decode cS_check 48 = .ok (.invokestatic 94, 3) := by decide +kernel
theorem dS_check_51 : decode cS_check 51 = .ok (.ifCond .eq 27, 3) := by decide +kernel
theorem dS_check_54 : decode cS_check 54 = .ok (.iload 4, 2) := by decide +kernel
theorem dS_check_56 : decode cS_check 56 = .ok (.aload_n 0, 1) := by decide +kernel
theorem dS_check_57 : decode cS_check 57 = .ok (.getfield 16, 3) := by decide +kernel
theorem dS_check_60 : decode cS_check 60 = .ok (.iload 7, 2) := by decide +kernel
theorem dS_check_62 : decode cS_check 62 = .ok (.iaload, 1) := by decide +kernel
theorem dS_check_63 : decode cS_check 63 = .ok (.ixor, 1) := by decide +kernel
theorem dS_check_64 : decode cS_check 64 = .ok (.istore 4, 2) := by decide +kernel
theorem dS_check_66 : decode cS_check 66 = .ok (.lload 5, 2) := by decide +kernel
theorem dS_check_68 : decode cS_check 68 = .ok (.aload_n 0, 1) := by decide +kernel
theorem dS_check_69 : decode cS_check 69 = .ok (.getfield 20, 3) := by decide +kernel
theorem dS_check_72 : decode cS_check 72 = .ok (.iload 7, 2) := by decide +kernel
theorem dS_check_74 : decode cS_check 74 = .ok (.laload, 1) := by decide +kernel
theorem dS_check_75 : decode cS_check 75 = .ok (.lxor, 1) := by decide +kernel
theorem dS_check_76 : decode cS_check 76 = .ok (.lstore 5, 2) := by decide +kernel
theorem dS_check_78 : decode cS_check 78 = .ok (.iinc 7 1, 3) := by decide +kernel
theorem dS_check_81 : decode cS_check 81 = .ok (.goto (-45), 3) := by decide +kernel
theorem dS_check_84 : decode cS_check 84 = .ok (.aload_n 0, 1) := by decide +kernel
theorem dS_check_85 : decode cS_check 85 = .ok (.getfield 31, 3) := by decide +kernel
theorem dS_check_88 : decode cS_check 88 = .ok (.iload_n 3, 1) := by decide +kernel
theorem dS_check_89 : decode cS_check 89 = .ok (.iload 4, 2) := by decide +kernel
theorem dS_check_91 : decode cS_check 91 = .ok (.iastore, 1) := by decide +kernel
theorem dS_check_92 : decode cS_check 92 = .ok (.aload_n 0, 1) := by decide +kernel
theorem dS_check_93 : decode cS_check 93 = .ok (.getfield 34, 3) := by decide +kernel
theorem dS_check_96 : decode cS_check 96 = .ok (.iload_n 3, 1) := by decide +kernel
theorem dS_check_97 : decode cS_check 97 = .ok (.lload 5, 2) := by decide +kernel
theorem dS_check_99 : decode cS_check 99 = .ok (.lastore, 1) := by decide +kernel
theorem dS_check_100 : decode cS_check 100 = .ok (.iconst 0, 1) := by decide +kernel
theorem dS_check_101 : decode cS_check 101 = .ok (.istore 7, 2) := by decide +kernel
theorem dS_check_103 : decode cS_check 103 = .ok (.iload 7, 2) := by decide +kernel
theorem dS_check_105 : decode cS_check 105 = .ok (.aload_n 0, 1) := by decide +kernel
theorem dS_check_106 : decode cS_check 106 = .ok (.getfield 56, 3) := by decide +kernel
theorem dS_check_109 : decode cS_check 109 = .ok (.if_icmp .ge 21, 3) := by decide +kernel
theorem dS_check_112 : decode cS_check 112 = .ok (.aload_n 0, 1) := by decide +kernel
theorem dS_check_113 : decode cS_check 113 = .ok (.getfield 26, 3) := by decide +kernel
theorem dS_check_116 : decode cS_check 116 = .ok (.iload 7, 2) := by decide +kernel
theorem dS_check_118 : decode cS_check 118 = .ok (.aaload, 1) := by decide +kernel
theorem dS_check_119 : decode cS_check 119 = .ok (.iload_n 3, 1) := by decide +kernel
theorem dS_check_120 : decode cS_check 120 = .ok (.lload_n 1, 1) := by decide +kernel
theorem dS_check_121 : decode cS_check 121 = .ok (.invokevirtual 98, 3) := by decide +kernel
theorem dS_check_124 : decode cS_check 124 = .ok (.iinc 7 1, 3) := by decide +kernel
theorem dS_check_127 : decode cS_check 127 = .ok (.goto (-24), 3) := by decide +kernel
theorem dS_check_130 : decode cS_check 130 = .ok (.aload_n 0, 1) := by decide +kernel
theorem dS_check_131 : decode cS_check 131 = .ok (.dup, 1) := by decide +kernel
theorem dS_check_132 : decode cS_check 132 = .ok (.getfield 91, 3) := by decide +kernel
theorem dS_check_135 : decode cS_check 135 = .ok (.iconst 1, 1) := by decide +kernel
theorem dS_check_136 : decode cS_check 136 = .ok (.iadd, 1) := by decide +kernel
theorem dS_check_137 : decode cS_check 137 = .ok (.putfield 91, 3) := by decide +kernel
theorem dS_check_140 : decode cS_check 140 = .ok (.iload_n 3, 1) := by decide +kernel
theorem dS_check_141 : decode cS_check 141 = .ok (.ireturn, 1) := by decide +kernel
theorem dS_has_0 : decode cS_has 0 = .ok (.lload_n 0, 1) := by decide +kernel
theorem dS_has_1 : decode cS_has 1 = .ok (.iload_n 2, 1) := by decide +kernel
theorem dS_has_2 : decode cS_has 2 = .ok (.lushr, 1) := by decide +kernel
theorem dS_has_3 : decode cS_has 3 = .ok (.lconst 1, 1) := by decide +kernel
theorem dS_has_4 : decode cS_has 4 = .ok (.land, 1) := by decide +kernel
theorem dS_has_5 : decode cS_has 5 = .ok (.lconst 0, 1) := by decide +kernel
theorem dS_has_6 : decode cS_has 6 = .ok (.lcmp, 1) := by decide +kernel
theorem dS_has_7 : decode cS_has 7 = .ok (.ifCond .eq 7, 3) := by decide +kernel
theorem dS_has_10 : decode cS_has 10 = .ok (.iconst 1, 1) := by decide +kernel
theorem dS_has_11 : decode cS_has 11 = .ok (.goto 4, 3) := by decide +kernel
theorem dS_has_14 : decode cS_has 14 = .ok (.iconst 0, 1) := by decide +kernel
theorem dS_has_15 : decode cS_has 15 = .ok (.ireturn, 1) := by decide +kernel
theorem dS_parity_0 : decode cS_parity 0 = .ok (.lload_n 0, 1) := by decide +kernel
theorem dS_parity_1 : decode cS_parity 1 = .ok (.invokestatic 138, 3) := by decide +kernel
theorem dS_parity_4 : decode cS_parity 4 = .ok (.iconst 1, 1) := by decide +kernel
theorem dS_parity_5 : decode cS_parity 5 = .ok (.iand, 1) := by decide +kernel
theorem dS_parity_6 : decode cS_parity 6 = .ok (.ireturn, 1) := by decide +kernel
theorem dS_outcome_0 : decode cS_outcome 0 = .ok (.iload_n 1, 1) := by decide +kernel
theorem dS_outcome_1 : decode cS_outcome 1 = .ok (.ifCond .lt 11, 3) := by decide +kernel
theorem dS_outcome_4 : decode cS_outcome 4 = .ok (.iload_n 1, 1) := by decide +kernel
theorem dS_outcome_5 : decode cS_outcome 5 = .ok (.aload_n 0, 1) := by decide +kernel
theorem dS_outcome_6 : decode cS_outcome 6 = .ok (.getfield 66, 3) := by decide +kernel
theorem dS_outcome_9 : decode cS_outcome 9 = .ok (.if_icmp .lt 7, 3) := by decide +kernel
theorem dS_outcome_12 : decode cS_outcome 12 = .ok (.ldc2_w 102, 3) := by decide +kernel
theorem dS_outcome_15 : decode cS_outcome 15 = .ok (.lreturn, 1) := by decide +kernel
theorem dS_outcome_16 : decode cS_outcome 16 = .ok (.iload_n 2, 1) := by decide +kernel
theorem dS_outcome_17 : decode cS_outcome 17 = .ok (.lookupswitch 42 #[(0, 27), (1, 35)], 27) := by decide +kernel
theorem dS_outcome_44 : decode cS_outcome 44 = .ok (.aload_n 0, 1) := by decide +kernel
theorem dS_outcome_45 : decode cS_outcome 45 = .ok (.getfield 16, 3) := by decide +kernel
theorem dS_outcome_48 : decode cS_outcome 48 = .ok (.iload_n 1, 1) := by decide +kernel
theorem dS_outcome_49 : decode cS_outcome 49 = .ok (.iaload, 1) := by decide +kernel
theorem dS_outcome_50 : decode cS_outcome 50 = .ok (.i2l, 1) := by decide +kernel
theorem dS_outcome_51 : decode cS_outcome 51 = .ok (.lreturn, 1) := by decide +kernel
theorem dS_outcome_52 : decode cS_outcome 52 = .ok (.aload_n 0, 1) := by decide +kernel
theorem dS_outcome_53 : decode cS_outcome 53 = .ok (.getfield 20, 3) := by decide +kernel
theorem dS_outcome_56 : decode cS_outcome 56 = .ok (.iload_n 1, 1) := by decide +kernel
theorem dS_outcome_57 : decode cS_outcome 57 = .ok (.laload, 1) := by decide +kernel
theorem dS_outcome_58 : decode cS_outcome 58 = .ok (.lreturn, 1) := by decide +kernel
theorem dS_outcome_59 : decode cS_outcome 59 = .ok (.ldc2_w 102, 3) := by decide +kernel
theorem dS_outcome_62 : decode cS_outcome 62 = .ok (.lreturn, 1) := by decide +kernel
theorem dS_told_0 : decode cS_told 0 = .ok (.iload_n 1, 1) := by decide +kernel
theorem dS_told_1 : decode cS_told 1 = .ok (.ifCond .lt 11, 3) := by decide +kernel
theorem dS_told_4 : decode cS_told 4 = .ok (.iload_n 1, 1) := by decide +kernel
theorem dS_told_5 : decode cS_told 5 = .ok (.aload_n 0, 1) := by decide +kernel
theorem dS_told_6 : decode cS_told 6 = .ok (.getfield 91, 3) := by decide +kernel
theorem dS_told_9 : decode cS_told 9 = .ok (.if_icmp .lt 7, 3) := by decide +kernel
theorem dS_told_12 : decode cS_told 12 = .ok (.ldc2_w 102, 3) := by decide +kernel
theorem dS_told_15 : decode cS_told 15 = .ok (.lreturn, 1) := by decide +kernel
theorem dS_told_16 : decode cS_told 16 = .ok (.iload_n 2, 1) := by decide +kernel
theorem dS_told_17 : decode cS_told 17 = .ok (.tableswitch 59 0 2 #[27, 44, 52], 27) := by decide +kernel
theorem dS_told_44 : decode cS_told 44 = .ok (.aload_n 0, 1) := by decide +kernel
theorem dS_told_45 : decode cS_told 45 = .ok (.getfield 34, 3) := by decide +kernel
theorem dS_told_48 : decode cS_told 48 = .ok (.iload_n 1, 1) := by decide +kernel
theorem dS_told_49 : decode cS_told 49 = .ok (.laload, 1) := by decide +kernel
theorem dS_told_50 : decode cS_told 50 = .ok (.lconst 0, 1) := by decide +kernel
theorem dS_told_51 : decode cS_told 51 = .ok (.lcmp, 1) := by decide +kernel
theorem dS_told_52 : decode cS_told 52 = .ok (.ifCond .ne 7, 3) := by decide +kernel
theorem dS_told_55 : decode cS_told 55 = .ok (.lconst 1, 1) := by decide +kernel
theorem dS_told_56 : decode cS_told 56 = .ok (.goto 4, 3) := by decide +kernel
theorem dS_told_59 : decode cS_told 59 = .ok (.lconst 0, 1) := by decide +kernel
theorem dS_told_60 : decode cS_told 60 = .ok (.lreturn, 1) := by decide +kernel
theorem dS_told_61 : decode cS_told 61 = .ok (.aload_n 0, 1) := by decide +kernel
theorem dS_told_62 : decode cS_told 62 = .ok (.getfield 31, 3) := by decide +kernel
theorem dS_told_65 : decode cS_told 65 = .ok (.iload_n 1, 1) := by decide +kernel
theorem dS_told_66 : decode cS_told 66 = .ok (.iaload, 1) := by decide +kernel
theorem dS_told_67 : decode cS_told 67 = .ok (.i2l, 1) := by decide +kernel
theorem dS_told_68 : decode cS_told 68 = .ok (.lreturn, 1) := by decide +kernel
theorem dS_told_69 : decode cS_told 69 = .ok (.aload_n 0, 1) := by decide +kernel
theorem dS_told_70 : decode cS_told 70 = .ok (.getfield 34, 3) := by decide +kernel
theorem dS_told_73 : decode cS_told 73 = .ok (.iload_n 1, 1) := by decide +kernel
theorem dS_told_74 : decode cS_told 74 = .ok (.laload, 1) := by decide +kernel
theorem dS_told_75 : decode cS_told 75 = .ok (.lreturn, 1) := by decide +kernel
theorem dS_told_76 : decode cS_told 76 = .ok (.ldc2_w 102, 3) := by decide +kernel
theorem dS_told_79 : decode cS_told 79 = .ok (.lreturn, 1) := by decide +kernel
theorem dS_changes_0 : decode cS_changes 0 = .ok (.iload_n 1, 1) := by decide +kernel
theorem dS_changes_1 : decode cS_changes 1 = .ok (.ifCond .lt 11, 3) := by decide +kernel
theorem dS_changes_4 : decode cS_changes 4 = .ok (.iload_n 1, 1) := by decide +kernel
theorem dS_changes_5 : decode cS_changes 5 = .ok (.aload_n 0, 1) := by decide +kernel
theorem dS_changes_6 : decode cS_changes 6 = .ok (.getfield 56, 3) := by decide +kernel
theorem dS_changes_9 : decode cS_changes 9 = .ok (.if_icmp .lt 7, 3) := by decide +kernel
theorem dS_changes_12 : decode cS_changes 12 = .ok (.ldc2_w 102, 3) := by decide +kernel
theorem dS_changes_15 : decode cS_changes 15 = .ok (.lreturn, 1) := by decide +kernel
theorem dS_changes_16 : decode cS_changes 16 = .ok (.iload_n 2, 1) := by decide +kernel
theorem dS_changes_17 : decode cS_changes 17 = .ok (.lookupswitch 48 #[(0, 27), (1, 37)], 27) := by decide +kernel
theorem dS_changes_44 : decode cS_changes 44 = .ok (.aload_n 0, 1) := by decide +kernel
theorem dS_changes_45 : decode cS_changes 45 = .ok (.getfield 26, 3) := by decide +kernel
theorem dS_changes_48 : decode cS_changes 48 = .ok (.iload_n 1, 1) := by decide +kernel
theorem dS_changes_49 : decode cS_changes 49 = .ok (.aaload, 1) := by decide +kernel
theorem dS_changes_50 : decode cS_changes 50 = .ok (.getfield 104, 3) := by decide +kernel
theorem dS_changes_53 : decode cS_changes 53 = .ok (.lreturn, 1) := by decide +kernel
theorem dS_changes_54 : decode cS_changes 54 = .ok (.aload_n 0, 1) := by decide +kernel
theorem dS_changes_55 : decode cS_changes 55 = .ok (.getfield 26, 3) := by decide +kernel
theorem dS_changes_58 : decode cS_changes 58 = .ok (.iload_n 1, 1) := by decide +kernel
theorem dS_changes_59 : decode cS_changes 59 = .ok (.aaload, 1) := by decide +kernel
theorem dS_changes_60 : decode cS_changes 60 = .ok (.getfield 107, 3) := by decide +kernel
theorem dS_changes_63 : decode cS_changes 63 = .ok (.i2l, 1) := by decide +kernel
theorem dS_changes_64 : decode cS_changes 64 = .ok (.lreturn, 1) := by decide +kernel
theorem dS_changes_65 : decode cS_changes 65 = .ok (.ldc2_w 102, 3) := by decide +kernel
theorem dS_changes_68 : decode cS_changes 68 = .ok (.lreturn, 1) := by decide +kernel
theorem dS_run_0 : decode cS_run 0 = .ok (.lload_n 1, 1) := by decide +kernel
theorem dS_run_1 : decode cS_run 1 = .ok (.aload_n 0, 1) := by decide +kernel
theorem dS_run_2 : decode cS_run 2 = .ok (.getfield 56, 3) := by decide +kernel
theorem dS_run_5 : decode cS_run 5 = .ok (.lushr, 1) := by decide +kernel
theorem dS_run_6 : decode cS_run 6 = .ok (.lconst 0, 1) := by decide +kernel
theorem dS_run_7 : decode cS_run 7 = .ok (.lcmp, 1) := by decide +kernel
theorem dS_run_8 : decode cS_run 8 = .ok (.ifCond .eq 7, 3) := by decide +kernel
theorem dS_run_11 : decode cS_run 11 = .ok (.ldc2_w 102, 3) := by decide +kernel
theorem dS_run_14 : decode cS_run 14 = .ok (.lreturn, 1) := by decide +kernel
theorem dS_run_15 : decode cS_run 15 = .ok (.lconst 0, 1) := by decide +kernel
theorem dS_run_16 : decode cS_run 16 = .ok (.lstore 5, 2) := by decide +kernel
theorem dS_run_18 : decode cS_run 18 = .ok (.iconst 0, 1) := by decide +kernel
theorem dS_run_19 : decode cS_run 19 = .ok (.istore 7, 2) := by decide +kernel
theorem dS_run_21 : decode cS_run 21 = .ok (.iload 7, 2) := by decide +kernel
theorem dS_run_23 : decode cS_run 23 = .ok (.aload_n 0, 1) := by decide +kernel
theorem dS_run_24 : decode cS_run 24 = .ok (.getfield 66, 3) := by decide +kernel
theorem dS_run_27 : decode cS_run 27 = .ok (.if_icmp .ge 42, 3) := by decide +kernel
theorem dS_run_30 : decode cS_run 30 = .ok (.aload_n 0, 1) := by decide +kernel
theorem dS_run_31 : decode cS_run 31 = .ok (.getfield 16, 3) := by decide +kernel
theorem dS_run_34 : decode cS_run 34 = .ok (.iload 7, 2) := by decide +kernel
theorem dS_run_36 : decode cS_run 36 = .ok (.iaload, 1) := by decide +kernel
theorem dS_run_37 : decode cS_run 37 = .ok (.aload_n 0, 1) := by decide +kernel
theorem dS_run_38 : decode cS_run 38 = .ok (.getfield 20, 3) := by decide +kernel
theorem dS_run_41 : decode cS_run 41 = .ok (.iload 7, 2) := by decide +kernel
theorem dS_run_43 : decode cS_run 43 = .ok (.laload, 1) := by decide +kernel
theorem dS_run_44 : decode cS_run 44 = .ok (.lload_n 3, 1) := by decide +kernel
theorem dS_run_45 : decode cS_run 45 = .ok (.land, 1) := by decide +kernel
theorem dS_run_46 : decode cS_run 46 = .ok (.invokestatic 125, 3) := by decide +kernel
theorem dS_run_49 : decode cS_run 49 = .ok (.ixor, 1) := by decide +kernel
theorem dS_run_50 : decode cS_run 50 = .ok (.i2l, 1) := by decide +kernel
theorem dS_run_51 : decode cS_run 51 = .ok (.lstore 8, 2) := by decide +kernel
theorem dS_run_53 : decode cS_run 53 = .ok (.lload 5, 2) := by decide +kernel
theorem dS_run_55 : decode cS_run 55 = .ok (.lload 8, 2) := by decide +kernel
theorem dS_run_57 : decode cS_run 57 = .ok (.iload 7, 2) := by decide +kernel
theorem dS_run_59 : decode cS_run 59 = .ok (.lshl, 1) := by decide +kernel
theorem dS_run_60 : decode cS_run 60 = .ok (.lor, 1) := by decide +kernel
theorem dS_run_61 : decode cS_run 61 = .ok (.lstore 5, 2) := by decide +kernel
theorem dS_run_63 : decode cS_run 63 = .ok (.iinc 7 1, 3) := by decide +kernel
theorem dS_run_66 : decode cS_run 66 = .ok (.goto (-45), 3) := by decide +kernel
theorem dS_run_69 : decode cS_run 69 = .ok (.iconst 0, 1) := by decide +kernel
theorem dS_run_70 : decode cS_run 70 = .ok (.istore 7, 2) := by decide +kernel
theorem dS_run_72 : decode cS_run 72 = .ok (.iload 7, 2) := by decide +kernel
theorem dS_run_74 : decode cS_run 74 = .ok (.aload_n 0, 1) := by decide +kernel
theorem dS_run_75 : decode cS_run 75 = .ok (.getfield 56, 3) := by decide +kernel
theorem dS_run_78 : decode cS_run 78 = .ok (.if_icmp .ge 33, 3) := by decide +kernel
theorem dS_run_81 : decode cS_run 81 = .ok (.lload_n 1, 1) := by decide +kernel
theorem dS_run_82 : decode cS_run 82 = .ok (.iload 7, 2) := by decide +kernel
theorem dS_run_84 : decode cS_run 84 = .ok (.invokestatic 94, 3) := by decide +kernel
theorem dS_run_87 : decode cS_run 87 = .ok (.ifCond .eq 18, 3) := by decide +kernel
theorem dS_run_90 : decode cS_run 90 = .ok (.lload 5, 2) := by decide +kernel
theorem dS_run_92 : decode cS_run 92 = .ok (.aload_n 0, 1) := by decide +kernel
theorem dS_run_93 : decode cS_run 93 = .ok (.getfield 26, 3) := by decide +kernel
theorem dS_run_96 : decode cS_run 96 = .ok (.iload 7, 2) := by decide +kernel
theorem dS_run_98 : decode cS_run 98 = .ok (.aaload, 1) := by decide +kernel
theorem dS_run_99 : decode cS_run 99 = .ok (.getfield 104, 3) := by decide +kernel
theorem dS_run_102 : decode cS_run 102 = .ok (.lxor, 1) := by decide +kernel
theorem dS_run_103 : decode cS_run 103 = .ok (.lstore 5, 2) := by decide +kernel
theorem dS_run_105 : decode cS_run 105 = .ok (.iinc 7 1, 3) := by decide +kernel
theorem dS_run_108 : decode cS_run 108 = .ok (.goto (-36), 3) := by decide +kernel
theorem dS_run_111 : decode cS_run 111 = .ok (.lload 5, 2) := by decide +kernel
theorem dS_run_113 : decode cS_run 113 = .ok (.lreturn, 1) := by decide +kernel
theorem dS_total_0 : decode cS_total 0 = .ok (.iload_n 1, 1) := by decide +kernel
theorem dS_total_1 : decode cS_total 1 = .ok (.tableswitch 69 0 5 #[39, 44, 49, 54, 59, 64], 39) := by decide +kernel
theorem dS_total_40 : decode cS_total 40 = .ok (.aload_n 0, 1) := by decide +kernel
theorem dS_total_41 : decode cS_total 41 = .ok (.getfield 129, 3) := by decide +kernel
theorem dS_total_44 : decode cS_total 44 = .ok (.ireturn, 1) := by decide +kernel
theorem dS_total_45 : decode cS_total 45 = .ok (.aload_n 0, 1) := by decide +kernel
theorem dS_total_46 : decode cS_total 46 = .ok (.getfield 45, 3) := by decide +kernel
theorem dS_total_49 : decode cS_total 49 = .ok (.ireturn, 1) := by decide +kernel
theorem dS_total_50 : decode cS_total 50 = .ok (.aload_n 0, 1) := by decide +kernel
theorem dS_total_51 : decode cS_total 51 = .ok (.getfield 66, 3) := by decide +kernel
theorem dS_total_54 : decode cS_total 54 = .ok (.ireturn, 1) := by decide +kernel
theorem dS_total_55 : decode cS_total 55 = .ok (.aload_n 0, 1) := by decide +kernel
theorem dS_total_56 : decode cS_total 56 = .ok (.getfield 56, 3) := by decide +kernel
theorem dS_total_59 : decode cS_total 59 = .ok (.ireturn, 1) := by decide +kernel
theorem dS_total_60 : decode cS_total 60 = .ok (.aload_n 0, 1) := by decide +kernel
theorem dS_total_61 : decode cS_total 61 = .ok (.getfield 91, 3) := by decide +kernel
theorem dS_total_64 : decode cS_total 64 = .ok (.ireturn, 1) := by decide +kernel
theorem dS_total_65 : decode cS_total 65 = .ok (.aload_n 0, 1) := by decide +kernel
theorem dS_total_66 : decode cS_total 66 = .ok (.invokevirtual 132, 3) := by decide +kernel
theorem dS_total_69 : decode cS_total 69 = .ok (.ireturn, 1) := by decide +kernel
theorem dS_total_70 : decode cS_total 70 = .ok (.iconst (-1), 1) := by decide +kernel
theorem dS_total_71 : decode cS_total 71 = .ok (.ireturn, 1) := by decide +kernel
theorem dS_countEdges_0 : decode cS_countEdges 0 = .ok (.iconst 0, 1) := by decide +kernel
theorem dS_countEdges_1 : decode cS_countEdges 1 = .ok (.istore_n 1, 1) := by decide +kernel
theorem dS_countEdges_2 : decode cS_countEdges 2 = .ok (.iconst 0, 1) := by decide +kernel
theorem dS_countEdges_3 : decode cS_countEdges 3 = .ok (.istore_n 2, 1) := by decide +kernel
theorem dS_countEdges_4 : decode cS_countEdges 4 = .ok (.iload_n 2, 1) := by decide +kernel
theorem dS_countEdges_5 : decode cS_countEdges 5 = .ok (.aload_n 0, 1) := by decide +kernel
theorem dS_countEdges_6 : decode cS_countEdges 6 = .ok (.getfield 56, 3) := by decide +kernel
theorem dS_countEdges_9 : decode cS_countEdges 9 = .ok (.if_icmp .ge 20, 3) := by decide +kernel
theorem dS_countEdges_12 : decode cS_countEdges 12 = .ok (.aload_n 0, 1) := by decide +kernel
theorem dS_countEdges_13 : decode cS_countEdges 13 = .ok (.iload_n 2, 1) := by decide +kernel
theorem dS_countEdges_14 : decode cS_countEdges 14 = .ok (.invokevirtual 143, 3) := by decide +kernel
theorem dS_countEdges_17 : decode cS_countEdges 17 = .ok (.ifCond .eq 6, 3) := by decide +kernel
theorem dS_countEdges_20 : decode cS_countEdges 20 = .ok (.iinc 1 1, 3) := by decide +kernel
theorem dS_countEdges_23 : decode cS_countEdges 23 = .ok (.iinc 2 1, 3) := by decide +kernel
theorem dS_countEdges_26 : decode cS_countEdges 26 = .ok (.goto (-22), 3) := by decide +kernel
theorem dS_countEdges_29 : decode cS_countEdges 29 = .ok (.iload_n 1, 1) := by decide +kernel
theorem dS_countEdges_30 : decode cS_countEdges 30 = .ok (.ireturn, 1) := by decide +kernel
theorem dS_isFirstOfEdge_0 : decode cS_isFirstOfEdge 0 = .ok (.aload_n 0, 1) := by decide +kernel
theorem dS_isFirstOfEdge_1 : decode cS_isFirstOfEdge 1 = .ok (.getfield 26, 3) := by decide +kernel
theorem dS_isFirstOfEdge_4 : decode cS_isFirstOfEdge 4 = .ok (.iload_n 1, 1) := by decide +kernel
theorem dS_isFirstOfEdge_5 : decode cS_isFirstOfEdge 5 = .ok (.aaload, 1) := by decide +kernel
theorem dS_isFirstOfEdge_6 : decode cS_isFirstOfEdge 6 = .ok (.getfield 107, 3) := by decide +kernel
theorem dS_isFirstOfEdge_9 : decode cS_isFirstOfEdge 9 = .ok (.istore_n 2, 1) := by decide +kernel
theorem dS_isFirstOfEdge_10 : decode cS_isFirstOfEdge 10 = .ok (.iload_n 2, 1) := by decide +kernel
theorem dS_isFirstOfEdge_11 : decode cS_isFirstOfEdge 11 = .ok (.ifCond .ne 5, 3) := by decide +kernel
theorem dS_isFirstOfEdge_14 : decode cS_isFirstOfEdge 14 = .ok (.iconst 0, 1) := by decide +kernel
theorem dS_isFirstOfEdge_15 : decode cS_isFirstOfEdge 15 = .ok (.ireturn, 1) := by decide +kernel
theorem dS_isFirstOfEdge_16 : decode cS_isFirstOfEdge 16 = .ok (.iconst 0, 1) := by decide +kernel
theorem dS_isFirstOfEdge_17 : decode cS_isFirstOfEdge 17 = .ok (.istore_n 3, 1) := by decide +kernel
theorem dS_isFirstOfEdge_18 : decode cS_isFirstOfEdge 18 = .ok (.iload_n 3, 1) := by decide +kernel
theorem dS_isFirstOfEdge_19 : decode cS_isFirstOfEdge 19 = .ok (.iload_n 1, 1) := by decide +kernel
theorem dS_isFirstOfEdge_20 : decode cS_isFirstOfEdge 20 = .ok (.if_icmp .ge 24, 3) := by decide +kernel
theorem dS_isFirstOfEdge_23 : decode cS_isFirstOfEdge 23 = .ok (.aload_n 0, 1) := by decide +kernel
theorem dS_isFirstOfEdge_24 : decode cS_isFirstOfEdge 24 = .ok (.getfield 26, 3) := by decide +kernel
theorem dS_isFirstOfEdge_27 : decode cS_isFirstOfEdge 27 = .ok (.iload_n 3, 1) := by decide +kernel
theorem dS_isFirstOfEdge_28 : decode cS_isFirstOfEdge 28 = .ok (.aaload, 1) := by decide +kernel
theorem dS_isFirstOfEdge_29 : decode cS_isFirstOfEdge 29 = .ok (.getfield 107, 3) := by decide +kernel
theorem dS_isFirstOfEdge_32 : decode cS_isFirstOfEdge 32 = .ok (.iload_n 2, 1) := by decide +kernel
theorem dS_isFirstOfEdge_33 : decode cS_isFirstOfEdge 33 = .ok (.if_icmp .ne 5, 3) := by decide +kernel
theorem dS_isFirstOfEdge_36 : decode cS_isFirstOfEdge 36 = .ok (.iconst 0, 1) := by decide +kernel
theorem dS_isFirstOfEdge_37 : decode cS_isFirstOfEdge 37 = .ok (.ireturn, 1) := by decide +kernel
theorem dS_isFirstOfEdge_38 : decode cS_isFirstOfEdge 38 = .ok (.iinc 3 1, 3) := by decide +kernel
theorem dS_isFirstOfEdge_41 : decode cS_isFirstOfEdge 41 = .ok (.goto (-23), 3) := by decide +kernel
theorem dS_isFirstOfEdge_44 : decode cS_isFirstOfEdge 44 = .ok (.iconst 1, 1) := by decide +kernel
theorem dS_isFirstOfEdge_45 : decode cS_isFirstOfEdge 45 = .ok (.ireturn, 1) := by decide +kernel
theorem dS_edge_0 : decode cS_edge 0 = .ok (.aload_n 0, 1) := by decide +kernel
theorem dS_edge_1 : decode cS_edge 1 = .ok (.iload_n 1, 1) := by decide +kernel
theorem dS_edge_2 : decode cS_edge 2 = .ok (.invokevirtual 110, 3) := by decide +kernel
theorem dS_edge_5 : decode cS_edge 5 = .ok (.istore_n 3, 1) := by decide +kernel
theorem dS_edge_6 : decode cS_edge 6 = .ok (.iload_n 3, 1) := by decide +kernel
theorem dS_edge_7 : decode cS_edge 7 = .ok (.iconst (-1), 1) := by decide +kernel
theorem dS_edge_8 : decode cS_edge 8 = .ok (.if_icmp .ne 7, 3) := by decide +kernel
theorem dS_edge_11 : decode cS_edge 11 = .ok (.ldc2_w 102, 3) := by decide +kernel
theorem dS_edge_14 : decode cS_edge 14 = .ok (.lreturn, 1) := by decide +kernel
theorem dS_edge_15 : decode cS_edge 15 = .ok (.aload_n 0, 1) := by decide +kernel
theorem dS_edge_16 : decode cS_edge 16 = .ok (.iload_n 3, 1) := by decide +kernel
theorem dS_edge_17 : decode cS_edge 17 = .ok (.invokevirtual 114, 3) := by decide +kernel
theorem dS_edge_20 : decode cS_edge 20 = .ok (.lstore 4, 2) := by decide +kernel
theorem dS_edge_22 : decode cS_edge 22 = .ok (.iload_n 2, 1) := by decide +kernel
theorem dS_edge_23 : decode cS_edge 23 = .ok (.tableswitch 57 0 3 #[29, 40, 43, 50], 29) := by decide +kernel
theorem dS_edge_52 : decode cS_edge 52 = .ok (.aload_n 0, 1) := by decide +kernel
theorem dS_edge_53 : decode cS_edge 53 = .ok (.getfield 26, 3) := by decide +kernel
theorem dS_edge_56 : decode cS_edge 56 = .ok (.iload_n 3, 1) := by decide +kernel
theorem dS_edge_57 : decode cS_edge 57 = .ok (.aaload, 1) := by decide +kernel
theorem dS_edge_58 : decode cS_edge 58 = .ok (.getfield 107, 3) := by decide +kernel
theorem dS_edge_61 : decode cS_edge 61 = .ok (.i2l, 1) := by decide +kernel
theorem dS_edge_62 : decode cS_edge 62 = .ok (.lreturn, 1) := by decide +kernel
theorem dS_edge_63 : decode cS_edge 63 = .ok (.lload 4, 2) := by decide +kernel
theorem dS_edge_65 : decode cS_edge 65 = .ok (.lreturn, 1) := by decide +kernel
theorem dS_edge_66 : decode cS_edge 66 = .ok (.aload_n 0, 1) := by decide +kernel
theorem dS_edge_67 : decode cS_edge 67 = .ok (.lload 4, 2) := by decide +kernel
theorem dS_edge_69 : decode cS_edge 69 = .ok (.invokevirtual 118, 3) := by decide +kernel
theorem dS_edge_72 : decode cS_edge 72 = .ok (.lreturn, 1) := by decide +kernel
theorem dS_edge_73 : decode cS_edge 73 = .ok (.aload_n 0, 1) := by decide +kernel
theorem dS_edge_74 : decode cS_edge 74 = .ok (.lload 4, 2) := by decide +kernel
theorem dS_edge_76 : decode cS_edge 76 = .ok (.invokevirtual 122, 3) := by decide +kernel
theorem dS_edge_79 : decode cS_edge 79 = .ok (.lreturn, 1) := by decide +kernel
theorem dS_edge_80 : decode cS_edge 80 = .ok (.ldc2_w 102, 3) := by decide +kernel
theorem dS_edge_83 : decode cS_edge 83 = .ok (.lreturn, 1) := by decide +kernel
theorem dS_firstFaultOfEdge_0 : decode cS_firstFaultOfEdge 0 = .ok (.iconst 0, 1) := by decide +kernel
theorem dS_firstFaultOfEdge_1 : decode cS_firstFaultOfEdge 1 = .ok (.istore_n 2, 1) := by decide +kernel
theorem dS_firstFaultOfEdge_2 : decode cS_firstFaultOfEdge 2 = .ok (.iconst 0, 1) := by decide +kernel
theorem dS_firstFaultOfEdge_3 : decode cS_firstFaultOfEdge 3 = .ok (.istore_n 3, 1) := by decide +kernel
theorem dS_firstFaultOfEdge_4 : decode cS_firstFaultOfEdge 4 = .ok (.iload_n 3, 1) := by decide +kernel
theorem dS_firstFaultOfEdge_5 : decode cS_firstFaultOfEdge 5 = .ok (.aload_n 0, 1) := by decide +kernel
theorem dS_firstFaultOfEdge_6 : decode cS_firstFaultOfEdge 6 = .ok (.getfield 56, 3) := by decide +kernel
theorem dS_firstFaultOfEdge_9 : decode cS_firstFaultOfEdge 9 = .ok (.if_icmp .ge 27, 3) := by decide +kernel
theorem dS_firstFaultOfEdge_12 : decode cS_firstFaultOfEdge 12 = .ok (.aload_n 0, 1) := by decide +kernel
theorem dS_firstFaultOfEdge_13 : decode cS_firstFaultOfEdge 13 = .ok (.iload_n 3, 1) := by decide +kernel
theorem dS_firstFaultOfEdge_14 : decode cS_firstFaultOfEdge 14 = .ok (.invokevirtual 143, 3) := by decide +kernel
theorem dS_firstFaultOfEdge_17 : decode cS_firstFaultOfEdge 17 = .ok (.ifCond .eq 13, 3) := by decide +kernel
theorem dS_firstFaultOfEdge_20 : decode cS_firstFaultOfEdge 20 = .ok (.iload_n 2, 1) := by decide +kernel
theorem dS_firstFaultOfEdge_21 : decode cS_firstFaultOfEdge 21 = .ok (.iload_n 1, 1) := by decide +kernel
theorem dS_firstFaultOfEdge_22 : decode cS_firstFaultOfEdge 22 = .ok (.if_icmp .ne 5, 3) := by decide +kernel
theorem dS_firstFaultOfEdge_25 : decode cS_firstFaultOfEdge 25 = .ok (.iload_n 3, 1) := by decide +kernel
theorem dS_firstFaultOfEdge_26 : decode cS_firstFaultOfEdge 26 = .ok (.ireturn, 1) := by decide +kernel
theorem dS_firstFaultOfEdge_27 : decode cS_firstFaultOfEdge 27 = .ok (.iinc 2 1, 3) := by decide +kernel
theorem dS_firstFaultOfEdge_30 : decode cS_firstFaultOfEdge 30 = .ok (.iinc 3 1, 3) := by decide +kernel
theorem dS_firstFaultOfEdge_33 : decode cS_firstFaultOfEdge 33 = .ok (.goto (-29), 3) := by decide +kernel
theorem dS_firstFaultOfEdge_36 : decode cS_firstFaultOfEdge 36 = .ok (.iconst (-1), 1) := by decide +kernel
theorem dS_firstFaultOfEdge_37 : decode cS_firstFaultOfEdge 37 = .ok (.ireturn, 1) := by decide +kernel
theorem dS_faultsLike_0 : decode cS_faultsLike 0 = .ok (.lconst 0, 1) := by decide +kernel
theorem dS_faultsLike_1 : decode cS_faultsLike 1 = .ok (.lstore_n 2, 1) := by decide +kernel
theorem dS_faultsLike_2 : decode cS_faultsLike 2 = .ok (.iconst 0, 1) := by decide +kernel
theorem dS_faultsLike_3 : decode cS_faultsLike 3 = .ok (.istore 4, 2) := by decide +kernel
theorem dS_faultsLike_5 : decode cS_faultsLike 5 = .ok (.iload 4, 2) := by decide +kernel
theorem dS_faultsLike_7 : decode cS_faultsLike 7 = .ok (.aload_n 0, 1) := by decide +kernel
theorem dS_faultsLike_8 : decode cS_faultsLike 8 = .ok (.getfield 56, 3) := by decide +kernel
theorem dS_faultsLike_11 : decode cS_faultsLike 11 = .ok (.if_icmp .ge 38, 3) := by decide +kernel
theorem dS_faultsLike_14 : decode cS_faultsLike 14 = .ok (.aload_n 0, 1) := by decide +kernel
theorem dS_faultsLike_15 : decode cS_faultsLike 15 = .ok (.getfield 26, 3) := by decide +kernel
theorem dS_faultsLike_18 : decode cS_faultsLike 18 = .ok (.iload 4, 2) := by decide +kernel
theorem dS_faultsLike_20 : decode cS_faultsLike 20 = .ok (.aaload, 1) := by decide +kernel
theorem dS_faultsLike_21 : decode cS_faultsLike 21 = .ok (.getfield 107, 3) := by decide +kernel
theorem dS_faultsLike_24 : decode cS_faultsLike 24 = .ok (.aload_n 0, 1) := by decide +kernel
theorem dS_faultsLike_25 : decode cS_faultsLike 25 = .ok (.getfield 26, 3) := by decide +kernel
theorem dS_faultsLike_28 : decode cS_faultsLike 28 = .ok (.iload_n 1, 1) := by decide +kernel
theorem dS_faultsLike_29 : decode cS_faultsLike 29 = .ok (.aaload, 1) := by decide +kernel
theorem dS_faultsLike_30 : decode cS_faultsLike 30 = .ok (.getfield 107, 3) := by decide +kernel
theorem dS_faultsLike_33 : decode cS_faultsLike 33 = .ok (.if_icmp .ne 10, 3) := by decide +kernel
theorem dS_faultsLike_36 : decode cS_faultsLike 36 = .ok (.lload_n 2, 1) := by decide +kernel
theorem dS_faultsLike_37 : decode cS_faultsLike 37 = .ok (.lconst 1, 1) := by decide +kernel
theorem dS_faultsLike_38 : decode cS_faultsLike 38 = .ok (.iload 4, 2) := by decide +kernel
theorem dS_faultsLike_40 : decode cS_faultsLike 40 = .ok (.lshl, 1) := by decide +kernel
theorem dS_faultsLike_41 : decode cS_faultsLike 41 = .ok (.lor, 1) := by decide +kernel
theorem dS_faultsLike_42 : decode cS_faultsLike 42 = .ok (.lstore_n 2, 1) := by decide +kernel
theorem dS_faultsLike_43 : decode cS_faultsLike 43 = .ok (.iinc 4 1, 3) := by decide +kernel
theorem dS_faultsLike_46 : decode cS_faultsLike 46 = .ok (.goto (-41), 3) := by decide +kernel
theorem dS_faultsLike_49 : decode cS_faultsLike 49 = .ok (.lload_n 2, 1) := by decide +kernel
theorem dS_faultsLike_50 : decode cS_faultsLike 50 = .ok (.lreturn, 1) := by decide +kernel
theorem dS_oddsNumerator_0 : decode cS_oddsNumerator 0 = .ok (.aload_n 0, 1) := by decide +kernel
theorem dS_oddsNumerator_1 : decode cS_oddsNumerator 1 = .ok (.lload_n 1, 1) := by decide +kernel
theorem dS_oddsNumerator_2 : decode cS_oddsNumerator 2 = .ok (.invokevirtual 158, 3) := by decide +kernel
theorem dS_oddsNumerator_5 : decode cS_oddsNumerator 5 = .ok (.lstore_n 3, 1) := by decide +kernel
theorem dS_oddsNumerator_6 : decode cS_oddsNumerator 6 = .ok (.lload_n 3, 1) := by decide +kernel
theorem dS_oddsNumerator_7 : decode cS_oddsNumerator 7 = .ok (.lload_n 3, 1) := by decide +kernel
theorem dS_oddsNumerator_8 : decode cS_oddsNumerator 8 = .ok (.lload_n 1, 1) := by decide +kernel
theorem dS_oddsNumerator_9 : decode cS_oddsNumerator 9 = .ok (.invokestatic 161, 3) := by decide +kernel
theorem dS_oddsNumerator_12 : decode cS_oddsNumerator 12 = .ok (.lushr, 1) := by decide +kernel
theorem dS_oddsNumerator_13 : decode cS_oddsNumerator 13 = .ok (.lreturn, 1) := by decide +kernel
theorem dS_oddCases_0 : decode cS_oddCases 0 = .ok (.lload_n 1, 1) := by decide +kernel
theorem dS_oddCases_1 : decode cS_oddCases 1 = .ok (.invokestatic 138, 3) := by decide +kernel
theorem dS_oddCases_4 : decode cS_oddCases 4 = .ok (.bipush 15, 2) := by decide +kernel
theorem dS_oddCases_6 : decode cS_oddCases 6 = .ok (.if_icmp .le 13, 3) := by decide +kernel
theorem dS_oddCases_9 : decode cS_oddCases 9 = .ok (.new 146, 3) := by decide +kernel
theorem dS_oddCases_12 : decode cS_oddCases 12 = .ok (.dup, 1) := by decide +kernel
theorem dS_oddCases_13 : decode cS_oddCases 13 = .ok (.ldc 148, 2) := by decide +kernel
theorem dS_oddCases_15 : decode cS_oddCases 15 = .ok (.invokespecial 150, 3) := by decide +kernel
theorem dS_oddCases_18 : decode cS_oddCases 18 = .ok (.athrow, 1) := by decide +kernel
theorem dS_oddCases_19 : decode cS_oddCases 19 = .ok (.lconst 0, 1) := by decide +kernel
theorem dS_oddCases_20 : decode cS_oddCases 20 = .ok (.lstore_n 3, 1) := by decide +kernel
theorem dS_oddCases_21 : decode cS_oddCases 21 = .ok (.lconst 1, 1) := by decide +kernel
theorem dS_oddCases_22 : decode cS_oddCases 22 = .ok (.lstore 5, 2) := by decide +kernel
theorem dS_oddCases_24 : decode cS_oddCases 24 = .ok (.iconst 0, 1) := by decide +kernel
theorem dS_oddCases_25 : decode cS_oddCases 25 = .ok (.istore 7, 2) := by decide +kernel
theorem dS_oddCases_27 : decode cS_oddCases 27 = .ok (.iload 7, 2) := by decide +kernel
theorem dS_oddCases_29 : decode cS_oddCases 29 = .ok (.aload_n 0, 1) := by decide +kernel
theorem dS_oddCases_30 : decode cS_oddCases 30 = .ok (.getfield 56, 3) := by decide +kernel
theorem dS_oddCases_33 : decode cS_oddCases 33 = .ok (.if_icmp .ge 66, 3) := by decide +kernel
theorem dS_oddCases_36 : decode cS_oddCases 36 = .ok (.lload_n 1, 1) := by decide +kernel
theorem dS_oddCases_37 : decode cS_oddCases 37 = .ok (.iload 7, 2) := by decide +kernel
theorem dS_oddCases_39 : decode cS_oddCases 39 = .ok (.invokestatic 94, 3) := by decide +kernel
theorem dS_oddCases_42 : decode cS_oddCases 42 = .ok (.ifCond .eq 51, 3) := by decide +kernel
theorem dS_oddCases_45 : decode cS_oddCases 45 = .ok (.aload_n 0, 1) := by decide +kernel
theorem dS_oddCases_46 : decode cS_oddCases 46 = .ok (.getfield 26, 3) := by decide +kernel
theorem dS_oddCases_49 : decode cS_oddCases 49 = .ok (.iload 7, 2) := by decide +kernel
theorem dS_oddCases_51 : decode cS_oddCases 51 = .ok (.aaload, 1) := by decide +kernel
theorem dS_oddCases_52 : decode cS_oddCases 52 = .ok (.getfield 153, 3) := by decide +kernel
theorem dS_oddCases_55 : decode cS_oddCases 55 = .ok (.i2l, 1) := by decide +kernel
theorem dS_oddCases_56 : decode cS_oddCases 56 = .ok (.lstore 8, 2) := by decide +kernel
theorem dS_oddCases_58 : decode cS_oddCases 58 = .ok (.lload_n 3, 1) := by decide +kernel
theorem dS_oddCases_59 : decode cS_oddCases 59 = .ok (.ldc2_w 156, 3) := by decide +kernel
theorem dS_oddCases_62 : decode cS_oddCases 62 = .ok (.lload 8, 2) := by decide +kernel
theorem dS_oddCases_64 : decode cS_oddCases 64 = .ok (.lsub, 1) := by decide +kernel
theorem dS_oddCases_65 : decode cS_oddCases 65 = .ok (.lmul, 1) := by decide +kernel
theorem dS_oddCases_66 : decode cS_oddCases 66 = .ok (.lload 5, 2) := by decide +kernel
theorem dS_oddCases_68 : decode cS_oddCases 68 = .ok (.lload 8, 2) := by decide +kernel
theorem dS_oddCases_70 : decode cS_oddCases 70 = .ok (.lmul, 1) := by decide +kernel
theorem dS_oddCases_71 : decode cS_oddCases 71 = .ok (.ladd, 1) := by decide +kernel
theorem dS_oddCases_72 : decode cS_oddCases 72 = .ok (.lstore 10, 2) := by decide +kernel
theorem dS_oddCases_74 : decode cS_oddCases 74 = .ok (.lload 5, 2) := by decide +kernel
theorem dS_oddCases_76 : decode cS_oddCases 76 = .ok (.ldc2_w 156, 3) := by decide +kernel
theorem dS_oddCases_79 : decode cS_oddCases 79 = .ok (.lload 8, 2) := by decide +kernel
theorem dS_oddCases_81 : decode cS_oddCases 81 = .ok (.lsub, 1) := by decide +kernel
theorem dS_oddCases_82 : decode cS_oddCases 82 = .ok (.lmul, 1) := by decide +kernel
theorem dS_oddCases_83 : decode cS_oddCases 83 = .ok (.lload_n 3, 1) := by decide +kernel
theorem dS_oddCases_84 : decode cS_oddCases 84 = .ok (.lload 8, 2) := by decide +kernel
theorem dS_oddCases_86 : decode cS_oddCases 86 = .ok (.lmul, 1) := by decide +kernel
theorem dS_oddCases_87 : decode cS_oddCases 87 = .ok (.ladd, 1) := by decide +kernel
theorem dS_oddCases_88 : decode cS_oddCases 88 = .ok (.lstore 5, 2) := by decide +kernel
theorem dS_oddCases_90 : decode cS_oddCases 90 = .ok (.lload 10, 2) := by decide +kernel
theorem dS_oddCases_92 : decode cS_oddCases 92 = .ok (.lstore_n 3, 1) := by decide +kernel
theorem dS_oddCases_93 : decode cS_oddCases 93 = .ok (.iinc 7 1, 3) := by decide +kernel
theorem dS_oddCases_96 : decode cS_oddCases 96 = .ok (.goto (-69), 3) := by decide +kernel
theorem dS_oddCases_99 : decode cS_oddCases 99 = .ok (.lload_n 3, 1) := by decide +kernel
theorem dS_oddCases_100 : decode cS_oddCases 100 = .ok (.lreturn, 1) := by decide +kernel
theorem dS_sharedTwos_0 : decode cS_sharedTwos 0 = .ok (.lload_n 0, 1) := by decide +kernel
theorem dS_sharedTwos_1 : decode cS_sharedTwos 1 = .ok (.invokestatic 165, 3) := by decide +kernel
theorem dS_sharedTwos_4 : decode cS_sharedTwos 4 = .ok (.iconst 4, 1) := by decide +kernel
theorem dS_sharedTwos_5 : decode cS_sharedTwos 5 = .ok (.lload_n 2, 1) := by decide +kernel
theorem dS_sharedTwos_6 : decode cS_sharedTwos 6 = .ok (.invokestatic 138, 3) := by decide +kernel
theorem dS_sharedTwos_9 : decode cS_sharedTwos 9 = .ok (.imul, 1) := by decide +kernel
theorem dS_sharedTwos_10 : decode cS_sharedTwos 10 = .ok (.invokestatic 168, 3) := by decide +kernel
theorem dS_sharedTwos_13 : decode cS_sharedTwos 13 = .ok (.ireturn, 1) := by decide +kernel
theorem dS_oddsExponent_0 : decode cS_oddsExponent 0 = .ok (.aload_n 0, 1) := by decide +kernel
theorem dS_oddsExponent_1 : decode cS_oddsExponent 1 = .ok (.lload_n 1, 1) := by decide +kernel
theorem dS_oddsExponent_2 : decode cS_oddsExponent 2 = .ok (.invokevirtual 158, 3) := by decide +kernel
theorem dS_oddsExponent_5 : decode cS_oddsExponent 5 = .ok (.lstore_n 3, 1) := by decide +kernel
theorem dS_oddsExponent_6 : decode cS_oddsExponent 6 = .ok (.iconst 4, 1) := by decide +kernel
theorem dS_oddsExponent_7 : decode cS_oddsExponent 7 = .ok (.lload_n 1, 1) := by decide +kernel
theorem dS_oddsExponent_8 : decode cS_oddsExponent 8 = .ok (.invokestatic 138, 3) := by decide +kernel
theorem dS_oddsExponent_11 : decode cS_oddsExponent 11 = .ok (.imul, 1) := by decide +kernel
theorem dS_oddsExponent_12 : decode cS_oddsExponent 12 = .ok (.lload_n 3, 1) := by decide +kernel
theorem dS_oddsExponent_13 : decode cS_oddsExponent 13 = .ok (.lload_n 1, 1) := by decide +kernel
theorem dS_oddsExponent_14 : decode cS_oddsExponent 14 = .ok (.invokestatic 161, 3) := by decide +kernel
theorem dS_oddsExponent_17 : decode cS_oddsExponent 17 = .ok (.isub, 1) := by decide +kernel
theorem dS_oddsExponent_18 : decode cS_oddsExponent 18 = .ok (.i2l, 1) := by decide +kernel
theorem dS_oddsExponent_19 : decode cS_oddsExponent 19 = .ok (.lreturn, 1) := by decide +kernel
