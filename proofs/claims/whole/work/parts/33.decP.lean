theorem dP_init_0 : decode cP_init 0 = .ok (.aload_n 0, 1) := by decide +kernel
theorem dP_init_1 : decode cP_init 1 = .ok (.invokespecial 3, 3) := by decide +kernel
theorem dP_init_4 : decode cP_init 4 = .ok (.return_, 1) := by decide +kernel
theorem dP_become_0 : decode cP_become 0 = .ok (.aload_n 0, 1) := by decide +kernel
theorem dP_become_1 : decode cP_become 1 = .ok (.iload_n 1, 1) := by decide +kernel
theorem dP_become_2 : decode cP_become 2 = .ok (.putfield 9, 3) := by decide +kernel
theorem dP_become_5 : decode cP_become 5 = .ok (.aload_n 0, 1) := by decide +kernel
theorem dP_become_6 : decode cP_become 6 = .ok (.iload_n 2, 1) := by decide +kernel
theorem dP_become_7 : decode cP_become 7 = .ok (.putfield 15, 3) := by decide +kernel
theorem dP_become_10 : decode cP_become 10 = .ok (.aload_n 0, 1) := by decide +kernel
theorem dP_become_11 : decode cP_become 11 = .ok (.iconst 0, 1) := by decide +kernel
theorem dP_become_12 : decode cP_become 12 = .ok (.putfield 18, 3) := by decide +kernel
theorem dP_become_15 : decode cP_become 15 = .ok (.aload_n 0, 1) := by decide +kernel
theorem dP_become_16 : decode cP_become 16 = .ok (.lconst 0, 1) := by decide +kernel
theorem dP_become_17 : decode cP_become 17 = .ok (.putfield 21, 3) := by decide +kernel
theorem dP_become_20 : decode cP_become 20 = .ok (.return_, 1) := by decide +kernel
theorem dP_pass_0 : decode cP_pass 0 = .ok (.iload_n 1, 1) := by decide +kernel
theorem dP_pass_1 : decode cP_pass 1 = .ok (.tableswitch 150 0 6 #[43, 51, 59, 68, 87, 116, 133], 43) := by decide +kernel
theorem dP_pass_44 : decode cP_pass 44 = .ok (.aload_n 0, 1) := by decide +kernel
theorem dP_pass_45 : decode cP_pass 45 = .ok (.iload_n 2, 1) := by decide +kernel
theorem dP_pass_46 : decode cP_pass 46 = .ok (.invokevirtual 25, 3) := by decide +kernel
theorem dP_pass_49 : decode cP_pass 49 = .ok (.goto 102, 3) := by decide +kernel
theorem dP_pass_52 : decode cP_pass 52 = .ok (.aload_n 0, 1) := by decide +kernel
theorem dP_pass_53 : decode cP_pass 53 = .ok (.iload_n 2, 1) := by decide +kernel
theorem dP_pass_54 : decode cP_pass 54 = .ok (.invokevirtual 29, 3) := by decide +kernel
theorem dP_pass_57 : decode cP_pass 57 = .ok (.goto 94, 3) := by decide +kernel
theorem dP_pass_60 : decode cP_pass 60 = .ok (.aload_n 0, 1) := by decide +kernel
theorem dP_pass_61 : decode cP_pass 61 = .ok (.iload_n 2, 1) := by decide +kernel
theorem dP_pass_62 : decode cP_pass 62 = .ok (.iload_n 3, 1) := by decide +kernel
theorem dP_pass_63 : decode cP_pass 63 = .ok (.invokevirtual 32, 3) := by decide +kernel
theorem dP_pass_66 : decode cP_pass 66 = .ok (.goto 85, 3) := by decide +kernel
theorem dP_pass_69 : decode cP_pass 69 = .ok (.aload_n 0, 1) := by decide +kernel
theorem dP_pass_70 : decode cP_pass 70 = .ok (.iload_n 3, 1) := by decide +kernel
theorem dP_pass_71 : decode cP_pass 71 = .ok (.invokevirtual 25, 3) := by decide +kernel
theorem dP_pass_74 : decode cP_pass 74 = .ok (.aload_n 0, 1) := by decide +kernel
theorem dP_pass_75 : decode cP_pass 75 = .ok (.iload_n 2, 1) := by decide +kernel
theorem dP_pass_76 : decode cP_pass 76 = .ok (.iload_n 3, 1) := by decide +kernel
theorem dP_pass_77 : decode cP_pass 77 = .ok (.invokevirtual 32, 3) := by decide +kernel
theorem dP_pass_80 : decode cP_pass 80 = .ok (.aload_n 0, 1) := by decide +kernel
theorem dP_pass_81 : decode cP_pass 81 = .ok (.iload_n 3, 1) := by decide +kernel
theorem dP_pass_82 : decode cP_pass 82 = .ok (.invokevirtual 25, 3) := by decide +kernel
theorem dP_pass_85 : decode cP_pass 85 = .ok (.goto 66, 3) := by decide +kernel
theorem dP_pass_88 : decode cP_pass 88 = .ok (.aload_n 0, 1) := by decide +kernel
theorem dP_pass_89 : decode cP_pass 89 = .ok (.aload_n 0, 1) := by decide +kernel
theorem dP_pass_90 : decode cP_pass 90 = .ok (.getfield 9, 3) := by decide +kernel
theorem dP_pass_93 : decode cP_pass 93 = .ok (.iload_n 2, 1) := by decide +kernel
theorem dP_pass_94 : decode cP_pass 94 = .ok (.iload_n 3, 1) := by decide +kernel
theorem dP_pass_95 : decode cP_pass 95 = .ok (.invokestatic 36, 3) := by decide +kernel
theorem dP_pass_98 : decode cP_pass 98 = .ok (.putfield 9, 3) := by decide +kernel
theorem dP_pass_101 : decode cP_pass 101 = .ok (.aload_n 0, 1) := by decide +kernel
theorem dP_pass_102 : decode cP_pass 102 = .ok (.aload_n 0, 1) := by decide +kernel
theorem dP_pass_103 : decode cP_pass 103 = .ok (.getfield 15, 3) := by decide +kernel
theorem dP_pass_106 : decode cP_pass 106 = .ok (.iload_n 2, 1) := by decide +kernel
theorem dP_pass_107 : decode cP_pass 107 = .ok (.iload_n 3, 1) := by decide +kernel
theorem dP_pass_108 : decode cP_pass 108 = .ok (.invokestatic 36, 3) := by decide +kernel
theorem dP_pass_111 : decode cP_pass 111 = .ok (.putfield 15, 3) := by decide +kernel
theorem dP_pass_114 : decode cP_pass 114 = .ok (.goto 37, 3) := by decide +kernel
theorem dP_pass_117 : decode cP_pass 117 = .ok (.aload_n 0, 1) := by decide +kernel
theorem dP_pass_118 : decode cP_pass 118 = .ok (.dup, 1) := by decide +kernel
theorem dP_pass_119 : decode cP_pass 119 = .ok (.getfield 18, 3) := by decide +kernel
theorem dP_pass_122 : decode cP_pass 122 = .ok (.aload_n 0, 1) := by decide +kernel
theorem dP_pass_123 : decode cP_pass 123 = .ok (.iload_n 2, 1) := by decide +kernel
theorem dP_pass_124 : decode cP_pass 124 = .ok (.invokevirtual 40, 3) := by decide +kernel
theorem dP_pass_127 : decode cP_pass 127 = .ok (.ixor, 1) := by decide +kernel
theorem dP_pass_128 : decode cP_pass 128 = .ok (.putfield 18, 3) := by decide +kernel
theorem dP_pass_131 : decode cP_pass 131 = .ok (.goto 20, 3) := by decide +kernel
theorem dP_pass_134 : decode cP_pass 134 = .ok (.aload_n 0, 1) := by decide +kernel
theorem dP_pass_135 : decode cP_pass 135 = .ok (.dup, 1) := by decide +kernel
theorem dP_pass_136 : decode cP_pass 136 = .ok (.getfield 18, 3) := by decide +kernel
theorem dP_pass_139 : decode cP_pass 139 = .ok (.aload_n 0, 1) := by decide +kernel
theorem dP_pass_140 : decode cP_pass 140 = .ok (.iload_n 2, 1) := by decide +kernel
theorem dP_pass_141 : decode cP_pass 141 = .ok (.invokevirtual 44, 3) := by decide +kernel
theorem dP_pass_144 : decode cP_pass 144 = .ok (.ixor, 1) := by decide +kernel
theorem dP_pass_145 : decode cP_pass 145 = .ok (.putfield 18, 3) := by decide +kernel
theorem dP_pass_148 : decode cP_pass 148 = .ok (.goto 3, 3) := by decide +kernel
theorem dP_pass_151 : decode cP_pass 151 = .ok (.return_, 1) := by decide +kernel
theorem dP_passH_0 : decode cP_passH 0 = .ok (.aload_n 0, 1) := by decide +kernel
theorem dP_passH_1 : decode cP_passH 1 = .ok (.dup, 1) := by decide +kernel
theorem dP_passH_2 : decode cP_passH 2 = .ok (.getfield 18, 3) := by decide +kernel
theorem dP_passH_5 : decode cP_passH 5 = .ok (.aload_n 0, 1) := by decide +kernel
theorem dP_passH_6 : decode cP_passH 6 = .ok (.iload_n 1, 1) := by decide +kernel
theorem dP_passH_7 : decode cP_passH 7 = .ok (.invokevirtual 44, 3) := by decide +kernel
theorem dP_passH_10 : decode cP_passH 10 = .ok (.aload_n 0, 1) := by decide +kernel
theorem dP_passH_11 : decode cP_passH 11 = .ok (.iload_n 1, 1) := by decide +kernel
theorem dP_passH_12 : decode cP_passH 12 = .ok (.invokevirtual 40, 3) := by decide +kernel
theorem dP_passH_15 : decode cP_passH 15 = .ok (.iand, 1) := by decide +kernel
theorem dP_passH_16 : decode cP_passH 16 = .ok (.ixor, 1) := by decide +kernel
theorem dP_passH_17 : decode cP_passH 17 = .ok (.putfield 18, 3) := by decide +kernel
theorem dP_passH_20 : decode cP_passH 20 = .ok (.aload_n 0, 1) := by decide +kernel
theorem dP_passH_21 : decode cP_passH 21 = .ok (.iload_n 1, 1) := by decide +kernel
theorem dP_passH_22 : decode cP_passH 22 = .ok (.invokevirtual 44, 3) := by decide +kernel
theorem dP_passH_25 : decode cP_passH 25 = .ok (.aload_n 0, 1) := by decide +kernel
theorem dP_passH_26 : decode cP_passH 26 = .ok (.iload_n 1, 1) := by decide +kernel
theorem dP_passH_27 : decode cP_passH 27 = .ok (.invokevirtual 40, 3) := by decide +kernel
theorem dP_passH_30 : decode cP_passH 30 = .ok (.ixor, 1) := by decide +kernel
theorem dP_passH_31 : decode cP_passH 31 = .ok (.iload_n 1, 1) := by decide +kernel
theorem dP_passH_32 : decode cP_passH 32 = .ok (.ishl, 1) := by decide +kernel
theorem dP_passH_33 : decode cP_passH 33 = .ok (.istore_n 2, 1) := by decide +kernel
theorem dP_passH_34 : decode cP_passH 34 = .ok (.aload_n 0, 1) := by decide +kernel
theorem dP_passH_35 : decode cP_passH 35 = .ok (.dup, 1) := by decide +kernel
theorem dP_passH_36 : decode cP_passH 36 = .ok (.getfield 9, 3) := by decide +kernel
theorem dP_passH_39 : decode cP_passH 39 = .ok (.iload_n 2, 1) := by decide +kernel
theorem dP_passH_40 : decode cP_passH 40 = .ok (.ixor, 1) := by decide +kernel
theorem dP_passH_41 : decode cP_passH 41 = .ok (.putfield 9, 3) := by decide +kernel
theorem dP_passH_44 : decode cP_passH 44 = .ok (.aload_n 0, 1) := by decide +kernel
theorem dP_passH_45 : decode cP_passH 45 = .ok (.dup, 1) := by decide +kernel
theorem dP_passH_46 : decode cP_passH 46 = .ok (.getfield 15, 3) := by decide +kernel
theorem dP_passH_49 : decode cP_passH 49 = .ok (.iload_n 2, 1) := by decide +kernel
theorem dP_passH_50 : decode cP_passH 50 = .ok (.ixor, 1) := by decide +kernel
theorem dP_passH_51 : decode cP_passH 51 = .ok (.putfield 15, 3) := by decide +kernel
theorem dP_passH_54 : decode cP_passH 54 = .ok (.return_, 1) := by decide +kernel
theorem dP_xOn_0 : decode cP_xOn 0 = .ok (.aload_n 0, 1) := by decide +kernel
theorem dP_xOn_1 : decode cP_xOn 1 = .ok (.getfield 9, 3) := by decide +kernel
theorem dP_xOn_4 : decode cP_xOn 4 = .ok (.iload_n 1, 1) := by decide +kernel
theorem dP_xOn_5 : decode cP_xOn 5 = .ok (.iushr, 1) := by decide +kernel
theorem dP_xOn_6 : decode cP_xOn 6 = .ok (.iconst 1, 1) := by decide +kernel
theorem dP_xOn_7 : decode cP_xOn 7 = .ok (.iand, 1) := by decide +kernel
theorem dP_xOn_8 : decode cP_xOn 8 = .ok (.ireturn, 1) := by decide +kernel
theorem dP_zOn_0 : decode cP_zOn 0 = .ok (.aload_n 0, 1) := by decide +kernel
theorem dP_zOn_1 : decode cP_zOn 1 = .ok (.getfield 15, 3) := by decide +kernel
theorem dP_zOn_4 : decode cP_zOn 4 = .ok (.iload_n 1, 1) := by decide +kernel
theorem dP_zOn_5 : decode cP_zOn 5 = .ok (.iushr, 1) := by decide +kernel
theorem dP_zOn_6 : decode cP_zOn 6 = .ok (.iconst 1, 1) := by decide +kernel
theorem dP_zOn_7 : decode cP_zOn 7 = .ok (.iand, 1) := by decide +kernel
theorem dP_zOn_8 : decode cP_zOn 8 = .ok (.ireturn, 1) := by decide +kernel
theorem dP_passS_0 : decode cP_passS 0 = .ok (.aload_n 0, 1) := by decide +kernel
theorem dP_passS_1 : decode cP_passS 1 = .ok (.dup, 1) := by decide +kernel
theorem dP_passS_2 : decode cP_passS 2 = .ok (.getfield 18, 3) := by decide +kernel
theorem dP_passS_5 : decode cP_passS 5 = .ok (.aload_n 0, 1) := by decide +kernel
theorem dP_passS_6 : decode cP_passS 6 = .ok (.iload_n 1, 1) := by decide +kernel
theorem dP_passS_7 : decode cP_passS 7 = .ok (.invokevirtual 44, 3) := by decide +kernel
theorem dP_passS_10 : decode cP_passS 10 = .ok (.aload_n 0, 1) := by decide +kernel
theorem dP_passS_11 : decode cP_passS 11 = .ok (.iload_n 1, 1) := by decide +kernel
theorem dP_passS_12 : decode cP_passS 12 = .ok (.invokevirtual 40, 3) := by decide +kernel
theorem dP_passS_15 : decode cP_passS 15 = .ok (.iand, 1) := by decide +kernel
theorem dP_passS_16 : decode cP_passS 16 = .ok (.ixor, 1) := by decide +kernel
theorem dP_passS_17 : decode cP_passS 17 = .ok (.putfield 18, 3) := by decide +kernel
theorem dP_passS_20 : decode cP_passS 20 = .ok (.aload_n 0, 1) := by decide +kernel
theorem dP_passS_21 : decode cP_passS 21 = .ok (.dup, 1) := by decide +kernel
theorem dP_passS_22 : decode cP_passS 22 = .ok (.getfield 15, 3) := by decide +kernel
theorem dP_passS_25 : decode cP_passS 25 = .ok (.aload_n 0, 1) := by decide +kernel
theorem dP_passS_26 : decode cP_passS 26 = .ok (.iload_n 1, 1) := by decide +kernel
theorem dP_passS_27 : decode cP_passS 27 = .ok (.invokevirtual 44, 3) := by decide +kernel
theorem dP_passS_30 : decode cP_passS 30 = .ok (.iload_n 1, 1) := by decide +kernel
theorem dP_passS_31 : decode cP_passS 31 = .ok (.ishl, 1) := by decide +kernel
theorem dP_passS_32 : decode cP_passS 32 = .ok (.ixor, 1) := by decide +kernel
theorem dP_passS_33 : decode cP_passS 33 = .ok (.putfield 15, 3) := by decide +kernel
theorem dP_passS_36 : decode cP_passS 36 = .ok (.return_, 1) := by decide +kernel
theorem dP_passControlledX_0 : decode cP_passControlledX 0 = .ok (.aload_n 0, 1) := by decide +kernel
theorem dP_passControlledX_1 : decode cP_passControlledX 1 = .ok (.dup, 1) := by decide +kernel
theorem dP_passControlledX_2 : decode cP_passControlledX 2 = .ok (.getfield 18, 3) := by decide +kernel
theorem dP_passControlledX_5 : decode cP_passControlledX 5 = .ok (.aload_n 0, 1) := by decide +kernel
theorem dP_passControlledX_6 : decode cP_passControlledX 6 = .ok (.iload_n 1, 1) := by decide +kernel
theorem dP_passControlledX_7 : decode cP_passControlledX 7 = .ok (.invokevirtual 44, 3) := by decide +kernel
theorem dP_passControlledX_10 : decode cP_passControlledX 10 = .ok (.aload_n 0, 1) := by decide +kernel
theorem dP_passControlledX_11 : decode cP_passControlledX 11 = .ok (.iload_n 2, 1) := by decide +kernel
theorem dP_passControlledX_12 : decode cP_passControlledX 12 = .ok (.invokevirtual 40, 3) := by decide +kernel
theorem dP_passControlledX_15 : decode cP_passControlledX 15 = .ok (.iand, 1) := by decide +kernel
theorem dP_passControlledX_16 : decode cP_passControlledX 16 = .ok (.aload_n 0, 1) := by decide +kernel
theorem dP_passControlledX_17 : decode cP_passControlledX 17 = .ok (.iload_n 2, 1) := by decide +kernel
theorem dP_passControlledX_18 : decode cP_passControlledX 18 = .ok (.invokevirtual 44, 3) := by decide +kernel
theorem dP_passControlledX_21 : decode cP_passControlledX 21 = .ok (.aload_n 0, 1) := by decide +kernel
theorem dP_passControlledX_22 : decode cP_passControlledX 22 = .ok (.iload_n 1, 1) := by decide +kernel
theorem dP_passControlledX_23 : decode cP_passControlledX 23 = .ok (.invokevirtual 40, 3) := by decide +kernel
theorem dP_passControlledX_26 : decode cP_passControlledX 26 = .ok (.ixor, 1) := by decide +kernel
theorem dP_passControlledX_27 : decode cP_passControlledX 27 = .ok (.iconst 1, 1) := by decide +kernel
theorem dP_passControlledX_28 : decode cP_passControlledX 28 = .ok (.ixor, 1) := by decide +kernel
theorem dP_passControlledX_29 : decode cP_passControlledX 29 = .ok (.iand, 1) := by decide +kernel
theorem dP_passControlledX_30 : decode cP_passControlledX 30 = .ok (.ixor, 1) := by decide +kernel
theorem dP_passControlledX_31 : decode cP_passControlledX 31 = .ok (.putfield 18, 3) := by decide +kernel
theorem dP_passControlledX_34 : decode cP_passControlledX 34 = .ok (.aload_n 0, 1) := by decide +kernel
theorem dP_passControlledX_35 : decode cP_passControlledX 35 = .ok (.dup, 1) := by decide +kernel
theorem dP_passControlledX_36 : decode cP_passControlledX 36 = .ok (.getfield 9, 3) := by decide +kernel
theorem dP_passControlledX_39 : decode cP_passControlledX 39 = .ok (.aload_n 0, 1) := by decide +kernel
theorem dP_passControlledX_40 : decode cP_passControlledX 40 = .ok (.iload_n 1, 1) := by decide +kernel
theorem dP_passControlledX_41 : decode cP_passControlledX 41 = .ok (.invokevirtual 44, 3) := by decide +kernel
theorem dP_passControlledX_44 : decode cP_passControlledX 44 = .ok (.iload_n 2, 1) := by decide +kernel
theorem dP_passControlledX_45 : decode cP_passControlledX 45 = .ok (.ishl, 1) := by decide +kernel
theorem dP_passControlledX_46 : decode cP_passControlledX 46 = .ok (.ixor, 1) := by decide +kernel
theorem dP_passControlledX_47 : decode cP_passControlledX 47 = .ok (.putfield 9, 3) := by decide +kernel
theorem dP_passControlledX_50 : decode cP_passControlledX 50 = .ok (.aload_n 0, 1) := by decide +kernel
theorem dP_passControlledX_51 : decode cP_passControlledX 51 = .ok (.dup, 1) := by decide +kernel
theorem dP_passControlledX_52 : decode cP_passControlledX 52 = .ok (.getfield 15, 3) := by decide +kernel
theorem dP_passControlledX_55 : decode cP_passControlledX 55 = .ok (.aload_n 0, 1) := by decide +kernel
theorem dP_passControlledX_56 : decode cP_passControlledX 56 = .ok (.iload_n 2, 1) := by decide +kernel
theorem dP_passControlledX_57 : decode cP_passControlledX 57 = .ok (.invokevirtual 40, 3) := by decide +kernel
theorem dP_passControlledX_60 : decode cP_passControlledX 60 = .ok (.iload_n 1, 1) := by decide +kernel
theorem dP_passControlledX_61 : decode cP_passControlledX 61 = .ok (.ishl, 1) := by decide +kernel
theorem dP_passControlledX_62 : decode cP_passControlledX 62 = .ok (.ixor, 1) := by decide +kernel
theorem dP_passControlledX_63 : decode cP_passControlledX 63 = .ok (.putfield 15, 3) := by decide +kernel
theorem dP_passControlledX_66 : decode cP_passControlledX 66 = .ok (.return_, 1) := by decide +kernel
theorem dP_swapBits_0 : decode cP_swapBits 0 = .ok (.iload_n 0, 1) := by decide +kernel
theorem dP_swapBits_1 : decode cP_swapBits 1 = .ok (.iload_n 1, 1) := by decide +kernel
theorem dP_swapBits_2 : decode cP_swapBits 2 = .ok (.iushr, 1) := by decide +kernel
theorem dP_swapBits_3 : decode cP_swapBits 3 = .ok (.iload_n 0, 1) := by decide +kernel
theorem dP_swapBits_4 : decode cP_swapBits 4 = .ok (.iload_n 2, 1) := by decide +kernel
theorem dP_swapBits_5 : decode cP_swapBits 5 = .ok (.iushr, 1) := by decide +kernel
theorem dP_swapBits_6 : decode cP_swapBits 6 = .ok (.ixor, 1) := by decide +kernel
theorem dP_swapBits_7 : decode cP_swapBits 7 = .ok (.iconst 1, 1) := by decide +kernel
theorem dP_swapBits_8 : decode cP_swapBits 8 = .ok (.iand, 1) := by decide +kernel
theorem dP_swapBits_9 : decode cP_swapBits 9 = .ok (.istore_n 3, 1) := by decide +kernel
theorem dP_swapBits_10 : decode cP_swapBits 10 = .ok (.iload_n 0, 1) := by decide +kernel
theorem dP_swapBits_11 : decode cP_swapBits 11 = .ok (.iload_n 3, 1) := by decide +kernel
theorem dP_swapBits_12 : decode cP_swapBits 12 = .ok (.iload_n 1, 1) := by decide +kernel
theorem dP_swapBits_13 : decode cP_swapBits 13 = .ok (.ishl, 1) := by decide +kernel
theorem dP_swapBits_14 : decode cP_swapBits 14 = .ok (.iload_n 3, 1) := by decide +kernel
theorem dP_swapBits_15 : decode cP_swapBits 15 = .ok (.iload_n 2, 1) := by decide +kernel
theorem dP_swapBits_16 : decode cP_swapBits 16 = .ok (.ishl, 1) := by decide +kernel
theorem dP_swapBits_17 : decode cP_swapBits 17 = .ok (.ior, 1) := by decide +kernel
theorem dP_swapBits_18 : decode cP_swapBits 18 = .ok (.ixor, 1) := by decide +kernel
theorem dP_swapBits_19 : decode cP_swapBits 19 = .ok (.ireturn, 1) := by decide +kernel
theorem dP_multiplyBy_0 : decode cP_multiplyBy 0 = .ok (.aload_n 1, 1) := by decide +kernel
theorem dP_multiplyBy_1 : decode cP_multiplyBy 1 = .ok (.getfield 9, 3) := by decide +kernel
theorem dP_multiplyBy_4 : decode cP_multiplyBy 4 = .ok (.aload_n 1, 1) := by decide +kernel
theorem dP_multiplyBy_5 : decode cP_multiplyBy 5 = .ok (.getfield 15, 3) := by decide +kernel
theorem dP_multiplyBy_8 : decode cP_multiplyBy 8 = .ok (.iand, 1) := by decide +kernel
theorem dP_multiplyBy_9 : decode cP_multiplyBy 9 = .ok (.istore_n 2, 1) := by decide +kernel
theorem dP_multiplyBy_10 : decode cP_multiplyBy 10 = .ok (.aload_n 1, 1) := by decide +kernel
theorem dP_multiplyBy_11 : decode cP_multiplyBy 11 = .ok (.getfield 9, 3) := by decide +kernel
theorem dP_multiplyBy_14 : decode cP_multiplyBy 14 = .ok (.aload_n 1, 1) := by decide +kernel
theorem dP_multiplyBy_15 : decode cP_multiplyBy 15 = .ok (.getfield 15, 3) := by decide +kernel
theorem dP_multiplyBy_18 : decode cP_multiplyBy 18 = .ok (.iconst (-1), 1) := by decide +kernel
theorem dP_multiplyBy_19 : decode cP_multiplyBy 19 = .ok (.ixor, 1) := by decide +kernel
theorem dP_multiplyBy_20 : decode cP_multiplyBy 20 = .ok (.iand, 1) := by decide +kernel
theorem dP_multiplyBy_21 : decode cP_multiplyBy 21 = .ok (.istore_n 3, 1) := by decide +kernel
theorem dP_multiplyBy_22 : decode cP_multiplyBy 22 = .ok (.aload_n 1, 1) := by decide +kernel
theorem dP_multiplyBy_23 : decode cP_multiplyBy 23 = .ok (.getfield 15, 3) := by decide +kernel
theorem dP_multiplyBy_26 : decode cP_multiplyBy 26 = .ok (.aload_n 1, 1) := by decide +kernel
theorem dP_multiplyBy_27 : decode cP_multiplyBy 27 = .ok (.getfield 9, 3) := by decide +kernel
theorem dP_multiplyBy_30 : decode cP_multiplyBy 30 = .ok (.iconst (-1), 1) := by decide +kernel
theorem dP_multiplyBy_31 : decode cP_multiplyBy 31 = .ok (.ixor, 1) := by decide +kernel
theorem dP_multiplyBy_32 : decode cP_multiplyBy 32 = .ok (.iand, 1) := by decide +kernel
theorem dP_multiplyBy_33 : decode cP_multiplyBy 33 = .ok (.istore 4, 2) := by decide +kernel
theorem dP_multiplyBy_35 : decode cP_multiplyBy 35 = .ok (.iload_n 2, 1) := by decide +kernel
theorem dP_multiplyBy_36 : decode cP_multiplyBy 36 = .ok (.aload_n 0, 1) := by decide +kernel
theorem dP_multiplyBy_37 : decode cP_multiplyBy 37 = .ok (.getfield 15, 3) := by decide +kernel
theorem dP_multiplyBy_40 : decode cP_multiplyBy 40 = .ok (.iand, 1) := by decide +kernel
theorem dP_multiplyBy_41 : decode cP_multiplyBy 41 = .ok (.aload_n 0, 1) := by decide +kernel
theorem dP_multiplyBy_42 : decode cP_multiplyBy 42 = .ok (.getfield 9, 3) := by decide +kernel
theorem dP_multiplyBy_45 : decode cP_multiplyBy 45 = .ok (.iconst (-1), 1) := by decide +kernel
theorem dP_multiplyBy_46 : decode cP_multiplyBy 46 = .ok (.ixor, 1) := by decide +kernel
theorem dP_multiplyBy_47 : decode cP_multiplyBy 47 = .ok (.iand, 1) := by decide +kernel
theorem dP_multiplyBy_48 : decode cP_multiplyBy 48 = .ok (.iload_n 3, 1) := by decide +kernel
theorem dP_multiplyBy_49 : decode cP_multiplyBy 49 = .ok (.aload_n 0, 1) := by decide +kernel
theorem dP_multiplyBy_50 : decode cP_multiplyBy 50 = .ok (.getfield 9, 3) := by decide +kernel
theorem dP_multiplyBy_53 : decode cP_multiplyBy 53 = .ok (.iand, 1) := by decide +kernel
theorem dP_multiplyBy_54 : decode cP_multiplyBy 54 = .ok (.aload_n 0, 1) := by decide +kernel
theorem dP_multiplyBy_55 : decode cP_multiplyBy 55 = .ok (.getfield 15, 3) := by decide +kernel
theorem dP_multiplyBy_58 : decode cP_multiplyBy 58 = .ok (.iand, 1) := by decide +kernel
theorem dP_multiplyBy_59 : decode cP_multiplyBy 59 = .ok (.ior, 1) := by decide +kernel
theorem dP_multiplyBy_60 : decode cP_multiplyBy 60 = .ok (.iload 4, 2) := by decide +kernel
theorem dP_multiplyBy_62 : decode cP_multiplyBy 62 = .ok (.aload_n 0, 1) := by decide +kernel
theorem dP_multiplyBy_63 : decode cP_multiplyBy 63 = .ok (.getfield 9, 3) := by decide +kernel
theorem dP_multiplyBy_66 : decode cP_multiplyBy 66 = .ok (.iand, 1) := by decide +kernel
theorem dP_multiplyBy_67 : decode cP_multiplyBy 67 = .ok (.aload_n 0, 1) := by decide +kernel
theorem dP_multiplyBy_68 : decode cP_multiplyBy 68 = .ok (.getfield 15, 3) := by decide +kernel
theorem dP_multiplyBy_71 : decode cP_multiplyBy 71 = .ok (.iconst (-1), 1) := by decide +kernel
theorem dP_multiplyBy_72 : decode cP_multiplyBy 72 = .ok (.ixor, 1) := by decide +kernel
theorem dP_multiplyBy_73 : decode cP_multiplyBy 73 = .ok (.iand, 1) := by decide +kernel
theorem dP_multiplyBy_74 : decode cP_multiplyBy 74 = .ok (.ior, 1) := by decide +kernel
theorem dP_multiplyBy_75 : decode cP_multiplyBy 75 = .ok (.istore 5, 2) := by decide +kernel
theorem dP_multiplyBy_77 : decode cP_multiplyBy 77 = .ok (.iload_n 2, 1) := by decide +kernel
theorem dP_multiplyBy_78 : decode cP_multiplyBy 78 = .ok (.aload_n 0, 1) := by decide +kernel
theorem dP_multiplyBy_79 : decode cP_multiplyBy 79 = .ok (.getfield 9, 3) := by decide +kernel
theorem dP_multiplyBy_82 : decode cP_multiplyBy 82 = .ok (.iand, 1) := by decide +kernel
theorem dP_multiplyBy_83 : decode cP_multiplyBy 83 = .ok (.aload_n 0, 1) := by decide +kernel
theorem dP_multiplyBy_84 : decode cP_multiplyBy 84 = .ok (.getfield 15, 3) := by decide +kernel
theorem dP_multiplyBy_87 : decode cP_multiplyBy 87 = .ok (.iconst (-1), 1) := by decide +kernel
theorem dP_multiplyBy_88 : decode cP_multiplyBy 88 = .ok (.ixor, 1) := by decide +kernel
theorem dP_multiplyBy_89 : decode cP_multiplyBy 89 = .ok (.iand, 1) := by decide +kernel
theorem dP_multiplyBy_90 : decode cP_multiplyBy 90 = .ok (.iload_n 3, 1) := by decide +kernel
theorem dP_multiplyBy_91 : decode cP_multiplyBy 91 = .ok (.aload_n 0, 1) := by decide +kernel
theorem dP_multiplyBy_92 : decode cP_multiplyBy 92 = .ok (.getfield 15, 3) := by decide +kernel
theorem dP_multiplyBy_95 : decode cP_multiplyBy 95 = .ok (.iand, 1) := by decide +kernel
theorem dP_multiplyBy_96 : decode cP_multiplyBy 96 = .ok (.aload_n 0, 1) := by decide +kernel
theorem dP_multiplyBy_97 : decode cP_multiplyBy 97 = .ok (.getfield 9, 3) := by decide +kernel
theorem dP_multiplyBy_100 : decode cP_multiplyBy 100 = .ok (.iconst (-1), 1) := by decide +kernel
theorem dP_multiplyBy_101 : decode cP_multiplyBy 101 = .ok (.ixor, 1) := by decide +kernel
theorem dP_multiplyBy_102 : decode cP_multiplyBy 102 = .ok (.iand, 1) := by decide +kernel
theorem dP_multiplyBy_103 : decode cP_multiplyBy 103 = .ok (.ior, 1) := by decide +kernel
theorem dP_multiplyBy_104 : decode cP_multiplyBy 104 = .ok (.iload 4, 2) := by decide +kernel
theorem dP_multiplyBy_106 : decode cP_multiplyBy 106 = .ok (.aload_n 0, 1) := by decide +kernel
theorem dP_multiplyBy_107 : decode cP_multiplyBy 107 = .ok (.getfield 9, 3) := by decide +kernel
theorem dP_multiplyBy_110 : decode cP_multiplyBy 110 = .ok (.iand, 1) := by decide +kernel
theorem dP_multiplyBy_111 : decode cP_multiplyBy 111 = .ok (.aload_n 0, 1) := by decide +kernel
theorem dP_multiplyBy_112 : decode cP_multiplyBy 112 = .ok (.getfield 15, 3) := by decide +kernel
theorem dP_multiplyBy_115 : decode cP_multiplyBy 115 = .ok (.iand, 1) := by decide +kernel
theorem dP_multiplyBy_116 : decode cP_multiplyBy 116 = .ok (.ior, 1) := by decide +kernel
theorem dP_multiplyBy_117 : decode cP_multiplyBy 117 = .ok (.istore 6, 2) := by decide +kernel
theorem dP_multiplyBy_119 : decode cP_multiplyBy 119 = .ok (.iload 5, 2) := by decide +kernel
theorem dP_multiplyBy_121 : decode cP_multiplyBy 121 = .ok (.invokestatic 47, 3) := by decide +kernel
theorem dP_multiplyBy_124 : decode cP_multiplyBy 124 = .ok (.iload 6, 2) := by decide +kernel
theorem dP_multiplyBy_126 : decode cP_multiplyBy 126 = .ok (.invokestatic 47, 3) := by decide +kernel
theorem dP_multiplyBy_129 : decode cP_multiplyBy 129 = .ok (.isub, 1) := by decide +kernel
theorem dP_multiplyBy_130 : decode cP_multiplyBy 130 = .ok (.istore 7, 2) := by decide +kernel
theorem dP_multiplyBy_132 : decode cP_multiplyBy 132 = .ok (.aload_n 0, 1) := by decide +kernel
theorem dP_multiplyBy_133 : decode cP_multiplyBy 133 = .ok (.dup, 1) := by decide +kernel
theorem dP_multiplyBy_134 : decode cP_multiplyBy 134 = .ok (.getfield 18, 3) := by decide +kernel
theorem dP_multiplyBy_137 : decode cP_multiplyBy 137 = .ok (.aload_n 1, 1) := by decide +kernel
theorem dP_multiplyBy_138 : decode cP_multiplyBy 138 = .ok (.getfield 18, 3) := by decide +kernel
theorem dP_multiplyBy_141 : decode cP_multiplyBy 141 = .ok (.iload 7, 2) := by decide +kernel
theorem dP_multiplyBy_143 : decode cP_multiplyBy 143 = .ok (.iconst 1, 1) := by decide +kernel
theorem dP_multiplyBy_144 : decode cP_multiplyBy 144 = .ok (.ishr, 1) := by decide +kernel
theorem dP_multiplyBy_145 : decode cP_multiplyBy 145 = .ok (.iconst 1, 1) := by decide +kernel
theorem dP_multiplyBy_146 : decode cP_multiplyBy 146 = .ok (.iand, 1) := by decide +kernel
theorem dP_multiplyBy_147 : decode cP_multiplyBy 147 = .ok (.ixor, 1) := by decide +kernel
theorem dP_multiplyBy_148 : decode cP_multiplyBy 148 = .ok (.ixor, 1) := by decide +kernel
theorem dP_multiplyBy_149 : decode cP_multiplyBy 149 = .ok (.putfield 18, 3) := by decide +kernel
theorem dP_multiplyBy_152 : decode cP_multiplyBy 152 = .ok (.aload_n 0, 1) := by decide +kernel
theorem dP_multiplyBy_153 : decode cP_multiplyBy 153 = .ok (.dup, 1) := by decide +kernel
theorem dP_multiplyBy_154 : decode cP_multiplyBy 154 = .ok (.getfield 21, 3) := by decide +kernel
theorem dP_multiplyBy_157 : decode cP_multiplyBy 157 = .ok (.aload_n 1, 1) := by decide +kernel
theorem dP_multiplyBy_158 : decode cP_multiplyBy 158 = .ok (.getfield 21, 3) := by decide +kernel
theorem dP_multiplyBy_161 : decode cP_multiplyBy 161 = .ok (.lxor, 1) := by decide +kernel
theorem dP_multiplyBy_162 : decode cP_multiplyBy 162 = .ok (.putfield 21, 3) := by decide +kernel
theorem dP_multiplyBy_165 : decode cP_multiplyBy 165 = .ok (.aload_n 0, 1) := by decide +kernel
theorem dP_multiplyBy_166 : decode cP_multiplyBy 166 = .ok (.dup, 1) := by decide +kernel
theorem dP_multiplyBy_167 : decode cP_multiplyBy 167 = .ok (.getfield 9, 3) := by decide +kernel
theorem dP_multiplyBy_170 : decode cP_multiplyBy 170 = .ok (.aload_n 1, 1) := by decide +kernel
theorem dP_multiplyBy_171 : decode cP_multiplyBy 171 = .ok (.getfield 9, 3) := by decide +kernel
theorem dP_multiplyBy_174 : decode cP_multiplyBy 174 = .ok (.ixor, 1) := by decide +kernel
theorem dP_multiplyBy_175 : decode cP_multiplyBy 175 = .ok (.putfield 9, 3) := by decide +kernel
theorem dP_multiplyBy_178 : decode cP_multiplyBy 178 = .ok (.aload_n 0, 1) := by decide +kernel
theorem dP_multiplyBy_179 : decode cP_multiplyBy 179 = .ok (.dup, 1) := by decide +kernel
theorem dP_multiplyBy_180 : decode cP_multiplyBy 180 = .ok (.getfield 15, 3) := by decide +kernel
theorem dP_multiplyBy_183 : decode cP_multiplyBy 183 = .ok (.aload_n 1, 1) := by decide +kernel
theorem dP_multiplyBy_184 : decode cP_multiplyBy 184 = .ok (.getfield 15, 3) := by decide +kernel
theorem dP_multiplyBy_187 : decode cP_multiplyBy 187 = .ok (.ixor, 1) := by decide +kernel
theorem dP_multiplyBy_188 : decode cP_multiplyBy 188 = .ok (.putfield 15, 3) := by decide +kernel
theorem dP_multiplyBy_191 : decode cP_multiplyBy 191 = .ok (.return_, 1) := by decide +kernel
theorem dP_copyFrom_0 : decode cP_copyFrom 0 = .ok (.aload_n 0, 1) := by decide +kernel
theorem dP_copyFrom_1 : decode cP_copyFrom 1 = .ok (.aload_n 1, 1) := by decide +kernel
theorem dP_copyFrom_2 : decode cP_copyFrom 2 = .ok (.getfield 9, 3) := by decide +kernel
theorem dP_copyFrom_5 : decode cP_copyFrom 5 = .ok (.putfield 9, 3) := by decide +kernel
theorem dP_copyFrom_8 : decode cP_copyFrom 8 = .ok (.aload_n 0, 1) := by decide +kernel
theorem dP_copyFrom_9 : decode cP_copyFrom 9 = .ok (.aload_n 1, 1) := by decide +kernel
theorem dP_copyFrom_10 : decode cP_copyFrom 10 = .ok (.getfield 15, 3) := by decide +kernel
theorem dP_copyFrom_13 : decode cP_copyFrom 13 = .ok (.putfield 15, 3) := by decide +kernel
theorem dP_copyFrom_16 : decode cP_copyFrom 16 = .ok (.aload_n 0, 1) := by decide +kernel
theorem dP_copyFrom_17 : decode cP_copyFrom 17 = .ok (.aload_n 1, 1) := by decide +kernel
theorem dP_copyFrom_18 : decode cP_copyFrom 18 = .ok (.getfield 18, 3) := by decide +kernel
theorem dP_copyFrom_21 : decode cP_copyFrom 21 = .ok (.putfield 18, 3) := by decide +kernel
theorem dP_copyFrom_24 : decode cP_copyFrom 24 = .ok (.aload_n 0, 1) := by decide +kernel
theorem dP_copyFrom_25 : decode cP_copyFrom 25 = .ok (.aload_n 1, 1) := by decide +kernel
theorem dP_copyFrom_26 : decode cP_copyFrom 26 = .ok (.getfield 21, 3) := by decide +kernel
theorem dP_copyFrom_29 : decode cP_copyFrom 29 = .ok (.putfield 21, 3) := by decide +kernel
theorem dP_copyFrom_32 : decode cP_copyFrom 32 = .ok (.return_, 1) := by decide +kernel
