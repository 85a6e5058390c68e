theorem dX6_layHeld_80 : decode cX6_layHeld 80 = .ok (.getfield 162, 3) := by decide +kernel
theorem dX6_layHeld_83 : decode cX6_layHeld 83 = .ok (.iload_n 3, 1) := by decide +kernel
theorem dX6_layHeld_84 : decode cX6_layHeld 84 = .ok (.iastore, 1) := by decide +kernel
theorem dX6_layHeld_85 : decode cX6_layHeld 85 = .ok (.aload_n 0, 1) := by decide +kernel
theorem dX6_layHeld_86 : decode cX6_layHeld 86 = .ok (.getfield 22, 3) := by decide +kernel
theorem dX6_layHeld_89 : decode cX6_layHeld 89 = .ok (.aload_n 0, 1) := by decide +kernel
theorem dX6_layHeld_90 : decode cX6_layHeld 90 = .ok (.getfield 162, 3) := by decide +kernel
theorem dX6_layHeld_93 : decode cX6_layHeld 93 = .ok (.aload_n 0, 1) := by decide +kernel
theorem dX6_layHeld_94 : decode cX6_layHeld 94 = .ok (.iload_n 1, 1) := by decide +kernel
theorem dX6_layHeld_95 : decode cX6_layHeld 95 = .ok (.iload_n 2, 1) := by decide +kernel
theorem dX6_layHeld_96 : decode cX6_layHeld 96 = .ok (.invokevirtual 80, 3) := by decide +kernel
theorem dX6_layHeld_99 : decode cX6_layHeld 99 = .ok (.iastore, 1) := by decide +kernel
theorem dX6_layHeld_100 : decode cX6_layHeld 100 = .ok (.aload_n 0, 1) := by decide +kernel
theorem dX6_layHeld_101 : decode cX6_layHeld 101 = .ok (.dup, 1) := by decide +kernel
theorem dX6_layHeld_102 : decode cX6_layHeld 102 = .ok (.getfield 162, 3) := by decide +kernel
theorem dX6_layHeld_105 : decode cX6_layHeld 105 = .ok (.iconst 1, 1) := by decide +kernel
theorem dX6_layHeld_106 : decode cX6_layHeld 106 = .ok (.iadd, 1) := by decide +kernel
theorem dX6_layHeld_107 : decode cX6_layHeld 107 = .ok (.putfield 162, 3) := by decide +kernel
theorem dX6_layHeld_110 : decode cX6_layHeld 110 = .ok (.iinc 2 1, 3) := by decide +kernel
theorem dX6_layHeld_113 : decode cX6_layHeld 113 = .ok (.goto (-98), 3) := by decide +kernel
theorem dX6_layHeld_116 : decode cX6_layHeld 116 = .ok (.iinc 1 1, 3) := by decide +kernel
theorem dX6_layHeld_119 : decode cX6_layHeld 119 = .ok (.goto (-112), 3) := by decide +kernel
theorem dX6_layHeld_122 : decode cX6_layHeld 122 = .ok (.return_, 1) := by decide +kernel
theorem dX6_freed_0 : decode cX6_freed 0 = .ok (.iconst 0, 1) := by decide +kernel
theorem dX6_freed_1 : decode cX6_freed 1 = .ok (.istore_n 2, 1) := by decide +kernel
theorem dX6_freed_2 : decode cX6_freed 2 = .ok (.iconst 0, 1) := by decide +kernel
theorem dX6_freed_3 : decode cX6_freed 3 = .ok (.istore_n 3, 1) := by decide +kernel
theorem dX6_freed_4 : decode cX6_freed 4 = .ok (.iload_n 3, 1) := by decide +kernel
theorem dX6_freed_5 : decode cX6_freed 5 = .ok (.aload_n 0, 1) := by decide +kernel
theorem dX6_freed_6 : decode cX6_freed 6 = .ok (.getfield 162, 3) := by decide +kernel
theorem dX6_freed_9 : decode cX6_freed 9 = .ok (.if_icmp .ge 35, 3) := by decide +kernel
theorem dX6_freed_12 : decode cX6_freed 12 = .ok (.iload_n 2, 1) := by decide +kernel
theorem dX6_freed_13 : decode cX6_freed 13 = .ok (.aload_n 0, 1) := by decide +kernel
theorem dX6_freed_14 : decode cX6_freed 14 = .ok (.getfield 19, 3) := by decide +kernel
theorem dX6_freed_17 : decode cX6_freed 17 = .ok (.iload_n 3, 1) := by decide +kernel
theorem dX6_freed_18 : decode cX6_freed 18 = .ok (.iaload, 1) := by decide +kernel
theorem dX6_freed_19 : decode cX6_freed 19 = .ok (.iload_n 1, 1) := by decide +kernel
theorem dX6_freed_20 : decode cX6_freed 20 = .ok (.iconst (-1), 1) := by decide +kernel
theorem dX6_freed_21 : decode cX6_freed 21 = .ok (.ixor, 1) := by decide +kernel
theorem dX6_freed_22 : decode cX6_freed 22 = .ok (.iand, 1) := by decide +kernel
theorem dX6_freed_23 : decode cX6_freed 23 = .ok (.ifCond .ne 12, 3) := by decide +kernel
theorem dX6_freed_26 : decode cX6_freed 26 = .ok (.aload_n 0, 1) := by decide +kernel
theorem dX6_freed_27 : decode cX6_freed 27 = .ok (.getfield 22, 3) := by decide +kernel
theorem dX6_freed_30 : decode cX6_freed 30 = .ok (.iload_n 3, 1) := by decide +kernel
theorem dX6_freed_31 : decode cX6_freed 31 = .ok (.iaload, 1) := by decide +kernel
theorem dX6_freed_32 : decode cX6_freed 32 = .ok (.goto 4, 3) := by decide +kernel
theorem dX6_freed_35 : decode cX6_freed 35 = .ok (.iconst 0, 1) := by decide +kernel
theorem dX6_freed_36 : decode cX6_freed 36 = .ok (.iadd, 1) := by decide +kernel
theorem dX6_freed_37 : decode cX6_freed 37 = .ok (.istore_n 2, 1) := by decide +kernel
theorem dX6_freed_38 : decode cX6_freed 38 = .ok (.iinc 3 1, 3) := by decide +kernel
theorem dX6_freed_41 : decode cX6_freed 41 = .ok (.goto (-37), 3) := by decide +kernel
theorem dX6_freed_44 : decode cX6_freed 44 = .ok (.iload_n 2, 1) := by decide +kernel
theorem dX6_freed_45 : decode cX6_freed 45 = .ok (.ireturn, 1) := by decide +kernel
theorem dX6_fewestToFree_0 : decode cX6_fewestToFree 0 = .ok (.aload_n 0, 1) := by decide +kernel
theorem dX6_fewestToFree_1 : decode cX6_fewestToFree 1 = .ok (.iconst 0, 1) := by decide +kernel
theorem dX6_fewestToFree_2 : decode cX6_fewestToFree 2 = .ok (.putfield 43, 3) := by decide +kernel
theorem dX6_fewestToFree_5 : decode cX6_fewestToFree 5 = .ok (.iload_n 1, 1) := by decide +kernel
theorem dX6_fewestToFree_6 : decode cX6_fewestToFree 6 = .ok (.iconst 1, 1) := by decide +kernel
theorem dX6_fewestToFree_7 : decode cX6_fewestToFree 7 = .ok (.sipush 999, 3) := by decide +kernel
theorem dX6_fewestToFree_10 : decode cX6_fewestToFree 10 = .ok (.invokestatic 60, 3) := by decide +kernel
theorem dX6_fewestToFree_13 : decode cX6_fewestToFree 13 = .ok (.ifCond .ne 6, 3) := by decide +kernel
theorem dX6_fewestToFree_16 : decode cX6_fewestToFree 16 = .ok (.bipush (-2), 2) := by decide +kernel
theorem dX6_fewestToFree_18 : decode cX6_fewestToFree 18 = .ok (.ireturn, 1) := by decide +kernel
theorem dX6_fewestToFree_19 : decode cX6_fewestToFree 19 = .ok (.aload_n 0, 1) := by decide +kernel
theorem dX6_fewestToFree_20 : decode cX6_fewestToFree 20 = .ok (.invokevirtual 166, 3) := by decide +kernel
theorem dX6_fewestToFree_23 : decode cX6_fewestToFree 23 = .ok (.iconst 0, 1) := by decide +kernel
theorem dX6_fewestToFree_24 : decode cX6_fewestToFree 24 = .ok (.istore_n 2, 1) := by decide +kernel
theorem dX6_fewestToFree_25 : decode cX6_fewestToFree 25 = .ok (.iconst 0, 1) := by decide +kernel
theorem dX6_fewestToFree_26 : decode cX6_fewestToFree 26 = .ok (.istore_n 3, 1) := by decide +kernel
theorem dX6_fewestToFree_27 : decode cX6_fewestToFree 27 = .ok (.iload_n 3, 1) := by decide +kernel
theorem dX6_fewestToFree_28 : decode cX6_fewestToFree 28 = .ok (.bipush 16, 2) := by decide +kernel
theorem dX6_fewestToFree_30 : decode cX6_fewestToFree 30 = .ok (.if_icmp .ge 35, 3) := by decide +kernel
theorem dX6_fewestToFree_33 : decode cX6_fewestToFree 33 = .ok (.iload_n 2, 1) := by decide +kernel
theorem dX6_fewestToFree_34 : decode cX6_fewestToFree 34 = .ok (.aload_n 0, 1) := by decide +kernel
theorem dX6_fewestToFree_35 : decode cX6_fewestToFree 35 = .ok (.iload_n 3, 1) := by decide +kernel
theorem dX6_fewestToFree_36 : decode cX6_fewestToFree 36 = .ok (.invokevirtual 70, 3) := by decide +kernel
theorem dX6_fewestToFree_39 : decode cX6_fewestToFree 39 = .ok (.ifCond .eq 17, 3) := by decide +kernel
theorem dX6_fewestToFree_42 : decode cX6_fewestToFree 42 = .ok (.aload_n 0, 1) := by decide +kernel
theorem dX6_fewestToFree_43 : decode cX6_fewestToFree 43 = .ok (.iload_n 3, 1) := by decide +kernel
theorem dX6_fewestToFree_44 : decode cX6_fewestToFree 44 = .ok (.invokevirtual 159, 3) := by decide +kernel
theorem dX6_fewestToFree_47 : decode cX6_fewestToFree 47 = .ok (.ifCond .ne 9, 3) := by decide +kernel
theorem dX6_fewestToFree_50 : decode cX6_fewestToFree 50 = .ok (.iconst 1, 1) := by decide +kernel
theorem dX6_fewestToFree_51 : decode cX6_fewestToFree 51 = .ok (.iload_n 3, 1) := by decide +kernel
theorem dX6_fewestToFree_52 : decode cX6_fewestToFree 52 = .ok (.ishl, 1) := by decide +kernel
theorem dX6_fewestToFree_53 : decode cX6_fewestToFree 53 = .ok (.goto 4, 3) := by decide +kernel
theorem dX6_fewestToFree_56 : decode cX6_fewestToFree 56 = .ok (.iconst 0, 1) := by decide +kernel
theorem dX6_fewestToFree_57 : decode cX6_fewestToFree 57 = .ok (.ior, 1) := by decide +kernel
theorem dX6_fewestToFree_58 : decode cX6_fewestToFree 58 = .ok (.istore_n 2, 1) := by decide +kernel
theorem dX6_fewestToFree_59 : decode cX6_fewestToFree 59 = .ok (.iinc 3 1, 3) := by decide +kernel
theorem dX6_fewestToFree_62 : decode cX6_fewestToFree 62 = .ok (.goto (-35), 3) := by decide +kernel
theorem dX6_fewestToFree_65 : decode cX6_fewestToFree 65 = .ok (.iconst (-1), 1) := by decide +kernel
theorem dX6_fewestToFree_66 : decode cX6_fewestToFree 66 = .ok (.istore_n 3, 1) := by decide +kernel
theorem dX6_fewestToFree_67 : decode cX6_fewestToFree 67 = .ok (.bipush 17, 2) := by decide +kernel
theorem dX6_fewestToFree_69 : decode cX6_fewestToFree 69 = .ok (.istore 4, 2) := by decide +kernel
theorem dX6_fewestToFree_71 : decode cX6_fewestToFree 71 = .ok (.iconst 0, 1) := by decide +kernel
theorem dX6_fewestToFree_72 : decode cX6_fewestToFree 72 = .ok (.istore 5, 2) := by decide +kernel
theorem dX6_fewestToFree_74 : decode cX6_fewestToFree 74 = .ok (.iconst 1, 1) := by decide +kernel
theorem dX6_fewestToFree_75 : decode cX6_fewestToFree 75 = .ok (.istore 6, 2) := by decide +kernel
theorem dX6_fewestToFree_77 : decode cX6_fewestToFree 77 = .ok (.iload 6, 2) := by decide +kernel
theorem dX6_fewestToFree_79 : decode cX6_fewestToFree 79 = .ok (.ldc 165, 2) := by decide +kernel
theorem dX6_fewestToFree_81 : decode cX6_fewestToFree 81 = .ok (.if_icmp .ge 79, 3) := by decide +kernel
theorem dX6_fewestToFree_84 : decode cX6_fewestToFree 84 = .ok (.iload 6, 2) := by decide +kernel
theorem dX6_fewestToFree_86 : decode cX6_fewestToFree 86 = .ok (.iload_n 2, 1) := by decide +kernel
theorem dX6_fewestToFree_87 : decode cX6_fewestToFree 87 = .ok (.iconst (-1), 1) := by decide +kernel
theorem dX6_fewestToFree_88 : decode cX6_fewestToFree 88 = .ok (.ixor, 1) := by decide +kernel
theorem dX6_fewestToFree_89 : decode cX6_fewestToFree 89 = .ok (.iand, 1) := by decide +kernel
theorem dX6_fewestToFree_90 : decode cX6_fewestToFree 90 = .ok (.ifCond .ne 64, 3) := by decide +kernel
theorem dX6_fewestToFree_93 : decode cX6_fewestToFree 93 = .ok (.iload 6, 2) := by decide +kernel
theorem dX6_fewestToFree_95 : decode cX6_fewestToFree 95 = .ok (.invokestatic 121, 3) := by decide +kernel
theorem dX6_fewestToFree_98 : decode cX6_fewestToFree 98 = .ok (.iload 4, 2) := by decide +kernel
theorem dX6_fewestToFree_100 : decode cX6_fewestToFree 100 = .ok (.if_icmp .le 6, 3) := by decide +kernel
theorem dX6_fewestToFree_103 : decode cX6_fewestToFree 103 = .ok (.goto 51, 3) := by decide +kernel
theorem dX6_fewestToFree_106 : decode cX6_fewestToFree 106 = .ok (.aload_n 0, 1) := by decide +kernel
theorem dX6_fewestToFree_107 : decode cX6_fewestToFree 107 = .ok (.iload 6, 2) := by decide +kernel
theorem dX6_fewestToFree_109 : decode cX6_fewestToFree 109 = .ok (.invokevirtual 169, 3) := by decide +kernel
theorem dX6_fewestToFree_112 : decode cX6_fewestToFree 112 = .ok (.istore 7, 2) := by decide +kernel
theorem dX6_fewestToFree_114 : decode cX6_fewestToFree 114 = .ok (.iload 7, 2) := by decide +kernel
theorem dX6_fewestToFree_116 : decode cX6_fewestToFree 116 = .ok (.iload_n 1, 1) := by decide +kernel
theorem dX6_fewestToFree_117 : decode cX6_fewestToFree 117 = .ok (.if_icmp .lt 37, 3) := by decide +kernel
theorem dX6_fewestToFree_120 : decode cX6_fewestToFree 120 = .ok (.iload 6, 2) := by decide +kernel
theorem dX6_fewestToFree_122 : decode cX6_fewestToFree 122 = .ok (.invokestatic 121, 3) := by decide +kernel
theorem dX6_fewestToFree_125 : decode cX6_fewestToFree 125 = .ok (.iload 4, 2) := by decide +kernel
theorem dX6_fewestToFree_127 : decode cX6_fewestToFree 127 = .ok (.if_icmp .ne 13, 3) := by decide +kernel
theorem dX6_fewestToFree_130 : decode cX6_fewestToFree 130 = .ok (.iload 7, 2) := by decide +kernel
theorem dX6_fewestToFree_132 : decode cX6_fewestToFree 132 = .ok (.iload 5, 2) := by decide +kernel
theorem dX6_fewestToFree_134 : decode cX6_fewestToFree 134 = .ok (.if_icmp .gt 6, 3) := by decide +kernel
theorem dX6_fewestToFree_137 : decode cX6_fewestToFree 137 = .ok (.goto 17, 3) := by decide +kernel
theorem dX6_fewestToFree_140 : decode cX6_fewestToFree 140 = .ok (.iload 6, 2) := by decide +kernel
theorem dX6_fewestToFree_142 : decode cX6_fewestToFree 142 = .ok (.istore_n 3, 1) := by decide +kernel
theorem dX6_fewestToFree_143 : decode cX6_fewestToFree 143 = .ok (.iload 6, 2) := by decide +kernel
theorem dX6_fewestToFree_145 : decode cX6_fewestToFree 145 = .ok (.invokestatic 121, 3) := by decide +kernel
theorem dX6_fewestToFree_148 : decode cX6_fewestToFree 148 = .ok (.istore 4, 2) := by decide +kernel
theorem dX6_fewestToFree_150 : decode cX6_fewestToFree 150 = .ok (.iload 7, 2) := by decide +kernel
theorem dX6_fewestToFree_152 : decode cX6_fewestToFree 152 = .ok (.istore 5, 2) := by decide +kernel
theorem dX6_fewestToFree_154 : decode cX6_fewestToFree 154 = .ok (.iinc 6 1, 3) := by decide +kernel
theorem dX6_fewestToFree_157 : decode cX6_fewestToFree 157 = .ok (.goto (-80), 3) := by decide +kernel
theorem dX6_fewestToFree_160 : decode cX6_fewestToFree 160 = .ok (.iload_n 3, 1) := by decide +kernel
theorem dX6_fewestToFree_161 : decode cX6_fewestToFree 161 = .ok (.ireturn, 1) := by decide +kernel
theorem dX6_mostExclusive_0 : decode cX6_mostExclusive 0 = .ok (.aload_n 0, 1) := by decide +kernel
theorem dX6_mostExclusive_1 : decode cX6_mostExclusive 1 = .ok (.iconst 0, 1) := by decide +kernel
theorem dX6_mostExclusive_2 : decode cX6_mostExclusive 2 = .ok (.putfield 43, 3) := by decide +kernel
theorem dX6_mostExclusive_5 : decode cX6_mostExclusive 5 = .ok (.iconst (-1), 1) := by decide +kernel
theorem dX6_mostExclusive_6 : decode cX6_mostExclusive 6 = .ok (.istore_n 1, 1) := by decide +kernel
theorem dX6_mostExclusive_7 : decode cX6_mostExclusive 7 = .ok (.iconst 0, 1) := by decide +kernel
theorem dX6_mostExclusive_8 : decode cX6_mostExclusive 8 = .ok (.istore_n 2, 1) := by decide +kernel
theorem dX6_mostExclusive_9 : decode cX6_mostExclusive 9 = .ok (.iconst 0, 1) := by decide +kernel
theorem dX6_mostExclusive_10 : decode cX6_mostExclusive 10 = .ok (.istore_n 3, 1) := by decide +kernel
theorem dX6_mostExclusive_11 : decode cX6_mostExclusive 11 = .ok (.iload_n 3, 1) := by decide +kernel
theorem dX6_mostExclusive_12 : decode cX6_mostExclusive 12 = .ok (.bipush 16, 2) := by decide +kernel
theorem dX6_mostExclusive_14 : decode cX6_mostExclusive 14 = .ok (.if_icmp .ge 44, 3) := by decide +kernel
theorem dX6_mostExclusive_17 : decode cX6_mostExclusive 17 = .ok (.aload_n 0, 1) := by decide +kernel
theorem dX6_mostExclusive_18 : decode cX6_mostExclusive 18 = .ok (.iload_n 3, 1) := by decide +kernel
theorem dX6_mostExclusive_19 : decode cX6_mostExclusive 19 = .ok (.invokevirtual 70, 3) := by decide +kernel
theorem dX6_mostExclusive_22 : decode cX6_mostExclusive 22 = .ok (.ifCond .eq 13, 3) := by decide +kernel
theorem dX6_mostExclusive_25 : decode cX6_mostExclusive 25 = .ok (.aload_n 0, 1) := by decide +kernel
theorem dX6_mostExclusive_26 : decode cX6_mostExclusive 26 = .ok (.iconst 1, 1) := by decide +kernel
theorem dX6_mostExclusive_27 : decode cX6_mostExclusive 27 = .ok (.iload_n 3, 1) := by decide +kernel
theorem dX6_mostExclusive_28 : decode cX6_mostExclusive 28 = .ok (.ishl, 1) := by decide +kernel
theorem dX6_mostExclusive_29 : decode cX6_mostExclusive 29 = .ok (.invokevirtual 147, 3) := by decide +kernel
theorem dX6_mostExclusive_32 : decode cX6_mostExclusive 32 = .ok (.goto 4, 3) := by decide +kernel
theorem dX6_mostExclusive_35 : decode cX6_mostExclusive 35 = .ok (.iconst 0, 1) := by decide +kernel
theorem dX6_mostExclusive_36 : decode cX6_mostExclusive 36 = .ok (.istore 4, 2) := by decide +kernel
theorem dX6_mostExclusive_38 : decode cX6_mostExclusive 38 = .ok (.iload 4, 2) := by decide +kernel
theorem dX6_mostExclusive_40 : decode cX6_mostExclusive 40 = .ok (.iload_n 2, 1) := by decide +kernel
theorem dX6_mostExclusive_41 : decode cX6_mostExclusive 41 = .ok (.if_icmp .gt 6, 3) := by decide +kernel
theorem dX6_mostExclusive_44 : decode cX6_mostExclusive 44 = .ok (.goto 8, 3) := by decide +kernel
theorem dX6_mostExclusive_47 : decode cX6_mostExclusive 47 = .ok (.iload_n 3, 1) := by decide +kernel
theorem dX6_mostExclusive_48 : decode cX6_mostExclusive 48 = .ok (.istore_n 1, 1) := by decide +kernel
theorem dX6_mostExclusive_49 : decode cX6_mostExclusive 49 = .ok (.iload 4, 2) := by decide +kernel
theorem dX6_mostExclusive_51 : decode cX6_mostExclusive 51 = .ok (.istore_n 2, 1) := by decide +kernel
theorem dX6_mostExclusive_52 : decode cX6_mostExclusive 52 = .ok (.iinc 3 1, 3) := by decide +kernel
theorem dX6_mostExclusive_55 : decode cX6_mostExclusive 55 = .ok (.goto (-44), 3) := by decide +kernel
theorem dX6_mostExclusive_58 : decode cX6_mostExclusive 58 = .ok (.iload_n 1, 1) := by decide +kernel
theorem dX6_mostExclusive_59 : decode cX6_mostExclusive 59 = .ok (.ireturn, 1) := by decide +kernel
theorem dX6_wouldMove_0 : decode cX6_wouldMove 0 = .ok (.aload_n 0, 1) := by decide +kernel
theorem dX6_wouldMove_1 : decode cX6_wouldMove 1 = .ok (.aload_n 0, 1) := by decide +kernel
theorem dX6_wouldMove_2 : decode cX6_wouldMove 2 = .ok (.iload_n 1, 1) := by decide +kernel
theorem dX6_wouldMove_3 : decode cX6_wouldMove 3 = .ok (.invokevirtual 74, 3) := by decide +kernel
theorem dX6_wouldMove_6 : decode cX6_wouldMove 6 = .ok (.invokevirtual 128, 3) := by decide +kernel
theorem dX6_wouldMove_9 : decode cX6_wouldMove 9 = .ok (.ifCond .eq 5, 3) := by decide +kernel
theorem dX6_wouldMove_12 : decode cX6_wouldMove 12 = .ok (.iconst 0, 1) := by decide +kernel
theorem dX6_wouldMove_13 : decode cX6_wouldMove 13 = .ok (.ireturn, 1) := by decide +kernel
theorem dX6_wouldMove_14 : decode cX6_wouldMove 14 = .ok (.aload_n 0, 1) := by decide +kernel
theorem dX6_wouldMove_15 : decode cX6_wouldMove 15 = .ok (.iload_n 1, 1) := by decide +kernel
theorem dX6_wouldMove_16 : decode cX6_wouldMove 16 = .ok (.invokevirtual 107, 3) := by decide +kernel
theorem dX6_wouldMove_19 : decode cX6_wouldMove 19 = .ok (.ifCond .ge 7, 3) := by decide +kernel
theorem dX6_wouldMove_22 : decode cX6_wouldMove 22 = .ok (.iconst 0, 1) := by decide +kernel
theorem dX6_wouldMove_23 : decode cX6_wouldMove 23 = .ok (.goto 14, 3) := by decide +kernel
theorem dX6_wouldMove_26 : decode cX6_wouldMove 26 = .ok (.aload_n 0, 1) := by decide +kernel
theorem dX6_wouldMove_27 : decode cX6_wouldMove 27 = .ok (.aload_n 0, 1) := by decide +kernel
theorem dX6_wouldMove_28 : decode cX6_wouldMove 28 = .ok (.iload_n 1, 1) := by decide +kernel
theorem dX6_wouldMove_29 : decode cX6_wouldMove 29 = .ok (.invokevirtual 107, 3) := by decide +kernel
theorem dX6_wouldMove_32 : decode cX6_wouldMove 32 = .ok (.invokevirtual 104, 3) := by decide +kernel
theorem dX6_wouldMove_35 : decode cX6_wouldMove 35 = .ok (.iconst 1, 1) := by decide +kernel
theorem dX6_wouldMove_36 : decode cX6_wouldMove 36 = .ok (.iadd, 1) := by decide +kernel
theorem dX6_wouldMove_37 : decode cX6_wouldMove 37 = .ok (.ireturn, 1) := by decide +kernel
theorem dX6_writing_0 : decode cX6_writing 0 = .ok (.bipush 16, 2) := by decide +kernel
theorem dX6_writing_2 : decode cX6_writing 2 = .ok (.iload_n 1, 1) := by decide +kernel
theorem dX6_writing_3 : decode cX6_writing 3 = .ok (.iadd, 1) := by decide +kernel
theorem dX6_writing_4 : decode cX6_writing 4 = .ok (.istore 4, 2) := by decide +kernel
theorem dX6_writing_6 : decode cX6_writing 6 = .ok (.aload_n 0, 1) := by decide +kernel
theorem dX6_writing_7 : decode cX6_writing 7 = .ok (.iconst 1, 1) := by decide +kernel
theorem dX6_writing_8 : decode cX6_writing 8 = .ok (.invokevirtual 113, 3) := by decide +kernel
theorem dX6_writing_11 : decode cX6_writing 11 = .ok (.aload_n 0, 1) := by decide +kernel
theorem dX6_writing_12 : decode cX6_writing 12 = .ok (.iload_n 1, 1) := by decide +kernel
theorem dX6_writing_13 : decode cX6_writing 13 = .ok (.iload_n 2, 1) := by decide +kernel
theorem dX6_writing_14 : decode cX6_writing 14 = .ok (.invokevirtual 153, 3) := by decide +kernel
theorem dX6_writing_17 : decode cX6_writing 17 = .ok (.isub, 1) := by decide +kernel
theorem dX6_writing_18 : decode cX6_writing 18 = .ok (.iload_n 3, 1) := by decide +kernel
theorem dX6_writing_19 : decode cX6_writing 19 = .ok (.iadd, 1) := by decide +kernel
theorem dX6_writing_20 : decode cX6_writing 20 = .ok (.aload_n 0, 1) := by decide +kernel
theorem dX6_writing_21 : decode cX6_writing 21 = .ok (.getfield 16, 3) := by decide +kernel
theorem dX6_writing_24 : decode cX6_writing 24 = .ok (.iconst 0, 1) := by decide +kernel
theorem dX6_writing_25 : decode cX6_writing 25 = .ok (.iaload, 1) := by decide +kernel
theorem dX6_writing_26 : decode cX6_writing 26 = .ok (.if_icmp .le 6, 3) := by decide +kernel
theorem dX6_writing_29 : decode cX6_writing 29 = .ok (.bipush (-3), 2) := by decide +kernel
theorem dX6_writing_31 : decode cX6_writing 31 = .ok (.ireturn, 1) := by decide +kernel
theorem dX6_writing_32 : decode cX6_writing 32 = .ok (.aload_n 0, 1) := by decide +kernel
theorem dX6_writing_33 : decode cX6_writing 33 = .ok (.iload_n 1, 1) := by decide +kernel
theorem dX6_writing_34 : decode cX6_writing 34 = .ok (.iconst 2, 1) := by decide +kernel
theorem dX6_writing_35 : decode cX6_writing 35 = .ok (.invokevirtual 64, 3) := by decide +kernel
theorem dX6_writing_38 : decode cX6_writing 38 = .ok (.istore 5, 2) := by decide +kernel
theorem dX6_writing_40 : decode cX6_writing 40 = .ok (.iload 5, 2) := by decide +kernel
theorem dX6_writing_42 : decode cX6_writing 42 = .ok (.ifCond .le 29, 3) := by decide +kernel
theorem dX6_writing_45 : decode cX6_writing 45 = .ok (.aload_n 0, 1) := by decide +kernel
theorem dX6_writing_46 : decode cX6_writing 46 = .ok (.iload 4, 2) := by decide +kernel
theorem dX6_writing_48 : decode cX6_writing 48 = .ok (.invokevirtual 144, 3) := by decide +kernel
theorem dX6_writing_51 : decode cX6_writing 51 = .ok (.aload_n 0, 1) := by decide +kernel
theorem dX6_writing_52 : decode cX6_writing 52 = .ok (.iload 4, 2) := by decide +kernel
theorem dX6_writing_54 : decode cX6_writing 54 = .ok (.iload_n 2, 1) := by decide +kernel
theorem dX6_writing_55 : decode cX6_writing 55 = .ok (.invokevirtual 80, 3) := by decide +kernel
theorem dX6_writing_58 : decode cX6_writing 58 = .ok (.isub, 1) := by decide +kernel
theorem dX6_writing_59 : decode cX6_writing 59 = .ok (.iload_n 3, 1) := by decide +kernel
theorem dX6_writing_60 : decode cX6_writing 60 = .ok (.iadd, 1) := by decide +kernel
theorem dX6_writing_61 : decode cX6_writing 61 = .ok (.iload 5, 2) := by decide +kernel
theorem dX6_writing_63 : decode cX6_writing 63 = .ok (.if_icmp .le 8, 3) := by decide +kernel
theorem dX6_writing_66 : decode cX6_writing 66 = .ok (.bipush (-5), 2) := by decide +kernel
theorem dX6_writing_68 : decode cX6_writing 68 = .ok (.goto 4, 3) := by decide +kernel
theorem dX6_writing_71 : decode cX6_writing 71 = .ok (.iconst 0, 1) := by decide +kernel
theorem dX6_writing_72 : decode cX6_writing 72 = .ok (.ireturn, 1) := by decide +kernel
theorem dX6_refusal_0 : decode cX6_refusal 0 = .ok (.aload_n 0, 1) := by decide +kernel
theorem dX6_refusal_1 : decode cX6_refusal 1 = .ok (.iload_n 1, 1) := by decide +kernel
theorem dX6_refusal_2 : decode cX6_refusal 2 = .ok (.invokevirtual 74, 3) := by decide +kernel
theorem dX6_refusal_5 : decode cX6_refusal 5 = .ok (.ifCond .ne 5, 3) := by decide +kernel
theorem dX6_refusal_8 : decode cX6_refusal 8 = .ok (.iconst (-1), 1) := by decide +kernel
theorem dX6_refusal_9 : decode cX6_refusal 9 = .ok (.ireturn, 1) := by decide +kernel
theorem dX6_refusal_10 : decode cX6_refusal 10 = .ok (.iload_n 2, 1) := by decide +kernel
theorem dX6_refusal_11 : decode cX6_refusal 11 = .ok (.invokestatic 141, 3) := by decide +kernel
theorem dX6_refusal_14 : decode cX6_refusal 14 = .ok (.ifCond .eq 23, 3) := by decide +kernel
theorem dX6_refusal_17 : decode cX6_refusal 17 = .ok (.iload_n 3, 1) := by decide +kernel
theorem dX6_refusal_18 : decode cX6_refusal 18 = .ok (.iconst 1, 1) := by decide +kernel
theorem dX6_refusal_19 : decode cX6_refusal 19 = .ok (.bipush 9, 2) := by decide +kernel
theorem dX6_refusal_21 : decode cX6_refusal 21 = .ok (.invokestatic 60, 3) := by decide +kernel
theorem dX6_refusal_24 : decode cX6_refusal 24 = .ok (.ifCond .eq 13, 3) := by decide +kernel
theorem dX6_refusal_27 : decode cX6_refusal 27 = .ok (.aload_n 0, 1) := by decide +kernel
theorem dX6_refusal_28 : decode cX6_refusal 28 = .ok (.iload_n 1, 1) := by decide +kernel
theorem dX6_refusal_29 : decode cX6_refusal 29 = .ok (.iload_n 2, 1) := by decide +kernel
theorem dX6_refusal_30 : decode cX6_refusal 30 = .ok (.iload_n 3, 1) := by decide +kernel
theorem dX6_refusal_31 : decode cX6_refusal 31 = .ok (.invokevirtual 172, 3) := by decide +kernel
theorem dX6_refusal_34 : decode cX6_refusal 34 = .ok (.goto 5, 3) := by decide +kernel
theorem dX6_refusal_37 : decode cX6_refusal 37 = .ok (.bipush (-2), 2) := by decide +kernel
theorem dX6_refusal_39 : decode cX6_refusal 39 = .ok (.ireturn, 1) := by decide +kernel
theorem dX6_wouldWrite_0 : decode cX6_wouldWrite 0 = .ok (.aload_n 0, 1) := by decide +kernel
theorem dX6_wouldWrite_1 : decode cX6_wouldWrite 1 = .ok (.iconst 0, 1) := by decide +kernel
theorem dX6_wouldWrite_2 : decode cX6_wouldWrite 2 = .ok (.putfield 43, 3) := by decide +kernel
theorem dX6_wouldWrite_5 : decode cX6_wouldWrite 5 = .ok (.aload_n 0, 1) := by decide +kernel
theorem dX6_wouldWrite_6 : decode cX6_wouldWrite 6 = .ok (.iload_n 1, 1) := by decide +kernel
theorem dX6_wouldWrite_7 : decode cX6_wouldWrite 7 = .ok (.iload_n 2, 1) := by decide +kernel
theorem dX6_wouldWrite_8 : decode cX6_wouldWrite 8 = .ok (.iload_n 3, 1) := by decide +kernel
theorem dX6_wouldWrite_9 : decode cX6_wouldWrite 9 = .ok (.invokevirtual 176, 3) := by decide +kernel
theorem dX6_wouldWrite_12 : decode cX6_wouldWrite 12 = .ok (.istore 4, 2) := by decide +kernel
theorem dX6_wouldWrite_14 : decode cX6_wouldWrite 14 = .ok (.iload 4, 2) := by decide +kernel
theorem dX6_wouldWrite_16 : decode cX6_wouldWrite 16 = .ok (.ifCond .eq 8, 3) := by decide +kernel
theorem dX6_wouldWrite_19 : decode cX6_wouldWrite 19 = .ok (.iload 4, 2) := by decide +kernel
theorem dX6_wouldWrite_21 : decode cX6_wouldWrite 21 = .ok (.goto 11, 3) := by decide +kernel
theorem dX6_wouldWrite_24 : decode cX6_wouldWrite 24 = .ok (.aload_n 0, 1) := by decide +kernel
theorem dX6_wouldWrite_25 : decode cX6_wouldWrite 25 = .ok (.getfield 16, 3) := by decide +kernel
theorem dX6_wouldWrite_28 : decode cX6_wouldWrite 28 = .ok (.iconst 2, 1) := by decide +kernel
theorem dX6_wouldWrite_29 : decode cX6_wouldWrite 29 = .ok (.iaload, 1) := by decide +kernel
theorem dX6_wouldWrite_30 : decode cX6_wouldWrite 30 = .ok (.iconst 1, 1) := by decide +kernel
theorem dX6_wouldWrite_31 : decode cX6_wouldWrite 31 = .ok (.iadd, 1) := by decide +kernel
theorem dX6_wouldWrite_32 : decode cX6_wouldWrite 32 = .ok (.ireturn, 1) := by decide +kernel
theorem dX6_sharing_0 : decode cX6_sharing 0 = .ok (.aload_n 0, 1) := by decide +kernel
theorem dX6_sharing_1 : decode cX6_sharing 1 = .ok (.iconst 0, 1) := by decide +kernel
theorem dX6_sharing_2 : decode cX6_sharing 2 = .ok (.putfield 43, 3) := by decide +kernel
theorem dX6_sharing_5 : decode cX6_sharing 5 = .ok (.iconst 0, 1) := by decide +kernel
theorem dX6_sharing_6 : decode cX6_sharing 6 = .ok (.istore_n 1, 1) := by decide +kernel
theorem dX6_sharing_7 : decode cX6_sharing 7 = .ok (.iconst 0, 1) := by decide +kernel
theorem dX6_sharing_8 : decode cX6_sharing 8 = .ok (.istore_n 2, 1) := by decide +kernel
theorem dX6_sharing_9 : decode cX6_sharing 9 = .ok (.iload_n 2, 1) := by decide +kernel
theorem dX6_sharing_10 : decode cX6_sharing 10 = .ok (.bipush 22, 2) := by decide +kernel
theorem dX6_sharing_12 : decode cX6_sharing 12 = .ok (.if_icmp .ge 29, 3) := by decide +kernel
theorem dX6_sharing_15 : decode cX6_sharing 15 = .ok (.iload_n 1, 1) := by decide +kernel
theorem dX6_sharing_16 : decode cX6_sharing 16 = .ok (.aload_n 0, 1) := by decide +kernel
theorem dX6_sharing_17 : decode cX6_sharing 17 = .ok (.iload_n 2, 1) := by decide +kernel
theorem dX6_sharing_18 : decode cX6_sharing 18 = .ok (.invokevirtual 87, 3) := by decide +kernel
theorem dX6_sharing_21 : decode cX6_sharing 21 = .ok (.ifCond .eq 11, 3) := by decide +kernel
theorem dX6_sharing_24 : decode cX6_sharing 24 = .ok (.aload_n 0, 1) := by decide +kernel
theorem dX6_sharing_25 : decode cX6_sharing 25 = .ok (.iload_n 2, 1) := by decide +kernel
theorem dX6_sharing_26 : decode cX6_sharing 26 = .ok (.invokevirtual 144, 3) := by decide +kernel
theorem dX6_sharing_29 : decode cX6_sharing 29 = .ok (.goto 4, 3) := by decide +kernel
theorem dX6_sharing_32 : decode cX6_sharing 32 = .ok (.iconst 0, 1) := by decide +kernel
theorem dX6_sharing_33 : decode cX6_sharing 33 = .ok (.iadd, 1) := by decide +kernel
theorem dX6_sharing_34 : decode cX6_sharing 34 = .ok (.istore_n 1, 1) := by decide +kernel
theorem dX6_sharing_35 : decode cX6_sharing 35 = .ok (.iinc 2 1, 3) := by decide +kernel
theorem dX6_sharing_38 : decode cX6_sharing 38 = .ok (.goto (-29), 3) := by decide +kernel
theorem dX6_sharing_41 : decode cX6_sharing 41 = .ok (.aload_n 0, 1) := by decide +kernel
theorem dX6_sharing_42 : decode cX6_sharing 42 = .ok (.iconst 1, 1) := by decide +kernel
theorem dX6_sharing_43 : decode cX6_sharing 43 = .ok (.invokevirtual 113, 3) := by decide +kernel
theorem dX6_sharing_46 : decode cX6_sharing 46 = .ok (.istore_n 2, 1) := by decide +kernel
theorem dX6_sharing_47 : decode cX6_sharing 47 = .ok (.iload_n 2, 1) := by decide +kernel
theorem dX6_sharing_48 : decode cX6_sharing 48 = .ok (.ifCond .ne 7, 3) := by decide +kernel
theorem dX6_sharing_51 : decode cX6_sharing 51 = .ok (.dconst 0, 1) := by decide +kernel
theorem dX6_sharing_52 : decode cX6_sharing 52 = .ok (.goto 8, 3) := by decide +kernel
theorem dX6_sharing_55 : decode cX6_sharing 55 = .ok (.iload_n 1, 1) := by decide +kernel
theorem dX6_sharing_56 : decode cX6_sharing 56 = .ok (.i2d, 1) := by decide +kernel
theorem dX6_sharing_57 : decode cX6_sharing 57 = .ok (.iload_n 2, 1) := by decide +kernel
theorem dX6_sharing_58 : decode cX6_sharing 58 = .ok (.i2d, 1) := by decide +kernel
theorem dX6_sharing_59 : decode cX6_sharing 59 = .ok (.ddiv, 1) := by decide +kernel
theorem dX6_sharing_60 : decode cX6_sharing 60 = .ok (.dreturn, 1) := by decide +kernel
theorem dX6_makeVolume_0 : decode cX6_makeVolume 0 = .ok (.aload_n 0, 1) := by decide +kernel
theorem dX6_makeVolume_1 : decode cX6_makeVolume 1 = .ok (.getfield 16, 3) := by decide +kernel
theorem dX6_makeVolume_4 : decode cX6_makeVolume 4 = .ok (.iconst 3, 1) := by decide +kernel
theorem dX6_makeVolume_5 : decode cX6_makeVolume 5 = .ok (.iaload, 1) := by decide +kernel
theorem dX6_makeVolume_6 : decode cX6_makeVolume 6 = .ok (.istore_n 3, 1) := by decide +kernel
theorem dX6_makeVolume_7 : decode cX6_makeVolume 7 = .ok (.aload_n 0, 1) := by decide +kernel
theorem dX6_makeVolume_8 : decode cX6_makeVolume 8 = .ok (.getfield 16, 3) := by decide +kernel
theorem dX6_makeVolume_11 : decode cX6_makeVolume 11 = .ok (.iload_n 3, 1) := by decide +kernel
theorem dX6_makeVolume_12 : decode cX6_makeVolume 12 = .ok (.iconst 0, 1) := by decide +kernel
theorem dX6_makeVolume_13 : decode cX6_makeVolume 13 = .ok (.invokestatic 53, 3) := by decide +kernel
theorem dX6_makeVolume_16 : decode cX6_makeVolume 16 = .ok (.iconst 1, 1) := by decide +kernel
theorem dX6_makeVolume_17 : decode cX6_makeVolume 17 = .ok (.iastore, 1) := by decide +kernel
theorem dX6_makeVolume_18 : decode cX6_makeVolume 18 = .ok (.aload_n 0, 1) := by decide +kernel
theorem dX6_makeVolume_19 : decode cX6_makeVolume 19 = .ok (.getfield 16, 3) := by decide +kernel
theorem dX6_makeVolume_22 : decode cX6_makeVolume 22 = .ok (.iload_n 3, 1) := by decide +kernel
theorem dX6_makeVolume_23 : decode cX6_makeVolume 23 = .ok (.iconst 1, 1) := by decide +kernel
theorem dX6_makeVolume_24 : decode cX6_makeVolume 24 = .ok (.invokestatic 53, 3) := by decide +kernel
theorem dX6_makeVolume_27 : decode cX6_makeVolume 27 = .ok (.iload_n 1, 1) := by decide +kernel
theorem dX6_makeVolume_28 : decode cX6_makeVolume 28 = .ok (.iconst 1, 1) := by decide +kernel
theorem dX6_makeVolume_29 : decode cX6_makeVolume 29 = .ok (.iadd, 1) := by decide +kernel
theorem dX6_makeVolume_30 : decode cX6_makeVolume 30 = .ok (.iastore, 1) := by decide +kernel
theorem dX6_makeVolume_31 : decode cX6_makeVolume 31 = .ok (.aload_n 0, 1) := by decide +kernel
theorem dX6_makeVolume_32 : decode cX6_makeVolume 32 = .ok (.getfield 16, 3) := by decide +kernel
theorem dX6_makeVolume_35 : decode cX6_makeVolume 35 = .ok (.iload_n 3, 1) := by decide +kernel
theorem dX6_makeVolume_36 : decode cX6_makeVolume 36 = .ok (.iconst 2, 1) := by decide +kernel
theorem dX6_makeVolume_37 : decode cX6_makeVolume 37 = .ok (.invokestatic 53, 3) := by decide +kernel
theorem dX6_makeVolume_40 : decode cX6_makeVolume 40 = .ok (.iconst 0, 1) := by decide +kernel
theorem dX6_makeVolume_41 : decode cX6_makeVolume 41 = .ok (.iastore, 1) := by decide +kernel
theorem dX6_makeVolume_42 : decode cX6_makeVolume 42 = .ok (.aload_n 0, 1) := by decide +kernel
theorem dX6_makeVolume_43 : decode cX6_makeVolume 43 = .ok (.getfield 16, 3) := by decide +kernel
theorem dX6_makeVolume_46 : decode cX6_makeVolume 46 = .ok (.iload_n 3, 1) := by decide +kernel
theorem dX6_makeVolume_47 : decode cX6_makeVolume 47 = .ok (.iconst 3, 1) := by decide +kernel
theorem dX6_makeVolume_48 : decode cX6_makeVolume 48 = .ok (.invokestatic 53, 3) := by decide +kernel
theorem dX6_makeVolume_51 : decode cX6_makeVolume 51 = .ok (.iload_n 2, 1) := by decide +kernel
theorem dX6_makeVolume_52 : decode cX6_makeVolume 52 = .ok (.iastore, 1) := by decide +kernel
theorem dX6_makeVolume_53 : decode cX6_makeVolume 53 = .ok (.aload_n 0, 1) := by decide +kernel
theorem dX6_makeVolume_54 : decode cX6_makeVolume 54 = .ok (.getfield 16, 3) := by decide +kernel
theorem dX6_makeVolume_57 : decode cX6_makeVolume 57 = .ok (.iload_n 3, 1) := by decide +kernel
theorem dX6_makeVolume_58 : decode cX6_makeVolume 58 = .ok (.iconst 4, 1) := by decide +kernel
theorem dX6_makeVolume_59 : decode cX6_makeVolume 59 = .ok (.invokestatic 53, 3) := by decide +kernel
theorem dX6_makeVolume_62 : decode cX6_makeVolume 62 = .ok (.iconst 0, 1) := by decide +kernel
theorem dX6_makeVolume_63 : decode cX6_makeVolume 63 = .ok (.iastore, 1) := by decide +kernel
theorem dX6_makeVolume_64 : decode cX6_makeVolume 64 = .ok (.iconst 0, 1) := by decide +kernel
theorem dX6_makeVolume_65 : decode cX6_makeVolume 65 = .ok (.istore 4, 2) := by decide +kernel
theorem dX6_makeVolume_67 : decode cX6_makeVolume 67 = .ok (.iload 4, 2) := by decide +kernel
theorem dX6_makeVolume_69 : decode cX6_makeVolume 69 = .ok (.bipush 12, 2) := by decide +kernel
theorem dX6_makeVolume_71 : decode cX6_makeVolume 71 = .ok (.if_icmp .ge 49, 3) := by decide +kernel
theorem dX6_makeVolume_74 : decode cX6_makeVolume 74 = .ok (.aload_n 0, 1) := by decide +kernel
theorem dX6_makeVolume_75 : decode cX6_makeVolume 75 = .ok (.bipush 16, 2) := by decide +kernel
theorem dX6_makeVolume_77 : decode cX6_makeVolume 77 = .ok (.iload_n 3, 1) := by decide +kernel
theorem dX6_makeVolume_78 : decode cX6_makeVolume 78 = .ok (.iadd, 1) := by decide +kernel
theorem dX6_makeVolume_79 : decode cX6_makeVolume 79 = .ok (.iload 4, 2) := by decide +kernel
theorem dX6_makeVolume_81 : decode cX6_makeVolume 81 = .ok (.iload_n 1, 1) := by decide +kernel
theorem dX6_makeVolume_82 : decode cX6_makeVolume 82 = .ok (.ifCond .ge 7, 3) := by decide +kernel
theorem dX6_makeVolume_85 : decode cX6_makeVolume 85 = .ok (.iconst 0, 1) := by decide +kernel
theorem dX6_makeVolume_86 : decode cX6_makeVolume 86 = .ok (.goto 10, 3) := by decide +kernel
theorem dX6_makeVolume_89 : decode cX6_makeVolume 89 = .ok (.aload_n 0, 1) := by decide +kernel
theorem dX6_makeVolume_90 : decode cX6_makeVolume 90 = .ok (.iload_n 1, 1) := by decide +kernel
theorem dX6_makeVolume_91 : decode cX6_makeVolume 91 = .ok (.iload 4, 2) := by decide +kernel
theorem dX6_makeVolume_93 : decode cX6_makeVolume 93 = .ok (.invokevirtual 77, 3) := by decide +kernel
theorem dX6_makeVolume_96 : decode cX6_makeVolume 96 = .ok (.iload_n 1, 1) := by decide +kernel
theorem dX6_makeVolume_97 : decode cX6_makeVolume 97 = .ok (.ifCond .ge 7, 3) := by decide +kernel
theorem dX6_makeVolume_100 : decode cX6_makeVolume 100 = .ok (.iconst 0, 1) := by decide +kernel
theorem dX6_makeVolume_101 : decode cX6_makeVolume 101 = .ok (.goto 10, 3) := by decide +kernel
theorem dX6_makeVolume_104 : decode cX6_makeVolume 104 = .ok (.aload_n 0, 1) := by decide +kernel
theorem dX6_makeVolume_105 : decode cX6_makeVolume 105 = .ok (.iload_n 1, 1) := by decide +kernel
theorem dX6_makeVolume_106 : decode cX6_makeVolume 106 = .ok (.iload 4, 2) := by decide +kernel
theorem dX6_makeVolume_108 : decode cX6_makeVolume 108 = .ok (.invokevirtual 80, 3) := by decide +kernel
theorem dX6_makeVolume_111 : decode cX6_makeVolume 111 = .ok (.invokevirtual 83, 3) := by decide +kernel
theorem dX6_makeVolume_114 : decode cX6_makeVolume 114 = .ok (.iinc 4 1, 3) := by decide +kernel
theorem dX6_makeVolume_117 : decode cX6_makeVolume 117 = .ok (.goto (-50), 3) := by decide +kernel
theorem dX6_makeVolume_120 : decode cX6_makeVolume 120 = .ok (.aload_n 0, 1) := by decide +kernel
theorem dX6_makeVolume_121 : decode cX6_makeVolume 121 = .ok (.getfield 16, 3) := by decide +kernel
theorem dX6_makeVolume_124 : decode cX6_makeVolume 124 = .ok (.iconst 3, 1) := by decide +kernel
theorem dX6_makeVolume_125 : decode cX6_makeVolume 125 = .ok (.dup2, 1) := by decide +kernel
theorem dX6_makeVolume_126 : decode cX6_makeVolume 126 = .ok (.iaload, 1) := by decide +kernel
theorem dX6_makeVolume_127 : decode cX6_makeVolume 127 = .ok (.iconst 1, 1) := by decide +kernel
theorem dX6_makeVolume_128 : decode cX6_makeVolume 128 = .ok (.iadd, 1) := by decide +kernel
theorem dX6_makeVolume_129 : decode cX6_makeVolume 129 = .ok (.iastore, 1) := by decide +kernel
theorem dX6_makeVolume_130 : decode cX6_makeVolume 130 = .ok (.iload_n 3, 1) := by decide +kernel
theorem dX6_makeVolume_131 : decode cX6_makeVolume 131 = .ok (.ireturn, 1) := by decide +kernel
theorem dX6_makeSnapshot_0 : decode cX6_makeSnapshot 0 = .ok (.aload_n 0, 1) := by decide +kernel
theorem dX6_makeSnapshot_1 : decode cX6_makeSnapshot 1 = .ok (.getfield 16, 3) := by decide +kernel
theorem dX6_makeSnapshot_4 : decode cX6_makeSnapshot 4 = .ok (.iconst 4, 1) := by decide +kernel
theorem dX6_makeSnapshot_5 : decode cX6_makeSnapshot 5 = .ok (.iaload, 1) := by decide +kernel
theorem dX6_makeSnapshot_6 : decode cX6_makeSnapshot 6 = .ok (.istore_n 3, 1) := by decide +kernel
theorem dX6_makeSnapshot_7 : decode cX6_makeSnapshot 7 = .ok (.aload_n 0, 1) := by decide +kernel
theorem dX6_makeSnapshot_8 : decode cX6_makeSnapshot 8 = .ok (.getfield 16, 3) := by decide +kernel
theorem dX6_makeSnapshot_11 : decode cX6_makeSnapshot 11 = .ok (.iconst 2, 1) := by decide +kernel
theorem dX6_makeSnapshot_12 : decode cX6_makeSnapshot 12 = .ok (.dup2, 1) := by decide +kernel
theorem dX6_makeSnapshot_13 : decode cX6_makeSnapshot 13 = .ok (.iaload, 1) := by decide +kernel
theorem dX6_makeSnapshot_14 : decode cX6_makeSnapshot 14 = .ok (.iconst 1, 1) := by decide +kernel
theorem dX6_makeSnapshot_15 : decode cX6_makeSnapshot 15 = .ok (.iadd, 1) := by decide +kernel
theorem dX6_makeSnapshot_16 : decode cX6_makeSnapshot 16 = .ok (.iastore, 1) := by decide +kernel
theorem dX6_makeSnapshot_17 : decode cX6_makeSnapshot 17 = .ok (.aload_n 0, 1) := by decide +kernel
theorem dX6_makeSnapshot_18 : decode cX6_makeSnapshot 18 = .ok (.getfield 16, 3) := by decide +kernel
theorem dX6_makeSnapshot_21 : decode cX6_makeSnapshot 21 = .ok (.iload_n 3, 1) := by decide +kernel
theorem dX6_makeSnapshot_22 : decode cX6_makeSnapshot 22 = .ok (.iconst 0, 1) := by decide +kernel
theorem dX6_makeSnapshot_23 : decode cX6_makeSnapshot 23 = .ok (.invokestatic 57, 3) := by decide +kernel
theorem dX6_makeSnapshot_26 : decode cX6_makeSnapshot 26 = .ok (.iconst 1, 1) := by decide +kernel
theorem dX6_makeSnapshot_27 : decode cX6_makeSnapshot 27 = .ok (.iastore, 1) := by decide +kernel
theorem dX6_makeSnapshot_28 : decode cX6_makeSnapshot 28 = .ok (.aload_n 0, 1) := by decide +kernel
theorem dX6_makeSnapshot_29 : decode cX6_makeSnapshot 29 = .ok (.getfield 16, 3) := by decide +kernel
theorem dX6_makeSnapshot_32 : decode cX6_makeSnapshot 32 = .ok (.iload_n 3, 1) := by decide +kernel
theorem dX6_makeSnapshot_33 : decode cX6_makeSnapshot 33 = .ok (.iconst 1, 1) := by decide +kernel
theorem dX6_makeSnapshot_34 : decode cX6_makeSnapshot 34 = .ok (.invokestatic 57, 3) := by decide +kernel
theorem dX6_makeSnapshot_37 : decode cX6_makeSnapshot 37 = .ok (.iload_n 1, 1) := by decide +kernel
theorem dX6_makeSnapshot_38 : decode cX6_makeSnapshot 38 = .ok (.iastore, 1) := by decide +kernel
theorem dX6_makeSnapshot_39 : decode cX6_makeSnapshot 39 = .ok (.aload_n 0, 1) := by decide +kernel
theorem dX6_makeSnapshot_40 : decode cX6_makeSnapshot 40 = .ok (.getfield 16, 3) := by decide +kernel
theorem dX6_makeSnapshot_43 : decode cX6_makeSnapshot 43 = .ok (.iload_n 3, 1) := by decide +kernel
theorem dX6_makeSnapshot_44 : decode cX6_makeSnapshot 44 = .ok (.iconst 2, 1) := by decide +kernel
theorem dX6_makeSnapshot_45 : decode cX6_makeSnapshot 45 = .ok (.invokestatic 57, 3) := by decide +kernel
theorem dX6_makeSnapshot_48 : decode cX6_makeSnapshot 48 = .ok (.aload_n 0, 1) := by decide +kernel
theorem dX6_makeSnapshot_49 : decode cX6_makeSnapshot 49 = .ok (.getfield 16, 3) := by decide +kernel
theorem dX6_makeSnapshot_52 : decode cX6_makeSnapshot 52 = .ok (.iconst 2, 1) := by decide +kernel
theorem dX6_makeSnapshot_53 : decode cX6_makeSnapshot 53 = .ok (.iaload, 1) := by decide +kernel
theorem dX6_makeSnapshot_54 : decode cX6_makeSnapshot 54 = .ok (.iastore, 1) := by decide +kernel
theorem dX6_makeSnapshot_55 : decode cX6_makeSnapshot 55 = .ok (.aload_n 0, 1) := by decide +kernel
theorem dX6_makeSnapshot_56 : decode cX6_makeSnapshot 56 = .ok (.getfield 16, 3) := by decide +kernel
theorem dX6_makeSnapshot_59 : decode cX6_makeSnapshot 59 = .ok (.iload_n 3, 1) := by decide +kernel
theorem dX6_makeSnapshot_60 : decode cX6_makeSnapshot 60 = .ok (.iconst 3, 1) := by decide +kernel
theorem dX6_makeSnapshot_61 : decode cX6_makeSnapshot 61 = .ok (.invokestatic 57, 3) := by decide +kernel
theorem dX6_makeSnapshot_64 : decode cX6_makeSnapshot 64 = .ok (.iconst 0, 1) := by decide +kernel
theorem dX6_makeSnapshot_65 : decode cX6_makeSnapshot 65 = .ok (.iastore, 1) := by decide +kernel
theorem dX6_makeSnapshot_66 : decode cX6_makeSnapshot 66 = .ok (.aload_n 0, 1) := by decide +kernel
theorem dX6_makeSnapshot_67 : decode cX6_makeSnapshot 67 = .ok (.getfield 16, 3) := by decide +kernel
theorem dX6_makeSnapshot_70 : decode cX6_makeSnapshot 70 = .ok (.iload_n 3, 1) := by decide +kernel
theorem dX6_makeSnapshot_71 : decode cX6_makeSnapshot 71 = .ok (.iconst 4, 1) := by decide +kernel
theorem dX6_makeSnapshot_72 : decode cX6_makeSnapshot 72 = .ok (.invokestatic 57, 3) := by decide +kernel
theorem dX6_makeSnapshot_75 : decode cX6_makeSnapshot 75 = .ok (.iload_n 2, 1) := by decide +kernel
theorem dX6_makeSnapshot_76 : decode cX6_makeSnapshot 76 = .ok (.iastore, 1) := by decide +kernel
theorem dX6_makeSnapshot_77 : decode cX6_makeSnapshot 77 = .ok (.aload_n 0, 1) := by decide +kernel
theorem dX6_makeSnapshot_78 : decode cX6_makeSnapshot 78 = .ok (.iload_n 3, 1) := by decide +kernel
theorem dX6_makeSnapshot_79 : decode cX6_makeSnapshot 79 = .ok (.bipush 16, 2) := by decide +kernel
theorem dX6_makeSnapshot_81 : decode cX6_makeSnapshot 81 = .ok (.iload_n 1, 1) := by decide +kernel
theorem dX6_makeSnapshot_82 : decode cX6_makeSnapshot 82 = .ok (.iadd, 1) := by decide +kernel
theorem dX6_makeSnapshot_83 : decode cX6_makeSnapshot 83 = .ok (.invokevirtual 179, 3) := by decide +kernel
theorem dX6_makeSnapshot_86 : decode cX6_makeSnapshot 86 = .ok (.aload_n 0, 1) := by decide +kernel
theorem dX6_makeSnapshot_87 : decode cX6_makeSnapshot 87 = .ok (.getfield 16, 3) := by decide +kernel
theorem dX6_makeSnapshot_90 : decode cX6_makeSnapshot 90 = .ok (.iload_n 1, 1) := by decide +kernel
theorem dX6_makeSnapshot_91 : decode cX6_makeSnapshot 91 = .ok (.iconst 5, 1) := by decide +kernel
theorem dX6_makeSnapshot_92 : decode cX6_makeSnapshot 92 = .ok (.aload_n 0, 1) := by decide +kernel
theorem dX6_makeSnapshot_93 : decode cX6_makeSnapshot 93 = .ok (.iload_n 1, 1) := by decide +kernel
theorem dX6_makeSnapshot_94 : decode cX6_makeSnapshot 94 = .ok (.iconst 4, 1) := by decide +kernel
theorem dX6_makeSnapshot_95 : decode cX6_makeSnapshot 95 = .ok (.invokevirtual 64, 3) := by decide +kernel
theorem dX6_makeSnapshot_98 : decode cX6_makeSnapshot 98 = .ok (.iadd, 1) := by decide +kernel
theorem dX6_makeSnapshot_99 : decode cX6_makeSnapshot 99 = .ok (.invokestatic 53, 3) := by decide +kernel
theorem dX6_makeSnapshot_102 : decode cX6_makeSnapshot 102 = .ok (.iload_n 3, 1) := by decide +kernel
theorem dX6_makeSnapshot_103 : decode cX6_makeSnapshot 103 = .ok (.iastore, 1) := by decide +kernel
theorem dX6_makeSnapshot_104 : decode cX6_makeSnapshot 104 = .ok (.aload_n 0, 1) := by decide +kernel
theorem dX6_makeSnapshot_105 : decode cX6_makeSnapshot 105 = .ok (.getfield 16, 3) := by decide +kernel
theorem dX6_makeSnapshot_108 : decode cX6_makeSnapshot 108 = .ok (.iload_n 1, 1) := by decide +kernel
theorem dX6_makeSnapshot_109 : decode cX6_makeSnapshot 109 = .ok (.iconst 4, 1) := by decide +kernel
theorem dX6_makeSnapshot_110 : decode cX6_makeSnapshot 110 = .ok (.invokestatic 53, 3) := by decide +kernel
theorem dX6_makeSnapshot_113 : decode cX6_makeSnapshot 113 = .ok (.dup2, 1) := by decide +kernel
theorem dX6_makeSnapshot_114 : decode cX6_makeSnapshot 114 = .ok (.iaload, 1) := by decide +kernel
theorem dX6_makeSnapshot_115 : decode cX6_makeSnapshot 115 = .ok (.iconst 1, 1) := by decide +kernel
theorem dX6_makeSnapshot_116 : decode cX6_makeSnapshot 116 = .ok (.iadd, 1) := by decide +kernel
theorem dX6_makeSnapshot_117 : decode cX6_makeSnapshot 117 = .ok (.iastore, 1) := by decide +kernel
theorem dX6_makeSnapshot_118 : decode cX6_makeSnapshot 118 = .ok (.aload_n 0, 1) := by decide +kernel
theorem dX6_makeSnapshot_119 : decode cX6_makeSnapshot 119 = .ok (.getfield 16, 3) := by decide +kernel
theorem dX6_makeSnapshot_122 : decode cX6_makeSnapshot 122 = .ok (.iconst 4, 1) := by decide +kernel
theorem dX6_makeSnapshot_123 : decode cX6_makeSnapshot 123 = .ok (.dup2, 1) := by decide +kernel
theorem dX6_makeSnapshot_124 : decode cX6_makeSnapshot 124 = .ok (.iaload, 1) := by decide +kernel
theorem dX6_makeSnapshot_125 : decode cX6_makeSnapshot 125 = .ok (.iconst 1, 1) := by decide +kernel
theorem dX6_makeSnapshot_126 : decode cX6_makeSnapshot 126 = .ok (.iadd, 1) := by decide +kernel
theorem dX6_makeSnapshot_127 : decode cX6_makeSnapshot 127 = .ok (.iastore, 1) := by decide +kernel
theorem dX6_makeSnapshot_128 : decode cX6_makeSnapshot 128 = .ok (.iload_n 3, 1) := by decide +kernel
theorem dX6_makeSnapshot_129 : decode cX6_makeSnapshot 129 = .ok (.ireturn, 1) := by decide +kernel
theorem dX6_makeBlock_0 : decode cX6_makeBlock 0 = .ok (.aload_n 0, 1) := by decide +kernel
theorem dX6_makeBlock_1 : decode cX6_makeBlock 1 = .ok (.getfield 16, 3) := by decide +kernel
theorem dX6_makeBlock_4 : decode cX6_makeBlock 4 = .ok (.iconst 2, 1) := by decide +kernel
theorem dX6_makeBlock_5 : decode cX6_makeBlock 5 = .ok (.dup2, 1) := by decide +kernel
theorem dX6_makeBlock_6 : decode cX6_makeBlock 6 = .ok (.iaload, 1) := by decide +kernel
theorem dX6_makeBlock_7 : decode cX6_makeBlock 7 = .ok (.iconst 1, 1) := by decide +kernel
theorem dX6_makeBlock_8 : decode cX6_makeBlock 8 = .ok (.iadd, 1) := by decide +kernel
theorem dX6_makeBlock_9 : decode cX6_makeBlock 9 = .ok (.iastore, 1) := by decide +kernel
theorem dX6_makeBlock_10 : decode cX6_makeBlock 10 = .ok (.aload_n 0, 1) := by decide +kernel
theorem dX6_makeBlock_11 : decode cX6_makeBlock 11 = .ok (.bipush 16, 2) := by decide +kernel
theorem dX6_makeBlock_13 : decode cX6_makeBlock 13 = .ok (.iload_n 1, 1) := by decide +kernel
theorem dX6_makeBlock_14 : decode cX6_makeBlock 14 = .ok (.iadd, 1) := by decide +kernel
theorem dX6_makeBlock_15 : decode cX6_makeBlock 15 = .ok (.iload_n 2, 1) := by decide +kernel
theorem dX6_makeBlock_16 : decode cX6_makeBlock 16 = .ok (.aload_n 0, 1) := by decide +kernel
theorem dX6_makeBlock_17 : decode cX6_makeBlock 17 = .ok (.getfield 16, 3) := by decide +kernel
theorem dX6_makeBlock_20 : decode cX6_makeBlock 20 = .ok (.iconst 2, 1) := by decide +kernel
theorem dX6_makeBlock_21 : decode cX6_makeBlock 21 = .ok (.iaload, 1) := by decide +kernel
theorem dX6_makeBlock_22 : decode cX6_makeBlock 22 = .ok (.iload_n 3, 1) := by decide +kernel
theorem dX6_makeBlock_23 : decode cX6_makeBlock 23 = .ok (.invokevirtual 83, 3) := by decide +kernel
theorem dX6_makeBlock_26 : decode cX6_makeBlock 26 = .ok (.aload_n 0, 1) := by decide +kernel
theorem dX6_makeBlock_27 : decode cX6_makeBlock 27 = .ok (.getfield 16, 3) := by decide +kernel
theorem dX6_makeBlock_30 : decode cX6_makeBlock 30 = .ok (.iconst 2, 1) := by decide +kernel
theorem dX6_makeBlock_31 : decode cX6_makeBlock 31 = .ok (.iaload, 1) := by decide +kernel
theorem dX6_makeBlock_32 : decode cX6_makeBlock 32 = .ok (.ireturn, 1) := by decide +kernel
theorem dX6_newVolume_0 : decode cX6_newVolume 0 = .ok (.aload_n 0, 1) := by decide +kernel
theorem dX6_newVolume_1 : decode cX6_newVolume 1 = .ok (.iconst 0, 1) := by decide +kernel
theorem dX6_newVolume_2 : decode cX6_newVolume 2 = .ok (.putfield 43, 3) := by decide +kernel
theorem dX6_newVolume_5 : decode cX6_newVolume 5 = .ok (.aload_n 0, 1) := by decide +kernel
theorem dX6_newVolume_6 : decode cX6_newVolume 6 = .ok (.getfield 16, 3) := by decide +kernel
theorem dX6_newVolume_9 : decode cX6_newVolume 9 = .ok (.iconst 3, 1) := by decide +kernel
theorem dX6_newVolume_10 : decode cX6_newVolume 10 = .ok (.iaload, 1) := by decide +kernel
theorem dX6_newVolume_11 : decode cX6_newVolume 11 = .ok (.bipush 6, 2) := by decide +kernel
theorem dX6_newVolume_13 : decode cX6_newVolume 13 = .ok (.if_icmp .ne 6, 3) := by decide +kernel
theorem dX6_newVolume_16 : decode cX6_newVolume 16 = .ok (.bipush (-3), 2) := by decide +kernel
theorem dX6_newVolume_18 : decode cX6_newVolume 18 = .ok (.ireturn, 1) := by decide +kernel
theorem dX6_newVolume_19 : decode cX6_newVolume 19 = .ok (.aload_n 0, 1) := by decide +kernel
theorem dX6_newVolume_20 : decode cX6_newVolume 20 = .ok (.invokevirtual 183, 3) := by decide +kernel
theorem dX6_newVolume_23 : decode cX6_newVolume 23 = .ok (.aload_n 0, 1) := by decide +kernel
theorem dX6_newVolume_24 : decode cX6_newVolume 24 = .ok (.iconst (-1), 1) := by decide +kernel
theorem dX6_newVolume_25 : decode cX6_newVolume 25 = .ok (.iconst 0, 1) := by decide +kernel
theorem dX6_newVolume_26 : decode cX6_newVolume 26 = .ok (.invokevirtual 186, 3) := by decide +kernel
theorem dX6_newVolume_29 : decode cX6_newVolume 29 = .ok (.ireturn, 1) := by decide +kernel
theorem dX6_write_0 : decode cX6_write 0 = .ok (.aload_n 0, 1) := by decide +kernel
theorem dX6_write_1 : decode cX6_write 1 = .ok (.iconst 0, 1) := by decide +kernel
theorem dX6_write_2 : decode cX6_write 2 = .ok (.putfield 43, 3) := by decide +kernel
theorem dX6_write_5 : decode cX6_write 5 = .ok (.aload_n 0, 1) := by decide +kernel
theorem dX6_write_6 : decode cX6_write 6 = .ok (.iload_n 1, 1) := by decide +kernel
theorem dX6_write_7 : decode cX6_write 7 = .ok (.iload_n 2, 1) := by decide +kernel
theorem dX6_write_8 : decode cX6_write 8 = .ok (.iload_n 3, 1) := by decide +kernel
theorem dX6_write_9 : decode cX6_write 9 = .ok (.invokevirtual 176, 3) := by decide +kernel
theorem dX6_write_12 : decode cX6_write 12 = .ok (.istore 4, 2) := by decide +kernel
theorem dX6_write_14 : decode cX6_write 14 = .ok (.iload 4, 2) := by decide +kernel
theorem dX6_write_16 : decode cX6_write 16 = .ok (.ifCond .eq 6, 3) := by decide +kernel
theorem dX6_write_19 : decode cX6_write 19 = .ok (.iload 4, 2) := by decide +kernel
theorem dX6_write_21 : decode cX6_write 21 = .ok (.ireturn, 1) := by decide +kernel
theorem dX6_write_22 : decode cX6_write 22 = .ok (.aload_n 0, 1) := by decide +kernel
theorem dX6_write_23 : decode cX6_write 23 = .ok (.invokevirtual 183, 3) := by decide +kernel
theorem dX6_write_26 : decode cX6_write 26 = .ok (.aload_n 0, 1) := by decide +kernel
theorem dX6_write_27 : decode cX6_write 27 = .ok (.iload_n 1, 1) := by decide +kernel
theorem dX6_write_28 : decode cX6_write 28 = .ok (.iload_n 2, 1) := by decide +kernel
theorem dX6_write_29 : decode cX6_write 29 = .ok (.iload_n 3, 1) := by decide +kernel
theorem dX6_write_30 : decode cX6_write 30 = .ok (.invokevirtual 189, 3) := by decide +kernel
theorem dX6_write_33 : decode cX6_write 33 = .ok (.ireturn, 1) := by decide +kernel
theorem dX6_trim_0 : decode cX6_trim 0 = .ok (.aload_n 0, 1) := by decide +kernel
theorem dX6_trim_1 : decode cX6_trim 1 = .ok (.iconst 0, 1) := by decide +kernel
theorem dX6_trim_2 : decode cX6_trim 2 = .ok (.putfield 43, 3) := by decide +kernel
theorem dX6_trim_5 : decode cX6_trim 5 = .ok (.aload_n 0, 1) := by decide +kernel
theorem dX6_trim_6 : decode cX6_trim 6 = .ok (.iload_n 1, 1) := by decide +kernel
theorem dX6_trim_7 : decode cX6_trim 7 = .ok (.invokevirtual 74, 3) := by decide +kernel
theorem dX6_trim_10 : decode cX6_trim 10 = .ok (.ifCond .ne 5, 3) := by decide +kernel
theorem dX6_trim_13 : decode cX6_trim 13 = .ok (.iconst (-1), 1) := by decide +kernel
theorem dX6_trim_14 : decode cX6_trim 14 = .ok (.ireturn, 1) := by decide +kernel
theorem dX6_trim_15 : decode cX6_trim 15 = .ok (.iload_n 2, 1) := by decide +kernel
theorem dX6_trim_16 : decode cX6_trim 16 = .ok (.invokestatic 141, 3) := by decide +kernel
theorem dX6_trim_19 : decode cX6_trim 19 = .ok (.ifCond .ne 6, 3) := by decide +kernel
theorem dX6_trim_22 : decode cX6_trim 22 = .ok (.bipush (-2), 2) := by decide +kernel
theorem dX6_trim_24 : decode cX6_trim 24 = .ok (.ireturn, 1) := by decide +kernel
theorem dX6_trim_25 : decode cX6_trim 25 = .ok (.aload_n 0, 1) := by decide +kernel
theorem dX6_trim_26 : decode cX6_trim 26 = .ok (.bipush 16, 2) := by decide +kernel
theorem dX6_trim_28 : decode cX6_trim 28 = .ok (.iload_n 1, 1) := by decide +kernel
theorem dX6_trim_29 : decode cX6_trim 29 = .ok (.iadd, 1) := by decide +kernel
theorem dX6_trim_30 : decode cX6_trim 30 = .ok (.iload_n 2, 1) := by decide +kernel
theorem dX6_trim_31 : decode cX6_trim 31 = .ok (.invokevirtual 77, 3) := by decide +kernel
theorem dX6_trim_34 : decode cX6_trim 34 = .ok (.ifCond .ne 6, 3) := by decide +kernel
theorem dX6_trim_37 : decode cX6_trim 37 = .ok (.bipush (-4), 2) := by decide +kernel
theorem dX6_trim_39 : decode cX6_trim 39 = .ok (.ireturn, 1) := by decide +kernel
theorem dX6_trim_40 : decode cX6_trim 40 = .ok (.aload_n 0, 1) := by decide +kernel
theorem dX6_trim_41 : decode cX6_trim 41 = .ok (.invokevirtual 183, 3) := by decide +kernel
theorem dX6_trim_44 : decode cX6_trim 44 = .ok (.aload_n 0, 1) := by decide +kernel
theorem dX6_trim_45 : decode cX6_trim 45 = .ok (.iconst 1, 1) := by decide +kernel
theorem dX6_trim_46 : decode cX6_trim 46 = .ok (.invokevirtual 113, 3) := by decide +kernel
theorem dX6_trim_49 : decode cX6_trim 49 = .ok (.istore_n 3, 1) := by decide +kernel
theorem dX6_trim_50 : decode cX6_trim 50 = .ok (.aload_n 0, 1) := by decide +kernel
theorem dX6_trim_51 : decode cX6_trim 51 = .ok (.bipush 16, 2) := by decide +kernel
theorem dX6_trim_53 : decode cX6_trim 53 = .ok (.iload_n 1, 1) := by decide +kernel
theorem dX6_trim_54 : decode cX6_trim 54 = .ok (.iadd, 1) := by decide +kernel
theorem dX6_trim_55 : decode cX6_trim 55 = .ok (.iload_n 2, 1) := by decide +kernel
theorem dX6_trim_56 : decode cX6_trim 56 = .ok (.iconst 0, 1) := by decide +kernel
theorem dX6_trim_57 : decode cX6_trim 57 = .ok (.iconst 0, 1) := by decide +kernel
theorem dX6_trim_58 : decode cX6_trim 58 = .ok (.invokevirtual 83, 3) := by decide +kernel
theorem dX6_trim_61 : decode cX6_trim 61 = .ok (.iload_n 3, 1) := by decide +kernel
theorem dX6_trim_62 : decode cX6_trim 62 = .ok (.aload_n 0, 1) := by decide +kernel
theorem dX6_trim_63 : decode cX6_trim 63 = .ok (.iconst 1, 1) := by decide +kernel
theorem dX6_trim_64 : decode cX6_trim 64 = .ok (.invokevirtual 113, 3) := by decide +kernel
theorem dX6_trim_67 : decode cX6_trim 67 = .ok (.isub, 1) := by decide +kernel
theorem dX6_trim_68 : decode cX6_trim 68 = .ok (.ireturn, 1) := by decide +kernel
theorem dX6_take_0 : decode cX6_take 0 = .ok (.aload_n 0, 1) := by decide +kernel
theorem dX6_take_1 : decode cX6_take 1 = .ok (.iconst 0, 1) := by decide +kernel
theorem dX6_take_2 : decode cX6_take 2 = .ok (.putfield 43, 3) := by decide +kernel
theorem dX6_take_5 : decode cX6_take 5 = .ok (.aload_n 0, 1) := by decide +kernel
theorem dX6_take_6 : decode cX6_take 6 = .ok (.iload_n 1, 1) := by decide +kernel
theorem dX6_take_7 : decode cX6_take 7 = .ok (.invokevirtual 74, 3) := by decide +kernel
theorem dX6_take_10 : decode cX6_take 10 = .ok (.ifCond .ne 5, 3) := by decide +kernel
theorem dX6_take_13 : decode cX6_take 13 = .ok (.iconst (-1), 1) := by decide +kernel
theorem dX6_take_14 : decode cX6_take 14 = .ok (.ireturn, 1) := by decide +kernel
theorem dX6_take_15 : decode cX6_take 15 = .ok (.aload_n 0, 1) := by decide +kernel
theorem dX6_take_16 : decode cX6_take 16 = .ok (.getfield 16, 3) := by decide +kernel
theorem dX6_take_19 : decode cX6_take 19 = .ok (.iconst 4, 1) := by decide +kernel
theorem dX6_take_20 : decode cX6_take 20 = .ok (.iaload, 1) := by decide +kernel
theorem dX6_take_21 : decode cX6_take 21 = .ok (.bipush 16, 2) := by decide +kernel
theorem dX6_take_23 : decode cX6_take 23 = .ok (.if_icmp .ne 6, 3) := by decide +kernel
theorem dX6_take_26 : decode cX6_take 26 = .ok (.bipush (-3), 2) := by decide +kernel
theorem dX6_take_28 : decode cX6_take 28 = .ok (.ireturn, 1) := by decide +kernel
theorem dX6_take_29 : decode cX6_take 29 = .ok (.aload_n 0, 1) := by decide +kernel
theorem dX6_take_30 : decode cX6_take 30 = .ok (.invokevirtual 183, 3) := by decide +kernel
theorem dX6_take_33 : decode cX6_take 33 = .ok (.aload_n 0, 1) := by decide +kernel
theorem dX6_take_34 : decode cX6_take 34 = .ok (.iload_n 1, 1) := by decide +kernel
theorem dX6_take_35 : decode cX6_take 35 = .ok (.iconst 0, 1) := by decide +kernel
theorem dX6_take_36 : decode cX6_take 36 = .ok (.invokevirtual 192, 3) := by decide +kernel
theorem dX6_take_39 : decode cX6_take 39 = .ok (.ireturn, 1) := by decide +kernel
theorem dX6_clone_0 : decode cX6_clone 0 = .ok (.aload_n 0, 1) := by decide +kernel
theorem dX6_clone_1 : decode cX6_clone 1 = .ok (.iconst 0, 1) := by decide +kernel
theorem dX6_clone_2 : decode cX6_clone 2 = .ok (.putfield 43, 3) := by decide +kernel
theorem dX6_clone_5 : decode cX6_clone 5 = .ok (.aload_n 0, 1) := by decide +kernel
theorem dX6_clone_6 : decode cX6_clone 6 = .ok (.iload_n 1, 1) := by decide +kernel
theorem dX6_clone_7 : decode cX6_clone 7 = .ok (.invokevirtual 70, 3) := by decide +kernel
theorem dX6_clone_10 : decode cX6_clone 10 = .ok (.ifCond .ne 5, 3) := by decide +kernel
theorem dX6_clone_13 : decode cX6_clone 13 = .ok (.iconst (-1), 1) := by decide +kernel
theorem dX6_clone_14 : decode cX6_clone 14 = .ok (.ireturn, 1) := by decide +kernel
theorem dX6_clone_15 : decode cX6_clone 15 = .ok (.aload_n 0, 1) := by decide +kernel
theorem dX6_clone_16 : decode cX6_clone 16 = .ok (.getfield 16, 3) := by decide +kernel
theorem dX6_clone_19 : decode cX6_clone 19 = .ok (.iconst 3, 1) := by decide +kernel
theorem dX6_clone_20 : decode cX6_clone 20 = .ok (.iaload, 1) := by decide +kernel
theorem dX6_clone_21 : decode cX6_clone 21 = .ok (.bipush 6, 2) := by decide +kernel
theorem dX6_clone_23 : decode cX6_clone 23 = .ok (.if_icmp .ne 6, 3) := by decide +kernel
theorem dX6_clone_26 : decode cX6_clone 26 = .ok (.bipush (-3), 2) := by decide +kernel
theorem dX6_clone_28 : decode cX6_clone 28 = .ok (.ireturn, 1) := by decide +kernel
theorem dX6_clone_29 : decode cX6_clone 29 = .ok (.aload_n 0, 1) := by decide +kernel
theorem dX6_clone_30 : decode cX6_clone 30 = .ok (.iload_n 1, 1) := by decide +kernel
theorem dX6_clone_31 : decode cX6_clone 31 = .ok (.invokevirtual 132, 3) := by decide +kernel
theorem dX6_clone_34 : decode cX6_clone 34 = .ok (.invokestatic 121, 3) := by decide +kernel
theorem dX6_clone_37 : decode cX6_clone 37 = .ok (.aload_n 0, 1) := by decide +kernel
theorem dX6_clone_38 : decode cX6_clone 38 = .ok (.getfield 16, 3) := by decide +kernel
theorem dX6_clone_41 : decode cX6_clone 41 = .ok (.iconst 1, 1) := by decide +kernel
theorem dX6_clone_42 : decode cX6_clone 42 = .ok (.iaload, 1) := by decide +kernel
theorem dX6_clone_43 : decode cX6_clone 43 = .ok (.if_icmp .lt 6, 3) := by decide +kernel
theorem dX6_clone_46 : decode cX6_clone 46 = .ok (.bipush (-4), 2) := by decide +kernel
theorem dX6_clone_48 : decode cX6_clone 48 = .ok (.ireturn, 1) := by decide +kernel
theorem dX6_clone_49 : decode cX6_clone 49 = .ok (.aload_n 0, 1) := by decide +kernel
theorem dX6_clone_50 : decode cX6_clone 50 = .ok (.invokevirtual 183, 3) := by decide +kernel
theorem dX6_clone_53 : decode cX6_clone 53 = .ok (.aload_n 0, 1) := by decide +kernel
theorem dX6_clone_54 : decode cX6_clone 54 = .ok (.iload_n 1, 1) := by decide +kernel
theorem dX6_clone_55 : decode cX6_clone 55 = .ok (.iconst 0, 1) := by decide +kernel
theorem dX6_clone_56 : decode cX6_clone 56 = .ok (.invokevirtual 186, 3) := by decide +kernel
theorem dX6_clone_59 : decode cX6_clone 59 = .ok (.ireturn, 1) := by decide +kernel
theorem dX6_promote_0 : decode cX6_promote 0 = .ok (.aload_n 0, 1) := by decide +kernel
theorem dX6_promote_1 : decode cX6_promote 1 = .ok (.iconst 0, 1) := by decide +kernel
theorem dX6_promote_2 : decode cX6_promote 2 = .ok (.putfield 43, 3) := by decide +kernel
theorem dX6_promote_5 : decode cX6_promote 5 = .ok (.aload_n 0, 1) := by decide +kernel
theorem dX6_promote_6 : decode cX6_promote 6 = .ok (.iload_n 1, 1) := by decide +kernel
theorem dX6_promote_7 : decode cX6_promote 7 = .ok (.invokevirtual 74, 3) := by decide +kernel
theorem dX6_promote_10 : decode cX6_promote 10 = .ok (.ifCond .ne 5, 3) := by decide +kernel
theorem dX6_promote_13 : decode cX6_promote 13 = .ok (.iconst (-1), 1) := by decide +kernel
theorem dX6_promote_14 : decode cX6_promote 14 = .ok (.ireturn, 1) := by decide +kernel
theorem dX6_promote_15 : decode cX6_promote 15 = .ok (.aload_n 0, 1) := by decide +kernel
theorem dX6_promote_16 : decode cX6_promote 16 = .ok (.iload_n 1, 1) := by decide +kernel
theorem dX6_promote_17 : decode cX6_promote 17 = .ok (.invokevirtual 107, 3) := by decide +kernel
theorem dX6_promote_20 : decode cX6_promote 20 = .ok (.istore_n 2, 1) := by decide +kernel
theorem dX6_promote_21 : decode cX6_promote 21 = .ok (.iload_n 2, 1) := by decide +kernel
theorem dX6_promote_22 : decode cX6_promote 22 = .ok (.ifCond .ge 6, 3) := by decide +kernel
theorem dX6_promote_25 : decode cX6_promote 25 = .ok (.bipush (-4), 2) := by decide +kernel
theorem dX6_promote_27 : decode cX6_promote 27 = .ok (.ireturn, 1) := by decide +kernel
theorem dX6_promote_28 : decode cX6_promote 28 = .ok (.aload_n 0, 1) := by decide +kernel
theorem dX6_promote_29 : decode cX6_promote 29 = .ok (.invokevirtual 183, 3) := by decide +kernel
theorem dX6_promote_32 : decode cX6_promote 32 = .ok (.aload_n 0, 1) := by decide +kernel
theorem dX6_promote_33 : decode cX6_promote 33 = .ok (.iload_n 2, 1) := by decide +kernel
theorem dX6_promote_34 : decode cX6_promote 34 = .ok (.iconst 1, 1) := by decide +kernel
theorem dX6_promote_35 : decode cX6_promote 35 = .ok (.invokevirtual 67, 3) := by decide +kernel
theorem dX6_promote_38 : decode cX6_promote 38 = .ok (.istore_n 3, 1) := by decide +kernel
theorem dX6_promote_39 : decode cX6_promote 39 = .ok (.aload_n 0, 1) := by decide +kernel
theorem dX6_promote_40 : decode cX6_promote 40 = .ok (.iload_n 2, 1) := by decide +kernel
theorem dX6_promote_41 : decode cX6_promote 41 = .ok (.invokevirtual 104, 3) := by decide +kernel
theorem dX6_promote_44 : decode cX6_promote 44 = .ok (.iconst 1, 1) := by decide +kernel
theorem dX6_promote_45 : decode cX6_promote 45 = .ok (.iadd, 1) := by decide +kernel
theorem dX6_promote_46 : decode cX6_promote 46 = .ok (.istore 4, 2) := by decide +kernel
theorem dX6_promote_48 : decode cX6_promote 48 = .ok (.aload_n 0, 1) := by decide +kernel
theorem dX6_promote_49 : decode cX6_promote 49 = .ok (.iload_n 1, 1) := by decide +kernel
theorem dX6_promote_50 : decode cX6_promote 50 = .ok (.iconst 4, 1) := by decide +kernel
theorem dX6_promote_51 : decode cX6_promote 51 = .ok (.invokevirtual 64, 3) := by decide +kernel
theorem dX6_promote_54 : decode cX6_promote 54 = .ok (.iconst 1, 1) := by decide +kernel
theorem dX6_promote_55 : decode cX6_promote 55 = .ok (.isub, 1) := by decide +kernel
theorem dX6_promote_56 : decode cX6_promote 56 = .ok (.istore 5, 2) := by decide +kernel
theorem dX6_promote_58 : decode cX6_promote 58 = .ok (.iload 5, 2) := by decide +kernel
theorem dX6_promote_60 : decode cX6_promote 60 = .ok (.ifCond .lt 34, 3) := by decide +kernel
theorem dX6_promote_63 : decode cX6_promote 63 = .ok (.aload_n 0, 1) := by decide +kernel
theorem dX6_promote_64 : decode cX6_promote 64 = .ok (.getfield 16, 3) := by decide +kernel
theorem dX6_promote_67 : decode cX6_promote 67 = .ok (.iload_n 1, 1) := by decide +kernel
theorem dX6_promote_68 : decode cX6_promote 68 = .ok (.iconst 5, 1) := by decide +kernel
theorem dX6_promote_69 : decode cX6_promote 69 = .ok (.iload 4, 2) := by decide +kernel
theorem dX6_promote_71 : decode cX6_promote 71 = .ok (.iadd, 1) := by decide +kernel
theorem dX6_promote_72 : decode cX6_promote 72 = .ok (.iload 5, 2) := by decide +kernel
theorem dX6_promote_74 : decode cX6_promote 74 = .ok (.iadd, 1) := by decide +kernel
theorem dX6_promote_75 : decode cX6_promote 75 = .ok (.invokestatic 53, 3) := by decide +kernel
theorem dX6_promote_78 : decode cX6_promote 78 = .ok (.aload_n 0, 1) := by decide +kernel
theorem dX6_promote_79 : decode cX6_promote 79 = .ok (.iload_n 1, 1) := by decide +kernel
theorem dX6_promote_80 : decode cX6_promote 80 = .ok (.iconst 5, 1) := by decide +kernel
theorem dX6_promote_81 : decode cX6_promote 81 = .ok (.iload 5, 2) := by decide +kernel
theorem dX6_promote_83 : decode cX6_promote 83 = .ok (.iadd, 1) := by decide +kernel
theorem dX6_promote_84 : decode cX6_promote 84 = .ok (.invokevirtual 64, 3) := by decide +kernel
theorem dX6_promote_87 : decode cX6_promote 87 = .ok (.iastore, 1) := by decide +kernel
theorem dX6_promote_88 : decode cX6_promote 88 = .ok (.iinc 5 (-1), 3) := by decide +kernel
theorem dX6_promote_91 : decode cX6_promote 91 = .ok (.goto (-33), 3) := by decide +kernel
theorem dX6_promote_94 : decode cX6_promote 94 = .ok (.iconst 0, 1) := by decide +kernel
theorem dX6_promote_95 : decode cX6_promote 95 = .ok (.istore 5, 2) := by decide +kernel
theorem dX6_promote_97 : decode cX6_promote 97 = .ok (.iload 5, 2) := by decide +kernel
theorem dX6_promote_99 : decode cX6_promote 99 = .ok (.iload 4, 2) := by decide +kernel
theorem dX6_promote_101 : decode cX6_promote 101 = .ok (.if_icmp .ge 47, 3) := by decide +kernel
theorem dX6_promote_104 : decode cX6_promote 104 = .ok (.aload_n 0, 1) := by decide +kernel
theorem dX6_promote_105 : decode cX6_promote 105 = .ok (.iload_n 3, 1) := by decide +kernel
theorem dX6_promote_106 : decode cX6_promote 106 = .ok (.iconst 5, 1) := by decide +kernel
theorem dX6_promote_107 : decode cX6_promote 107 = .ok (.iload 5, 2) := by decide +kernel
theorem dX6_promote_109 : decode cX6_promote 109 = .ok (.iadd, 1) := by decide +kernel
theorem dX6_promote_110 : decode cX6_promote 110 = .ok (.invokevirtual 64, 3) := by decide +kernel
theorem dX6_promote_113 : decode cX6_promote 113 = .ok (.istore 6, 2) := by decide +kernel
theorem dX6_promote_115 : decode cX6_promote 115 = .ok (.aload_n 0, 1) := by decide +kernel
theorem dX6_promote_116 : decode cX6_promote 116 = .ok (.getfield 16, 3) := by decide +kernel
theorem dX6_promote_119 : decode cX6_promote 119 = .ok (.iload_n 1, 1) := by decide +kernel
theorem dX6_promote_120 : decode cX6_promote 120 = .ok (.iconst 5, 1) := by decide +kernel
theorem dX6_promote_121 : decode cX6_promote 121 = .ok (.iload 5, 2) := by decide +kernel
theorem dX6_promote_123 : decode cX6_promote 123 = .ok (.iadd, 1) := by decide +kernel
theorem dX6_promote_124 : decode cX6_promote 124 = .ok (.invokestatic 53, 3) := by decide +kernel
theorem dX6_promote_127 : decode cX6_promote 127 = .ok (.iload 6, 2) := by decide +kernel
theorem dX6_promote_129 : decode cX6_promote 129 = .ok (.iastore, 1) := by decide +kernel
theorem dX6_promote_130 : decode cX6_promote 130 = .ok (.aload_n 0, 1) := by decide +kernel
theorem dX6_promote_131 : decode cX6_promote 131 = .ok (.getfield 16, 3) := by decide +kernel
theorem dX6_promote_134 : decode cX6_promote 134 = .ok (.iload 6, 2) := by decide +kernel
theorem dX6_promote_136 : decode cX6_promote 136 = .ok (.iconst 1, 1) := by decide +kernel
theorem dX6_promote_137 : decode cX6_promote 137 = .ok (.invokestatic 57, 3) := by decide +kernel
theorem dX6_promote_140 : decode cX6_promote 140 = .ok (.iload_n 1, 1) := by decide +kernel
theorem dX6_promote_141 : decode cX6_promote 141 = .ok (.iastore, 1) := by decide +kernel
theorem dX6_promote_142 : decode cX6_promote 142 = .ok (.iinc 5 1, 3) := by decide +kernel
theorem dX6_promote_145 : decode cX6_promote 145 = .ok (.goto (-48), 3) := by decide +kernel
theorem dX6_promote_148 : decode cX6_promote 148 = .ok (.iload 4, 2) := by decide +kernel
theorem dX6_promote_150 : decode cX6_promote 150 = .ok (.istore 5, 2) := by decide +kernel
theorem dX6_promote_152 : decode cX6_promote 152 = .ok (.iload 5, 2) := by decide +kernel
theorem dX6_promote_154 : decode cX6_promote 154 = .ok (.aload_n 0, 1) := by decide +kernel
theorem dX6_promote_155 : decode cX6_promote 155 = .ok (.iload_n 3, 1) := by decide +kernel
theorem dX6_promote_156 : decode cX6_promote 156 = .ok (.iconst 4, 1) := by decide +kernel
theorem dX6_promote_157 : decode cX6_promote 157 = .ok (.invokevirtual 64, 3) := by decide +kernel
theorem dX6_promote_160 : decode cX6_promote 160 = .ok (.if_icmp .ge 34, 3) := by decide +kernel
theorem dX6_promote_163 : decode cX6_promote 163 = .ok (.aload_n 0, 1) := by decide +kernel
theorem dX6_promote_164 : decode cX6_promote 164 = .ok (.getfield 16, 3) := by decide +kernel
theorem dX6_promote_167 : decode cX6_promote 167 = .ok (.iload_n 3, 1) := by decide +kernel
theorem dX6_promote_168 : decode cX6_promote 168 = .ok (.iconst 5, 1) := by decide +kernel
theorem dX6_promote_169 : decode cX6_promote 169 = .ok (.iload 5, 2) := by decide +kernel
theorem dX6_promote_171 : decode cX6_promote 171 = .ok (.iadd, 1) := by decide +kernel
theorem dX6_promote_172 : decode cX6_promote 172 = .ok (.iload 4, 2) := by decide +kernel
theorem dX6_promote_174 : decode cX6_promote 174 = .ok (.isub, 1) := by decide +kernel
theorem dX6_promote_175 : decode cX6_promote 175 = .ok (.invokestatic 53, 3) := by decide +kernel
theorem dX6_promote_178 : decode cX6_promote 178 = .ok (.aload_n 0, 1) := by decide +kernel
theorem dX6_promote_179 : decode cX6_promote 179 = .ok (.iload_n 3, 1) := by decide +kernel
theorem dX6_promote_180 : decode cX6_promote 180 = .ok (.iconst 5, 1) := by decide +kernel
theorem dX6_promote_181 : decode cX6_promote 181 = .ok (.iload 5, 2) := by decide +kernel
theorem dX6_promote_183 : decode cX6_promote 183 = .ok (.iadd, 1) := by decide +kernel
theorem dX6_promote_184 : decode cX6_promote 184 = .ok (.invokevirtual 64, 3) := by decide +kernel
theorem dX6_promote_187 : decode cX6_promote 187 = .ok (.iastore, 1) := by decide +kernel
theorem dX6_promote_188 : decode cX6_promote 188 = .ok (.iinc 5 1, 3) := by decide +kernel
theorem dX6_promote_191 : decode cX6_promote 191 = .ok (.goto (-39), 3) := by decide +kernel
theorem dX6_promote_194 : decode cX6_promote 194 = .ok (.aload_n 0, 1) := by decide +kernel
theorem dX6_promote_195 : decode cX6_promote 195 = .ok (.getfield 16, 3) := by decide +kernel
theorem dX6_promote_198 : decode cX6_promote 198 = .ok (.iload_n 1, 1) := by decide +kernel
theorem dX6_promote_199 : decode cX6_promote 199 = .ok (.iconst 4, 1) := by decide +kernel
theorem dX6_promote_200 : decode cX6_promote 200 = .ok (.invokestatic 53, 3) := by decide +kernel
theorem dX6_promote_203 : decode cX6_promote 203 = .ok (.dup2, 1) := by decide +kernel
theorem dX6_promote_204 : decode cX6_promote 204 = .ok (.iaload, 1) := by decide +kernel
theorem dX6_promote_205 : decode cX6_promote 205 = .ok (.iload 4, 2) := by decide +kernel
theorem dX6_promote_207 : decode cX6_promote 207 = .ok (.iadd, 1) := by decide +kernel
theorem dX6_promote_208 : decode cX6_promote 208 = .ok (.iastore, 1) := by decide +kernel
theorem dX6_promote_209 : decode cX6_promote 209 = .ok (.aload_n 0, 1) := by decide +kernel
theorem dX6_promote_210 : decode cX6_promote 210 = .ok (.getfield 16, 3) := by decide +kernel
theorem dX6_promote_213 : decode cX6_promote 213 = .ok (.iload_n 3, 1) := by decide +kernel
theorem dX6_promote_214 : decode cX6_promote 214 = .ok (.iconst 4, 1) := by decide +kernel
theorem dX6_promote_215 : decode cX6_promote 215 = .ok (.invokestatic 53, 3) := by decide +kernel
theorem dX6_promote_218 : decode cX6_promote 218 = .ok (.dup2, 1) := by decide +kernel
theorem dX6_promote_219 : decode cX6_promote 219 = .ok (.iaload, 1) := by decide +kernel
theorem dX6_promote_220 : decode cX6_promote 220 = .ok (.iload 4, 2) := by decide +kernel
theorem dX6_promote_222 : decode cX6_promote 222 = .ok (.isub, 1) := by decide +kernel
theorem dX6_promote_223 : decode cX6_promote 223 = .ok (.iastore, 1) := by decide +kernel
theorem dX6_promote_224 : decode cX6_promote 224 = .ok (.aload_n 0, 1) := by decide +kernel
theorem dX6_promote_225 : decode cX6_promote 225 = .ok (.getfield 16, 3) := by decide +kernel
theorem dX6_promote_228 : decode cX6_promote 228 = .ok (.iload_n 1, 1) := by decide +kernel
theorem dX6_promote_229 : decode cX6_promote 229 = .ok (.iconst 1, 1) := by decide +kernel
theorem dX6_promote_230 : decode cX6_promote 230 = .ok (.invokestatic 53, 3) := by decide +kernel
theorem dX6_promote_233 : decode cX6_promote 233 = .ok (.aload_n 0, 1) := by decide +kernel
theorem dX6_promote_234 : decode cX6_promote 234 = .ok (.iload_n 3, 1) := by decide +kernel
theorem dX6_promote_235 : decode cX6_promote 235 = .ok (.iconst 1, 1) := by decide +kernel
theorem dX6_promote_236 : decode cX6_promote 236 = .ok (.invokevirtual 64, 3) := by decide +kernel
theorem dX6_promote_239 : decode cX6_promote 239 = .ok (.iastore, 1) := by decide +kernel
theorem dX6_promote_240 : decode cX6_promote 240 = .ok (.aload_n 0, 1) := by decide +kernel
theorem dX6_promote_241 : decode cX6_promote 241 = .ok (.getfield 16, 3) := by decide +kernel
theorem dX6_promote_244 : decode cX6_promote 244 = .ok (.iload_n 3, 1) := by decide +kernel
theorem dX6_promote_245 : decode cX6_promote 245 = .ok (.iconst 1, 1) := by decide +kernel
theorem dX6_promote_246 : decode cX6_promote 246 = .ok (.invokestatic 53, 3) := by decide +kernel
theorem dX6_promote_249 : decode cX6_promote 249 = .ok (.iload_n 2, 1) := by decide +kernel
theorem dX6_promote_250 : decode cX6_promote 250 = .ok (.iconst 1, 1) := by decide +kernel
theorem dX6_promote_251 : decode cX6_promote 251 = .ok (.iadd, 1) := by decide +kernel
theorem dX6_promote_252 : decode cX6_promote 252 = .ok (.iastore, 1) := by decide +kernel
theorem dX6_promote_253 : decode cX6_promote 253 = .ok (.iload 4, 2) := by decide +kernel
theorem dX6_promote_255 : decode cX6_promote 255 = .ok (.ireturn, 1) := by decide +kernel
theorem dX6_remove_0 : decode cX6_remove 0 = .ok (.aload_n 0, 1) := by decide +kernel
theorem dX6_remove_1 : decode cX6_remove 1 = .ok (.iload_n 1, 1) := by decide +kernel
theorem dX6_remove_2 : decode cX6_remove 2 = .ok (.iconst 1, 1) := by decide +kernel
theorem dX6_remove_3 : decode cX6_remove 3 = .ok (.invokevirtual 67, 3) := by decide +kernel
theorem dX6_remove_6 : decode cX6_remove 6 = .ok (.istore_n 2, 1) := by decide +kernel
theorem dX6_remove_7 : decode cX6_remove 7 = .ok (.aload_n 0, 1) := by decide +kernel
theorem dX6_remove_8 : decode cX6_remove 8 = .ok (.iload_n 1, 1) := by decide +kernel
theorem dX6_remove_9 : decode cX6_remove 9 = .ok (.invokevirtual 104, 3) := by decide +kernel
theorem dX6_remove_12 : decode cX6_remove 12 = .ok (.istore_n 3, 1) := by decide +kernel
theorem dX6_remove_13 : decode cX6_remove 13 = .ok (.iload_n 3, 1) := by decide +kernel
theorem dX6_remove_14 : decode cX6_remove 14 = .ok (.iconst 1, 1) := by decide +kernel
theorem dX6_remove_15 : decode cX6_remove 15 = .ok (.iadd, 1) := by decide +kernel
theorem dX6_remove_16 : decode cX6_remove 16 = .ok (.aload_n 0, 1) := by decide +kernel
theorem dX6_remove_17 : decode cX6_remove 17 = .ok (.iload_n 2, 1) := by decide +kernel
theorem dX6_remove_18 : decode cX6_remove 18 = .ok (.iconst 4, 1) := by decide +kernel
theorem dX6_remove_19 : decode cX6_remove 19 = .ok (.invokevirtual 64, 3) := by decide +kernel
theorem dX6_remove_22 : decode cX6_remove 22 = .ok (.if_icmp .ge 31, 3) := by decide +kernel
theorem dX6_remove_25 : decode cX6_remove 25 = .ok (.aload_n 0, 1) := by decide +kernel
theorem dX6_remove_26 : decode cX6_remove 26 = .ok (.getfield 16, 3) := by decide +kernel
theorem dX6_remove_29 : decode cX6_remove 29 = .ok (.iload_n 2, 1) := by decide +kernel
theorem dX6_remove_30 : decode cX6_remove 30 = .ok (.iconst 5, 1) := by decide +kernel
theorem dX6_remove_31 : decode cX6_remove 31 = .ok (.iload_n 3, 1) := by decide +kernel
theorem dX6_remove_32 : decode cX6_remove 32 = .ok (.iadd, 1) := by decide +kernel
theorem dX6_remove_33 : decode cX6_remove 33 = .ok (.invokestatic 53, 3) := by decide +kernel
theorem dX6_remove_36 : decode cX6_remove 36 = .ok (.aload_n 0, 1) := by decide +kernel
theorem dX6_remove_37 : decode cX6_remove 37 = .ok (.iload_n 2, 1) := by decide +kernel
theorem dX6_remove_38 : decode cX6_remove 38 = .ok (.iconst 5, 1) := by decide +kernel
theorem dX6_remove_39 : decode cX6_remove 39 = .ok (.iload_n 3, 1) := by decide +kernel
theorem dX6_remove_40 : decode cX6_remove 40 = .ok (.iadd, 1) := by decide +kernel
theorem dX6_remove_41 : decode cX6_remove 41 = .ok (.iconst 1, 1) := by decide +kernel
theorem dX6_remove_42 : decode cX6_remove 42 = .ok (.iadd, 1) := by decide +kernel
theorem dX6_remove_43 : decode cX6_remove 43 = .ok (.invokevirtual 64, 3) := by decide +kernel
theorem dX6_remove_46 : decode cX6_remove 46 = .ok (.iastore, 1) := by decide +kernel
theorem dX6_remove_47 : decode cX6_remove 47 = .ok (.iinc 3 1, 3) := by decide +kernel
theorem dX6_remove_50 : decode cX6_remove 50 = .ok (.goto (-37), 3) := by decide +kernel
theorem dX6_remove_53 : decode cX6_remove 53 = .ok (.aload_n 0, 1) := by decide +kernel
theorem dX6_remove_54 : decode cX6_remove 54 = .ok (.getfield 16, 3) := by decide +kernel
theorem dX6_remove_57 : decode cX6_remove 57 = .ok (.iload_n 2, 1) := by decide +kernel
theorem dX6_remove_58 : decode cX6_remove 58 = .ok (.iconst 4, 1) := by decide +kernel
theorem dX6_remove_59 : decode cX6_remove 59 = .ok (.invokestatic 53, 3) := by decide +kernel
theorem dX6_remove_62 : decode cX6_remove 62 = .ok (.dup2, 1) := by decide +kernel
theorem dX6_remove_63 : decode cX6_remove 63 = .ok (.iaload, 1) := by decide +kernel
theorem dX6_remove_64 : decode cX6_remove 64 = .ok (.iconst 1, 1) := by decide +kernel
theorem dX6_remove_65 : decode cX6_remove 65 = .ok (.isub, 1) := by decide +kernel
theorem dX6_remove_66 : decode cX6_remove 66 = .ok (.iastore, 1) := by decide +kernel
theorem dX6_remove_67 : decode cX6_remove 67 = .ok (.aload_n 0, 1) := by decide +kernel
theorem dX6_remove_68 : decode cX6_remove 68 = .ok (.getfield 16, 3) := by decide +kernel
theorem dX6_remove_71 : decode cX6_remove 71 = .ok (.iload_n 1, 1) := by decide +kernel
theorem dX6_remove_72 : decode cX6_remove 72 = .ok (.iconst 0, 1) := by decide +kernel
theorem dX6_remove_73 : decode cX6_remove 73 = .ok (.invokestatic 57, 3) := by decide +kernel
theorem dX6_remove_76 : decode cX6_remove 76 = .ok (.iconst 0, 1) := by decide +kernel
theorem dX6_remove_77 : decode cX6_remove 77 = .ok (.iastore, 1) := by decide +kernel
theorem dX6_remove_78 : decode cX6_remove 78 = .ok (.iconst 0, 1) := by decide +kernel
theorem dX6_remove_79 : decode cX6_remove 79 = .ok (.istore_n 3, 1) := by decide +kernel
theorem dX6_remove_80 : decode cX6_remove 80 = .ok (.iload_n 3, 1) := by decide +kernel
theorem dX6_remove_81 : decode cX6_remove 81 = .ok (.bipush 12, 2) := by decide +kernel
theorem dX6_remove_83 : decode cX6_remove 83 = .ok (.if_icmp .ge 17, 3) := by decide +kernel
theorem dX6_remove_86 : decode cX6_remove 86 = .ok (.aload_n 0, 1) := by decide +kernel
theorem dX6_remove_87 : decode cX6_remove 87 = .ok (.iload_n 1, 1) := by decide +kernel
theorem dX6_remove_88 : decode cX6_remove 88 = .ok (.iload_n 3, 1) := by decide +kernel
theorem dX6_remove_89 : decode cX6_remove 89 = .ok (.iconst 0, 1) := by decide +kernel
theorem dX6_remove_90 : decode cX6_remove 90 = .ok (.iconst 0, 1) := by decide +kernel
theorem dX6_remove_91 : decode cX6_remove 91 = .ok (.invokevirtual 83, 3) := by decide +kernel
theorem dX6_remove_94 : decode cX6_remove 94 = .ok (.iinc 3 1, 3) := by decide +kernel
theorem dX6_remove_97 : decode cX6_remove 97 = .ok (.goto (-17), 3) := by decide +kernel
theorem dX6_remove_100 : decode cX6_remove 100 = .ok (.return_, 1) := by decide +kernel
theorem dX6_canRemove_0 : decode cX6_canRemove 0 = .ok (.iconst 0, 1) := by decide +kernel
theorem dX6_canRemove_1 : decode cX6_canRemove 1 = .ok (.istore_n 2, 1) := by decide +kernel
theorem dX6_canRemove_2 : decode cX6_canRemove 2 = .ok (.iload_n 2, 1) := by decide +kernel
theorem dX6_canRemove_3 : decode cX6_canRemove 3 = .ok (.bipush 16, 2) := by decide +kernel
theorem dX6_canRemove_5 : decode cX6_canRemove 5 = .ok (.if_icmp .ge 27, 3) := by decide +kernel
theorem dX6_canRemove_8 : decode cX6_canRemove 8 = .ok (.iload_n 1, 1) := by decide +kernel
theorem dX6_canRemove_9 : decode cX6_canRemove 9 = .ok (.iload_n 2, 1) := by decide +kernel
theorem dX6_canRemove_10 : decode cX6_canRemove 10 = .ok (.invokestatic 101, 3) := by decide +kernel
theorem dX6_canRemove_13 : decode cX6_canRemove 13 = .ok (.ifCond .eq 13, 3) := by decide +kernel
theorem dX6_canRemove_16 : decode cX6_canRemove 16 = .ok (.aload_n 0, 1) := by decide +kernel
theorem dX6_canRemove_17 : decode cX6_canRemove 17 = .ok (.iload_n 2, 1) := by decide +kernel
theorem dX6_canRemove_18 : decode cX6_canRemove 18 = .ok (.invokevirtual 159, 3) := by decide +kernel
theorem dX6_canRemove_21 : decode cX6_canRemove 21 = .ok (.ifCond .eq 5, 3) := by decide +kernel
theorem dX6_canRemove_24 : decode cX6_canRemove 24 = .ok (.iconst 0, 1) := by decide +kernel
theorem dX6_canRemove_25 : decode cX6_canRemove 25 = .ok (.ireturn, 1) := by decide +kernel
theorem dX6_canRemove_26 : decode cX6_canRemove 26 = .ok (.iinc 2 1, 3) := by decide +kernel
theorem dX6_canRemove_29 : decode cX6_canRemove 29 = .ok (.goto (-27), 3) := by decide +kernel
theorem dX6_canRemove_32 : decode cX6_canRemove 32 = .ok (.iconst 1, 1) := by decide +kernel
theorem dX6_canRemove_33 : decode cX6_canRemove 33 = .ok (.ireturn, 1) := by decide +kernel
theorem dX6_removeAll_0 : decode cX6_removeAll 0 = .ok (.iconst 0, 1) := by decide +kernel
theorem dX6_removeAll_1 : decode cX6_removeAll 1 = .ok (.istore_n 2, 1) := by decide +kernel
theorem dX6_removeAll_2 : decode cX6_removeAll 2 = .ok (.iload_n 2, 1) := by decide +kernel
theorem dX6_removeAll_3 : decode cX6_removeAll 3 = .ok (.bipush 16, 2) := by decide +kernel
theorem dX6_removeAll_5 : decode cX6_removeAll 5 = .ok (.if_icmp .ge 22, 3) := by decide +kernel
theorem dX6_removeAll_8 : decode cX6_removeAll 8 = .ok (.iload_n 1, 1) := by decide +kernel
theorem dX6_removeAll_9 : decode cX6_removeAll 9 = .ok (.iload_n 2, 1) := by decide +kernel
theorem dX6_removeAll_10 : decode cX6_removeAll 10 = .ok (.invokestatic 101, 3) := by decide +kernel
theorem dX6_removeAll_13 : decode cX6_removeAll 13 = .ok (.ifCond .eq 8, 3) := by decide +kernel
theorem dX6_removeAll_16 : decode cX6_removeAll 16 = .ok (.aload_n 0, 1) := by decide +kernel
theorem dX6_removeAll_17 : decode cX6_removeAll 17 = .ok (.iload_n 2, 1) := by decide +kernel
theorem dX6_removeAll_18 : decode cX6_removeAll 18 = .ok (.invokevirtual 195, 3) := by decide +kernel
theorem dX6_removeAll_21 : decode cX6_removeAll 21 = .ok (.iinc 2 1, 3) := by decide +kernel
theorem dX6_removeAll_24 : decode cX6_removeAll 24 = .ok (.goto (-22), 3) := by decide +kernel
theorem dX6_removeAll_27 : decode cX6_removeAll 27 = .ok (.return_, 1) := by decide +kernel
theorem dX6_destroy_0 : decode cX6_destroy 0 = .ok (.aload_n 0, 1) := by decide +kernel
theorem dX6_destroy_1 : decode cX6_destroy 1 = .ok (.iconst 0, 1) := by decide +kernel
theorem dX6_destroy_2 : decode cX6_destroy 2 = .ok (.putfield 43, 3) := by decide +kernel
theorem dX6_destroy_5 : decode cX6_destroy 5 = .ok (.aload_n 0, 1) := by decide +kernel
theorem dX6_destroy_6 : decode cX6_destroy 6 = .ok (.iload_n 1, 1) := by decide +kernel
theorem dX6_destroy_7 : decode cX6_destroy 7 = .ok (.invokevirtual 70, 3) := by decide +kernel
theorem dX6_destroy_10 : decode cX6_destroy 10 = .ok (.ifCond .ne 5, 3) := by decide +kernel
theorem dX6_destroy_13 : decode cX6_destroy 13 = .ok (.iconst (-1), 1) := by decide +kernel
theorem dX6_destroy_14 : decode cX6_destroy 14 = .ok (.ireturn, 1) := by decide +kernel
theorem dX6_destroy_15 : decode cX6_destroy 15 = .ok (.aload_n 0, 1) := by decide +kernel
theorem dX6_destroy_16 : decode cX6_destroy 16 = .ok (.iload_n 1, 1) := by decide +kernel
theorem dX6_destroy_17 : decode cX6_destroy 17 = .ok (.invokevirtual 159, 3) := by decide +kernel
theorem dX6_destroy_20 : decode cX6_destroy 20 = .ok (.ifCond .eq 6, 3) := by decide +kernel
theorem dX6_destroy_23 : decode cX6_destroy 23 = .ok (.bipush (-4), 2) := by decide +kernel
theorem dX6_destroy_25 : decode cX6_destroy 25 = .ok (.ireturn, 1) := by decide +kernel
theorem dX6_destroy_26 : decode cX6_destroy 26 = .ok (.aload_n 0, 1) := by decide +kernel
theorem dX6_destroy_27 : decode cX6_destroy 27 = .ok (.invokevirtual 183, 3) := by decide +kernel
theorem dX6_destroy_30 : decode cX6_destroy 30 = .ok (.aload_n 0, 1) := by decide +kernel
theorem dX6_destroy_31 : decode cX6_destroy 31 = .ok (.iconst 1, 1) := by decide +kernel
theorem dX6_destroy_32 : decode cX6_destroy 32 = .ok (.invokevirtual 113, 3) := by decide +kernel
theorem dX6_destroy_35 : decode cX6_destroy 35 = .ok (.istore_n 2, 1) := by decide +kernel
theorem dX6_destroy_36 : decode cX6_destroy 36 = .ok (.aload_n 0, 1) := by decide +kernel
theorem dX6_destroy_37 : decode cX6_destroy 37 = .ok (.iload_n 1, 1) := by decide +kernel
theorem dX6_destroy_38 : decode cX6_destroy 38 = .ok (.invokevirtual 195, 3) := by decide +kernel
theorem dX6_destroy_41 : decode cX6_destroy 41 = .ok (.iload_n 2, 1) := by decide +kernel
theorem dX6_destroy_42 : decode cX6_destroy 42 = .ok (.aload_n 0, 1) := by decide +kernel
theorem dX6_destroy_43 : decode cX6_destroy 43 = .ok (.iconst 1, 1) := by decide +kernel
theorem dX6_destroy_44 : decode cX6_destroy 44 = .ok (.invokevirtual 113, 3) := by decide +kernel
theorem dX6_destroy_47 : decode cX6_destroy 47 = .ok (.isub, 1) := by decide +kernel
theorem dX6_destroy_48 : decode cX6_destroy 48 = .ok (.ireturn, 1) := by decide +kernel
theorem dX6_destroySet_0 : decode cX6_destroySet 0 = .ok (.aload_n 0, 1) := by decide +kernel
theorem dX6_destroySet_1 : decode cX6_destroySet 1 = .ok (.iconst 0, 1) := by decide +kernel
theorem dX6_destroySet_2 : decode cX6_destroySet 2 = .ok (.putfield 43, 3) := by decide +kernel
theorem dX6_destroySet_5 : decode cX6_destroySet 5 = .ok (.iload_n 1, 1) := by decide +kernel
theorem dX6_destroySet_6 : decode cX6_destroySet 6 = .ok (.ifCond .ne 6, 3) := by decide +kernel
theorem dX6_destroySet_9 : decode cX6_destroySet 9 = .ok (.bipush (-2), 2) := by decide +kernel
theorem dX6_destroySet_11 : decode cX6_destroySet 11 = .ok (.ireturn, 1) := by decide +kernel
theorem dX6_destroySet_12 : decode cX6_destroySet 12 = .ok (.iload_n 1, 1) := by decide +kernel
theorem dX6_destroySet_13 : decode cX6_destroySet 13 = .ok (.aload_n 0, 1) := by decide +kernel
theorem dX6_destroySet_14 : decode cX6_destroySet 14 = .ok (.invokevirtual 117, 3) := by decide +kernel
theorem dX6_destroySet_17 : decode cX6_destroySet 17 = .ok (.iconst (-1), 1) := by decide +kernel
theorem dX6_destroySet_18 : decode cX6_destroySet 18 = .ok (.ixor, 1) := by decide +kernel
theorem dX6_destroySet_19 : decode cX6_destroySet 19 = .ok (.iand, 1) := by decide +kernel
theorem dX6_destroySet_20 : decode cX6_destroySet 20 = .ok (.ifCond .eq 5, 3) := by decide +kernel
theorem dX6_destroySet_23 : decode cX6_destroySet 23 = .ok (.iconst (-1), 1) := by decide +kernel
theorem dX6_destroySet_24 : decode cX6_destroySet 24 = .ok (.ireturn, 1) := by decide +kernel
theorem dX6_destroySet_25 : decode cX6_destroySet 25 = .ok (.aload_n 0, 1) := by decide +kernel
theorem dX6_destroySet_26 : decode cX6_destroySet 26 = .ok (.iload_n 1, 1) := by decide +kernel
theorem dX6_destroySet_27 : decode cX6_destroySet 27 = .ok (.invokevirtual 199, 3) := by decide +kernel
theorem dX6_destroySet_30 : decode cX6_destroySet 30 = .ok (.ifCond .ne 6, 3) := by decide +kernel
theorem dX6_destroySet_33 : decode cX6_destroySet 33 = .ok (.bipush (-4), 2) := by decide +kernel
theorem dX6_destroySet_35 : decode cX6_destroySet 35 = .ok (.ireturn, 1) := by decide +kernel
theorem dX6_destroySet_36 : decode cX6_destroySet 36 = .ok (.aload_n 0, 1) := by decide +kernel
theorem dX6_destroySet_37 : decode cX6_destroySet 37 = .ok (.invokevirtual 183, 3) := by decide +kernel
theorem dX6_destroySet_40 : decode cX6_destroySet 40 = .ok (.aload_n 0, 1) := by decide +kernel
theorem dX6_destroySet_41 : decode cX6_destroySet 41 = .ok (.iconst 1, 1) := by decide +kernel
theorem dX6_destroySet_42 : decode cX6_destroySet 42 = .ok (.invokevirtual 113, 3) := by decide +kernel
theorem dX6_destroySet_45 : decode cX6_destroySet 45 = .ok (.istore_n 2, 1) := by decide +kernel
theorem dX6_destroySet_46 : decode cX6_destroySet 46 = .ok (.aload_n 0, 1) := by decide +kernel
theorem dX6_destroySet_47 : decode cX6_destroySet 47 = .ok (.iload_n 1, 1) := by decide +kernel
theorem dX6_destroySet_48 : decode cX6_destroySet 48 = .ok (.invokevirtual 202, 3) := by decide +kernel
theorem dX6_destroySet_51 : decode cX6_destroySet 51 = .ok (.iload_n 2, 1) := by decide +kernel
theorem dX6_destroySet_52 : decode cX6_destroySet 52 = .ok (.aload_n 0, 1) := by decide +kernel
theorem dX6_destroySet_53 : decode cX6_destroySet 53 = .ok (.iconst 1, 1) := by decide +kernel
theorem dX6_destroySet_54 : decode cX6_destroySet 54 = .ok (.invokevirtual 113, 3) := by decide +kernel
theorem dX6_destroySet_57 : decode cX6_destroySet 57 = .ok (.isub, 1) := by decide +kernel
theorem dX6_destroySet_58 : decode cX6_destroySet 58 = .ok (.ireturn, 1) := by decide +kernel
theorem dX6_destroyVolume_0 : decode cX6_destroyVolume 0 = .ok (.aload_n 0, 1) := by decide +kernel
theorem dX6_destroyVolume_1 : decode cX6_destroyVolume 1 = .ok (.iconst 0, 1) := by decide +kernel
theorem dX6_destroyVolume_2 : decode cX6_destroyVolume 2 = .ok (.putfield 43, 3) := by decide +kernel
theorem dX6_destroyVolume_5 : decode cX6_destroyVolume 5 = .ok (.aload_n 0, 1) := by decide +kernel
theorem dX6_destroyVolume_6 : decode cX6_destroyVolume 6 = .ok (.iload_n 1, 1) := by decide +kernel
theorem dX6_destroyVolume_7 : decode cX6_destroyVolume 7 = .ok (.invokevirtual 74, 3) := by decide +kernel
theorem dX6_destroyVolume_10 : decode cX6_destroyVolume 10 = .ok (.ifCond .ne 5, 3) := by decide +kernel
theorem dX6_destroyVolume_13 : decode cX6_destroyVolume 13 = .ok (.iconst (-1), 1) := by decide +kernel
theorem dX6_destroyVolume_14 : decode cX6_destroyVolume 14 = .ok (.ireturn, 1) := by decide +kernel
theorem dX6_destroyVolume_15 : decode cX6_destroyVolume 15 = .ok (.aload_n 0, 1) := by decide +kernel
theorem dX6_destroyVolume_16 : decode cX6_destroyVolume 16 = .ok (.aload_n 0, 1) := by decide +kernel
theorem dX6_destroyVolume_17 : decode cX6_destroyVolume 17 = .ok (.iload_n 1, 1) := by decide +kernel
theorem dX6_destroyVolume_18 : decode cX6_destroyVolume 18 = .ok (.iconst 0, 1) := by decide +kernel
theorem dX6_destroyVolume_19 : decode cX6_destroyVolume 19 = .ok (.invokevirtual 150, 3) := by decide +kernel
theorem dX6_destroyVolume_22 : decode cX6_destroyVolume 22 = .ok (.invokevirtual 199, 3) := by decide +kernel
theorem dX6_destroyVolume_25 : decode cX6_destroyVolume 25 = .ok (.ifCond .ne 6, 3) := by decide +kernel
theorem dX6_destroyVolume_28 : decode cX6_destroyVolume 28 = .ok (.bipush (-4), 2) := by decide +kernel
theorem dX6_destroyVolume_30 : decode cX6_destroyVolume 30 = .ok (.ireturn, 1) := by decide +kernel
theorem dX6_destroyVolume_31 : decode cX6_destroyVolume 31 = .ok (.aload_n 0, 1) := by decide +kernel
theorem dX6_destroyVolume_32 : decode cX6_destroyVolume 32 = .ok (.invokevirtual 183, 3) := by decide +kernel
theorem dX6_destroyVolume_35 : decode cX6_destroyVolume 35 = .ok (.aload_n 0, 1) := by decide +kernel
theorem dX6_destroyVolume_36 : decode cX6_destroyVolume 36 = .ok (.iconst 1, 1) := by decide +kernel
theorem dX6_destroyVolume_37 : decode cX6_destroyVolume 37 = .ok (.invokevirtual 113, 3) := by decide +kernel
theorem dX6_destroyVolume_40 : decode cX6_destroyVolume 40 = .ok (.istore_n 2, 1) := by decide +kernel
theorem dX6_destroyVolume_41 : decode cX6_destroyVolume 41 = .ok (.aload_n 0, 1) := by decide +kernel
theorem dX6_destroyVolume_42 : decode cX6_destroyVolume 42 = .ok (.aload_n 0, 1) := by decide +kernel
theorem dX6_destroyVolume_43 : decode cX6_destroyVolume 43 = .ok (.iload_n 1, 1) := by decide +kernel
theorem dX6_destroyVolume_44 : decode cX6_destroyVolume 44 = .ok (.iconst 0, 1) := by decide +kernel
theorem dX6_destroyVolume_45 : decode cX6_destroyVolume 45 = .ok (.invokevirtual 150, 3) := by decide +kernel
theorem dX6_destroyVolume_48 : decode cX6_destroyVolume 48 = .ok (.invokevirtual 202, 3) := by decide +kernel
theorem dX6_destroyVolume_51 : decode cX6_destroyVolume 51 = .ok (.aload_n 0, 1) := by decide +kernel
theorem dX6_destroyVolume_52 : decode cX6_destroyVolume 52 = .ok (.getfield 16, 3) := by decide +kernel
theorem dX6_destroyVolume_55 : decode cX6_destroyVolume 55 = .ok (.iload_n 1, 1) := by decide +kernel
theorem dX6_destroyVolume_56 : decode cX6_destroyVolume 56 = .ok (.iconst 0, 1) := by decide +kernel
theorem dX6_destroyVolume_57 : decode cX6_destroyVolume 57 = .ok (.invokestatic 53, 3) := by decide +kernel
theorem dX6_destroyVolume_60 : decode cX6_destroyVolume 60 = .ok (.iconst 0, 1) := by decide +kernel
theorem dX6_destroyVolume_61 : decode cX6_destroyVolume 61 = .ok (.iastore, 1) := by decide +kernel
theorem dX6_destroyVolume_62 : decode cX6_destroyVolume 62 = .ok (.iconst 0, 1) := by decide +kernel
theorem dX6_destroyVolume_63 : decode cX6_destroyVolume 63 = .ok (.istore_n 3, 1) := by decide +kernel
theorem dX6_destroyVolume_64 : decode cX6_destroyVolume 64 = .ok (.iload_n 3, 1) := by decide +kernel
theorem dX6_destroyVolume_65 : decode cX6_destroyVolume 65 = .ok (.bipush 12, 2) := by decide +kernel
theorem dX6_destroyVolume_67 : decode cX6_destroyVolume 67 = .ok (.if_icmp .ge 20, 3) := by decide +kernel
theorem dX6_destroyVolume_70 : decode cX6_destroyVolume 70 = .ok (.aload_n 0, 1) := by decide +kernel
theorem dX6_destroyVolume_71 : decode cX6_destroyVolume 71 = .ok (.bipush 16, 2) := by decide +kernel
theorem dX6_destroyVolume_73 : decode cX6_destroyVolume 73 = .ok (.iload_n 1, 1) := by decide +kernel
theorem dX6_destroyVolume_74 : decode cX6_destroyVolume 74 = .ok (.iadd, 1) := by decide +kernel
theorem dX6_destroyVolume_75 : decode cX6_destroyVolume 75 = .ok (.iload_n 3, 1) := by decide +kernel
theorem dX6_destroyVolume_76 : decode cX6_destroyVolume 76 = .ok (.iconst 0, 1) := by decide +kernel
theorem dX6_destroyVolume_77 : decode cX6_destroyVolume 77 = .ok (.iconst 0, 1) := by decide +kernel
theorem dX6_destroyVolume_78 : decode cX6_destroyVolume 78 = .ok (.invokevirtual 83, 3) := by decide +kernel
theorem dX6_destroyVolume_81 : decode cX6_destroyVolume 81 = .ok (.iinc 3 1, 3) := by decide +kernel
theorem dX6_destroyVolume_84 : decode cX6_destroyVolume 84 = .ok (.goto (-20), 3) := by decide +kernel
theorem dX6_destroyVolume_87 : decode cX6_destroyVolume 87 = .ok (.iload_n 2, 1) := by decide +kernel
theorem dX6_destroyVolume_88 : decode cX6_destroyVolume 88 = .ok (.aload_n 0, 1) := by decide +kernel
theorem dX6_destroyVolume_89 : decode cX6_destroyVolume 89 = .ok (.iconst 1, 1) := by decide +kernel
theorem dX6_destroyVolume_90 : decode cX6_destroyVolume 90 = .ok (.invokevirtual 113, 3) := by decide +kernel
theorem dX6_destroyVolume_93 : decode cX6_destroyVolume 93 = .ok (.isub, 1) := by decide +kernel
theorem dX6_destroyVolume_94 : decode cX6_destroyVolume 94 = .ok (.ireturn, 1) := by decide +kernel
theorem dX6_rollBack_0 : decode cX6_rollBack 0 = .ok (.aload_n 0, 1) := by decide +kernel
theorem dX6_rollBack_1 : decode cX6_rollBack 1 = .ok (.iconst 0, 1) := by decide +kernel
theorem dX6_rollBack_2 : decode cX6_rollBack 2 = .ok (.putfield 43, 3) := by decide +kernel
theorem dX6_rollBack_5 : decode cX6_rollBack 5 = .ok (.aload_n 0, 1) := by decide +kernel
theorem dX6_rollBack_6 : decode cX6_rollBack 6 = .ok (.iload_n 1, 1) := by decide +kernel
theorem dX6_rollBack_7 : decode cX6_rollBack 7 = .ok (.invokevirtual 70, 3) := by decide +kernel
theorem dX6_rollBack_10 : decode cX6_rollBack 10 = .ok (.ifCond .ne 5, 3) := by decide +kernel
theorem dX6_rollBack_13 : decode cX6_rollBack 13 = .ok (.iconst (-1), 1) := by decide +kernel
theorem dX6_rollBack_14 : decode cX6_rollBack 14 = .ok (.ireturn, 1) := by decide +kernel
theorem dX6_rollBack_15 : decode cX6_rollBack 15 = .ok (.aload_n 0, 1) := by decide +kernel
theorem dX6_rollBack_16 : decode cX6_rollBack 16 = .ok (.iload_n 1, 1) := by decide +kernel
theorem dX6_rollBack_17 : decode cX6_rollBack 17 = .ok (.iconst 1, 1) := by decide +kernel
theorem dX6_rollBack_18 : decode cX6_rollBack 18 = .ok (.invokevirtual 67, 3) := by decide +kernel
theorem dX6_rollBack_21 : decode cX6_rollBack 21 = .ok (.istore_n 2, 1) := by decide +kernel
theorem dX6_rollBack_22 : decode cX6_rollBack 22 = .ok (.aload_n 0, 1) := by decide +kernel
theorem dX6_rollBack_23 : decode cX6_rollBack 23 = .ok (.iload_n 2, 1) := by decide +kernel
theorem dX6_rollBack_24 : decode cX6_rollBack 24 = .ok (.aload_n 0, 1) := by decide +kernel
theorem dX6_rollBack_25 : decode cX6_rollBack 25 = .ok (.iload_n 1, 1) := by decide +kernel
theorem dX6_rollBack_26 : decode cX6_rollBack 26 = .ok (.invokevirtual 104, 3) := by decide +kernel
theorem dX6_rollBack_29 : decode cX6_rollBack 29 = .ok (.iconst 1, 1) := by decide +kernel
theorem dX6_rollBack_30 : decode cX6_rollBack 30 = .ok (.iadd, 1) := by decide +kernel
theorem dX6_rollBack_31 : decode cX6_rollBack 31 = .ok (.invokevirtual 150, 3) := by decide +kernel
theorem dX6_rollBack_34 : decode cX6_rollBack 34 = .ok (.istore_n 3, 1) := by decide +kernel
theorem dX6_rollBack_35 : decode cX6_rollBack 35 = .ok (.aload_n 0, 1) := by decide +kernel
theorem dX6_rollBack_36 : decode cX6_rollBack 36 = .ok (.iload_n 3, 1) := by decide +kernel
theorem dX6_rollBack_37 : decode cX6_rollBack 37 = .ok (.invokevirtual 199, 3) := by decide +kernel
theorem dX6_rollBack_40 : decode cX6_rollBack 40 = .ok (.ifCond .ne 6, 3) := by decide +kernel
theorem dX6_rollBack_43 : decode cX6_rollBack 43 = .ok (.bipush (-4), 2) := by decide +kernel
theorem dX6_rollBack_45 : decode cX6_rollBack 45 = .ok (.ireturn, 1) := by decide +kernel
theorem dX6_rollBack_46 : decode cX6_rollBack 46 = .ok (.aload_n 0, 1) := by decide +kernel
theorem dX6_rollBack_47 : decode cX6_rollBack 47 = .ok (.invokevirtual 183, 3) := by decide +kernel
theorem dX6_rollBack_50 : decode cX6_rollBack 50 = .ok (.aload_n 0, 1) := by decide +kernel
theorem dX6_rollBack_51 : decode cX6_rollBack 51 = .ok (.iconst 1, 1) := by decide +kernel
theorem dX6_rollBack_52 : decode cX6_rollBack 52 = .ok (.invokevirtual 113, 3) := by decide +kernel
theorem dX6_rollBack_55 : decode cX6_rollBack 55 = .ok (.istore 4, 2) := by decide +kernel
theorem dX6_rollBack_57 : decode cX6_rollBack 57 = .ok (.aload_n 0, 1) := by decide +kernel
theorem dX6_rollBack_58 : decode cX6_rollBack 58 = .ok (.iload_n 3, 1) := by decide +kernel
theorem dX6_rollBack_59 : decode cX6_rollBack 59 = .ok (.invokevirtual 202, 3) := by decide +kernel
theorem dX6_rollBack_62 : decode cX6_rollBack 62 = .ok (.aload_n 0, 1) := by decide +kernel
theorem dX6_rollBack_63 : decode cX6_rollBack 63 = .ok (.bipush 16, 2) := by decide +kernel
theorem dX6_rollBack_65 : decode cX6_rollBack 65 = .ok (.iload_n 2, 1) := by decide +kernel
theorem dX6_rollBack_66 : decode cX6_rollBack 66 = .ok (.iadd, 1) := by decide +kernel
theorem dX6_rollBack_67 : decode cX6_rollBack 67 = .ok (.iload_n 1, 1) := by decide +kernel
theorem dX6_rollBack_68 : decode cX6_rollBack 68 = .ok (.invokevirtual 179, 3) := by decide +kernel
theorem dX6_rollBack_71 : decode cX6_rollBack 71 = .ok (.iload 4, 2) := by decide +kernel
theorem dX6_rollBack_73 : decode cX6_rollBack 73 = .ok (.aload_n 0, 1) := by decide +kernel
theorem dX6_rollBack_74 : decode cX6_rollBack 74 = .ok (.iconst 1, 1) := by decide +kernel
theorem dX6_rollBack_75 : decode cX6_rollBack 75 = .ok (.invokevirtual 113, 3) := by decide +kernel
theorem dX6_rollBack_78 : decode cX6_rollBack 78 = .ok (.isub, 1) := by decide +kernel
theorem dX6_rollBack_79 : decode cX6_rollBack 79 = .ok (.ireturn, 1) := by decide +kernel
theorem dX6_hold_0 : decode cX6_hold 0 = .ok (.aload_n 0, 1) := by decide +kernel
theorem dX6_hold_1 : decode cX6_hold 1 = .ok (.iconst 0, 1) := by decide +kernel
theorem dX6_hold_2 : decode cX6_hold 2 = .ok (.putfield 43, 3) := by decide +kernel
theorem dX6_hold_5 : decode cX6_hold 5 = .ok (.aload_n 0, 1) := by decide +kernel
theorem dX6_hold_6 : decode cX6_hold 6 = .ok (.iload_n 1, 1) := by decide +kernel
theorem dX6_hold_7 : decode cX6_hold 7 = .ok (.invokevirtual 70, 3) := by decide +kernel
theorem dX6_hold_10 : decode cX6_hold 10 = .ok (.ifCond .ne 5, 3) := by decide +kernel
theorem dX6_hold_13 : decode cX6_hold 13 = .ok (.iconst (-1), 1) := by decide +kernel
theorem dX6_hold_14 : decode cX6_hold 14 = .ok (.ireturn, 1) := by decide +kernel
theorem dX6_hold_15 : decode cX6_hold 15 = .ok (.aload_n 0, 1) := by decide +kernel
theorem dX6_hold_16 : decode cX6_hold 16 = .ok (.iload_n 1, 1) := by decide +kernel
theorem dX6_hold_17 : decode cX6_hold 17 = .ok (.iconst 3, 1) := by decide +kernel
theorem dX6_hold_18 : decode cX6_hold 18 = .ok (.invokevirtual 67, 3) := by decide +kernel
theorem dX6_hold_21 : decode cX6_hold 21 = .ok (.iconst 1, 1) := by decide +kernel
theorem dX6_hold_22 : decode cX6_hold 22 = .ok (.if_icmp .ne 7, 3) := by decide +kernel
theorem dX6_hold_25 : decode cX6_hold 25 = .ok (.iconst 1, 1) := by decide +kernel
theorem dX6_hold_26 : decode cX6_hold 26 = .ok (.goto 4, 3) := by decide +kernel
theorem dX6_hold_29 : decode cX6_hold 29 = .ok (.iconst 0, 1) := by decide +kernel
theorem dX6_hold_30 : decode cX6_hold 30 = .ok (.iload_n 2, 1) := by decide +kernel
theorem dX6_hold_31 : decode cX6_hold 31 = .ok (.if_icmp .ne 6, 3) := by decide +kernel
theorem dX6_hold_34 : decode cX6_hold 34 = .ok (.bipush (-4), 2) := by decide +kernel
theorem dX6_hold_36 : decode cX6_hold 36 = .ok (.ireturn, 1) := by decide +kernel
theorem dX6_hold_37 : decode cX6_hold 37 = .ok (.aload_n 0, 1) := by decide +kernel
theorem dX6_hold_38 : decode cX6_hold 38 = .ok (.invokevirtual 183, 3) := by decide +kernel
theorem dX6_hold_41 : decode cX6_hold 41 = .ok (.aload_n 0, 1) := by decide +kernel
theorem dX6_hold_42 : decode cX6_hold 42 = .ok (.getfield 16, 3) := by decide +kernel
theorem dX6_hold_45 : decode cX6_hold 45 = .ok (.iload_n 1, 1) := by decide +kernel
theorem dX6_hold_46 : decode cX6_hold 46 = .ok (.iconst 3, 1) := by decide +kernel
theorem dX6_hold_47 : decode cX6_hold 47 = .ok (.invokestatic 57, 3) := by decide +kernel
theorem dX6_hold_50 : decode cX6_hold 50 = .ok (.iload_n 2, 1) := by decide +kernel
theorem dX6_hold_51 : decode cX6_hold 51 = .ok (.ifCond .eq 7, 3) := by decide +kernel
theorem dX6_hold_54 : decode cX6_hold 54 = .ok (.iconst 1, 1) := by decide +kernel
theorem dX6_hold_55 : decode cX6_hold 55 = .ok (.goto 4, 3) := by decide +kernel
theorem dX6_hold_58 : decode cX6_hold 58 = .ok (.iconst 0, 1) := by decide +kernel
theorem dX6_hold_59 : decode cX6_hold 59 = .ok (.iastore, 1) := by decide +kernel
theorem dX6_hold_60 : decode cX6_hold 60 = .ok (.iconst 0, 1) := by decide +kernel
theorem dX6_hold_61 : decode cX6_hold 61 = .ok (.istore_n 3, 1) := by decide +kernel
theorem dX6_hold_62 : decode cX6_hold 62 = .ok (.iconst 0, 1) := by decide +kernel
theorem dX6_hold_63 : decode cX6_hold 63 = .ok (.istore 4, 2) := by decide +kernel
theorem dX6_hold_65 : decode cX6_hold 65 = .ok (.iload 4, 2) := by decide +kernel
theorem dX6_hold_67 : decode cX6_hold 67 = .ok (.bipush 16, 2) := by decide +kernel
theorem dX6_hold_69 : decode cX6_hold 69 = .ok (.if_icmp .ge 37, 3) := by decide +kernel
theorem dX6_hold_72 : decode cX6_hold 72 = .ok (.iload_n 3, 1) := by decide +kernel
theorem dX6_hold_73 : decode cX6_hold 73 = .ok (.aload_n 0, 1) := by decide +kernel
theorem dX6_hold_74 : decode cX6_hold 74 = .ok (.iload 4, 2) := by decide +kernel
theorem dX6_hold_76 : decode cX6_hold 76 = .ok (.invokevirtual 70, 3) := by decide +kernel
theorem dX6_hold_79 : decode cX6_hold 79 = .ok (.ifCond .eq 18, 3) := by decide +kernel
theorem dX6_hold_82 : decode cX6_hold 82 = .ok (.aload_n 0, 1) := by decide +kernel
theorem dX6_hold_83 : decode cX6_hold 83 = .ok (.iload 4, 2) := by decide +kernel
theorem dX6_hold_85 : decode cX6_hold 85 = .ok (.iconst 3, 1) := by decide +kernel
theorem dX6_hold_86 : decode cX6_hold 86 = .ok (.invokevirtual 67, 3) := by decide +kernel
theorem dX6_hold_89 : decode cX6_hold 89 = .ok (.iconst 1, 1) := by decide +kernel
theorem dX6_hold_90 : decode cX6_hold 90 = .ok (.if_icmp .ne 7, 3) := by decide +kernel
theorem dX6_hold_93 : decode cX6_hold 93 = .ok (.iconst 1, 1) := by decide +kernel
theorem dX6_hold_94 : decode cX6_hold 94 = .ok (.goto 4, 3) := by decide +kernel
theorem dX6_hold_97 : decode cX6_hold 97 = .ok (.iconst 0, 1) := by decide +kernel
theorem dX6_hold_98 : decode cX6_hold 98 = .ok (.iadd, 1) := by decide +kernel
theorem dX6_hold_99 : decode cX6_hold 99 = .ok (.istore_n 3, 1) := by decide +kernel
theorem dX6_hold_100 : decode cX6_hold 100 = .ok (.iinc 4 1, 3) := by decide +kernel
theorem dX6_hold_103 : decode cX6_hold 103 = .ok (.goto (-38), 3) := by decide +kernel
theorem dX6_hold_106 : decode cX6_hold 106 = .ok (.iload_n 3, 1) := by decide +kernel
theorem dX6_hold_107 : decode cX6_hold 107 = .ok (.ireturn, 1) := by decide +kernel
theorem dX6_sets_0 : decode cX6_sets 0 = .ok (.aload_n 0, 1) := by decide +kernel
theorem dX6_sets_1 : decode cX6_sets 1 = .ok (.invokevirtual 183, 3) := by decide +kernel
theorem dX6_sets_4 : decode cX6_sets 4 = .ok (.aload_n 0, 1) := by decide +kernel
theorem dX6_sets_5 : decode cX6_sets 5 = .ok (.getfield 16, 3) := by decide +kernel
theorem dX6_sets_8 : decode cX6_sets 8 = .ok (.iload_n 1, 1) := by decide +kernel
theorem dX6_sets_9 : decode cX6_sets 9 = .ok (.iaload, 1) := by decide +kernel
theorem dX6_sets_10 : decode cX6_sets 10 = .ok (.istore_n 3, 1) := by decide +kernel
theorem dX6_sets_11 : decode cX6_sets 11 = .ok (.aload_n 0, 1) := by decide +kernel
theorem dX6_sets_12 : decode cX6_sets 12 = .ok (.getfield 16, 3) := by decide +kernel
theorem dX6_sets_15 : decode cX6_sets 15 = .ok (.iload_n 1, 1) := by decide +kernel
theorem dX6_sets_16 : decode cX6_sets 16 = .ok (.iload_n 2, 1) := by decide +kernel
theorem dX6_sets_17 : decode cX6_sets 17 = .ok (.iastore, 1) := by decide +kernel
theorem dX6_sets_18 : decode cX6_sets 18 = .ok (.iload_n 3, 1) := by decide +kernel
theorem dX6_sets_19 : decode cX6_sets 19 = .ok (.ireturn, 1) := by decide +kernel
theorem dX6_setQuota_0 : decode cX6_setQuota 0 = .ok (.aload_n 0, 1) := by decide +kernel
theorem dX6_setQuota_1 : decode cX6_setQuota 1 = .ok (.iconst 0, 1) := by decide +kernel
theorem dX6_setQuota_2 : decode cX6_setQuota 2 = .ok (.putfield 43, 3) := by decide +kernel
theorem dX6_setQuota_5 : decode cX6_setQuota 5 = .ok (.aload_n 0, 1) := by decide +kernel
theorem dX6_setQuota_6 : decode cX6_setQuota 6 = .ok (.iload_n 1, 1) := by decide +kernel
theorem dX6_setQuota_7 : decode cX6_setQuota 7 = .ok (.invokevirtual 74, 3) := by decide +kernel
theorem dX6_setQuota_10 : decode cX6_setQuota 10 = .ok (.ifCond .ne 5, 3) := by decide +kernel
theorem dX6_setQuota_13 : decode cX6_setQuota 13 = .ok (.iconst (-1), 1) := by decide +kernel
theorem dX6_setQuota_14 : decode cX6_setQuota 14 = .ok (.ireturn, 1) := by decide +kernel
theorem dX6_setQuota_15 : decode cX6_setQuota 15 = .ok (.iload_n 2, 1) := by decide +kernel
theorem dX6_setQuota_16 : decode cX6_setQuota 16 = .ok (.iconst 0, 1) := by decide +kernel
theorem dX6_setQuota_17 : decode cX6_setQuota 17 = .ok (.sipush 999, 3) := by decide +kernel
theorem dX6_setQuota_20 : decode cX6_setQuota 20 = .ok (.invokestatic 60, 3) := by decide +kernel
theorem dX6_setQuota_23 : decode cX6_setQuota 23 = .ok (.ifCond .eq 16, 3) := by decide +kernel
theorem dX6_setQuota_26 : decode cX6_setQuota 26 = .ok (.aload_n 0, 1) := by decide +kernel
theorem dX6_setQuota_27 : decode cX6_setQuota 27 = .ok (.iload_n 1, 1) := by decide +kernel
theorem dX6_setQuota_28 : decode cX6_setQuota 28 = .ok (.iconst 2, 1) := by decide +kernel
theorem dX6_setQuota_29 : decode cX6_setQuota 29 = .ok (.invokestatic 53, 3) := by decide +kernel
theorem dX6_setQuota_32 : decode cX6_setQuota 32 = .ok (.iload_n 2, 1) := by decide +kernel
theorem dX6_setQuota_33 : decode cX6_setQuota 33 = .ok (.invokevirtual 205, 3) := by decide +kernel
theorem dX6_setQuota_36 : decode cX6_setQuota 36 = .ok (.goto 5, 3) := by decide +kernel
theorem dX6_setQuota_39 : decode cX6_setQuota 39 = .ok (.bipush (-2), 2) := by decide +kernel
theorem dX6_setQuota_41 : decode cX6_setQuota 41 = .ok (.ireturn, 1) := by decide +kernel
theorem dX6_setSetting_0 : decode cX6_setSetting 0 = .ok (.aload_n 0, 1) := by decide +kernel
theorem dX6_setSetting_1 : decode cX6_setSetting 1 = .ok (.iconst 0, 1) := by decide +kernel
theorem dX6_setSetting_2 : decode cX6_setSetting 2 = .ok (.putfield 43, 3) := by decide +kernel
theorem dX6_setSetting_5 : decode cX6_setSetting 5 = .ok (.iload_n 1, 1) := by decide +kernel
theorem dX6_setSetting_6 : decode cX6_setSetting 6 = .ok (.ifCond .ne 14, 3) := by decide +kernel
theorem dX6_setSetting_9 : decode cX6_setSetting 9 = .ok (.iload_n 2, 1) := by decide +kernel
theorem dX6_setSetting_10 : decode cX6_setSetting 10 = .ok (.iconst 1, 1) := by decide +kernel
theorem dX6_setSetting_11 : decode cX6_setSetting 11 = .ok (.sipush 999, 3) := by decide +kernel
theorem dX6_setSetting_14 : decode cX6_setSetting 14 = .ok (.invokestatic 60, 3) := by decide +kernel
theorem dX6_setSetting_17 : decode cX6_setSetting 17 = .ok (.goto 22, 3) := by decide +kernel
theorem dX6_setSetting_20 : decode cX6_setSetting 20 = .ok (.iload_n 1, 1) := by decide +kernel
theorem dX6_setSetting_21 : decode cX6_setSetting 21 = .ok (.iconst 1, 1) := by decide +kernel
theorem dX6_setSetting_22 : decode cX6_setSetting 22 = .ok (.if_icmp .ne 16, 3) := by decide +kernel
theorem dX6_setSetting_25 : decode cX6_setSetting 25 = .ok (.iload_n 2, 1) := by decide +kernel
theorem dX6_setSetting_26 : decode cX6_setSetting 26 = .ok (.iconst 0, 1) := by decide +kernel
theorem dX6_setSetting_27 : decode cX6_setSetting 27 = .ok (.iconst 5, 1) := by decide +kernel
theorem dX6_setSetting_28 : decode cX6_setSetting 28 = .ok (.invokestatic 60, 3) := by decide +kernel
theorem dX6_setSetting_31 : decode cX6_setSetting 31 = .ok (.ifCond .eq 7, 3) := by decide +kernel
theorem dX6_setSetting_34 : decode cX6_setSetting 34 = .ok (.iconst 1, 1) := by decide +kernel
theorem dX6_setSetting_35 : decode cX6_setSetting 35 = .ok (.goto 4, 3) := by decide +kernel
theorem dX6_setSetting_38 : decode cX6_setSetting 38 = .ok (.iconst 0, 1) := by decide +kernel
theorem dX6_setSetting_39 : decode cX6_setSetting 39 = .ok (.istore_n 3, 1) := by decide +kernel
theorem dX6_setSetting_40 : decode cX6_setSetting 40 = .ok (.iload_n 3, 1) := by decide +kernel
theorem dX6_setSetting_41 : decode cX6_setSetting 41 = .ok (.ifCond .eq 12, 3) := by decide +kernel
theorem dX6_setSetting_44 : decode cX6_setSetting 44 = .ok (.aload_n 0, 1) := by decide +kernel
theorem dX6_setSetting_45 : decode cX6_setSetting 45 = .ok (.iload_n 1, 1) := by decide +kernel
theorem dX6_setSetting_46 : decode cX6_setSetting 46 = .ok (.iload_n 2, 1) := by decide +kernel
theorem dX6_setSetting_47 : decode cX6_setSetting 47 = .ok (.invokevirtual 205, 3) := by decide +kernel
theorem dX6_setSetting_50 : decode cX6_setSetting 50 = .ok (.goto 5, 3) := by decide +kernel
theorem dX6_setSetting_53 : decode cX6_setSetting 53 = .ok (.bipush (-2), 2) := by decide +kernel
theorem dX6_setSetting_55 : decode cX6_setSetting 55 = .ok (.ireturn, 1) := by decide +kernel
theorem dX6_append_0 : decode cX6_append 0 = .ok (.bipush 24, 2) := by decide +kernel
theorem dX6_append_2 : decode cX6_append 2 = .ok (.istore_n 2, 1) := by decide +kernel
theorem dX6_append_3 : decode cX6_append 3 = .ok (.iload_n 2, 1) := by decide +kernel
theorem dX6_append_4 : decode cX6_append 4 = .ok (.ifCond .lt 32, 3) := by decide +kernel
theorem dX6_append_7 : decode cX6_append 7 = .ok (.aload_n 0, 1) := by decide +kernel
theorem dX6_append_8 : decode cX6_append 8 = .ok (.getfield 25, 3) := by decide +kernel
theorem dX6_append_11 : decode cX6_append 11 = .ok (.aload_n 0, 1) := by decide +kernel
theorem dX6_append_12 : decode cX6_append 12 = .ok (.getfield 208, 3) := by decide +kernel
theorem dX6_append_15 : decode cX6_append 15 = .ok (.iload_n 1, 1) := by decide +kernel
theorem dX6_append_16 : decode cX6_append 16 = .ok (.iload_n 2, 1) := by decide +kernel
theorem dX6_append_17 : decode cX6_append 17 = .ok (.ishr, 1) := by decide +kernel
theorem dX6_append_18 : decode cX6_append 18 = .ok (.i2b, 1) := by decide +kernel
theorem dX6_append_19 : decode cX6_append 19 = .ok (.bastore, 1) := by decide +kernel
theorem dX6_append_20 : decode cX6_append 20 = .ok (.aload_n 0, 1) := by decide +kernel
theorem dX6_append_21 : decode cX6_append 21 = .ok (.dup, 1) := by decide +kernel
theorem dX6_append_22 : decode cX6_append 22 = .ok (.getfield 208, 3) := by decide +kernel
theorem dX6_append_25 : decode cX6_append 25 = .ok (.iconst 1, 1) := by decide +kernel
theorem dX6_append_26 : decode cX6_append 26 = .ok (.iadd, 1) := by decide +kernel
theorem dX6_append_27 : decode cX6_append 27 = .ok (.putfield 208, 3) := by decide +kernel
theorem dX6_append_30 : decode cX6_append 30 = .ok (.iinc 2 (-8), 3) := by decide +kernel
theorem dX6_append_33 : decode cX6_append 33 = .ok (.goto (-30), 3) := by decide +kernel
theorem dX6_append_36 : decode cX6_append 36 = .ok (.return_, 1) := by decide +kernel
theorem dX6_feed_0 : decode cX6_feed 0 = .ok (.aload_n 0, 1) := by decide +kernel
theorem dX6_feed_1 : decode cX6_feed 1 = .ok (.iconst 0, 1) := by decide +kernel
theorem dX6_feed_2 : decode cX6_feed 2 = .ok (.putfield 43, 3) := by decide +kernel
theorem dX6_feed_5 : decode cX6_feed 5 = .ok (.aload_n 0, 1) := by decide +kernel
theorem dX6_feed_6 : decode cX6_feed 6 = .ok (.getfield 208, 3) := by decide +kernel
theorem dX6_feed_9 : decode cX6_feed 9 = .ok (.bipush 20, 2) := by decide +kernel
theorem dX6_feed_11 : decode cX6_feed 11 = .ok (.iadd, 1) := by decide +kernel
theorem dX6_feed_12 : decode cX6_feed 12 = .ok (.sipush 1000, 3) := by decide +kernel
theorem dX6_feed_15 : decode cX6_feed 15 = .ok (.if_icmp .le 6, 3) := by decide +kernel
theorem dX6_feed_18 : decode cX6_feed 18 = .ok (.bipush (-3), 2) := by decide +kernel
theorem dX6_feed_20 : decode cX6_feed 20 = .ok (.ireturn, 1) := by decide +kernel
theorem dX6_feed_21 : decode cX6_feed 21 = .ok (.aload_n 0, 1) := by decide +kernel
theorem dX6_feed_22 : decode cX6_feed 22 = .ok (.iload_n 1, 1) := by decide +kernel
theorem dX6_feed_23 : decode cX6_feed 23 = .ok (.invokevirtual 211, 3) := by decide +kernel
theorem dX6_feed_26 : decode cX6_feed 26 = .ok (.aload_n 0, 1) := by decide +kernel
theorem dX6_feed_27 : decode cX6_feed 27 = .ok (.iload_n 2, 1) := by decide +kernel
theorem dX6_feed_28 : decode cX6_feed 28 = .ok (.invokevirtual 211, 3) := by decide +kernel
theorem dX6_feed_31 : decode cX6_feed 31 = .ok (.aload_n 0, 1) := by decide +kernel
theorem dX6_feed_32 : decode cX6_feed 32 = .ok (.iload_n 3, 1) := by decide +kernel
theorem dX6_feed_33 : decode cX6_feed 33 = .ok (.invokevirtual 211, 3) := by decide +kernel
theorem dX6_feed_36 : decode cX6_feed 36 = .ok (.aload_n 0, 1) := by decide +kernel
theorem dX6_feed_37 : decode cX6_feed 37 = .ok (.iload 4, 2) := by decide +kernel
theorem dX6_feed_39 : decode cX6_feed 39 = .ok (.invokevirtual 211, 3) := by decide +kernel
theorem dX6_feed_42 : decode cX6_feed 42 = .ok (.aload_n 0, 1) := by decide +kernel
theorem dX6_feed_43 : decode cX6_feed 43 = .ok (.iload 5, 2) := by decide +kernel
theorem dX6_feed_45 : decode cX6_feed 45 = .ok (.invokevirtual 211, 3) := by decide +kernel
theorem dX6_feed_48 : decode cX6_feed 48 = .ok (.aload_n 0, 1) := by decide +kernel
theorem dX6_feed_49 : decode cX6_feed 49 = .ok (.getfield 208, 3) := by decide +kernel
theorem dX6_feed_52 : decode cX6_feed 52 = .ok (.ireturn, 1) := by decide +kernel
theorem dX6_errorPosition_0 : decode cX6_errorPosition 0 = .ok (.aload_n 0, 1) := by decide +kernel
theorem dX6_errorPosition_1 : decode cX6_errorPosition 1 = .ok (.iconst 0, 1) := by decide +kernel
theorem dX6_errorPosition_2 : decode cX6_errorPosition 2 = .ok (.putfield 43, 3) := by decide +kernel
theorem dX6_errorPosition_5 : decode cX6_errorPosition 5 = .ok (.aload_n 0, 1) := by decide +kernel
theorem dX6_errorPosition_6 : decode cX6_errorPosition 6 = .ok (.getfield 29, 3) := by decide +kernel
theorem dX6_errorPosition_9 : decode cX6_errorPosition 9 = .ok (.ireturn, 1) := by decide +kernel
theorem dX6_byteAt_0 : decode cX6_byteAt 0 = .ok (.aload_n 0, 1) := by decide +kernel
theorem dX6_byteAt_1 : decode cX6_byteAt 1 = .ok (.getfield 214, 3) := by decide +kernel
theorem dX6_byteAt_4 : decode cX6_byteAt 4 = .ok (.aload_n 0, 1) := by decide +kernel
theorem dX6_byteAt_5 : decode cX6_byteAt 5 = .ok (.getfield 217, 3) := by decide +kernel
theorem dX6_byteAt_8 : decode cX6_byteAt 8 = .ok (.if_icmp .ge 19, 3) := by decide +kernel
theorem dX6_byteAt_11 : decode cX6_byteAt 11 = .ok (.aload_n 0, 1) := by decide +kernel
theorem dX6_byteAt_12 : decode cX6_byteAt 12 = .ok (.getfield 25, 3) := by decide +kernel
theorem dX6_byteAt_15 : decode cX6_byteAt 15 = .ok (.aload_n 0, 1) := by decide +kernel
theorem dX6_byteAt_16 : decode cX6_byteAt 16 = .ok (.getfield 214, 3) := by decide +kernel
theorem dX6_byteAt_19 : decode cX6_byteAt 19 = .ok (.baload, 1) := by decide +kernel
theorem dX6_byteAt_20 : decode cX6_byteAt 20 = .ok (.sipush 255, 3) := by decide +kernel
theorem dX6_byteAt_23 : decode cX6_byteAt 23 = .ok (.iand, 1) := by decide +kernel
theorem dX6_byteAt_24 : decode cX6_byteAt 24 = .ok (.goto 4, 3) := by decide +kernel
theorem dX6_byteAt_27 : decode cX6_byteAt 27 = .ok (.iconst (-1), 1) := by decide +kernel
theorem dX6_byteAt_28 : decode cX6_byteAt 28 = .ok (.ireturn, 1) := by decide +kernel
theorem dX6_advance_0 : decode cX6_advance 0 = .ok (.aload_n 0, 1) := by decide +kernel
theorem dX6_advance_1 : decode cX6_advance 1 = .ok (.getfield 220, 3) := by decide +kernel
theorem dX6_advance_4 : decode cX6_advance 4 = .ok (.ifCond .eq 4, 3) := by decide +kernel
theorem dX6_advance_7 : decode cX6_advance 7 = .ok (.return_, 1) := by decide +kernel
theorem dX6_advance_8 : decode cX6_advance 8 = .ok (.aload_n 0, 1) := by decide +kernel
theorem dX6_advance_9 : decode cX6_advance 9 = .ok (.invokevirtual 223, 3) := by decide +kernel
theorem dX6_advance_12 : decode cX6_advance 12 = .ok (.bipush 32, 2) := by decide +kernel
theorem dX6_advance_14 : decode cX6_advance 14 = .ok (.if_icmp .eq 12, 3) := by decide +kernel
theorem dX6_advance_17 : decode cX6_advance 17 = .ok (.aload_n 0, 1) := by decide +kernel
theorem dX6_advance_18 : decode cX6_advance 18 = .ok (.invokevirtual 223, 3) := by decide +kernel
theorem dX6_advance_21 : decode cX6_advance 21 = .ok (.bipush 10, 2) := by decide +kernel
theorem dX6_advance_23 : decode cX6_advance 23 = .ok (.if_icmp .ne 16, 3) := by decide +kernel
theorem dX6_advance_26 : decode cX6_advance 26 = .ok (.aload_n 0, 1) := by decide +kernel
theorem dX6_advance_27 : decode cX6_advance 27 = .ok (.dup, 1) := by decide +kernel
theorem dX6_advance_28 : decode cX6_advance 28 = .ok (.getfield 214, 3) := by decide +kernel
theorem dX6_advance_31 : decode cX6_advance 31 = .ok (.iconst 1, 1) := by decide +kernel
theorem dX6_advance_32 : decode cX6_advance 32 = .ok (.iadd, 1) := by decide +kernel
theorem dX6_advance_33 : decode cX6_advance 33 = .ok (.putfield 214, 3) := by decide +kernel
theorem dX6_advance_36 : decode cX6_advance 36 = .ok (.goto (-28), 3) := by decide +kernel
theorem dX6_advance_39 : decode cX6_advance 39 = .ok (.aload_n 0, 1) := by decide +kernel
theorem dX6_advance_40 : decode cX6_advance 40 = .ok (.aload_n 0, 1) := by decide +kernel
theorem dX6_advance_41 : decode cX6_advance 41 = .ok (.getfield 214, 3) := by decide +kernel
theorem dX6_advance_44 : decode cX6_advance 44 = .ok (.putfield 226, 3) := by decide +kernel
theorem dX6_advance_47 : decode cX6_advance 47 = .ok (.aload_n 0, 1) := by decide +kernel
theorem dX6_advance_48 : decode cX6_advance 48 = .ok (.lconst 0, 1) := by decide +kernel
theorem dX6_advance_49 : decode cX6_advance 49 = .ok (.putfield 229, 3) := by decide +kernel
theorem dX6_advance_52 : decode cX6_advance 52 = .ok (.aload_n 0, 1) := by decide +kernel
theorem dX6_advance_53 : decode cX6_advance 53 = .ok (.iconst 0, 1) := by decide +kernel
theorem dX6_advance_54 : decode cX6_advance 54 = .ok (.putfield 233, 3) := by decide +kernel
theorem dX6_advance_57 : decode cX6_advance 57 = .ok (.aload_n 0, 1) := by decide +kernel
theorem dX6_advance_58 : decode cX6_advance 58 = .ok (.iconst 0, 1) := by decide +kernel
theorem dX6_advance_59 : decode cX6_advance 59 = .ok (.putfield 236, 3) := by decide +kernel
theorem dX6_advance_62 : decode cX6_advance 62 = .ok (.aload_n 0, 1) := by decide +kernel
theorem dX6_advance_63 : decode cX6_advance 63 = .ok (.invokevirtual 223, 3) := by decide +kernel
theorem dX6_advance_66 : decode cX6_advance 66 = .ok (.iconst (-1), 1) := by decide +kernel
theorem dX6_advance_67 : decode cX6_advance 67 = .ok (.if_icmp .ne 11, 3) := by decide +kernel
theorem dX6_advance_70 : decode cX6_advance 70 = .ok (.aload_n 0, 1) := by decide +kernel
theorem dX6_advance_71 : decode cX6_advance 71 = .ok (.iconst 0, 1) := by decide +kernel
theorem dX6_advance_72 : decode cX6_advance 72 = .ok (.putfield 239, 3) := by decide +kernel
theorem dX6_advance_75 : decode cX6_advance 75 = .ok (.goto 253, 3) := by decide +kernel
theorem dX6_advance_78 : decode cX6_advance 78 = .ok (.aload_n 0, 1) := by decide +kernel
theorem dX6_advance_79 : decode cX6_advance 79 = .ok (.invokevirtual 223, 3) := by decide +kernel
theorem dX6_advance_82 : decode cX6_advance 82 = .ok (.bipush 97, 2) := by decide +kernel
theorem dX6_advance_84 : decode cX6_advance 84 = .ok (.bipush 122, 2) := by decide +kernel
theorem dX6_advance_86 : decode cX6_advance 86 = .ok (.invokestatic 60, 3) := by decide +kernel
theorem dX6_advance_89 : decode cX6_advance 89 = .ok (.ifCond .eq 124, 3) := by decide +kernel
theorem dX6_advance_92 : decode cX6_advance 92 = .ok (.aload_n 0, 1) := by decide +kernel
theorem dX6_advance_93 : decode cX6_advance 93 = .ok (.iconst 1, 1) := by decide +kernel
theorem dX6_advance_94 : decode cX6_advance 94 = .ok (.putfield 239, 3) := by decide +kernel
theorem dX6_advance_97 : decode cX6_advance 97 = .ok (.aload_n 0, 1) := by decide +kernel
theorem dX6_advance_98 : decode cX6_advance 98 = .ok (.invokevirtual 223, 3) := by decide +kernel
theorem dX6_advance_101 : decode cX6_advance 101 = .ok (.bipush 97, 2) := by decide +kernel
theorem dX6_advance_103 : decode cX6_advance 103 = .ok (.bipush 122, 2) := by decide +kernel
theorem dX6_advance_105 : decode cX6_advance 105 = .ok (.invokestatic 60, 3) := by decide +kernel
theorem dX6_advance_108 : decode cX6_advance 108 = .ok (.ifCond .eq 220, 3) := by decide +kernel
theorem dX6_advance_111 : decode cX6_advance 111 = .ok (.aload_n 0, 1) := by decide +kernel
theorem dX6_advance_112 : decode cX6_advance 112 = .ok (.invokevirtual 223, 3) := by decide +kernel
theorem dX6_advance_115 : decode cX6_advance 115 = .ok (.bipush 96, 2) := by decide +kernel
theorem dX6_advance_117 : decode cX6_advance 117 = .ok (.isub, 1) := by decide +kernel
theorem dX6_advance_118 : decode cX6_advance 118 = .ok (.istore_n 1, 1) := by decide +kernel
theorem dX6_advance_119 : decode cX6_advance 119 = .ok (.aload_n 0, 1) := by decide +kernel
theorem dX6_advance_120 : decode cX6_advance 120 = .ok (.aload_n 0, 1) := by decide +kernel
theorem dX6_advance_121 : decode cX6_advance 121 = .ok (.getfield 214, 3) := by decide +kernel
theorem dX6_advance_124 : decode cX6_advance 124 = .ok (.aload_n 0, 1) := by decide +kernel
theorem dX6_advance_125 : decode cX6_advance 125 = .ok (.getfield 226, 3) := by decide +kernel
theorem dX6_advance_128 : decode cX6_advance 128 = .ok (.isub, 1) := by decide +kernel
theorem dX6_advance_129 : decode cX6_advance 129 = .ok (.bipush 12, 2) := by decide +kernel
theorem dX6_advance_131 : decode cX6_advance 131 = .ok (.if_icmp .ge 17, 3) := by decide +kernel
theorem dX6_advance_134 : decode cX6_advance 134 = .ok (.ldc2_w 242, 3) := by decide +kernel
theorem dX6_advance_137 : decode cX6_advance 137 = .ok (.aload_n 0, 1) := by decide +kernel
theorem dX6_advance_138 : decode cX6_advance 138 = .ok (.getfield 229, 3) := by decide +kernel
theorem dX6_advance_141 : decode cX6_advance 141 = .ok (.lmul, 1) := by decide +kernel
theorem dX6_advance_142 : decode cX6_advance 142 = .ok (.iload_n 1, 1) := by decide +kernel
theorem dX6_advance_143 : decode cX6_advance 143 = .ok (.i2l, 1) := by decide +kernel
theorem dX6_advance_144 : decode cX6_advance 144 = .ok (.ladd, 1) := by decide +kernel
theorem dX6_advance_145 : decode cX6_advance 145 = .ok (.goto 6, 3) := by decide +kernel
theorem dX6_advance_148 : decode cX6_advance 148 = .ok (.ldc2_w 244, 3) := by decide +kernel
theorem dX6_advance_151 : decode cX6_advance 151 = .ok (.putfield 229, 3) := by decide +kernel
theorem dX6_advance_154 : decode cX6_advance 154 = .ok (.aload_n 0, 1) := by decide +kernel
theorem dX6_advance_155 : decode cX6_advance 155 = .ok (.aload_n 0, 1) := by decide +kernel
theorem dX6_advance_156 : decode cX6_advance 156 = .ok (.getfield 214, 3) := by decide +kernel
theorem dX6_advance_159 : decode cX6_advance 159 = .ok (.aload_n 0, 1) := by decide +kernel
theorem dX6_advance_160 : decode cX6_advance 160 = .ok (.getfield 226, 3) := by decide +kernel
theorem dX6_advance_163 : decode cX6_advance 163 = .ok (.isub, 1) := by decide +kernel
theorem dX6_advance_164 : decode cX6_advance 164 = .ok (.bipush 6, 2) := by decide +kernel
theorem dX6_advance_166 : decode cX6_advance 166 = .ok (.if_icmp .ge 27, 3) := by decide +kernel
theorem dX6_advance_169 : decode cX6_advance 169 = .ok (.aload_n 0, 1) := by decide +kernel
theorem dX6_advance_170 : decode cX6_advance 170 = .ok (.getfield 233, 3) := by decide +kernel
theorem dX6_advance_173 : decode cX6_advance 173 = .ok (.iload_n 1, 1) := by decide +kernel
theorem dX6_advance_174 : decode cX6_advance 174 = .ok (.bipush 25, 2) := by decide +kernel
theorem dX6_advance_176 : decode cX6_advance 176 = .ok (.iconst 5, 1) := by decide +kernel
theorem dX6_advance_177 : decode cX6_advance 177 = .ok (.aload_n 0, 1) := by decide +kernel
theorem dX6_advance_178 : decode cX6_advance 178 = .ok (.getfield 214, 3) := by decide +kernel
theorem dX6_advance_181 : decode cX6_advance 181 = .ok (.aload_n 0, 1) := by decide +kernel
theorem dX6_advance_182 : decode cX6_advance 182 = .ok (.getfield 226, 3) := by decide +kernel
theorem dX6_advance_185 : decode cX6_advance 185 = .ok (.isub, 1) := by decide +kernel
theorem dX6_advance_186 : decode cX6_advance 186 = .ok (.imul, 1) := by decide +kernel
theorem dX6_advance_187 : decode cX6_advance 187 = .ok (.isub, 1) := by decide +kernel
theorem dX6_advance_188 : decode cX6_advance 188 = .ok (.ishl, 1) := by decide +kernel
theorem dX6_advance_189 : decode cX6_advance 189 = .ok (.ior, 1) := by decide +kernel
theorem dX6_advance_190 : decode cX6_advance 190 = .ok (.goto 7, 3) := by decide +kernel
theorem dX6_advance_193 : decode cX6_advance 193 = .ok (.aload_n 0, 1) := by decide +kernel
theorem dX6_advance_194 : decode cX6_advance 194 = .ok (.getfield 233, 3) := by decide +kernel
theorem dX6_advance_197 : decode cX6_advance 197 = .ok (.putfield 233, 3) := by decide +kernel
theorem dX6_advance_200 : decode cX6_advance 200 = .ok (.aload_n 0, 1) := by decide +kernel
theorem dX6_advance_201 : decode cX6_advance 201 = .ok (.dup, 1) := by decide +kernel
theorem dX6_advance_202 : decode cX6_advance 202 = .ok (.getfield 214, 3) := by decide +kernel
theorem dX6_advance_205 : decode cX6_advance 205 = .ok (.iconst 1, 1) := by decide +kernel
theorem dX6_advance_206 : decode cX6_advance 206 = .ok (.iadd, 1) := by decide +kernel
theorem dX6_advance_207 : decode cX6_advance 207 = .ok (.putfield 214, 3) := by decide +kernel
theorem dX6_advance_210 : decode cX6_advance 210 = .ok (.goto (-113), 3) := by decide +kernel
theorem dX6_advance_213 : decode cX6_advance 213 = .ok (.aload_n 0, 1) := by decide +kernel
theorem dX6_advance_214 : decode cX6_advance 214 = .ok (.invokevirtual 223, 3) := by decide +kernel
theorem dX6_advance_217 : decode cX6_advance 217 = .ok (.bipush 48, 2) := by decide +kernel
theorem dX6_advance_219 : decode cX6_advance 219 = .ok (.bipush 57, 2) := by decide +kernel
theorem dX6_advance_221 : decode cX6_advance 221 = .ok (.invokestatic 60, 3) := by decide +kernel
theorem dX6_advance_224 : decode cX6_advance 224 = .ok (.ifCond .eq 76, 3) := by decide +kernel
theorem dX6_advance_227 : decode cX6_advance 227 = .ok (.aload_n 0, 1) := by decide +kernel
theorem dX6_advance_228 : decode cX6_advance 228 = .ok (.iconst 2, 1) := by decide +kernel
theorem dX6_advance_229 : decode cX6_advance 229 = .ok (.putfield 239, 3) := by decide +kernel
theorem dX6_advance_232 : decode cX6_advance 232 = .ok (.aload_n 0, 1) := by decide +kernel
theorem dX6_advance_233 : decode cX6_advance 233 = .ok (.invokevirtual 223, 3) := by decide +kernel
theorem dX6_advance_236 : decode cX6_advance 236 = .ok (.bipush 48, 2) := by decide +kernel
theorem dX6_advance_238 : decode cX6_advance 238 = .ok (.bipush 57, 2) := by decide +kernel
theorem dX6_advance_240 : decode cX6_advance 240 = .ok (.invokestatic 60, 3) := by decide +kernel
theorem dX6_advance_243 : decode cX6_advance 243 = .ok (.ifCond .eq 85, 3) := by decide +kernel
theorem dX6_advance_246 : decode cX6_advance 246 = .ok (.aload_n 0, 1) := by decide +kernel
theorem dX6_advance_247 : decode cX6_advance 247 = .ok (.bipush 10, 2) := by decide +kernel
theorem dX6_advance_249 : decode cX6_advance 249 = .ok (.aload_n 0, 1) := by decide +kernel
theorem dX6_advance_250 : decode cX6_advance 250 = .ok (.getfield 236, 3) := by decide +kernel
theorem dX6_advance_253 : decode cX6_advance 253 = .ok (.imul, 1) := by decide +kernel
theorem dX6_advance_254 : decode cX6_advance 254 = .ok (.aload_n 0, 1) := by decide +kernel
theorem dX6_advance_255 : decode cX6_advance 255 = .ok (.invokevirtual 223, 3) := by decide +kernel
theorem dX6_advance_258 : decode cX6_advance 258 = .ok (.iadd, 1) := by decide +kernel
theorem dX6_advance_259 : decode cX6_advance 259 = .ok (.bipush 48, 2) := by decide +kernel
theorem dX6_advance_261 : decode cX6_advance 261 = .ok (.isub, 1) := by decide +kernel
theorem dX6_advance_262 : decode cX6_advance 262 = .ok (.putfield 236, 3) := by decide +kernel
theorem dX6_advance_265 : decode cX6_advance 265 = .ok (.aload_n 0, 1) := by decide +kernel
theorem dX6_advance_266 : decode cX6_advance 266 = .ok (.aload_n 0, 1) := by decide +kernel
theorem dX6_advance_267 : decode cX6_advance 267 = .ok (.getfield 236, 3) := by decide +kernel
theorem dX6_advance_270 : decode cX6_advance 270 = .ok (.ldc 246, 2) := by decide +kernel
theorem dX6_advance_272 : decode cX6_advance 272 = .ok (.if_icmp .le 8, 3) := by decide +kernel
theorem dX6_advance_275 : decode cX6_advance 275 = .ok (.ldc 246, 2) := by decide +kernel
theorem dX6_advance_277 : decode cX6_advance 277 = .ok (.goto 7, 3) := by decide +kernel
theorem dX6_advance_280 : decode cX6_advance 280 = .ok (.aload_n 0, 1) := by decide +kernel
theorem dX6_advance_281 : decode cX6_advance 281 = .ok (.getfield 236, 3) := by decide +kernel
theorem dX6_advance_284 : decode cX6_advance 284 = .ok (.putfield 236, 3) := by decide +kernel
theorem dX6_advance_287 : decode cX6_advance 287 = .ok (.aload_n 0, 1) := by decide +kernel
theorem dX6_advance_288 : decode cX6_advance 288 = .ok (.dup, 1) := by decide +kernel
theorem dX6_advance_289 : decode cX6_advance 289 = .ok (.getfield 214, 3) := by decide +kernel
theorem dX6_advance_292 : decode cX6_advance 292 = .ok (.iconst 1, 1) := by decide +kernel
theorem dX6_advance_293 : decode cX6_advance 293 = .ok (.iadd, 1) := by decide +kernel
theorem dX6_advance_294 : decode cX6_advance 294 = .ok (.putfield 214, 3) := by decide +kernel
theorem dX6_advance_297 : decode cX6_advance 297 = .ok (.goto (-65), 3) := by decide +kernel
theorem dX6_advance_300 : decode cX6_advance 300 = .ok (.aload_n 0, 1) := by decide +kernel
theorem dX6_advance_301 : decode cX6_advance 301 = .ok (.aload_n 0, 1) := by decide +kernel
theorem dX6_advance_302 : decode cX6_advance 302 = .ok (.invokevirtual 223, 3) := by decide +kernel
theorem dX6_advance_305 : decode cX6_advance 305 = .ok (.bipush 59, 2) := by decide +kernel
theorem dX6_advance_307 : decode cX6_advance 307 = .ok (.if_icmp .ne 7, 3) := by decide +kernel
theorem dX6_advance_310 : decode cX6_advance 310 = .ok (.iconst 3, 1) := by decide +kernel
theorem dX6_advance_311 : decode cX6_advance 311 = .ok (.goto 4, 3) := by decide +kernel
theorem dX6_advance_314 : decode cX6_advance 314 = .ok (.iconst 4, 1) := by decide +kernel
theorem dX6_advance_315 : decode cX6_advance 315 = .ok (.putfield 239, 3) := by decide +kernel
theorem dX6_advance_318 : decode cX6_advance 318 = .ok (.aload_n 0, 1) := by decide +kernel
theorem dX6_advance_319 : decode cX6_advance 319 = .ok (.dup, 1) := by decide +kernel
theorem dX6_advance_320 : decode cX6_advance 320 = .ok (.getfield 214, 3) := by decide +kernel
theorem dX6_advance_323 : decode cX6_advance 323 = .ok (.iconst 1, 1) := by decide +kernel
theorem dX6_advance_324 : decode cX6_advance 324 = .ok (.iadd, 1) := by decide +kernel
theorem dX6_advance_325 : decode cX6_advance 325 = .ok (.putfield 214, 3) := by decide +kernel
theorem dX6_advance_328 : decode cX6_advance 328 = .ok (.return_, 1) := by decide +kernel
theorem dX6_check_0 : decode cX6_check 0 = .ok (.aload_n 0, 1) := by decide +kernel
theorem dX6_check_1 : decode cX6_check 1 = .ok (.getfield 220, 3) := by decide +kernel
theorem dX6_check_4 : decode cX6_check 4 = .ok (.ifCond .ne 12, 3) := by decide +kernel
theorem dX6_check_7 : decode cX6_check 7 = .ok (.iload_n 1, 1) := by decide +kernel
theorem dX6_check_8 : decode cX6_check 8 = .ok (.ifCond .ne 8, 3) := by decide +kernel
theorem dX6_check_11 : decode cX6_check 11 = .ok (.aload_n 0, 1) := by decide +kernel
theorem dX6_check_12 : decode cX6_check 12 = .ok (.iload_n 2, 1) := by decide +kernel
theorem dX6_check_13 : decode cX6_check 13 = .ok (.putfield 220, 3) := by decide +kernel
theorem dX6_check_16 : decode cX6_check 16 = .ok (.return_, 1) := by decide +kernel
theorem dX6_isWord_0 : decode cX6_isWord 0 = .ok (.aload_n 0, 1) := by decide +kernel
theorem dX6_isWord_1 : decode cX6_isWord 1 = .ok (.getfield 220, 3) := by decide +kernel
theorem dX6_isWord_4 : decode cX6_isWord 4 = .ok (.ifCond .ne 24, 3) := by decide +kernel
theorem dX6_isWord_7 : decode cX6_isWord 7 = .ok (.aload_n 0, 1) := by decide +kernel
theorem dX6_isWord_8 : decode cX6_isWord 8 = .ok (.getfield 239, 3) := by decide +kernel
theorem dX6_isWord_11 : decode cX6_isWord 11 = .ok (.iconst 1, 1) := by decide +kernel
theorem dX6_isWord_12 : decode cX6_isWord 12 = .ok (.if_icmp .ne 16, 3) := by decide +kernel
theorem dX6_isWord_15 : decode cX6_isWord 15 = .ok (.aload_n 0, 1) := by decide +kernel
theorem dX6_isWord_16 : decode cX6_isWord 16 = .ok (.getfield 229, 3) := by decide +kernel
theorem dX6_isWord_19 : decode cX6_isWord 19 = .ok (.lload_n 1, 1) := by decide +kernel
theorem dX6_isWord_20 : decode cX6_isWord 20 = .ok (.lcmp, 1) := by decide +kernel
theorem dX6_isWord_21 : decode cX6_isWord 21 = .ok (.ifCond .ne 7, 3) := by decide +kernel
theorem dX6_isWord_24 : decode cX6_isWord 24 = .ok (.iconst 1, 1) := by decide +kernel
theorem dX6_isWord_25 : decode cX6_isWord 25 = .ok (.goto 4, 3) := by decide +kernel
theorem dX6_isWord_28 : decode cX6_isWord 28 = .ok (.iconst 0, 1) := by decide +kernel
theorem dX6_isWord_29 : decode cX6_isWord 29 = .ok (.ireturn, 1) := by decide +kernel
theorem dX6_integerHere_0 : decode cX6_integerHere 0 = .ok (.aload_n 0, 1) := by decide +kernel
theorem dX6_integerHere_1 : decode cX6_integerHere 1 = .ok (.aload_n 0, 1) := by decide +kernel
theorem dX6_integerHere_2 : decode cX6_integerHere 2 = .ok (.getfield 239, 3) := by decide +kernel
theorem dX6_integerHere_5 : decode cX6_integerHere 5 = .ok (.iconst 2, 1) := by decide +kernel
theorem dX6_integerHere_6 : decode cX6_integerHere 6 = .ok (.if_icmp .ne 7, 3) := by decide +kernel
theorem dX6_integerHere_9 : decode cX6_integerHere 9 = .ok (.iconst 1, 1) := by decide +kernel
theorem dX6_integerHere_10 : decode cX6_integerHere 10 = .ok (.goto 4, 3) := by decide +kernel
theorem dX6_integerHere_13 : decode cX6_integerHere 13 = .ok (.iconst 0, 1) := by decide +kernel
theorem dX6_integerHere_14 : decode cX6_integerHere 14 = .ok (.bipush (-11), 2) := by decide +kernel
theorem dX6_integerHere_16 : decode cX6_integerHere 16 = .ok (.invokevirtual 247, 3) := by decide +kernel
theorem dX6_integerHere_19 : decode cX6_integerHere 19 = .ok (.aload_n 0, 1) := by decide +kernel
theorem dX6_integerHere_20 : decode cX6_integerHere 20 = .ok (.aload_n 0, 1) := by decide +kernel
theorem dX6_integerHere_21 : decode cX6_integerHere 21 = .ok (.getfield 236, 3) := by decide +kernel
theorem dX6_integerHere_24 : decode cX6_integerHere 24 = .ok (.iload_n 1, 1) := by decide +kernel
theorem dX6_integerHere_25 : decode cX6_integerHere 25 = .ok (.iload_n 2, 1) := by decide +kernel
theorem dX6_integerHere_26 : decode cX6_integerHere 26 = .ok (.invokestatic 60, 3) := by decide +kernel
theorem dX6_integerHere_29 : decode cX6_integerHere 29 = .ok (.bipush (-12), 2) := by decide +kernel
theorem dX6_integerHere_31 : decode cX6_integerHere 31 = .ok (.invokevirtual 247, 3) := by decide +kernel
theorem dX6_integerHere_34 : decode cX6_integerHere 34 = .ok (.aload_n 0, 1) := by decide +kernel
theorem dX6_integerHere_35 : decode cX6_integerHere 35 = .ok (.getfield 220, 3) := by decide +kernel
theorem dX6_integerHere_38 : decode cX6_integerHere 38 = .ok (.ifCond .ne 10, 3) := by decide +kernel
theorem dX6_integerHere_41 : decode cX6_integerHere 41 = .ok (.aload_n 0, 1) := by decide +kernel
theorem dX6_integerHere_42 : decode cX6_integerHere 42 = .ok (.getfield 236, 3) := by decide +kernel
theorem dX6_integerHere_45 : decode cX6_integerHere 45 = .ok (.goto 4, 3) := by decide +kernel
theorem dX6_integerHere_48 : decode cX6_integerHere 48 = .ok (.iload_n 1, 1) := by decide +kernel
theorem dX6_integerHere_49 : decode cX6_integerHere 49 = .ok (.ireturn, 1) := by decide +kernel
theorem dX6_integer_0 : decode cX6_integer 0 = .ok (.aload_n 0, 1) := by decide +kernel
theorem dX6_integer_1 : decode cX6_integer 1 = .ok (.iload_n 1, 1) := by decide +kernel
theorem dX6_integer_2 : decode cX6_integer 2 = .ok (.iload_n 2, 1) := by decide +kernel
theorem dX6_integer_3 : decode cX6_integer 3 = .ok (.invokevirtual 251, 3) := by decide +kernel
theorem dX6_integer_6 : decode cX6_integer 6 = .ok (.istore_n 3, 1) := by decide +kernel
theorem dX6_integer_7 : decode cX6_integer 7 = .ok (.aload_n 0, 1) := by decide +kernel
theorem dX6_integer_8 : decode cX6_integer 8 = .ok (.invokevirtual 254, 3) := by decide +kernel
theorem dX6_integer_11 : decode cX6_integer 11 = .ok (.iload_n 3, 1) := by decide +kernel
theorem dX6_integer_12 : decode cX6_integer 12 = .ok (.ireturn, 1) := by decide +kernel
theorem dX6_nameHere_0 : decode cX6_nameHere 0 = .ok (.aload_n 0, 1) := by decide +kernel
theorem dX6_nameHere_1 : decode cX6_nameHere 1 = .ok (.aload_n 0, 1) := by decide +kernel
theorem dX6_nameHere_2 : decode cX6_nameHere 2 = .ok (.getfield 239, 3) := by decide +kernel
theorem dX6_nameHere_5 : decode cX6_nameHere 5 = .ok (.iconst 1, 1) := by decide +kernel
theorem dX6_nameHere_6 : decode cX6_nameHere 6 = .ok (.if_icmp .ne 21, 3) := by decide +kernel
theorem dX6_nameHere_9 : decode cX6_nameHere 9 = .ok (.aload_n 0, 1) := by decide +kernel
theorem dX6_nameHere_10 : decode cX6_nameHere 10 = .ok (.getfield 214, 3) := by decide +kernel
theorem dX6_nameHere_13 : decode cX6_nameHere 13 = .ok (.aload_n 0, 1) := by decide +kernel
theorem dX6_nameHere_14 : decode cX6_nameHere 14 = .ok (.getfield 226, 3) := by decide +kernel
theorem dX6_nameHere_17 : decode cX6_nameHere 17 = .ok (.isub, 1) := by decide +kernel
theorem dX6_nameHere_18 : decode cX6_nameHere 18 = .ok (.bipush 6, 2) := by decide +kernel
theorem dX6_nameHere_20 : decode cX6_nameHere 20 = .ok (.if_icmp .gt 7, 3) := by decide +kernel
theorem dX6_nameHere_23 : decode cX6_nameHere 23 = .ok (.iconst 1, 1) := by decide +kernel
theorem dX6_nameHere_24 : decode cX6_nameHere 24 = .ok (.goto 4, 3) := by decide +kernel
theorem dX6_nameHere_27 : decode cX6_nameHere 27 = .ok (.iconst 0, 1) := by decide +kernel
theorem dX6_nameHere_28 : decode cX6_nameHere 28 = .ok (.bipush (-11), 2) := by decide +kernel
theorem dX6_nameHere_30 : decode cX6_nameHere 30 = .ok (.invokevirtual 247, 3) := by decide +kernel
theorem dX6_nameHere_33 : decode cX6_nameHere 33 = .ok (.return_, 1) := by decide +kernel
theorem dX6_newName_0 : decode cX6_newName 0 = .ok (.aload_n 0, 1) := by decide +kernel
theorem dX6_newName_1 : decode cX6_newName 1 = .ok (.invokevirtual 257, 3) := by decide +kernel
theorem dX6_newName_4 : decode cX6_newName 4 = .ok (.aload_n 0, 1) := by decide +kernel
theorem dX6_newName_5 : decode cX6_newName 5 = .ok (.aload_n 0, 1) := by decide +kernel
theorem dX6_newName_6 : decode cX6_newName 6 = .ok (.iload_n 1, 1) := by decide +kernel
theorem dX6_newName_7 : decode cX6_newName 7 = .ok (.aload_n 0, 1) := by decide +kernel
theorem dX6_newName_8 : decode cX6_newName 8 = .ok (.getfield 233, 3) := by decide +kernel
theorem dX6_newName_11 : decode cX6_newName 11 = .ok (.invokevirtual 124, 3) := by decide +kernel
theorem dX6_newName_14 : decode cX6_newName 14 = .ok (.ifCond .ge 7, 3) := by decide +kernel
theorem dX6_newName_17 : decode cX6_newName 17 = .ok (.iconst 1, 1) := by decide +kernel
theorem dX6_newName_18 : decode cX6_newName 18 = .ok (.goto 4, 3) := by decide +kernel
theorem dX6_newName_21 : decode cX6_newName 21 = .ok (.iconst 0, 1) := by decide +kernel
theorem dX6_newName_22 : decode cX6_newName 22 = .ok (.bipush (-14), 2) := by decide +kernel
theorem dX6_newName_24 : decode cX6_newName 24 = .ok (.invokevirtual 247, 3) := by decide +kernel
theorem dX6_newName_27 : decode cX6_newName 27 = .ok (.aload_n 0, 1) := by decide +kernel
theorem dX6_newName_28 : decode cX6_newName 28 = .ok (.getfield 233, 3) := by decide +kernel
theorem dX6_newName_31 : decode cX6_newName 31 = .ok (.istore_n 2, 1) := by decide +kernel
theorem dX6_newName_32 : decode cX6_newName 32 = .ok (.aload_n 0, 1) := by decide +kernel
theorem dX6_newName_33 : decode cX6_newName 33 = .ok (.invokevirtual 254, 3) := by decide +kernel
theorem dX6_newName_36 : decode cX6_newName 36 = .ok (.iload_n 2, 1) := by decide +kernel
theorem dX6_newName_37 : decode cX6_newName 37 = .ok (.ireturn, 1) := by decide +kernel
theorem dX6_thingHere_0 : decode cX6_thingHere 0 = .ok (.aload_n 0, 1) := by decide +kernel
theorem dX6_thingHere_1 : decode cX6_thingHere 1 = .ok (.invokevirtual 257, 3) := by decide +kernel
theorem dX6_thingHere_4 : decode cX6_thingHere 4 = .ok (.aload_n 0, 1) := by decide +kernel
theorem dX6_thingHere_5 : decode cX6_thingHere 5 = .ok (.iload_n 1, 1) := by decide +kernel
theorem dX6_thingHere_6 : decode cX6_thingHere 6 = .ok (.aload_n 0, 1) := by decide +kernel
theorem dX6_thingHere_7 : decode cX6_thingHere 7 = .ok (.getfield 233, 3) := by decide +kernel
theorem dX6_thingHere_10 : decode cX6_thingHere 10 = .ok (.invokevirtual 124, 3) := by decide +kernel
theorem dX6_thingHere_13 : decode cX6_thingHere 13 = .ok (.istore_n 2, 1) := by decide +kernel
theorem dX6_thingHere_14 : decode cX6_thingHere 14 = .ok (.aload_n 0, 1) := by decide +kernel
theorem dX6_thingHere_15 : decode cX6_thingHere 15 = .ok (.iload_n 2, 1) := by decide +kernel
theorem dX6_thingHere_16 : decode cX6_thingHere 16 = .ok (.ifCond .lt 7, 3) := by decide +kernel
theorem dX6_thingHere_19 : decode cX6_thingHere 19 = .ok (.iconst 1, 1) := by decide +kernel
theorem dX6_thingHere_20 : decode cX6_thingHere 20 = .ok (.goto 4, 3) := by decide +kernel
theorem dX6_thingHere_23 : decode cX6_thingHere 23 = .ok (.iconst 0, 1) := by decide +kernel
theorem dX6_thingHere_24 : decode cX6_thingHere 24 = .ok (.bipush (-13), 2) := by decide +kernel
theorem dX6_thingHere_26 : decode cX6_thingHere 26 = .ok (.invokevirtual 247, 3) := by decide +kernel
theorem dX6_thingHere_29 : decode cX6_thingHere 29 = .ok (.aload_n 0, 1) := by decide +kernel
theorem dX6_thingHere_30 : decode cX6_thingHere 30 = .ok (.getfield 220, 3) := by decide +kernel
theorem dX6_thingHere_33 : decode cX6_thingHere 33 = .ok (.ifCond .ne 7, 3) := by decide +kernel
theorem dX6_thingHere_36 : decode cX6_thingHere 36 = .ok (.iload_n 2, 1) := by decide +kernel
theorem dX6_thingHere_37 : decode cX6_thingHere 37 = .ok (.goto 4, 3) := by decide +kernel
theorem dX6_thingHere_40 : decode cX6_thingHere 40 = .ok (.iconst 0, 1) := by decide +kernel
theorem dX6_thingHere_41 : decode cX6_thingHere 41 = .ok (.ireturn, 1) := by decide +kernel
theorem dX6_thing_0 : decode cX6_thing 0 = .ok (.aload_n 0, 1) := by decide +kernel
theorem dX6_thing_1 : decode cX6_thing 1 = .ok (.iload_n 1, 1) := by decide +kernel
theorem dX6_thing_2 : decode cX6_thing 2 = .ok (.invokevirtual 260, 3) := by decide +kernel
theorem dX6_thing_5 : decode cX6_thing 5 = .ok (.istore_n 2, 1) := by decide +kernel
theorem dX6_thing_6 : decode cX6_thing 6 = .ok (.aload_n 0, 1) := by decide +kernel
theorem dX6_thing_7 : decode cX6_thing 7 = .ok (.invokevirtual 254, 3) := by decide +kernel
theorem dX6_thing_10 : decode cX6_thing 10 = .ok (.iload_n 2, 1) := by decide +kernel
theorem dX6_thing_11 : decode cX6_thing 11 = .ok (.ireturn, 1) := by decide +kernel
theorem dX6_readVolume_0 : decode cX6_readVolume 0 = .ok (.aload_n 0, 1) := by decide +kernel
theorem dX6_readVolume_1 : decode cX6_readVolume 1 = .ok (.aload_n 0, 1) := by decide +kernel
theorem dX6_readVolume_2 : decode cX6_readVolume 2 = .ok (.getfield 16, 3) := by decide +kernel
theorem dX6_readVolume_5 : decode cX6_readVolume 5 = .ok (.iconst 3, 1) := by decide +kernel
theorem dX6_readVolume_6 : decode cX6_readVolume 6 = .ok (.iaload, 1) := by decide +kernel
theorem dX6_readVolume_7 : decode cX6_readVolume 7 = .ok (.bipush 6, 2) := by decide +kernel
theorem dX6_readVolume_9 : decode cX6_readVolume 9 = .ok (.if_icmp .ge 7, 3) := by decide +kernel
theorem dX6_readVolume_12 : decode cX6_readVolume 12 = .ok (.iconst 1, 1) := by decide +kernel
theorem dX6_readVolume_13 : decode cX6_readVolume 13 = .ok (.goto 4, 3) := by decide +kernel
theorem dX6_readVolume_16 : decode cX6_readVolume 16 = .ok (.iconst 0, 1) := by decide +kernel
theorem dX6_readVolume_17 : decode cX6_readVolume 17 = .ok (.bipush (-15), 2) := by decide +kernel
theorem dX6_readVolume_19 : decode cX6_readVolume 19 = .ok (.invokevirtual 247, 3) := by decide +kernel
theorem dX6_readVolume_22 : decode cX6_readVolume 22 = .ok (.aload_n 0, 1) := by decide +kernel
theorem dX6_readVolume_23 : decode cX6_readVolume 23 = .ok (.invokevirtual 254, 3) := by decide +kernel
theorem dX6_readVolume_26 : decode cX6_readVolume 26 = .ok (.aload_n 0, 1) := by decide +kernel
theorem dX6_readVolume_27 : decode cX6_readVolume 27 = .ok (.iconst 0, 1) := by decide +kernel
theorem dX6_readVolume_28 : decode cX6_readVolume 28 = .ok (.invokevirtual 263, 3) := by decide +kernel
theorem dX6_readVolume_31 : decode cX6_readVolume 31 = .ok (.istore_n 1, 1) := by decide +kernel
theorem dX6_readVolume_32 : decode cX6_readVolume 32 = .ok (.aload_n 0, 1) := by decide +kernel
theorem dX6_readVolume_33 : decode cX6_readVolume 33 = .ok (.getfield 220, 3) := by decide +kernel
theorem dX6_readVolume_36 : decode cX6_readVolume 36 = .ok (.ifCond .ne 10, 3) := by decide +kernel
theorem dX6_readVolume_39 : decode cX6_readVolume 39 = .ok (.aload_n 0, 1) := by decide +kernel
theorem dX6_readVolume_40 : decode cX6_readVolume 40 = .ok (.iconst (-1), 1) := by decide +kernel
theorem dX6_readVolume_41 : decode cX6_readVolume 41 = .ok (.iload_n 1, 1) := by decide +kernel
theorem dX6_readVolume_42 : decode cX6_readVolume 42 = .ok (.invokevirtual 186, 3) := by decide +kernel
theorem dX6_readVolume_45 : decode cX6_readVolume 45 = .ok (.pop, 1) := by decide +kernel
theorem dX6_readVolume_46 : decode cX6_readVolume 46 = .ok (.return_, 1) := by decide +kernel
theorem dX6_readWrite_0 : decode cX6_readWrite 0 = .ok (.aload_n 0, 1) := by decide +kernel
theorem dX6_readWrite_1 : decode cX6_readWrite 1 = .ok (.invokevirtual 254, 3) := by decide +kernel
theorem dX6_readWrite_4 : decode cX6_readWrite 4 = .ok (.aload_n 0, 1) := by decide +kernel
theorem dX6_readWrite_5 : decode cX6_readWrite 5 = .ok (.iconst 0, 1) := by decide +kernel
theorem dX6_readWrite_6 : decode cX6_readWrite 6 = .ok (.invokevirtual 266, 3) := by decide +kernel
theorem dX6_readWrite_9 : decode cX6_readWrite 9 = .ok (.istore_n 1, 1) := by decide +kernel
theorem dX6_readWrite_10 : decode cX6_readWrite 10 = .ok (.aload_n 0, 1) := by decide +kernel
theorem dX6_readWrite_11 : decode cX6_readWrite 11 = .ok (.iconst 0, 1) := by decide +kernel
theorem dX6_readWrite_12 : decode cX6_readWrite 12 = .ok (.bipush 11, 2) := by decide +kernel
theorem dX6_readWrite_14 : decode cX6_readWrite 14 = .ok (.invokevirtual 269, 3) := by decide +kernel
theorem dX6_readWrite_17 : decode cX6_readWrite 17 = .ok (.istore_n 2, 1) := by decide +kernel
theorem dX6_readWrite_18 : decode cX6_readWrite 18 = .ok (.aload_n 0, 1) := by decide +kernel
theorem dX6_readWrite_19 : decode cX6_readWrite 19 = .ok (.iconst 1, 1) := by decide +kernel
theorem dX6_readWrite_20 : decode cX6_readWrite 20 = .ok (.bipush 9, 2) := by decide +kernel
theorem dX6_readWrite_22 : decode cX6_readWrite 22 = .ok (.invokevirtual 251, 3) := by decide +kernel
theorem dX6_readWrite_25 : decode cX6_readWrite 25 = .ok (.istore_n 3, 1) := by decide +kernel
theorem dX6_readWrite_26 : decode cX6_readWrite 26 = .ok (.aload_n 0, 1) := by decide +kernel
theorem dX6_readWrite_27 : decode cX6_readWrite 27 = .ok (.aload_n 0, 1) := by decide +kernel
theorem dX6_readWrite_28 : decode cX6_readWrite 28 = .ok (.getfield 220, 3) := by decide +kernel
theorem dX6_readWrite_31 : decode cX6_readWrite 31 = .ok (.ifCond .ne 13, 3) := by decide +kernel
theorem dX6_readWrite_34 : decode cX6_readWrite 34 = .ok (.aload_n 0, 1) := by decide +kernel
theorem dX6_readWrite_35 : decode cX6_readWrite 35 = .ok (.iload_n 1, 1) := by decide +kernel
theorem dX6_readWrite_36 : decode cX6_readWrite 36 = .ok (.iload_n 2, 1) := by decide +kernel
theorem dX6_readWrite_37 : decode cX6_readWrite 37 = .ok (.iload_n 3, 1) := by decide +kernel
theorem dX6_readWrite_38 : decode cX6_readWrite 38 = .ok (.invokevirtual 172, 3) := by decide +kernel
theorem dX6_readWrite_41 : decode cX6_readWrite 41 = .ok (.ifCond .ne 7, 3) := by decide +kernel
theorem dX6_readWrite_44 : decode cX6_readWrite 44 = .ok (.iconst 1, 1) := by decide +kernel
theorem dX6_readWrite_45 : decode cX6_readWrite 45 = .ok (.goto 4, 3) := by decide +kernel
theorem dX6_readWrite_48 : decode cX6_readWrite 48 = .ok (.iconst 0, 1) := by decide +kernel
theorem dX6_readWrite_49 : decode cX6_readWrite 49 = .ok (.bipush (-16), 2) := by decide +kernel
theorem dX6_readWrite_51 : decode cX6_readWrite 51 = .ok (.invokevirtual 247, 3) := by decide +kernel
theorem dX6_readWrite_54 : decode cX6_readWrite 54 = .ok (.aload_n 0, 1) := by decide +kernel
theorem dX6_readWrite_55 : decode cX6_readWrite 55 = .ok (.getfield 220, 3) := by decide +kernel
theorem dX6_readWrite_58 : decode cX6_readWrite 58 = .ok (.ifCond .ne 11, 3) := by decide +kernel
theorem dX6_readWrite_61 : decode cX6_readWrite 61 = .ok (.aload_n 0, 1) := by decide +kernel
theorem dX6_readWrite_62 : decode cX6_readWrite 62 = .ok (.iload_n 1, 1) := by decide +kernel
theorem dX6_readWrite_63 : decode cX6_readWrite 63 = .ok (.iload_n 2, 1) := by decide +kernel
theorem dX6_readWrite_64 : decode cX6_readWrite 64 = .ok (.iload_n 3, 1) := by decide +kernel
theorem dX6_readWrite_65 : decode cX6_readWrite 65 = .ok (.invokevirtual 189, 3) := by decide +kernel
theorem dX6_readWrite_68 : decode cX6_readWrite 68 = .ok (.pop, 1) := by decide +kernel
theorem dX6_readWrite_69 : decode cX6_readWrite 69 = .ok (.aload_n 0, 1) := by decide +kernel
theorem dX6_readWrite_70 : decode cX6_readWrite 70 = .ok (.invokevirtual 254, 3) := by decide +kernel
theorem dX6_readWrite_73 : decode cX6_readWrite 73 = .ok (.return_, 1) := by decide +kernel
theorem dX6_readTrim_0 : decode cX6_readTrim 0 = .ok (.aload_n 0, 1) := by decide +kernel
theorem dX6_readTrim_1 : decode cX6_readTrim 1 = .ok (.invokevirtual 254, 3) := by decide +kernel
theorem dX6_readTrim_4 : decode cX6_readTrim 4 = .ok (.aload_n 0, 1) := by decide +kernel
theorem dX6_readTrim_5 : decode cX6_readTrim 5 = .ok (.iconst 0, 1) := by decide +kernel
theorem dX6_readTrim_6 : decode cX6_readTrim 6 = .ok (.invokevirtual 266, 3) := by decide +kernel
theorem dX6_readTrim_9 : decode cX6_readTrim 9 = .ok (.istore_n 1, 1) := by decide +kernel
theorem dX6_readTrim_10 : decode cX6_readTrim 10 = .ok (.aload_n 0, 1) := by decide +kernel
theorem dX6_readTrim_11 : decode cX6_readTrim 11 = .ok (.iconst 0, 1) := by decide +kernel
theorem dX6_readTrim_12 : decode cX6_readTrim 12 = .ok (.bipush 11, 2) := by decide +kernel
theorem dX6_readTrim_14 : decode cX6_readTrim 14 = .ok (.invokevirtual 269, 3) := by decide +kernel
theorem dX6_readTrim_17 : decode cX6_readTrim 17 = .ok (.istore_n 2, 1) := by decide +kernel
theorem dX6_readTrim_18 : decode cX6_readTrim 18 = .ok (.aload_n 0, 1) := by decide +kernel
theorem dX6_readTrim_19 : decode cX6_readTrim 19 = .ok (.getfield 220, 3) := by decide +kernel
theorem dX6_readTrim_22 : decode cX6_readTrim 22 = .ok (.ifCond .ne 14, 3) := by decide +kernel
theorem dX6_readTrim_25 : decode cX6_readTrim 25 = .ok (.aload_n 0, 1) := by decide +kernel
theorem dX6_readTrim_26 : decode cX6_readTrim 26 = .ok (.bipush 16, 2) := by decide +kernel
theorem dX6_readTrim_28 : decode cX6_readTrim 28 = .ok (.iload_n 1, 1) := by decide +kernel
theorem dX6_readTrim_29 : decode cX6_readTrim 29 = .ok (.iadd, 1) := by decide +kernel
theorem dX6_readTrim_30 : decode cX6_readTrim 30 = .ok (.iload_n 2, 1) := by decide +kernel
theorem dX6_readTrim_31 : decode cX6_readTrim 31 = .ok (.iconst 0, 1) := by decide +kernel
theorem dX6_readTrim_32 : decode cX6_readTrim 32 = .ok (.iconst 0, 1) := by decide +kernel
theorem dX6_readTrim_33 : decode cX6_readTrim 33 = .ok (.invokevirtual 83, 3) := by decide +kernel
theorem dX6_readTrim_36 : decode cX6_readTrim 36 = .ok (.return_, 1) := by decide +kernel
theorem dX6_readSnap_0 : decode cX6_readSnap 0 = .ok (.aload_n 0, 1) := by decide +kernel
theorem dX6_readSnap_1 : decode cX6_readSnap 1 = .ok (.aload_n 0, 1) := by decide +kernel
theorem dX6_readSnap_2 : decode cX6_readSnap 2 = .ok (.getfield 16, 3) := by decide +kernel
theorem dX6_readSnap_5 : decode cX6_readSnap 5 = .ok (.iconst 4, 1) := by decide +kernel
theorem dX6_readSnap_6 : decode cX6_readSnap 6 = .ok (.iaload, 1) := by decide +kernel
theorem dX6_readSnap_7 : decode cX6_readSnap 7 = .ok (.bipush 16, 2) := by decide +kernel
theorem dX6_readSnap_9 : decode cX6_readSnap 9 = .ok (.if_icmp .ge 7, 3) := by decide +kernel
theorem dX6_readSnap_12 : decode cX6_readSnap 12 = .ok (.iconst 1, 1) := by decide +kernel
theorem dX6_readSnap_13 : decode cX6_readSnap 13 = .ok (.goto 4, 3) := by decide +kernel
theorem dX6_readSnap_16 : decode cX6_readSnap 16 = .ok (.iconst 0, 1) := by decide +kernel
theorem dX6_readSnap_17 : decode cX6_readSnap 17 = .ok (.bipush (-15), 2) := by decide +kernel
theorem dX6_readSnap_19 : decode cX6_readSnap 19 = .ok (.invokevirtual 247, 3) := by decide +kernel
theorem dX6_readSnap_22 : decode cX6_readSnap 22 = .ok (.aload_n 0, 1) := by decide +kernel
theorem dX6_readSnap_23 : decode cX6_readSnap 23 = .ok (.invokevirtual 254, 3) := by decide +kernel
theorem dX6_readSnap_26 : decode cX6_readSnap 26 = .ok (.aload_n 0, 1) := by decide +kernel
theorem dX6_readSnap_27 : decode cX6_readSnap 27 = .ok (.iconst 0, 1) := by decide +kernel
theorem dX6_readSnap_28 : decode cX6_readSnap 28 = .ok (.invokevirtual 266, 3) := by decide +kernel
theorem dX6_readSnap_31 : decode cX6_readSnap 31 = .ok (.istore_n 1, 1) := by decide +kernel
theorem dX6_readSnap_32 : decode cX6_readSnap 32 = .ok (.aload_n 0, 1) := by decide +kernel
theorem dX6_readSnap_33 : decode cX6_readSnap 33 = .ok (.iconst 1, 1) := by decide +kernel
theorem dX6_readSnap_34 : decode cX6_readSnap 34 = .ok (.invokevirtual 263, 3) := by decide +kernel
theorem dX6_readSnap_37 : decode cX6_readSnap 37 = .ok (.istore_n 2, 1) := by decide +kernel
theorem dX6_readSnap_38 : decode cX6_readSnap 38 = .ok (.aload_n 0, 1) := by decide +kernel
theorem dX6_readSnap_39 : decode cX6_readSnap 39 = .ok (.getfield 220, 3) := by decide +kernel
theorem dX6_readSnap_42 : decode cX6_readSnap 42 = .ok (.ifCond .ne 10, 3) := by decide +kernel
theorem dX6_readSnap_45 : decode cX6_readSnap 45 = .ok (.aload_n 0, 1) := by decide +kernel
theorem dX6_readSnap_46 : decode cX6_readSnap 46 = .ok (.iload_n 1, 1) := by decide +kernel
theorem dX6_readSnap_47 : decode cX6_readSnap 47 = .ok (.iload_n 2, 1) := by decide +kernel
theorem dX6_readSnap_48 : decode cX6_readSnap 48 = .ok (.invokevirtual 192, 3) := by decide +kernel
theorem dX6_readSnap_51 : decode cX6_readSnap 51 = .ok (.pop, 1) := by decide +kernel
theorem dX6_readSnap_52 : decode cX6_readSnap 52 = .ok (.return_, 1) := by decide +kernel
theorem dX6_readClone_0 : decode cX6_readClone 0 = .ok (.aload_n 0, 1) := by decide +kernel
theorem dX6_readClone_1 : decode cX6_readClone 1 = .ok (.aload_n 0, 1) := by decide +kernel
theorem dX6_readClone_2 : decode cX6_readClone 2 = .ok (.getfield 16, 3) := by decide +kernel
theorem dX6_readClone_5 : decode cX6_readClone 5 = .ok (.iconst 3, 1) := by decide +kernel
theorem dX6_readClone_6 : decode cX6_readClone 6 = .ok (.iaload, 1) := by decide +kernel
theorem dX6_readClone_7 : decode cX6_readClone 7 = .ok (.bipush 6, 2) := by decide +kernel
theorem dX6_readClone_9 : decode cX6_readClone 9 = .ok (.if_icmp .ge 7, 3) := by decide +kernel
theorem dX6_readClone_12 : decode cX6_readClone 12 = .ok (.iconst 1, 1) := by decide +kernel
theorem dX6_readClone_13 : decode cX6_readClone 13 = .ok (.goto 4, 3) := by decide +kernel
theorem dX6_readClone_16 : decode cX6_readClone 16 = .ok (.iconst 0, 1) := by decide +kernel
theorem dX6_readClone_17 : decode cX6_readClone 17 = .ok (.bipush (-15), 2) := by decide +kernel
theorem dX6_readClone_19 : decode cX6_readClone 19 = .ok (.invokevirtual 247, 3) := by decide +kernel
theorem dX6_readClone_22 : decode cX6_readClone 22 = .ok (.aload_n 0, 1) := by decide +kernel
theorem dX6_readClone_23 : decode cX6_readClone 23 = .ok (.invokevirtual 254, 3) := by decide +kernel
theorem dX6_readClone_26 : decode cX6_readClone 26 = .ok (.aload_n 0, 1) := by decide +kernel
theorem dX6_readClone_27 : decode cX6_readClone 27 = .ok (.iconst 1, 1) := by decide +kernel
theorem dX6_readClone_28 : decode cX6_readClone 28 = .ok (.invokevirtual 260, 3) := by decide +kernel
theorem dX6_readClone_31 : decode cX6_readClone 31 = .ok (.istore_n 1, 1) := by decide +kernel
theorem dX6_readClone_32 : decode cX6_readClone 32 = .ok (.aload_n 0, 1) := by decide +kernel
theorem dX6_readClone_33 : decode cX6_readClone 33 = .ok (.aload_n 0, 1) := by decide +kernel
theorem dX6_readClone_34 : decode cX6_readClone 34 = .ok (.getfield 220, 3) := by decide +kernel
theorem dX6_readClone_37 : decode cX6_readClone 37 = .ok (.ifCond .ne 20, 3) := by decide +kernel
theorem dX6_readClone_40 : decode cX6_readClone 40 = .ok (.aload_n 0, 1) := by decide +kernel
theorem dX6_readClone_41 : decode cX6_readClone 41 = .ok (.iload_n 1, 1) := by decide +kernel
theorem dX6_readClone_42 : decode cX6_readClone 42 = .ok (.invokevirtual 132, 3) := by decide +kernel
theorem dX6_readClone_45 : decode cX6_readClone 45 = .ok (.invokestatic 121, 3) := by decide +kernel
theorem dX6_readClone_48 : decode cX6_readClone 48 = .ok (.aload_n 0, 1) := by decide +kernel
theorem dX6_readClone_49 : decode cX6_readClone 49 = .ok (.getfield 16, 3) := by decide +kernel
theorem dX6_readClone_52 : decode cX6_readClone 52 = .ok (.iconst 1, 1) := by decide +kernel
theorem dX6_readClone_53 : decode cX6_readClone 53 = .ok (.iaload, 1) := by decide +kernel
theorem dX6_readClone_54 : decode cX6_readClone 54 = .ok (.if_icmp .ge 7, 3) := by decide +kernel
theorem dX6_readClone_57 : decode cX6_readClone 57 = .ok (.iconst 1, 1) := by decide +kernel
theorem dX6_readClone_58 : decode cX6_readClone 58 = .ok (.goto 4, 3) := by decide +kernel
theorem dX6_readClone_61 : decode cX6_readClone 61 = .ok (.iconst 0, 1) := by decide +kernel
theorem dX6_readClone_62 : decode cX6_readClone 62 = .ok (.bipush (-15), 2) := by decide +kernel
theorem dX6_readClone_64 : decode cX6_readClone 64 = .ok (.invokevirtual 247, 3) := by decide +kernel
theorem dX6_readClone_67 : decode cX6_readClone 67 = .ok (.aload_n 0, 1) := by decide +kernel
theorem dX6_readClone_68 : decode cX6_readClone 68 = .ok (.invokevirtual 254, 3) := by decide +kernel
theorem dX6_readClone_71 : decode cX6_readClone 71 = .ok (.aload_n 0, 1) := by decide +kernel
theorem dX6_readClone_72 : decode cX6_readClone 72 = .ok (.iconst 0, 1) := by decide +kernel
theorem dX6_readClone_73 : decode cX6_readClone 73 = .ok (.invokevirtual 263, 3) := by decide +kernel
theorem dX6_readClone_76 : decode cX6_readClone 76 = .ok (.istore_n 2, 1) := by decide +kernel
theorem dX6_readClone_77 : decode cX6_readClone 77 = .ok (.aload_n 0, 1) := by decide +kernel
theorem dX6_readClone_78 : decode cX6_readClone 78 = .ok (.getfield 220, 3) := by decide +kernel
theorem dX6_readClone_81 : decode cX6_readClone 81 = .ok (.ifCond .ne 10, 3) := by decide +kernel
theorem dX6_readClone_84 : decode cX6_readClone 84 = .ok (.aload_n 0, 1) := by decide +kernel
theorem dX6_readClone_85 : decode cX6_readClone 85 = .ok (.iload_n 1, 1) := by decide +kernel
theorem dX6_readClone_86 : decode cX6_readClone 86 = .ok (.iload_n 2, 1) := by decide +kernel
theorem dX6_readClone_87 : decode cX6_readClone 87 = .ok (.invokevirtual 186, 3) := by decide +kernel
theorem dX6_readClone_90 : decode cX6_readClone 90 = .ok (.pop, 1) := by decide +kernel
theorem dX6_readClone_91 : decode cX6_readClone 91 = .ok (.return_, 1) := by decide +kernel
theorem dX6_readHold_0 : decode cX6_readHold 0 = .ok (.aload_n 0, 1) := by decide +kernel
theorem dX6_readHold_1 : decode cX6_readHold 1 = .ok (.invokevirtual 254, 3) := by decide +kernel
theorem dX6_readHold_4 : decode cX6_readHold 4 = .ok (.aload_n 0, 1) := by decide +kernel
theorem dX6_readHold_5 : decode cX6_readHold 5 = .ok (.iconst 1, 1) := by decide +kernel
theorem dX6_readHold_6 : decode cX6_readHold 6 = .ok (.invokevirtual 260, 3) := by decide +kernel
theorem dX6_readHold_9 : decode cX6_readHold 9 = .ok (.istore_n 1, 1) := by decide +kernel
theorem dX6_readHold_10 : decode cX6_readHold 10 = .ok (.aload_n 0, 1) := by decide +kernel
theorem dX6_readHold_11 : decode cX6_readHold 11 = .ok (.aload_n 0, 1) := by decide +kernel
theorem dX6_readHold_12 : decode cX6_readHold 12 = .ok (.getfield 220, 3) := by decide +kernel
theorem dX6_readHold_15 : decode cX6_readHold 15 = .ok (.ifCond .ne 12, 3) := by decide +kernel
theorem dX6_readHold_18 : decode cX6_readHold 18 = .ok (.aload_n 0, 1) := by decide +kernel
theorem dX6_readHold_19 : decode cX6_readHold 19 = .ok (.iload_n 1, 1) := by decide +kernel
theorem dX6_readHold_20 : decode cX6_readHold 20 = .ok (.iconst 3, 1) := by decide +kernel
theorem dX6_readHold_21 : decode cX6_readHold 21 = .ok (.invokevirtual 67, 3) := by decide +kernel
theorem dX6_readHold_24 : decode cX6_readHold 24 = .ok (.ifCond .ne 7, 3) := by decide +kernel
theorem dX6_readHold_27 : decode cX6_readHold 27 = .ok (.iconst 1, 1) := by decide +kernel
theorem dX6_readHold_28 : decode cX6_readHold 28 = .ok (.goto 4, 3) := by decide +kernel
theorem dX6_readHold_31 : decode cX6_readHold 31 = .ok (.iconst 0, 1) := by decide +kernel
theorem dX6_readHold_32 : decode cX6_readHold 32 = .ok (.bipush (-14), 2) := by decide +kernel
theorem dX6_readHold_34 : decode cX6_readHold 34 = .ok (.invokevirtual 247, 3) := by decide +kernel
theorem dX6_readHold_37 : decode cX6_readHold 37 = .ok (.aload_n 0, 1) := by decide +kernel
theorem dX6_readHold_38 : decode cX6_readHold 38 = .ok (.getfield 220, 3) := by decide +kernel
theorem dX6_readHold_41 : decode cX6_readHold 41 = .ok (.ifCond .ne 14, 3) := by decide +kernel
theorem dX6_readHold_44 : decode cX6_readHold 44 = .ok (.aload_n 0, 1) := by decide +kernel
theorem dX6_readHold_45 : decode cX6_readHold 45 = .ok (.getfield 16, 3) := by decide +kernel
theorem dX6_readHold_48 : decode cX6_readHold 48 = .ok (.iload_n 1, 1) := by decide +kernel
theorem dX6_readHold_49 : decode cX6_readHold 49 = .ok (.iconst 3, 1) := by decide +kernel
theorem dX6_readHold_50 : decode cX6_readHold 50 = .ok (.invokestatic 57, 3) := by decide +kernel
theorem dX6_readHold_53 : decode cX6_readHold 53 = .ok (.iconst 1, 1) := by decide +kernel
theorem dX6_readHold_54 : decode cX6_readHold 54 = .ok (.iastore, 1) := by decide +kernel
theorem dX6_readHold_55 : decode cX6_readHold 55 = .ok (.aload_n 0, 1) := by decide +kernel
theorem dX6_readHold_56 : decode cX6_readHold 56 = .ok (.invokevirtual 254, 3) := by decide +kernel
theorem dX6_readHold_59 : decode cX6_readHold 59 = .ok (.return_, 1) := by decide +kernel
theorem dX6_readSet_0 : decode cX6_readSet 0 = .ok (.aload_n 0, 1) := by decide +kernel
theorem dX6_readSet_1 : decode cX6_readSet 1 = .ok (.invokevirtual 254, 3) := by decide +kernel
theorem dX6_readSet_4 : decode cX6_readSet 4 = .ok (.aload_n 0, 1) := by decide +kernel
theorem dX6_readSet_5 : decode cX6_readSet 5 = .ok (.ldc2_w 271, 3) := by decide +kernel
theorem dX6_readSet_8 : decode cX6_readSet 8 = .ok (.invokevirtual 273, 3) := by decide +kernel
theorem dX6_readSet_11 : decode cX6_readSet 11 = .ok (.ifCond .eq 7, 3) := by decide +kernel
theorem dX6_readSet_14 : decode cX6_readSet 14 = .ok (.iconst 0, 1) := by decide +kernel
theorem dX6_readSet_15 : decode cX6_readSet 15 = .ok (.goto 18, 3) := by decide +kernel
theorem dX6_readSet_18 : decode cX6_readSet 18 = .ok (.aload_n 0, 1) := by decide +kernel
theorem dX6_readSet_19 : decode cX6_readSet 19 = .ok (.ldc2_w 277, 3) := by decide +kernel
theorem dX6_readSet_22 : decode cX6_readSet 22 = .ok (.invokevirtual 273, 3) := by decide +kernel
theorem dX6_readSet_25 : decode cX6_readSet 25 = .ok (.ifCond .eq 7, 3) := by decide +kernel
theorem dX6_readSet_28 : decode cX6_readSet 28 = .ok (.iconst 1, 1) := by decide +kernel
theorem dX6_readSet_29 : decode cX6_readSet 29 = .ok (.goto 4, 3) := by decide +kernel
theorem dX6_readSet_32 : decode cX6_readSet 32 = .ok (.iconst (-1), 1) := by decide +kernel
theorem dX6_readSet_33 : decode cX6_readSet 33 = .ok (.istore_n 1, 1) := by decide +kernel
theorem dX6_readSet_34 : decode cX6_readSet 34 = .ok (.aload_n 0, 1) := by decide +kernel
theorem dX6_readSet_35 : decode cX6_readSet 35 = .ok (.iload_n 1, 1) := by decide +kernel
theorem dX6_readSet_36 : decode cX6_readSet 36 = .ok (.ifCond .lt 7, 3) := by decide +kernel
theorem dX6_readSet_39 : decode cX6_readSet 39 = .ok (.iconst 1, 1) := by decide +kernel
theorem dX6_readSet_40 : decode cX6_readSet 40 = .ok (.goto 4, 3) := by decide +kernel
theorem dX6_readSet_43 : decode cX6_readSet 43 = .ok (.iconst 0, 1) := by decide +kernel
theorem dX6_readSet_44 : decode cX6_readSet 44 = .ok (.bipush (-11), 2) := by decide +kernel
theorem dX6_readSet_46 : decode cX6_readSet 46 = .ok (.invokevirtual 247, 3) := by decide +kernel
theorem dX6_readSet_49 : decode cX6_readSet 49 = .ok (.aload_n 0, 1) := by decide +kernel
theorem dX6_readSet_50 : decode cX6_readSet 50 = .ok (.getfield 220, 3) := by decide +kernel
theorem dX6_readSet_53 : decode cX6_readSet 53 = .ok (.ifCond .eq 4, 3) := by decide +kernel
theorem dX6_readSet_56 : decode cX6_readSet 56 = .ok (.return_, 1) := by decide +kernel
theorem dX6_readSet_57 : decode cX6_readSet 57 = .ok (.aload_n 0, 1) := by decide +kernel
theorem dX6_readSet_58 : decode cX6_readSet 58 = .ok (.aload_n 0, 1) := by decide +kernel
theorem dX6_readSet_59 : decode cX6_readSet 59 = .ok (.getfield 279, 3) := by decide +kernel
theorem dX6_readSet_62 : decode cX6_readSet 62 = .ok (.iload_n 1, 1) := by decide +kernel
theorem dX6_readSet_63 : decode cX6_readSet 63 = .ok (.ishr, 1) := by decide +kernel
theorem dX6_readSet_64 : decode cX6_readSet 64 = .ok (.iconst 1, 1) := by decide +kernel
theorem dX6_readSet_65 : decode cX6_readSet 65 = .ok (.iand, 1) := by decide +kernel
theorem dX6_readSet_66 : decode cX6_readSet 66 = .ok (.ifCond .ne 7, 3) := by decide +kernel
theorem dX6_readSet_69 : decode cX6_readSet 69 = .ok (.iconst 1, 1) := by decide +kernel
theorem dX6_readSet_70 : decode cX6_readSet 70 = .ok (.goto 4, 3) := by decide +kernel
theorem dX6_readSet_73 : decode cX6_readSet 73 = .ok (.iconst 0, 1) := by decide +kernel
theorem dX6_readSet_74 : decode cX6_readSet 74 = .ok (.bipush (-14), 2) := by decide +kernel
theorem dX6_readSet_76 : decode cX6_readSet 76 = .ok (.invokevirtual 247, 3) := by decide +kernel
theorem dX6_readSet_79 : decode cX6_readSet 79 = .ok (.aload_n 0, 1) := by decide +kernel
theorem dX6_readSet_80 : decode cX6_readSet 80 = .ok (.dup, 1) := by decide +kernel
theorem dX6_readSet_81 : decode cX6_readSet 81 = .ok (.getfield 279, 3) := by decide +kernel
theorem dX6_readSet_84 : decode cX6_readSet 84 = .ok (.iconst 1, 1) := by decide +kernel
theorem dX6_readSet_85 : decode cX6_readSet 85 = .ok (.iload_n 1, 1) := by decide +kernel
theorem dX6_readSet_86 : decode cX6_readSet 86 = .ok (.ishl, 1) := by decide +kernel
theorem dX6_readSet_87 : decode cX6_readSet 87 = .ok (.ior, 1) := by decide +kernel
theorem dX6_readSet_88 : decode cX6_readSet 88 = .ok (.putfield 279, 3) := by decide +kernel
theorem dX6_readSet_91 : decode cX6_readSet 91 = .ok (.aload_n 0, 1) := by decide +kernel
theorem dX6_readSet_92 : decode cX6_readSet 92 = .ok (.invokevirtual 254, 3) := by decide +kernel
theorem dX6_readSet_95 : decode cX6_readSet 95 = .ok (.iload_n 1, 1) := by decide +kernel
theorem dX6_readSet_96 : decode cX6_readSet 96 = .ok (.ifCond .ne 14, 3) := by decide +kernel
theorem dX6_readSet_99 : decode cX6_readSet 99 = .ok (.aload_n 0, 1) := by decide +kernel
theorem dX6_readSet_100 : decode cX6_readSet 100 = .ok (.iconst 1, 1) := by decide +kernel
theorem dX6_readSet_101 : decode cX6_readSet 101 = .ok (.sipush 999, 3) := by decide +kernel
theorem dX6_readSet_104 : decode cX6_readSet 104 = .ok (.invokevirtual 269, 3) := by decide +kernel
theorem dX6_readSet_107 : decode cX6_readSet 107 = .ok (.goto 9, 3) := by decide +kernel
theorem dX6_readSet_110 : decode cX6_readSet 110 = .ok (.aload_n 0, 1) := by decide +kernel
theorem dX6_readSet_111 : decode cX6_readSet 111 = .ok (.iconst 0, 1) := by decide +kernel
theorem dX6_readSet_112 : decode cX6_readSet 112 = .ok (.iconst 5, 1) := by decide +kernel
theorem dX6_readSet_113 : decode cX6_readSet 113 = .ok (.invokevirtual 269, 3) := by decide +kernel
theorem dX6_readSet_116 : decode cX6_readSet 116 = .ok (.istore_n 2, 1) := by decide +kernel
theorem dX6_readSet_117 : decode cX6_readSet 117 = .ok (.aload_n 0, 1) := by decide +kernel
theorem dX6_readSet_118 : decode cX6_readSet 118 = .ok (.getfield 220, 3) := by decide +kernel
theorem dX6_readSet_121 : decode cX6_readSet 121 = .ok (.ifCond .ne 10, 3) := by decide +kernel
theorem dX6_readSet_124 : decode cX6_readSet 124 = .ok (.aload_n 0, 1) := by decide +kernel
theorem dX6_readSet_125 : decode cX6_readSet 125 = .ok (.getfield 16, 3) := by decide +kernel
theorem dX6_readSet_128 : decode cX6_readSet 128 = .ok (.iload_n 1, 1) := by decide +kernel
theorem dX6_readSet_129 : decode cX6_readSet 129 = .ok (.iload_n 2, 1) := by decide +kernel
theorem dX6_readSet_130 : decode cX6_readSet 130 = .ok (.iastore, 1) := by decide +kernel
theorem dX6_readSet_131 : decode cX6_readSet 131 = .ok (.return_, 1) := by decide +kernel
theorem dX6_readStatement_0 : decode cX6_readStatement 0 = .ok (.aload_n 0, 1) := by decide +kernel
theorem dX6_readStatement_1 : decode cX6_readStatement 1 = .ok (.ldc2_w 282, 3) := by decide +kernel
theorem dX6_readStatement_4 : decode cX6_readStatement 4 = .ok (.invokevirtual 273, 3) := by decide +kernel
theorem dX6_readStatement_7 : decode cX6_readStatement 7 = .ok (.ifCond .eq 10, 3) := by decide +kernel
theorem dX6_readStatement_10 : decode cX6_readStatement 10 = .ok (.aload_n 0, 1) := by decide +kernel
theorem dX6_readStatement_11 : decode cX6_readStatement 11 = .ok (.invokevirtual 284, 3) := by decide +kernel
theorem dX6_readStatement_14 : decode cX6_readStatement 14 = .ok (.goto 112, 3) := by decide +kernel
theorem dX6_readStatement_17 : decode cX6_readStatement 17 = .ok (.aload_n 0, 1) := by decide +kernel
theorem dX6_readStatement_18 : decode cX6_readStatement 18 = .ok (.ldc2_w 287, 3) := by decide +kernel
theorem dX6_readStatement_21 : decode cX6_readStatement 21 = .ok (.invokevirtual 273, 3) := by decide +kernel
theorem dX6_readStatement_24 : decode cX6_readStatement 24 = .ok (.ifCond .eq 10, 3) := by decide +kernel
theorem dX6_readStatement_27 : decode cX6_readStatement 27 = .ok (.aload_n 0, 1) := by decide +kernel
theorem dX6_readStatement_28 : decode cX6_readStatement 28 = .ok (.invokevirtual 289, 3) := by decide +kernel
theorem dX6_readStatement_31 : decode cX6_readStatement 31 = .ok (.goto 95, 3) := by decide +kernel
theorem dX6_readStatement_34 : decode cX6_readStatement 34 = .ok (.aload_n 0, 1) := by decide +kernel
theorem dX6_readStatement_35 : decode cX6_readStatement 35 = .ok (.ldc2_w 292, 3) := by decide +kernel
theorem dX6_readStatement_38 : decode cX6_readStatement 38 = .ok (.invokevirtual 273, 3) := by decide +kernel
theorem dX6_readStatement_41 : decode cX6_readStatement 41 = .ok (.ifCond .eq 10, 3) := by decide +kernel
theorem dX6_readStatement_44 : decode cX6_readStatement 44 = .ok (.aload_n 0, 1) := by decide +kernel
theorem dX6_readStatement_45 : decode cX6_readStatement 45 = .ok (.invokevirtual 294, 3) := by decide +kernel
theorem dX6_readStatement_48 : decode cX6_readStatement 48 = .ok (.goto 78, 3) := by decide +kernel
theorem dX6_readStatement_51 : decode cX6_readStatement 51 = .ok (.aload_n 0, 1) := by decide +kernel
theorem dX6_readStatement_52 : decode cX6_readStatement 52 = .ok (.ldc2_w 297, 3) := by decide +kernel
theorem dX6_readStatement_55 : decode cX6_readStatement 55 = .ok (.invokevirtual 273, 3) := by decide +kernel
theorem dX6_readStatement_58 : decode cX6_readStatement 58 = .ok (.ifCond .eq 10, 3) := by decide +kernel
theorem dX6_readStatement_61 : decode cX6_readStatement 61 = .ok (.aload_n 0, 1) := by decide +kernel
theorem dX6_readStatement_62 : decode cX6_readStatement 62 = .ok (.invokevirtual 299, 3) := by decide +kernel
theorem dX6_readStatement_65 : decode cX6_readStatement 65 = .ok (.goto 61, 3) := by decide +kernel
theorem dX6_readStatement_68 : decode cX6_readStatement 68 = .ok (.aload_n 0, 1) := by decide +kernel
theorem dX6_readStatement_69 : decode cX6_readStatement 69 = .ok (.ldc2_w 302, 3) := by decide +kernel
theorem dX6_readStatement_72 : decode cX6_readStatement 72 = .ok (.invokevirtual 273, 3) := by decide +kernel
theorem dX6_readStatement_75 : decode cX6_readStatement 75 = .ok (.ifCond .eq 10, 3) := by decide +kernel
theorem dX6_readStatement_78 : decode cX6_readStatement 78 = .ok (.aload_n 0, 1) := by decide +kernel
theorem dX6_readStatement_79 : decode cX6_readStatement 79 = .ok (.invokevirtual 304, 3) := by decide +kernel
theorem dX6_readStatement_82 : decode cX6_readStatement 82 = .ok (.goto 44, 3) := by decide +kernel
theorem dX6_readStatement_85 : decode cX6_readStatement 85 = .ok (.aload_n 0, 1) := by decide +kernel
theorem dX6_readStatement_86 : decode cX6_readStatement 86 = .ok (.ldc2_w 307, 3) := by decide +kernel
theorem dX6_readStatement_89 : decode cX6_readStatement 89 = .ok (.invokevirtual 273, 3) := by decide +kernel
theorem dX6_readStatement_92 : decode cX6_readStatement 92 = .ok (.ifCond .eq 10, 3) := by decide +kernel
theorem dX6_readStatement_95 : decode cX6_readStatement 95 = .ok (.aload_n 0, 1) := by decide +kernel
theorem dX6_readStatement_96 : decode cX6_readStatement 96 = .ok (.invokevirtual 309, 3) := by decide +kernel
theorem dX6_readStatement_99 : decode cX6_readStatement 99 = .ok (.goto 27, 3) := by decide +kernel
theorem dX6_readStatement_102 : decode cX6_readStatement 102 = .ok (.aload_n 0, 1) := by decide +kernel
theorem dX6_readStatement_103 : decode cX6_readStatement 103 = .ok (.ldc2_w 312, 3) := by decide +kernel
theorem dX6_readStatement_106 : decode cX6_readStatement 106 = .ok (.invokevirtual 273, 3) := by decide +kernel
theorem dX6_readStatement_109 : decode cX6_readStatement 109 = .ok (.ifCond .eq 10, 3) := by decide +kernel
theorem dX6_readStatement_112 : decode cX6_readStatement 112 = .ok (.aload_n 0, 1) := by decide +kernel
theorem dX6_readStatement_113 : decode cX6_readStatement 113 = .ok (.invokevirtual 314, 3) := by decide +kernel
theorem dX6_readStatement_116 : decode cX6_readStatement 116 = .ok (.goto 10, 3) := by decide +kernel
theorem dX6_readStatement_119 : decode cX6_readStatement 119 = .ok (.aload_n 0, 1) := by decide +kernel
theorem dX6_readStatement_120 : decode cX6_readStatement 120 = .ok (.iconst 0, 1) := by decide +kernel
theorem dX6_readStatement_121 : decode cX6_readStatement 121 = .ok (.bipush (-11), 2) := by decide +kernel
theorem dX6_readStatement_123 : decode cX6_readStatement 123 = .ok (.invokevirtual 247, 3) := by decide +kernel
theorem dX6_readStatement_126 : decode cX6_readStatement 126 = .ok (.aload_n 0, 1) := by decide +kernel
theorem dX6_readStatement_127 : decode cX6_readStatement 127 = .ok (.aload_n 0, 1) := by decide +kernel
theorem dX6_readStatement_128 : decode cX6_readStatement 128 = .ok (.getfield 239, 3) := by decide +kernel
theorem dX6_readStatement_131 : decode cX6_readStatement 131 = .ok (.iconst 3, 1) := by decide +kernel
theorem dX6_readStatement_132 : decode cX6_readStatement 132 = .ok (.if_icmp .ne 7, 3) := by decide +kernel
theorem dX6_readStatement_135 : decode cX6_readStatement 135 = .ok (.iconst 1, 1) := by decide +kernel
theorem dX6_readStatement_136 : decode cX6_readStatement 136 = .ok (.goto 4, 3) := by decide +kernel
theorem dX6_readStatement_139 : decode cX6_readStatement 139 = .ok (.iconst 0, 1) := by decide +kernel
theorem dX6_readStatement_140 : decode cX6_readStatement 140 = .ok (.bipush (-11), 2) := by decide +kernel
theorem dX6_readStatement_142 : decode cX6_readStatement 142 = .ok (.invokevirtual 247, 3) := by decide +kernel
theorem dX6_readStatement_145 : decode cX6_readStatement 145 = .ok (.aload_n 0, 1) := by decide +kernel
theorem dX6_readStatement_146 : decode cX6_readStatement 146 = .ok (.invokevirtual 254, 3) := by decide +kernel
theorem dX6_readStatement_149 : decode cX6_readStatement 149 = .ok (.aload_n 0, 1) := by decide +kernel
theorem dX6_readStatement_150 : decode cX6_readStatement 150 = .ok (.dup, 1) := by decide +kernel
theorem dX6_readStatement_151 : decode cX6_readStatement 151 = .ok (.getfield 317, 3) := by decide +kernel
theorem dX6_readStatement_154 : decode cX6_readStatement 154 = .ok (.iconst 1, 1) := by decide +kernel
theorem dX6_readStatement_155 : decode cX6_readStatement 155 = .ok (.iadd, 1) := by decide +kernel
theorem dX6_readStatement_156 : decode cX6_readStatement 156 = .ok (.putfield 317, 3) := by decide +kernel
theorem dX6_readStatement_159 : decode cX6_readStatement 159 = .ok (.return_, 1) := by decide +kernel
theorem dX6_load_0 : decode cX6_load 0 = .ok (.aload_n 0, 1) := by decide +kernel
theorem dX6_load_1 : decode cX6_load 1 = .ok (.iconst 0, 1) := by decide +kernel
theorem dX6_load_2 : decode cX6_load 2 = .ok (.putfield 43, 3) := by decide +kernel
theorem dX6_load_5 : decode cX6_load 5 = .ok (.iload_n 1, 1) := by decide +kernel
theorem dX6_load_6 : decode cX6_load 6 = .ok (.iconst 0, 1) := by decide +kernel
theorem dX6_load_7 : decode cX6_load 7 = .ok (.aload_n 0, 1) := by decide +kernel
theorem dX6_load_8 : decode cX6_load 8 = .ok (.getfield 208, 3) := by decide +kernel
theorem dX6_load_11 : decode cX6_load 11 = .ok (.invokestatic 60, 3) := by decide +kernel
theorem dX6_load_14 : decode cX6_load 14 = .ok (.ifCond .ne 6, 3) := by decide +kernel
theorem dX6_load_17 : decode cX6_load 17 = .ok (.bipush (-2), 2) := by decide +kernel
theorem dX6_load_19 : decode cX6_load 19 = .ok (.ireturn, 1) := by decide +kernel
theorem dX6_load_20 : decode cX6_load 20 = .ok (.aload_n 0, 1) := by decide +kernel
theorem dX6_load_21 : decode cX6_load 21 = .ok (.getfield 33, 3) := by decide +kernel
theorem dX6_load_24 : decode cX6_load 24 = .ok (.invokestatic 39, 3) := by decide +kernel
theorem dX6_load_27 : decode cX6_load 27 = .ok (.aload_n 0, 1) := by decide +kernel
theorem dX6_load_28 : decode cX6_load 28 = .ok (.aload_n 0, 1) := by decide +kernel
theorem dX6_load_29 : decode cX6_load 29 = .ok (.getfield 33, 3) := by decide +kernel
theorem dX6_load_32 : decode cX6_load 32 = .ok (.putfield 16, 3) := by decide +kernel
theorem dX6_load_35 : decode cX6_load 35 = .ok (.aload_n 0, 1) := by decide +kernel
theorem dX6_load_36 : decode cX6_load 36 = .ok (.iconst 0, 1) := by decide +kernel
theorem dX6_load_37 : decode cX6_load 37 = .ok (.putfield 279, 3) := by decide +kernel
theorem dX6_load_40 : decode cX6_load 40 = .ok (.aload_n 0, 1) := by decide +kernel
theorem dX6_load_41 : decode cX6_load 41 = .ok (.iconst 0, 1) := by decide +kernel
theorem dX6_load_42 : decode cX6_load 42 = .ok (.putfield 317, 3) := by decide +kernel
theorem dX6_load_45 : decode cX6_load 45 = .ok (.aload_n 0, 1) := by decide +kernel
theorem dX6_load_46 : decode cX6_load 46 = .ok (.iload_n 1, 1) := by decide +kernel
theorem dX6_load_47 : decode cX6_load 47 = .ok (.putfield 217, 3) := by decide +kernel
theorem dX6_load_50 : decode cX6_load 50 = .ok (.aload_n 0, 1) := by decide +kernel
theorem dX6_load_51 : decode cX6_load 51 = .ok (.iconst 0, 1) := by decide +kernel
theorem dX6_load_52 : decode cX6_load 52 = .ok (.putfield 208, 3) := by decide +kernel
theorem dX6_load_55 : decode cX6_load 55 = .ok (.aload_n 0, 1) := by decide +kernel
theorem dX6_load_56 : decode cX6_load 56 = .ok (.iconst 0, 1) := by decide +kernel
theorem dX6_load_57 : decode cX6_load 57 = .ok (.putfield 214, 3) := by decide +kernel
theorem dX6_load_60 : decode cX6_load 60 = .ok (.aload_n 0, 1) := by decide +kernel
theorem dX6_load_61 : decode cX6_load 61 = .ok (.iconst 0, 1) := by decide +kernel
theorem dX6_load_62 : decode cX6_load 62 = .ok (.putfield 220, 3) := by decide +kernel
theorem dX6_load_65 : decode cX6_load 65 = .ok (.aload_n 0, 1) := by decide +kernel
theorem dX6_load_66 : decode cX6_load 66 = .ok (.invokevirtual 254, 3) := by decide +kernel
theorem dX6_load_69 : decode cX6_load 69 = .ok (.aload_n 0, 1) := by decide +kernel
theorem dX6_load_70 : decode cX6_load 70 = .ok (.getfield 220, 3) := by decide +kernel
theorem dX6_load_73 : decode cX6_load 73 = .ok (.ifCond .ne 17, 3) := by decide +kernel
theorem dX6_load_76 : decode cX6_load 76 = .ok (.aload_n 0, 1) := by decide +kernel
theorem dX6_load_77 : decode cX6_load 77 = .ok (.getfield 239, 3) := by decide +kernel
theorem dX6_load_80 : decode cX6_load 80 = .ok (.ifCond .eq 10, 3) := by decide +kernel
theorem dX6_load_83 : decode cX6_load 83 = .ok (.aload_n 0, 1) := by decide +kernel
theorem dX6_load_84 : decode cX6_load 84 = .ok (.invokevirtual 320, 3) := by decide +kernel
theorem dX6_load_87 : decode cX6_load 87 = .ok (.goto (-18), 3) := by decide +kernel
theorem dX6_load_90 : decode cX6_load 90 = .ok (.aload_n 0, 1) := by decide +kernel
theorem dX6_load_91 : decode cX6_load 91 = .ok (.aload_n 0, 1) := by decide +kernel
theorem dX6_load_92 : decode cX6_load 92 = .ok (.getfield 7, 3) := by decide +kernel
theorem dX6_load_95 : decode cX6_load 95 = .ok (.putfield 16, 3) := by decide +kernel
theorem dX6_load_98 : decode cX6_load 98 = .ok (.aload_n 0, 1) := by decide +kernel
theorem dX6_load_99 : decode cX6_load 99 = .ok (.aload_n 0, 1) := by decide +kernel
theorem dX6_load_100 : decode cX6_load 100 = .ok (.getfield 220, 3) := by decide +kernel
theorem dX6_load_103 : decode cX6_load 103 = .ok (.ifCond .ne 7, 3) := by decide +kernel
theorem dX6_load_106 : decode cX6_load 106 = .ok (.iconst (-1), 1) := by decide +kernel
theorem dX6_load_107 : decode cX6_load 107 = .ok (.goto 7, 3) := by decide +kernel
theorem dX6_load_110 : decode cX6_load 110 = .ok (.aload_n 0, 1) := by decide +kernel
theorem dX6_load_111 : decode cX6_load 111 = .ok (.getfield 226, 3) := by decide +kernel
theorem dX6_load_114 : decode cX6_load 114 = .ok (.putfield 29, 3) := by decide +kernel
theorem dX6_load_117 : decode cX6_load 117 = .ok (.aload_n 0, 1) := by decide +kernel
theorem dX6_load_118 : decode cX6_load 118 = .ok (.getfield 220, 3) := by decide +kernel
theorem dX6_load_121 : decode cX6_load 121 = .ok (.ifCond .eq 8, 3) := by decide +kernel
theorem dX6_load_124 : decode cX6_load 124 = .ok (.aload_n 0, 1) := by decide +kernel
theorem dX6_load_125 : decode cX6_load 125 = .ok (.getfield 220, 3) := by decide +kernel
theorem dX6_load_128 : decode cX6_load 128 = .ok (.ireturn, 1) := by decide +kernel
theorem dX6_load_129 : decode cX6_load 129 = .ok (.aload_n 0, 1) := by decide +kernel
theorem dX6_load_130 : decode cX6_load 130 = .ok (.getfield 33, 3) := by decide +kernel
theorem dX6_load_133 : decode cX6_load 133 = .ok (.iconst 0, 1) := by decide +kernel
theorem dX6_load_134 : decode cX6_load 134 = .ok (.aload_n 0, 1) := by decide +kernel
theorem dX6_load_135 : decode cX6_load 135 = .ok (.getfield 7, 3) := by decide +kernel
theorem dX6_load_138 : decode cX6_load 138 = .ok (.iconst 0, 1) := by decide +kernel
theorem dX6_load_139 : decode cX6_load 139 = .ok (.invokestatic 49, 3) := by decide +kernel
theorem dX6_load_142 : decode cX6_load 142 = .ok (.aload_n 0, 1) := by decide +kernel
theorem dX6_load_143 : decode cX6_load 143 = .ok (.iconst 0, 1) := by decide +kernel
theorem dX6_load_144 : decode cX6_load 144 = .ok (.putfield 46, 3) := by decide +kernel
theorem dX6_load_147 : decode cX6_load 147 = .ok (.aload_n 0, 1) := by decide +kernel
theorem dX6_load_148 : decode cX6_load 148 = .ok (.getfield 317, 3) := by decide +kernel
theorem dX6_load_151 : decode cX6_load 151 = .ok (.ireturn, 1) := by decide +kernel
theorem dX6_lays_0 : decode cX6_lays 0 = .ok (.aload_n 0, 1) := by decide +kernel
theorem dX6_lays_1 : decode cX6_lays 1 = .ok (.getfield 36, 3) := by decide +kernel
theorem dX6_lays_4 : decode cX6_lays 4 = .ok (.aload_n 0, 1) := by decide +kernel
theorem dX6_lays_5 : decode cX6_lays 5 = .ok (.getfield 323, 3) := by decide +kernel
theorem dX6_lays_8 : decode cX6_lays 8 = .ok (.iload_n 1, 1) := by decide +kernel
theorem dX6_lays_9 : decode cX6_lays 9 = .ok (.iastore, 1) := by decide +kernel
theorem dX6_lays_10 : decode cX6_lays 10 = .ok (.aload_n 0, 1) := by decide +kernel
theorem dX6_lays_11 : decode cX6_lays 11 = .ok (.dup, 1) := by decide +kernel
theorem dX6_lays_12 : decode cX6_lays 12 = .ok (.getfield 323, 3) := by decide +kernel
theorem dX6_lays_15 : decode cX6_lays 15 = .ok (.iconst 1, 1) := by decide +kernel
theorem dX6_lays_16 : decode cX6_lays 16 = .ok (.iadd, 1) := by decide +kernel
theorem dX6_lays_17 : decode cX6_lays 17 = .ok (.putfield 323, 3) := by decide +kernel
theorem dX6_lays_20 : decode cX6_lays 20 = .ok (.return_, 1) := by decide +kernel
theorem dX6_layName_0 : decode cX6_layName 0 = .ok (.iload_n 1, 1) := by decide +kernel
theorem dX6_layName_1 : decode cX6_layName 1 = .ok (.ifCond .ne 9, 3) := by decide +kernel
theorem dX6_layName_4 : decode cX6_layName 4 = .ok (.aload_n 0, 1) := by decide +kernel
theorem dX6_layName_5 : decode cX6_layName 5 = .ok (.bipush 42, 2) := by decide +kernel
theorem dX6_layName_7 : decode cX6_layName 7 = .ok (.invokevirtual 326, 3) := by decide +kernel
theorem dX6_layName_10 : decode cX6_layName 10 = .ok (.bipush 25, 2) := by decide +kernel
theorem dX6_layName_12 : decode cX6_layName 12 = .ok (.istore_n 2, 1) := by decide +kernel
theorem dX6_layName_13 : decode cX6_layName 13 = .ok (.iload_n 2, 1) := by decide +kernel
theorem dX6_layName_14 : decode cX6_layName 14 = .ok (.ifCond .lt 28, 3) := by decide +kernel
theorem dX6_layName_17 : decode cX6_layName 17 = .ok (.iload_n 1, 1) := by decide +kernel
theorem dX6_layName_18 : decode cX6_layName 18 = .ok (.iload_n 2, 1) := by decide +kernel
theorem dX6_layName_19 : decode cX6_layName 19 = .ok (.ishr, 1) := by decide +kernel
theorem dX6_layName_20 : decode cX6_layName 20 = .ok (.bipush 31, 2) := by decide +kernel
theorem dX6_layName_22 : decode cX6_layName 22 = .ok (.iand, 1) := by decide +kernel
theorem dX6_layName_23 : decode cX6_layName 23 = .ok (.istore_n 3, 1) := by decide +kernel
theorem dX6_layName_24 : decode cX6_layName 24 = .ok (.iload_n 3, 1) := by decide +kernel
theorem dX6_layName_25 : decode cX6_layName 25 = .ok (.ifCond .le 11, 3) := by decide +kernel
theorem dX6_layName_28 : decode cX6_layName 28 = .ok (.aload_n 0, 1) := by decide +kernel
theorem dX6_layName_29 : decode cX6_layName 29 = .ok (.bipush 96, 2) := by decide +kernel
theorem dX6_layName_31 : decode cX6_layName 31 = .ok (.iload_n 3, 1) := by decide +kernel
theorem dX6_layName_32 : decode cX6_layName 32 = .ok (.iadd, 1) := by decide +kernel
theorem dX6_layName_33 : decode cX6_layName 33 = .ok (.invokevirtual 326, 3) := by decide +kernel
theorem dX6_layName_36 : decode cX6_layName 36 = .ok (.iinc 2 (-5), 3) := by decide +kernel
theorem dX6_layName_39 : decode cX6_layName 39 = .ok (.goto (-26), 3) := by decide +kernel
theorem dX6_layName_42 : decode cX6_layName 42 = .ok (.return_, 1) := by decide +kernel
theorem dX6_layNumber_0 : decode cX6_layNumber 0 = .ok (.iconst 1, 1) := by decide +kernel
theorem dX6_layNumber_1 : decode cX6_layNumber 1 = .ok (.istore_n 2, 1) := by decide +kernel
theorem dX6_layNumber_2 : decode cX6_layNumber 2 = .ok (.iload_n 1, 1) := by decide +kernel
theorem dX6_layNumber_3 : decode cX6_layNumber 3 = .ok (.iload_n 2, 1) := by decide +kernel
theorem dX6_layNumber_4 : decode cX6_layNumber 4 = .ok (.idiv, 1) := by decide +kernel
theorem dX6_layNumber_5 : decode cX6_layNumber 5 = .ok (.bipush 9, 2) := by decide +kernel
theorem dX6_layNumber_7 : decode cX6_layNumber 7 = .ok (.if_icmp .le 11, 3) := by decide +kernel
theorem dX6_layNumber_10 : decode cX6_layNumber 10 = .ok (.iload_n 2, 1) := by decide +kernel
theorem dX6_layNumber_11 : decode cX6_layNumber 11 = .ok (.bipush 10, 2) := by decide +kernel
theorem dX6_layNumber_13 : decode cX6_layNumber 13 = .ok (.imul, 1) := by decide +kernel
theorem dX6_layNumber_14 : decode cX6_layNumber 14 = .ok (.istore_n 2, 1) := by decide +kernel
theorem dX6_layNumber_15 : decode cX6_layNumber 15 = .ok (.goto (-13), 3) := by decide +kernel
theorem dX6_layNumber_18 : decode cX6_layNumber 18 = .ok (.iload_n 2, 1) := by decide +kernel
theorem dX6_layNumber_19 : decode cX6_layNumber 19 = .ok (.ifCond .le 24, 3) := by decide +kernel
theorem dX6_layNumber_22 : decode cX6_layNumber 22 = .ok (.aload_n 0, 1) := by decide +kernel
theorem dX6_layNumber_23 : decode cX6_layNumber 23 = .ok (.bipush 48, 2) := by decide +kernel
theorem dX6_layNumber_25 : decode cX6_layNumber 25 = .ok (.iload_n 1, 1) := by decide +kernel
theorem dX6_layNumber_26 : decode cX6_layNumber 26 = .ok (.iload_n 2, 1) := by decide +kernel
theorem dX6_layNumber_27 : decode cX6_layNumber 27 = .ok (.idiv, 1) := by decide +kernel
theorem dX6_layNumber_28 : decode cX6_layNumber 28 = .ok (.bipush 10, 2) := by decide +kernel
theorem dX6_layNumber_30 : decode cX6_layNumber 30 = .ok (.irem, 1) := by decide +kernel
theorem dX6_layNumber_31 : decode cX6_layNumber 31 = .ok (.iadd, 1) := by decide +kernel
theorem dX6_layNumber_32 : decode cX6_layNumber 32 = .ok (.invokevirtual 326, 3) := by decide +kernel
theorem dX6_layNumber_35 : decode cX6_layNumber 35 = .ok (.iload_n 2, 1) := by decide +kernel
theorem dX6_layNumber_36 : decode cX6_layNumber 36 = .ok (.bipush 10, 2) := by decide +kernel
theorem dX6_layNumber_38 : decode cX6_layNumber 38 = .ok (.idiv, 1) := by decide +kernel
theorem dX6_layNumber_39 : decode cX6_layNumber 39 = .ok (.istore_n 2, 1) := by decide +kernel
theorem dX6_layNumber_40 : decode cX6_layNumber 40 = .ok (.goto (-22), 3) := by decide +kernel
theorem dX6_layNumber_43 : decode cX6_layNumber 43 = .ok (.return_, 1) := by decide +kernel
theorem dX6_writeOut_0 : decode cX6_writeOut 0 = .ok (.aload_n 0, 1) := by decide +kernel
theorem dX6_writeOut_1 : decode cX6_writeOut 1 = .ok (.aload_n 0, 1) := by decide +kernel
theorem dX6_writeOut_2 : decode cX6_writeOut 2 = .ok (.iload_n 1, 1) := by decide +kernel
theorem dX6_writeOut_3 : decode cX6_writeOut 3 = .ok (.invokevirtual 74, 3) := by decide +kernel
theorem dX6_writeOut_6 : decode cX6_writeOut 6 = .ok (.invokevirtual 128, 3) := by decide +kernel
theorem dX6_writeOut_9 : decode cX6_writeOut 9 = .ok (.ifCond .eq 5, 3) := by decide +kernel
theorem dX6_writeOut_12 : decode cX6_writeOut 12 = .ok (.iconst 0, 1) := by decide +kernel
theorem dX6_writeOut_13 : decode cX6_writeOut 13 = .ok (.ireturn, 1) := by decide +kernel
theorem dX6_writeOut_14 : decode cX6_writeOut 14 = .ok (.aload_n 0, 1) := by decide +kernel
theorem dX6_writeOut_15 : decode cX6_writeOut 15 = .ok (.iconst 0, 1) := by decide +kernel
theorem dX6_writeOut_16 : decode cX6_writeOut 16 = .ok (.putfield 323, 3) := by decide +kernel
theorem dX6_writeOut_19 : decode cX6_writeOut 19 = .ok (.aload_n 0, 1) := by decide +kernel
theorem dX6_writeOut_20 : decode cX6_writeOut 20 = .ok (.aload_n 0, 1) := by decide +kernel
theorem dX6_writeOut_21 : decode cX6_writeOut 21 = .ok (.iload_n 1, 1) := by decide +kernel
theorem dX6_writeOut_22 : decode cX6_writeOut 22 = .ok (.iconst 3, 1) := by decide +kernel
theorem dX6_writeOut_23 : decode cX6_writeOut 23 = .ok (.invokevirtual 64, 3) := by decide +kernel
theorem dX6_writeOut_26 : decode cX6_writeOut 26 = .ok (.invokevirtual 329, 3) := by decide +kernel
theorem dX6_writeOut_29 : decode cX6_writeOut 29 = .ok (.aload_n 0, 1) := by decide +kernel
theorem dX6_writeOut_30 : decode cX6_writeOut 30 = .ok (.bipush 58, 2) := by decide +kernel
theorem dX6_writeOut_32 : decode cX6_writeOut 32 = .ok (.invokevirtual 326, 3) := by decide +kernel
theorem dX6_writeOut_35 : decode cX6_writeOut 35 = .ok (.iconst 0, 1) := by decide +kernel
theorem dX6_writeOut_36 : decode cX6_writeOut 36 = .ok (.istore_n 2, 1) := by decide +kernel
theorem dX6_writeOut_37 : decode cX6_writeOut 37 = .ok (.iload_n 2, 1) := by decide +kernel
theorem dX6_writeOut_38 : decode cX6_writeOut 38 = .ok (.aload_n 0, 1) := by decide +kernel
theorem dX6_writeOut_39 : decode cX6_writeOut 39 = .ok (.iload_n 1, 1) := by decide +kernel
theorem dX6_writeOut_40 : decode cX6_writeOut 40 = .ok (.iconst 4, 1) := by decide +kernel
theorem dX6_writeOut_41 : decode cX6_writeOut 41 = .ok (.invokevirtual 64, 3) := by decide +kernel
theorem dX6_writeOut_44 : decode cX6_writeOut 44 = .ok (.if_icmp .ge 32, 3) := by decide +kernel
theorem dX6_writeOut_47 : decode cX6_writeOut 47 = .ok (.aload_n 0, 1) := by decide +kernel
theorem dX6_writeOut_48 : decode cX6_writeOut 48 = .ok (.bipush 32, 2) := by decide +kernel
theorem dX6_writeOut_50 : decode cX6_writeOut 50 = .ok (.invokevirtual 326, 3) := by decide +kernel
theorem dX6_writeOut_53 : decode cX6_writeOut 53 = .ok (.aload_n 0, 1) := by decide +kernel
theorem dX6_writeOut_54 : decode cX6_writeOut 54 = .ok (.aload_n 0, 1) := by decide +kernel
theorem dX6_writeOut_55 : decode cX6_writeOut 55 = .ok (.aload_n 0, 1) := by decide +kernel
theorem dX6_writeOut_56 : decode cX6_writeOut 56 = .ok (.iload_n 1, 1) := by decide +kernel
theorem dX6_writeOut_57 : decode cX6_writeOut 57 = .ok (.iconst 5, 1) := by decide +kernel
theorem dX6_writeOut_58 : decode cX6_writeOut 58 = .ok (.iload_n 2, 1) := by decide +kernel
theorem dX6_writeOut_59 : decode cX6_writeOut 59 = .ok (.iadd, 1) := by decide +kernel
theorem dX6_writeOut_60 : decode cX6_writeOut 60 = .ok (.invokevirtual 64, 3) := by decide +kernel
theorem dX6_writeOut_63 : decode cX6_writeOut 63 = .ok (.iconst 4, 1) := by decide +kernel
theorem dX6_writeOut_64 : decode cX6_writeOut 64 = .ok (.invokevirtual 67, 3) := by decide +kernel
theorem dX6_writeOut_67 : decode cX6_writeOut 67 = .ok (.invokevirtual 329, 3) := by decide +kernel
theorem dX6_writeOut_70 : decode cX6_writeOut 70 = .ok (.iinc 2 1, 3) := by decide +kernel
theorem dX6_writeOut_73 : decode cX6_writeOut 73 = .ok (.goto (-36), 3) := by decide +kernel
theorem dX6_writeOut_76 : decode cX6_writeOut 76 = .ok (.iconst 0, 1) := by decide +kernel
theorem dX6_writeOut_77 : decode cX6_writeOut 77 = .ok (.istore_n 2, 1) := by decide +kernel
theorem dX6_writeOut_78 : decode cX6_writeOut 78 = .ok (.iload_n 2, 1) := by decide +kernel
theorem dX6_writeOut_79 : decode cX6_writeOut 79 = .ok (.bipush 12, 2) := by decide +kernel
theorem dX6_writeOut_81 : decode cX6_writeOut 81 = .ok (.if_icmp .ge 49, 3) := by decide +kernel
theorem dX6_writeOut_84 : decode cX6_writeOut 84 = .ok (.aload_n 0, 1) := by decide +kernel
theorem dX6_writeOut_85 : decode cX6_writeOut 85 = .ok (.bipush 32, 2) := by decide +kernel
theorem dX6_writeOut_87 : decode cX6_writeOut 87 = .ok (.invokevirtual 326, 3) := by decide +kernel
theorem dX6_writeOut_90 : decode cX6_writeOut 90 = .ok (.aload_n 0, 1) := by decide +kernel
theorem dX6_writeOut_91 : decode cX6_writeOut 91 = .ok (.bipush 16, 2) := by decide +kernel
theorem dX6_writeOut_93 : decode cX6_writeOut 93 = .ok (.iload_n 1, 1) := by decide +kernel
theorem dX6_writeOut_94 : decode cX6_writeOut 94 = .ok (.iadd, 1) := by decide +kernel
theorem dX6_writeOut_95 : decode cX6_writeOut 95 = .ok (.iload_n 2, 1) := by decide +kernel
theorem dX6_writeOut_96 : decode cX6_writeOut 96 = .ok (.invokevirtual 77, 3) := by decide +kernel
theorem dX6_writeOut_99 : decode cX6_writeOut 99 = .ok (.ifCond .ne 12, 3) := by decide +kernel
theorem dX6_writeOut_102 : decode cX6_writeOut 102 = .ok (.aload_n 0, 1) := by decide +kernel
theorem dX6_writeOut_103 : decode cX6_writeOut 103 = .ok (.bipush 45, 2) := by decide +kernel
theorem dX6_writeOut_105 : decode cX6_writeOut 105 = .ok (.invokevirtual 326, 3) := by decide +kernel
theorem dX6_writeOut_108 : decode cX6_writeOut 108 = .ok (.goto 16, 3) := by decide +kernel
theorem dX6_writeOut_111 : decode cX6_writeOut 111 = .ok (.aload_n 0, 1) := by decide +kernel
theorem dX6_writeOut_112 : decode cX6_writeOut 112 = .ok (.aload_n 0, 1) := by decide +kernel
theorem dX6_writeOut_113 : decode cX6_writeOut 113 = .ok (.bipush 16, 2) := by decide +kernel
theorem dX6_writeOut_115 : decode cX6_writeOut 115 = .ok (.iload_n 1, 1) := by decide +kernel
theorem dX6_writeOut_116 : decode cX6_writeOut 116 = .ok (.iadd, 1) := by decide +kernel
theorem dX6_writeOut_117 : decode cX6_writeOut 117 = .ok (.iload_n 2, 1) := by decide +kernel
theorem dX6_writeOut_118 : decode cX6_writeOut 118 = .ok (.invokevirtual 77, 3) := by decide +kernel
theorem dX6_writeOut_121 : decode cX6_writeOut 121 = .ok (.invokevirtual 332, 3) := by decide +kernel
theorem dX6_writeOut_124 : decode cX6_writeOut 124 = .ok (.iinc 2 1, 3) := by decide +kernel
theorem dX6_writeOut_127 : decode cX6_writeOut 127 = .ok (.goto (-49), 3) := by decide +kernel
theorem dX6_writeOut_130 : decode cX6_writeOut 130 = .ok (.aload_n 0, 1) := by decide +kernel
theorem dX6_writeOut_131 : decode cX6_writeOut 131 = .ok (.getfield 323, 3) := by decide +kernel
theorem dX6_writeOut_134 : decode cX6_writeOut 134 = .ok (.ireturn, 1) := by decide +kernel
theorem dX6_outputAt_0 : decode cX6_outputAt 0 = .ok (.aload_n 0, 1) := by decide +kernel
theorem dX6_outputAt_1 : decode cX6_outputAt 1 = .ok (.iconst 0, 1) := by decide +kernel
theorem dX6_outputAt_2 : decode cX6_outputAt 2 = .ok (.putfield 43, 3) := by decide +kernel
theorem dX6_outputAt_5 : decode cX6_outputAt 5 = .ok (.iload_n 1, 1) := by decide +kernel
theorem dX6_outputAt_6 : decode cX6_outputAt 6 = .ok (.iconst 0, 1) := by decide +kernel
theorem dX6_outputAt_7 : decode cX6_outputAt 7 = .ok (.aload_n 0, 1) := by decide +kernel
theorem dX6_outputAt_8 : decode cX6_outputAt 8 = .ok (.getfield 323, 3) := by decide +kernel
theorem dX6_outputAt_11 : decode cX6_outputAt 11 = .ok (.iconst 1, 1) := by decide +kernel
theorem dX6_outputAt_12 : decode cX6_outputAt 12 = .ok (.isub, 1) := by decide +kernel
theorem dX6_outputAt_13 : decode cX6_outputAt 13 = .ok (.invokestatic 60, 3) := by decide +kernel
theorem dX6_outputAt_16 : decode cX6_outputAt 16 = .ok (.ifCond .eq 12, 3) := by decide +kernel
theorem dX6_outputAt_19 : decode cX6_outputAt 19 = .ok (.aload_n 0, 1) := by decide +kernel
theorem dX6_outputAt_20 : decode cX6_outputAt 20 = .ok (.getfield 36, 3) := by decide +kernel
theorem dX6_outputAt_23 : decode cX6_outputAt 23 = .ok (.iload_n 1, 1) := by decide +kernel
theorem dX6_outputAt_24 : decode cX6_outputAt 24 = .ok (.iaload, 1) := by decide +kernel
theorem dX6_outputAt_25 : decode cX6_outputAt 25 = .ok (.goto 4, 3) := by decide +kernel
theorem dX6_outputAt_28 : decode cX6_outputAt 28 = .ok (.iconst (-1), 1) := by decide +kernel
theorem dX6_outputAt_29 : decode cX6_outputAt 29 = .ok (.ireturn, 1) := by decide +kernel
theorem dJ5_init_d00df_0 : decode cJ5_init_d00df 0 = .ok (.aload_n 0, 1) := by decide +kernel
theorem dJ5_init_d00df_1 : decode cJ5_init_d00df 1 = .ok (.invokespecial 3, 3) := by decide +kernel
theorem dJ5_init_d00df_4 : decode cJ5_init_d00df 4 = .ok (.getstatic 18, 3) := by decide +kernel
theorem dJ5_init_d00df_7 : decode cJ5_init_d00df 7 = .ok (.ifCond .eq 18, 3) := by decide +kernel
theorem dJ5_init_d00df_10 : decode cJ5_init_d00df 10 = .ok (.aload_n 0, 1) := by decide +kernel
theorem dJ5_init_d00df_11 : decode cJ5_init_d00df 11 = .ok (.iload_n 1, 1) := by decide +kernel
theorem dJ5_init_d00df_12 : decode cJ5_init_d00df 12 = .ok (.newarray .byte, 2) := by decide +kernel
theorem dJ5_init_d00df_14 : decode cJ5_init_d00df 14 = .ok (.putfield 15, 3) := by decide +kernel
theorem dJ5_init_d00df_17 : decode cJ5_init_d00df 17 = .ok (.aload_n 0, 1) := by decide +kernel
theorem dJ5_init_d00df_18 : decode cJ5_init_d00df 18 = .ok (.iconst 0, 1) := by decide +kernel
theorem dJ5_init_d00df_19 : decode cJ5_init_d00df 19 = .ok (.putfield 22, 3) := by decide +kernel
theorem dJ5_init_d00df_22 : decode cJ5_init_d00df 22 = .ok (.goto 16, 3) := by decide +kernel
theorem dJ5_init_d00df_25 : decode cJ5_init_d00df 25 = .ok (.aload_n 0, 1) := by decide +kernel
theorem dJ5_init_d00df_26 : decode cJ5_init_d00df 26 = .ok (.iload_n 1, 1) := by decide +kernel
theorem dJ5_init_d00df_27 : decode cJ5_init_d00df 27 = .ok (.invokestatic 26, 3) := by decide +kernel
theorem dJ5_init_d00df_30 : decode cJ5_init_d00df 30 = .ok (.putfield 15, 3) := by decide +kernel
theorem dJ5_init_d00df_33 : decode cJ5_init_d00df 33 = .ok (.aload_n 0, 1) := by decide +kernel
theorem dJ5_init_d00df_34 : decode cJ5_init_d00df 34 = .ok (.iconst 1, 1) := by decide +kernel
theorem dJ5_init_d00df_35 : decode cJ5_init_d00df 35 = .ok (.putfield 22, 3) := by decide +kernel
theorem dJ5_init_d00df_38 : decode cJ5_init_d00df 38 = .ok (.return_, 1) := by decide +kernel
theorem dJ5_length_8abf5_0 : decode cJ5_length_8abf5 0 = .ok (.aload_n 0, 1) := by decide +kernel
theorem dJ5_length_8abf5_1 : decode cJ5_length_8abf5 1 = .ok (.getfield 79, 3) := by decide +kernel
theorem dJ5_length_8abf5_4 : decode cJ5_length_8abf5 4 = .ok (.ireturn, 1) := by decide +kernel
theorem dJ5_ensureCapacityInternal_d00df_0 : decode cJ5_ensureCapacityInternal_d00df 0 = .ok (.aload_n 0, 1) := by decide +kernel
theorem dJ5_ensureCapacityInternal_d00df_1 : decode cJ5_ensureCapacityInternal_d00df 1 = .ok (.getfield 15, 3) := by decide +kernel
theorem dJ5_ensureCapacityInternal_d00df_4 : decode cJ5_ensureCapacityInternal_d00df 4 = .ok (.arraylength, 1) := by decide +kernel
theorem dJ5_ensureCapacityInternal_d00df_5 : decode cJ5_ensureCapacityInternal_d00df 5 = .ok (.aload_n 0, 1) := by decide +kernel
theorem dJ5_ensureCapacityInternal_d00df_6 : decode cJ5_ensureCapacityInternal_d00df 6 = .ok (.getfield 22, 3) := by decide +kernel
theorem dJ5_ensureCapacityInternal_d00df_9 : decode cJ5_ensureCapacityInternal_d00df 9 = .ok (.ishr, 1) := by decide +kernel
theorem dJ5_ensureCapacityInternal_d00df_10 : decode cJ5_ensureCapacityInternal_d00df 10 = .ok (.istore_n 2, 1) := by decide +kernel
theorem dJ5_ensureCapacityInternal_d00df_11 : decode cJ5_ensureCapacityInternal_d00df 11 = .ok (.iload_n 1, 1) := by decide +kernel
theorem dJ5_ensureCapacityInternal_d00df_12 : decode cJ5_ensureCapacityInternal_d00df 12 = .ok (.iload_n 2, 1) := by decide +kernel
theorem dJ5_ensureCapacityInternal_d00df_13 : decode cJ5_ensureCapacityInternal_d00df 13 = .ok (.isub, 1) := by decide +kernel
theorem dJ5_ensureCapacityInternal_d00df_14 : decode cJ5_ensureCapacityInternal_d00df 14 = .ok (.ifCond .le 24, 3) := by decide +kernel
theorem dJ5_ensureCapacityInternal_d00df_17 : decode cJ5_ensureCapacityInternal_d00df 17 = .ok (.aload_n 0, 1) := by decide +kernel
theorem dJ5_ensureCapacityInternal_d00df_18 : decode cJ5_ensureCapacityInternal_d00df 18 = .ok (.aload_n 0, 1) := by decide +kernel
theorem dJ5_ensureCapacityInternal_d00df_19 : decode cJ5_ensureCapacityInternal_d00df 19 = .ok (.getfield 15, 3) := by decide +kernel
theorem dJ5_ensureCapacityInternal_d00df_22 : decode cJ5_ensureCapacityInternal_d00df 22 = .ok (.aload_n 0, 1) := by decide +kernel
theorem dJ5_ensureCapacityInternal_d00df_23 : decode cJ5_ensureCapacityInternal_d00df 23 = .ok (.iload_n 1, 1) := by decide +kernel
theorem dJ5_ensureCapacityInternal_d00df_24 : decode cJ5_ensureCapacityInternal_d00df 24 = .ok (.invokevirtual 104, 3) := by decide +kernel
theorem dJ5_ensureCapacityInternal_d00df_27 : decode cJ5_ensureCapacityInternal_d00df 27 = .ok (.aload_n 0, 1) := by decide +kernel
theorem dJ5_ensureCapacityInternal_d00df_28 : decode cJ5_ensureCapacityInternal_d00df 28 = .ok (.getfield 22, 3) := by decide +kernel
theorem dJ5_ensureCapacityInternal_d00df_31 : decode cJ5_ensureCapacityInternal_d00df 31 = .ok (.ishl, 1) := by decide +kernel
theorem dJ5_ensureCapacityInternal_d00df_32 : decode cJ5_ensureCapacityInternal_d00df 32 = .ok (.invokestatic 108, 3) := by decide +kernel
theorem dJ5_ensureCapacityInternal_d00df_35 : decode cJ5_ensureCapacityInternal_d00df 35 = .ok (.putfield 15, 3) := by decide +kernel
theorem dJ5_ensureCapacityInternal_d00df_38 : decode cJ5_ensureCapacityInternal_d00df 38 = .ok (.return_, 1) := by decide +kernel
theorem dJ5_newCapacity_0f7a4_0 : decode cJ5_newCapacity_0f7a4 0 = .ok (.aload_n 0, 1) := by decide +kernel
theorem dJ5_newCapacity_0f7a4_1 : decode cJ5_newCapacity_0f7a4 1 = .ok (.getfield 15, 3) := by decide +kernel
theorem dJ5_newCapacity_0f7a4_4 : decode cJ5_newCapacity_0f7a4 4 = .ok (.arraylength, 1) := by decide +kernel
theorem dJ5_newCapacity_0f7a4_5 : decode cJ5_newCapacity_0f7a4 5 = .ok (.istore_n 2, 1) := by decide +kernel
theorem dJ5_newCapacity_0f7a4_6 : decode cJ5_newCapacity_0f7a4 6 = .ok (.iload_n 1, 1) := by decide +kernel
theorem dJ5_newCapacity_0f7a4_7 : decode cJ5_newCapacity_0f7a4 7 = .ok (.aload_n 0, 1) := by decide +kernel
theorem dJ5_newCapacity_0f7a4_8 : decode cJ5_newCapacity_0f7a4 8 = .ok (.getfield 22, 3) := by decide +kernel
theorem dJ5_newCapacity_0f7a4_11 : decode cJ5_newCapacity_0f7a4 11 = .ok (.ishl, 1) := by decide +kernel
theorem dJ5_newCapacity_0f7a4_12 : decode cJ5_newCapacity_0f7a4 12 = .ok (.istore_n 3, 1) := by decide +kernel
theorem dJ5_newCapacity_0f7a4_13 : decode cJ5_newCapacity_0f7a4 13 = .ok (.iload_n 3, 1) := by decide +kernel
theorem dJ5_newCapacity_0f7a4_14 : decode cJ5_newCapacity_0f7a4 14 = .ok (.iload_n 2, 1) := by decide +kernel
theorem dJ5_newCapacity_0f7a4_15 : decode cJ5_newCapacity_0f7a4 15 = .ok (.isub, 1) := by decide +kernel
theorem dJ5_newCapacity_0f7a4_16 : decode cJ5_newCapacity_0f7a4 16 = .ok (.istore 4, 2) := by decide +kernel
theorem dJ5_newCapacity_0f7a4_18 : decode cJ5_newCapacity_0f7a4 18 = .ok (.iload_n 2, 1) := by decide +kernel
theorem dJ5_newCapacity_0f7a4_19 : decode cJ5_newCapacity_0f7a4 19 = .ok (.iload 4, 2) := by decide +kernel
theorem dJ5_newCapacity_0f7a4_21 : decode cJ5_newCapacity_0f7a4 21 = .ok (.iload_n 2, 1) := by decide +kernel
theorem dJ5_newCapacity_0f7a4_22 : decode cJ5_newCapacity_0f7a4 22 = .ok (.iconst 2, 1) := by decide +kernel
theorem dJ5_newCapacity_0f7a4_23 : decode cJ5_newCapacity_0f7a4 23 = .ok (.aload_n 0, 1) := by decide +kernel
theorem dJ5_newCapacity_0f7a4_24 : decode cJ5_newCapacity_0f7a4 24 = .ok (.getfield 22, 3) := by decide +kernel
theorem dJ5_newCapacity_0f7a4_27 : decode cJ5_newCapacity_0f7a4 27 = .ok (.ishl, 1) := by decide +kernel
theorem dJ5_newCapacity_0f7a4_28 : decode cJ5_newCapacity_0f7a4 28 = .ok (.iadd, 1) := by decide +kernel
theorem dJ5_newCapacity_0f7a4_29 : decode cJ5_newCapacity_0f7a4 29 = .ok (.invokestatic 114, 3) := by decide +kernel
theorem dJ5_newCapacity_0f7a4_32 : decode cJ5_newCapacity_0f7a4 32 = .ok (.istore 5, 2) := by decide +kernel
theorem dJ5_newCapacity_0f7a4_34 : decode cJ5_newCapacity_0f7a4 34 = .ok (.iload 5, 2) := by decide +kernel
theorem dJ5_newCapacity_0f7a4_36 : decode cJ5_newCapacity_0f7a4 36 = .ok (.ldc 39, 2) := by decide +kernel
theorem dJ5_newCapacity_0f7a4_38 : decode cJ5_newCapacity_0f7a4 38 = .ok (.if_icmp .ne 13, 3) := by decide +kernel
theorem dJ5_newCapacity_0f7a4_41 : decode cJ5_newCapacity_0f7a4 41 = .ok (.new 120, 3) := by decide +kernel
theorem dJ5_newCapacity_0f7a4_44 : decode cJ5_newCapacity_0f7a4 44 = .ok (.dup, 1) := by decide +kernel
theorem dJ5_newCapacity_0f7a4_45 : decode cJ5_newCapacity_0f7a4 45 = .ok (.ldc 122, 2) := by decide +kernel
theorem dJ5_newCapacity_0f7a4_47 : decode cJ5_newCapacity_0f7a4 47 = .ok (.invokespecial 124, 3) := by decide +kernel
theorem dJ5_newCapacity_0f7a4_50 : decode cJ5_newCapacity_0f7a4 50 = .ok (.athrow, 1) := by decide +kernel
theorem dJ5_newCapacity_0f7a4_51 : decode cJ5_newCapacity_0f7a4 51 = .ok (.iload 5, 2) := by decide +kernel
theorem dJ5_newCapacity_0f7a4_53 : decode cJ5_newCapacity_0f7a4 53 = .ok (.aload_n 0, 1) := by decide +kernel
theorem dJ5_newCapacity_0f7a4_54 : decode cJ5_newCapacity_0f7a4 54 = .ok (.getfield 22, 3) := by decide +kernel
theorem dJ5_newCapacity_0f7a4_57 : decode cJ5_newCapacity_0f7a4 57 = .ok (.ishr, 1) := by decide +kernel
theorem dJ5_newCapacity_0f7a4_58 : decode cJ5_newCapacity_0f7a4 58 = .ok (.ireturn, 1) := by decide +kernel
theorem dJ5_inflate_da8c8_0 : decode cJ5_inflate_da8c8 0 = .ok (.aload_n 0, 1) := by decide +kernel
theorem dJ5_inflate_da8c8_1 : decode cJ5_inflate_da8c8 1 = .ok (.invokevirtual 83, 3) := by decide +kernel
theorem dJ5_inflate_da8c8_4 : decode cJ5_inflate_da8c8 4 = .ok (.ifCond .ne 4, 3) := by decide +kernel
theorem dJ5_inflate_da8c8_7 : decode cJ5_inflate_da8c8 7 = .ok (.return_, 1) := by decide +kernel
theorem dJ5_inflate_da8c8_8 : decode cJ5_inflate_da8c8 8 = .ok (.aload_n 0, 1) := by decide +kernel
theorem dJ5_inflate_da8c8_9 : decode cJ5_inflate_da8c8 9 = .ok (.getfield 15, 3) := by decide +kernel
theorem dJ5_inflate_da8c8_12 : decode cJ5_inflate_da8c8 12 = .ok (.arraylength, 1) := by decide +kernel
theorem dJ5_inflate_da8c8_13 : decode cJ5_inflate_da8c8 13 = .ok (.invokestatic 26, 3) := by decide +kernel
theorem dJ5_inflate_da8c8_16 : decode cJ5_inflate_da8c8 16 = .ok (.astore_n 1, 1) := by decide +kernel
theorem dJ5_inflate_da8c8_17 : decode cJ5_inflate_da8c8 17 = .ok (.aload_n 0, 1) := by decide +kernel
theorem dJ5_inflate_da8c8_18 : decode cJ5_inflate_da8c8 18 = .ok (.getfield 15, 3) := by decide +kernel
theorem dJ5_inflate_da8c8_21 : decode cJ5_inflate_da8c8 21 = .ok (.iconst 0, 1) := by decide +kernel
theorem dJ5_inflate_da8c8_22 : decode cJ5_inflate_da8c8 22 = .ok (.aload_n 1, 1) := by decide +kernel
theorem dJ5_inflate_da8c8_23 : decode cJ5_inflate_da8c8 23 = .ok (.iconst 0, 1) := by decide +kernel
theorem dJ5_inflate_da8c8_24 : decode cJ5_inflate_da8c8 24 = .ok (.aload_n 0, 1) := by decide +kernel
theorem dJ5_inflate_da8c8_25 : decode cJ5_inflate_da8c8 25 = .ok (.getfield 79, 3) := by decide +kernel
theorem dJ5_inflate_da8c8_28 : decode cJ5_inflate_da8c8 28 = .ok (.invokestatic 125, 3) := by decide +kernel
theorem dJ5_inflate_da8c8_31 : decode cJ5_inflate_da8c8 31 = .ok (.aload_n 0, 1) := by decide +kernel
theorem dJ5_inflate_da8c8_32 : decode cJ5_inflate_da8c8 32 = .ok (.aload_n 1, 1) := by decide +kernel
theorem dJ5_inflate_da8c8_33 : decode cJ5_inflate_da8c8 33 = .ok (.putfield 15, 3) := by decide +kernel
theorem dJ5_inflate_da8c8_36 : decode cJ5_inflate_da8c8 36 = .ok (.aload_n 0, 1) := by decide +kernel
theorem dJ5_inflate_da8c8_37 : decode cJ5_inflate_da8c8 37 = .ok (.iconst 1, 1) := by decide +kernel
theorem dJ5_inflate_da8c8_38 : decode cJ5_inflate_da8c8 38 = .ok (.putfield 22, 3) := by decide +kernel
theorem dJ5_inflate_da8c8_41 : decode cJ5_inflate_da8c8 41 = .ok (.return_, 1) := by decide +kernel
theorem dJ5_setLength_d00df_0 : decode cJ5_setLength_d00df 0 = .ok (.iload_n 1, 1) := by decide +kernel
theorem dJ5_setLength_d00df_1 : decode cJ5_setLength_d00df 1 = .ok (.ifCond .ge 12, 3) := by decide +kernel
theorem dJ5_setLength_d00df_4 : decode cJ5_setLength_d00df 4 = .ok (.new 129, 3) := by decide +kernel
theorem dJ5_setLength_d00df_7 : decode cJ5_setLength_d00df 7 = .ok (.dup, 1) := by decide +kernel
theorem dJ5_setLength_d00df_8 : decode cJ5_setLength_d00df 8 = .ok (.iload_n 1, 1) := by decide +kernel
theorem dJ5_setLength_d00df_9 : decode cJ5_setLength_d00df 9 = .ok (.invokespecial 131, 3) := by decide +kernel
theorem dJ5_setLength_d00df_12 : decode cJ5_setLength_d00df 12 = .ok (.athrow, 1) := by decide +kernel
theorem dJ5_setLength_d00df_13 : decode cJ5_setLength_d00df 13 = .ok (.aload_n 0, 1) := by decide +kernel
theorem dJ5_setLength_d00df_14 : decode cJ5_setLength_d00df 14 = .ok (.iload_n 1, 1) := by decide +kernel
theorem dJ5_setLength_d00df_15 : decode cJ5_setLength_d00df 15 = .ok (.invokevirtual 100, 3) := by decide +kernel
theorem dJ5_setLength_d00df_18 : decode cJ5_setLength_d00df 18 = .ok (.aload_n 0, 1) := by decide +kernel
theorem dJ5_setLength_d00df_19 : decode cJ5_setLength_d00df 19 = .ok (.getfield 79, 3) := by decide +kernel
theorem dJ5_setLength_d00df_22 : decode cJ5_setLength_d00df 22 = .ok (.iload_n 1, 1) := by decide +kernel
theorem dJ5_setLength_d00df_23 : decode cJ5_setLength_d00df 23 = .ok (.if_icmp .ge 40, 3) := by decide +kernel
theorem dJ5_setLength_d00df_26 : decode cJ5_setLength_d00df 26 = .ok (.aload_n 0, 1) := by decide +kernel
theorem dJ5_setLength_d00df_27 : decode cJ5_setLength_d00df 27 = .ok (.invokevirtual 83, 3) := by decide +kernel
theorem dJ5_setLength_d00df_30 : decode cJ5_setLength_d00df 30 = .ok (.ifCond .eq 18, 3) := by decide +kernel
theorem dJ5_setLength_d00df_33 : decode cJ5_setLength_d00df 33 = .ok (.aload_n 0, 1) := by decide +kernel
theorem dJ5_setLength_d00df_34 : decode cJ5_setLength_d00df 34 = .ok (.getfield 15, 3) := by decide +kernel
theorem dJ5_setLength_d00df_37 : decode cJ5_setLength_d00df 37 = .ok (.aload_n 0, 1) := by decide +kernel
theorem dJ5_setLength_d00df_38 : decode cJ5_setLength_d00df 38 = .ok (.getfield 79, 3) := by decide +kernel
theorem dJ5_setLength_d00df_41 : decode cJ5_setLength_d00df 41 = .ok (.iload_n 1, 1) := by decide +kernel
theorem dJ5_setLength_d00df_42 : decode cJ5_setLength_d00df 42 = .ok (.invokestatic 133, 3) := by decide +kernel
theorem dJ5_setLength_d00df_45 : decode cJ5_setLength_d00df 45 = .ok (.goto 31, 3) := by decide +kernel
theorem dJ5_setLength_d00df_48 : decode cJ5_setLength_d00df 48 = .ok (.aload_n 0, 1) := by decide +kernel
theorem dJ5_setLength_d00df_49 : decode cJ5_setLength_d00df 49 = .ok (.getfield 15, 3) := by decide +kernel
theorem dJ5_setLength_d00df_52 : decode cJ5_setLength_d00df 52 = .ok (.aload_n 0, 1) := by decide +kernel
theorem dJ5_setLength_d00df_53 : decode cJ5_setLength_d00df 53 = .ok (.getfield 79, 3) := by decide +kernel
theorem dJ5_setLength_d00df_56 : decode cJ5_setLength_d00df 56 = .ok (.iload_n 1, 1) := by decide +kernel
theorem dJ5_setLength_d00df_57 : decode cJ5_setLength_d00df 57 = .ok (.invokestatic 137, 3) := by decide +kernel
theorem dJ5_setLength_d00df_60 : decode cJ5_setLength_d00df 60 = .ok (.goto 16, 3) := by decide +kernel
theorem dJ5_setLength_d00df_63 : decode cJ5_setLength_d00df 63 = .ok (.aload_n 0, 1) := by decide +kernel
theorem dJ5_setLength_d00df_64 : decode cJ5_setLength_d00df 64 = .ok (.getfield 79, 3) := by decide +kernel
theorem dJ5_setLength_d00df_67 : decode cJ5_setLength_d00df 67 = .ok (.iload_n 1, 1) := by decide +kernel
theorem dJ5_setLength_d00df_68 : decode cJ5_setLength_d00df 68 = .ok (.if_icmp .le 8, 3) := by decide +kernel
theorem dJ5_setLength_d00df_71 : decode cJ5_setLength_d00df 71 = .ok (.aload_n 0, 1) := by decide +kernel
theorem dJ5_setLength_d00df_72 : decode cJ5_setLength_d00df 72 = .ok (.iconst 1, 1) := by decide +kernel
theorem dJ5_setLength_d00df_73 : decode cJ5_setLength_d00df 73 = .ok (.putfield 73, 3) := by decide +kernel
theorem dJ5_setLength_d00df_76 : decode cJ5_setLength_d00df 76 = .ok (.aload_n 0, 1) := by decide +kernel
theorem dJ5_setLength_d00df_77 : decode cJ5_setLength_d00df 77 = .ok (.iload_n 1, 1) := by decide +kernel
theorem dJ5_setLength_d00df_78 : decode cJ5_setLength_d00df 78 = .ok (.putfield 79, 3) := by decide +kernel
theorem dJ5_setLength_d00df_81 : decode cJ5_setLength_d00df 81 = .ok (.return_, 1) := by decide +kernel
theorem dJ5_charAt_5068e_0 : decode cJ5_charAt_5068e 0 = .ok (.aload_n 0, 1) := by decide +kernel
theorem dJ5_charAt_5068e_1 : decode cJ5_charAt_5068e 1 = .ok (.getfield 22, 3) := by decide +kernel
theorem dJ5_charAt_5068e_4 : decode cJ5_charAt_5068e 4 = .ok (.istore_n 2, 1) := by decide +kernel
theorem dJ5_charAt_5068e_5 : decode cJ5_charAt_5068e 5 = .ok (.aload_n 0, 1) := by decide +kernel
theorem dJ5_charAt_5068e_6 : decode cJ5_charAt_5068e 6 = .ok (.getfield 15, 3) := by decide +kernel
theorem dJ5_charAt_5068e_9 : decode cJ5_charAt_5068e 9 = .ok (.astore_n 3, 1) := by decide +kernel
theorem dJ5_charAt_5068e_10 : decode cJ5_charAt_5068e 10 = .ok (.aload_n 0, 1) := by decide +kernel
theorem dJ5_charAt_5068e_11 : decode cJ5_charAt_5068e 11 = .ok (.getfield 79, 3) := by decide +kernel
theorem dJ5_charAt_5068e_14 : decode cJ5_charAt_5068e 14 = .ok (.aload_n 3, 1) := by decide +kernel
theorem dJ5_charAt_5068e_15 : decode cJ5_charAt_5068e 15 = .ok (.arraylength, 1) := by decide +kernel
theorem dJ5_charAt_5068e_16 : decode cJ5_charAt_5068e 16 = .ok (.iload_n 2, 1) := by decide +kernel
theorem dJ5_charAt_5068e_17 : decode cJ5_charAt_5068e 17 = .ok (.ishr, 1) := by decide +kernel
theorem dJ5_charAt_5068e_18 : decode cJ5_charAt_5068e 18 = .ok (.invokestatic 138, 3) := by decide +kernel
theorem dJ5_charAt_5068e_21 : decode cJ5_charAt_5068e 21 = .ok (.istore 4, 2) := by decide +kernel
theorem dJ5_charAt_5068e_23 : decode cJ5_charAt_5068e 23 = .ok (.iload_n 1, 1) := by decide +kernel
theorem dJ5_charAt_5068e_24 : decode cJ5_charAt_5068e 24 = .ok (.iload 4, 2) := by decide +kernel
theorem dJ5_charAt_5068e_26 : decode cJ5_charAt_5068e 26 = .ok (.invokestatic 144, 3) := by decide +kernel
theorem dJ5_charAt_5068e_29 : decode cJ5_charAt_5068e 29 = .ok (.iload_n 2, 1) := by decide +kernel
theorem dJ5_charAt_5068e_30 : decode cJ5_charAt_5068e 30 = .ok (.ifCond .ne 12, 3) := by decide +kernel
theorem dJ5_charAt_5068e_33 : decode cJ5_charAt_5068e 33 = .ok (.aload_n 3, 1) := by decide +kernel
theorem dJ5_charAt_5068e_34 : decode cJ5_charAt_5068e 34 = .ok (.iload_n 1, 1) := by decide +kernel
theorem dJ5_charAt_5068e_35 : decode cJ5_charAt_5068e 35 = .ok (.baload, 1) := by decide +kernel
theorem dJ5_charAt_5068e_36 : decode cJ5_charAt_5068e 36 = .ok (.sipush 255, 3) := by decide +kernel
theorem dJ5_charAt_5068e_39 : decode cJ5_charAt_5068e 39 = .ok (.iand, 1) := by decide +kernel
theorem dJ5_charAt_5068e_40 : decode cJ5_charAt_5068e 40 = .ok (.i2c, 1) := by decide +kernel
theorem dJ5_charAt_5068e_41 : decode cJ5_charAt_5068e 41 = .ok (.ireturn, 1) := by decide +kernel
theorem dJ5_charAt_5068e_42 : decode cJ5_charAt_5068e 42 = .ok (.aload_n 3, 1) := by decide +kernel
theorem dJ5_charAt_5068e_43 : decode cJ5_charAt_5068e 43 = .ok (.iload_n 1, 1) := by decide +kernel
theorem dJ5_charAt_5068e_44 : decode cJ5_charAt_5068e 44 = .ok (.invokestatic 148, 3) := by decide +kernel
theorem dJ5_charAt_5068e_47 : decode cJ5_charAt_5068e 47 = .ok (.ireturn, 1) := by decide +kernel
theorem dJ5_append_cf1ce_0 : decode cJ5_append_cf1ce 0 = .ok (.aload_n 1, 1) := by decide +kernel
theorem dJ5_append_cf1ce_1 : decode cJ5_append_cf1ce 1 = .ok (.ifnonnull 8, 3) := by decide +kernel
theorem dJ5_append_cf1ce_4 : decode cJ5_append_cf1ce 4 = .ok (.aload_n 0, 1) := by decide +kernel
theorem dJ5_append_cf1ce_5 : decode cJ5_append_cf1ce 5 = .ok (.invokevirtual 204, 3) := by decide +kernel
theorem dJ5_append_cf1ce_8 : decode cJ5_append_cf1ce 8 = .ok (.areturn, 1) := by decide +kernel
theorem dJ5_append_cf1ce_9 : decode cJ5_append_cf1ce 9 = .ok (.aload_n 1, 1) := by decide +kernel
theorem dJ5_append_cf1ce_10 : decode cJ5_append_cf1ce 10 = .ok (.invokevirtual 32, 3) := by decide +kernel
theorem dJ5_append_cf1ce_13 : decode cJ5_append_cf1ce 13 = .ok (.istore_n 2, 1) := by decide +kernel
theorem dJ5_append_cf1ce_14 : decode cJ5_append_cf1ce 14 = .ok (.aload_n 0, 1) := by decide +kernel
theorem dJ5_append_cf1ce_15 : decode cJ5_append_cf1ce 15 = .ok (.aload_n 0, 1) := by decide +kernel
theorem dJ5_append_cf1ce_16 : decode cJ5_append_cf1ce 16 = .ok (.getfield 79, 3) := by decide +kernel
theorem dJ5_append_cf1ce_19 : decode cJ5_append_cf1ce 19 = .ok (.iload_n 2, 1) := by decide +kernel
theorem dJ5_append_cf1ce_20 : decode cJ5_append_cf1ce 20 = .ok (.iadd, 1) := by decide +kernel
theorem dJ5_append_cf1ce_21 : decode cJ5_append_cf1ce 21 = .ok (.invokevirtual 100, 3) := by decide +kernel
theorem dJ5_append_cf1ce_24 : decode cJ5_append_cf1ce 24 = .ok (.aload_n 0, 1) := by decide +kernel
theorem dJ5_append_cf1ce_25 : decode cJ5_append_cf1ce 25 = .ok (.aload_n 0, 1) := by decide +kernel
theorem dJ5_append_cf1ce_26 : decode cJ5_append_cf1ce 26 = .ok (.getfield 79, 3) := by decide +kernel
theorem dJ5_append_cf1ce_29 : decode cJ5_append_cf1ce 29 = .ok (.aload_n 1, 1) := by decide +kernel
theorem dJ5_append_cf1ce_30 : decode cJ5_append_cf1ce 30 = .ok (.invokevirtual 208, 3) := by decide +kernel
theorem dJ5_append_cf1ce_33 : decode cJ5_append_cf1ce 33 = .ok (.aload_n 0, 1) := by decide +kernel
theorem dJ5_append_cf1ce_34 : decode cJ5_append_cf1ce 34 = .ok (.dup, 1) := by decide +kernel
theorem dJ5_append_cf1ce_35 : decode cJ5_append_cf1ce 35 = .ok (.getfield 79, 3) := by decide +kernel
theorem dJ5_append_cf1ce_38 : decode cJ5_append_cf1ce 38 = .ok (.iload_n 2, 1) := by decide +kernel
theorem dJ5_append_cf1ce_39 : decode cJ5_append_cf1ce 39 = .ok (.iadd, 1) := by decide +kernel
theorem dJ5_append_cf1ce_40 : decode cJ5_append_cf1ce 40 = .ok (.putfield 79, 3) := by decide +kernel
theorem dJ5_append_cf1ce_43 : decode cJ5_append_cf1ce 43 = .ok (.aload_n 0, 1) := by decide +kernel
theorem dJ5_append_cf1ce_44 : decode cJ5_append_cf1ce 44 = .ok (.areturn, 1) := by decide +kernel
theorem dJ5_appendNull_278bc_0 : decode cJ5_appendNull_278bc 0 = .ok (.aload_n 0, 1) := by decide +kernel
theorem dJ5_appendNull_278bc_1 : decode cJ5_appendNull_278bc 1 = .ok (.aload_n 0, 1) := by decide +kernel
theorem dJ5_appendNull_278bc_2 : decode cJ5_appendNull_278bc 2 = .ok (.getfield 79, 3) := by decide +kernel
theorem dJ5_appendNull_278bc_5 : decode cJ5_appendNull_278bc 5 = .ok (.iconst 4, 1) := by decide +kernel
theorem dJ5_appendNull_278bc_6 : decode cJ5_appendNull_278bc 6 = .ok (.iadd, 1) := by decide +kernel
theorem dJ5_appendNull_278bc_7 : decode cJ5_appendNull_278bc 7 = .ok (.invokevirtual 100, 3) := by decide +kernel
theorem dJ5_appendNull_278bc_10 : decode cJ5_appendNull_278bc 10 = .ok (.aload_n 0, 1) := by decide +kernel
theorem dJ5_appendNull_278bc_11 : decode cJ5_appendNull_278bc 11 = .ok (.getfield 79, 3) := by decide +kernel
theorem dJ5_appendNull_278bc_14 : decode cJ5_appendNull_278bc 14 = .ok (.istore_n 1, 1) := by decide +kernel
theorem dJ5_appendNull_278bc_15 : decode cJ5_appendNull_278bc 15 = .ok (.aload_n 0, 1) := by decide +kernel
theorem dJ5_appendNull_278bc_16 : decode cJ5_appendNull_278bc 16 = .ok (.getfield 15, 3) := by decide +kernel
theorem dJ5_appendNull_278bc_19 : decode cJ5_appendNull_278bc 19 = .ok (.astore_n 2, 1) := by decide +kernel
theorem dJ5_appendNull_278bc_20 : decode cJ5_appendNull_278bc 20 = .ok (.aload_n 0, 1) := by decide +kernel
theorem dJ5_appendNull_278bc_21 : decode cJ5_appendNull_278bc 21 = .ok (.invokevirtual 83, 3) := by decide +kernel
theorem dJ5_appendNull_278bc_24 : decode cJ5_appendNull_278bc 24 = .ok (.ifCond .eq 38, 3) := by decide +kernel
theorem dJ5_appendNull_278bc_27 : decode cJ5_appendNull_278bc 27 = .ok (.aload_n 2, 1) := by decide +kernel
theorem dJ5_appendNull_278bc_28 : decode cJ5_appendNull_278bc 28 = .ok (.iload_n 1, 1) := by decide +kernel
theorem dJ5_appendNull_278bc_29 : decode cJ5_appendNull_278bc 29 = .ok (.iinc 1 1, 3) := by decide +kernel
theorem dJ5_appendNull_278bc_32 : decode cJ5_appendNull_278bc 32 = .ok (.bipush 110, 2) := by decide +kernel
theorem dJ5_appendNull_278bc_34 : decode cJ5_appendNull_278bc 34 = .ok (.bastore, 1) := by decide +kernel
theorem dJ5_appendNull_278bc_35 : decode cJ5_appendNull_278bc 35 = .ok (.aload_n 2, 1) := by decide +kernel
theorem dJ5_appendNull_278bc_36 : decode cJ5_appendNull_278bc 36 = .ok (.iload_n 1, 1) := by decide +kernel
theorem dJ5_appendNull_278bc_37 : decode cJ5_appendNull_278bc 37 = .ok (.iinc 1 1, 3) := by decide +kernel
theorem dJ5_appendNull_278bc_40 : decode cJ5_appendNull_278bc 40 = .ok (.bipush 117, 2) := by decide +kernel
theorem dJ5_appendNull_278bc_42 : decode cJ5_appendNull_278bc 42 = .ok (.bastore, 1) := by decide +kernel
theorem dJ5_appendNull_278bc_43 : decode cJ5_appendNull_278bc 43 = .ok (.aload_n 2, 1) := by decide +kernel
theorem dJ5_appendNull_278bc_44 : decode cJ5_appendNull_278bc 44 = .ok (.iload_n 1, 1) := by decide +kernel
theorem dJ5_appendNull_278bc_45 : decode cJ5_appendNull_278bc 45 = .ok (.iinc 1 1, 3) := by decide +kernel
theorem dJ5_appendNull_278bc_48 : decode cJ5_appendNull_278bc 48 = .ok (.bipush 108, 2) := by decide +kernel
theorem dJ5_appendNull_278bc_50 : decode cJ5_appendNull_278bc 50 = .ok (.bastore, 1) := by decide +kernel
theorem dJ5_appendNull_278bc_51 : decode cJ5_appendNull_278bc 51 = .ok (.aload_n 2, 1) := by decide +kernel
theorem dJ5_appendNull_278bc_52 : decode cJ5_appendNull_278bc 52 = .ok (.iload_n 1, 1) := by decide +kernel
theorem dJ5_appendNull_278bc_53 : decode cJ5_appendNull_278bc 53 = .ok (.iinc 1 1, 3) := by decide +kernel
theorem dJ5_appendNull_278bc_56 : decode cJ5_appendNull_278bc 56 = .ok (.bipush 108, 2) := by decide +kernel
theorem dJ5_appendNull_278bc_58 : decode cJ5_appendNull_278bc 58 = .ok (.bastore, 1) := by decide +kernel
theorem dJ5_appendNull_278bc_59 : decode cJ5_appendNull_278bc 59 = .ok (.goto 17, 3) := by decide +kernel
theorem dJ5_appendNull_278bc_62 : decode cJ5_appendNull_278bc 62 = .ok (.aload_n 2, 1) := by decide +kernel
theorem dJ5_appendNull_278bc_63 : decode cJ5_appendNull_278bc 63 = .ok (.iload_n 1, 1) := by decide +kernel
theorem dJ5_appendNull_278bc_64 : decode cJ5_appendNull_278bc 64 = .ok (.bipush 110, 2) := by decide +kernel
theorem dJ5_appendNull_278bc_66 : decode cJ5_appendNull_278bc 66 = .ok (.bipush 117, 2) := by decide +kernel
theorem dJ5_appendNull_278bc_68 : decode cJ5_appendNull_278bc 68 = .ok (.bipush 108, 2) := by decide +kernel
theorem dJ5_appendNull_278bc_70 : decode cJ5_appendNull_278bc 70 = .ok (.bipush 108, 2) := by decide +kernel
theorem dJ5_appendNull_278bc_72 : decode cJ5_appendNull_278bc 72 = .ok (.invokestatic 226, 3) := by decide +kernel
theorem dJ5_appendNull_278bc_75 : decode cJ5_appendNull_278bc 75 = .ok (.istore_n 1, 1) := by decide +kernel
theorem dJ5_appendNull_278bc_76 : decode cJ5_appendNull_278bc 76 = .ok (.aload_n 0, 1) := by decide +kernel
theorem dJ5_appendNull_278bc_77 : decode cJ5_appendNull_278bc 77 = .ok (.iload_n 1, 1) := by decide +kernel
theorem dJ5_appendNull_278bc_78 : decode cJ5_appendNull_278bc 78 = .ok (.putfield 79, 3) := by decide +kernel
theorem dJ5_appendNull_278bc_81 : decode cJ5_appendNull_278bc 81 = .ok (.aload_n 0, 1) := by decide +kernel
theorem dJ5_appendNull_278bc_82 : decode cJ5_appendNull_278bc 82 = .ok (.areturn, 1) := by decide +kernel
theorem dJ5_append_3fe6f_0 : decode cJ5_append_3fe6f 0 = .ok (.aload_n 0, 1) := by decide +kernel
theorem dJ5_append_3fe6f_1 : decode cJ5_append_3fe6f 1 = .ok (.aload_n 0, 1) := by decide +kernel
theorem dJ5_append_3fe6f_2 : decode cJ5_append_3fe6f 2 = .ok (.getfield 79, 3) := by decide +kernel
theorem dJ5_append_3fe6f_5 : decode cJ5_append_3fe6f 5 = .ok (.iconst 1, 1) := by decide +kernel
theorem dJ5_append_3fe6f_6 : decode cJ5_append_3fe6f 6 = .ok (.iadd, 1) := by decide +kernel
theorem dJ5_append_3fe6f_7 : decode cJ5_append_3fe6f 7 = .ok (.invokevirtual 100, 3) := by decide +kernel
theorem dJ5_append_3fe6f_10 : decode cJ5_append_3fe6f 10 = .ok (.aload_n 0, 1) := by decide +kernel
theorem dJ5_append_3fe6f_11 : decode cJ5_append_3fe6f 11 = .ok (.invokevirtual 83, 3) := by decide +kernel
theorem dJ5_append_3fe6f_14 : decode cJ5_append_3fe6f 14 = .ok (.ifCond .eq 31, 3) := by decide +kernel
theorem dJ5_append_3fe6f_17 : decode cJ5_append_3fe6f 17 = .ok (.iload_n 1, 1) := by decide +kernel
theorem dJ5_append_3fe6f_18 : decode cJ5_append_3fe6f 18 = .ok (.invokestatic 191, 3) := by decide +kernel
theorem dJ5_append_3fe6f_21 : decode cJ5_append_3fe6f 21 = .ok (.ifCond .eq 24, 3) := by decide +kernel
theorem dJ5_append_3fe6f_24 : decode cJ5_append_3fe6f 24 = .ok (.aload_n 0, 1) := by decide +kernel
theorem dJ5_append_3fe6f_25 : decode cJ5_append_3fe6f 25 = .ok (.getfield 15, 3) := by decide +kernel
theorem dJ5_append_3fe6f_28 : decode cJ5_append_3fe6f 28 = .ok (.aload_n 0, 1) := by decide +kernel
theorem dJ5_append_3fe6f_29 : decode cJ5_append_3fe6f 29 = .ok (.dup, 1) := by decide +kernel
theorem dJ5_append_3fe6f_30 : decode cJ5_append_3fe6f 30 = .ok (.getfield 79, 3) := by decide +kernel
theorem dJ5_append_3fe6f_33 : decode cJ5_append_3fe6f 33 = .ok (.dup_x1, 1) := by decide +kernel
theorem dJ5_append_3fe6f_34 : decode cJ5_append_3fe6f 34 = .ok (.iconst 1, 1) := by decide +kernel
theorem dJ5_append_3fe6f_35 : decode cJ5_append_3fe6f 35 = .ok (.iadd, 1) := by decide +kernel
theorem dJ5_append_3fe6f_36 : decode cJ5_append_3fe6f 36 = .ok (.putfield 79, 3) := by decide +kernel
theorem dJ5_append_3fe6f_39 : decode cJ5_append_3fe6f 39 = .ok (.iload_n 1, 1) := by decide +kernel
theorem dJ5_append_3fe6f_40 : decode cJ5_append_3fe6f 40 = .ok (.i2b, 1) := by decide +kernel
theorem dJ5_append_3fe6f_41 : decode cJ5_append_3fe6f 41 = .ok (.bastore, 1) := by decide +kernel
theorem dJ5_append_3fe6f_42 : decode cJ5_append_3fe6f 42 = .ok (.goto 33, 3) := by decide +kernel
theorem dJ5_append_3fe6f_45 : decode cJ5_append_3fe6f 45 = .ok (.aload_n 0, 1) := by decide +kernel
theorem dJ5_append_3fe6f_46 : decode cJ5_append_3fe6f 46 = .ok (.invokevirtual 83, 3) := by decide +kernel
theorem dJ5_append_3fe6f_49 : decode cJ5_append_3fe6f 49 = .ok (.ifCond .eq 7, 3) := by decide +kernel
theorem dJ5_append_3fe6f_52 : decode cJ5_append_3fe6f 52 = .ok (.aload_n 0, 1) := by decide +kernel
theorem dJ5_append_3fe6f_53 : decode cJ5_append_3fe6f 53 = .ok (.invokevirtual 195, 3) := by decide +kernel
theorem dJ5_append_3fe6f_56 : decode cJ5_append_3fe6f 56 = .ok (.aload_n 0, 1) := by decide +kernel
theorem dJ5_append_3fe6f_57 : decode cJ5_append_3fe6f 57 = .ok (.getfield 15, 3) := by decide +kernel
theorem dJ5_append_3fe6f_60 : decode cJ5_append_3fe6f 60 = .ok (.aload_n 0, 1) := by decide +kernel
theorem dJ5_append_3fe6f_61 : decode cJ5_append_3fe6f 61 = .ok (.dup, 1) := by decide +kernel
theorem dJ5_append_3fe6f_62 : decode cJ5_append_3fe6f 62 = .ok (.getfield 79, 3) := by decide +kernel
theorem dJ5_append_3fe6f_65 : decode cJ5_append_3fe6f 65 = .ok (.dup_x1, 1) := by decide +kernel
theorem dJ5_append_3fe6f_66 : decode cJ5_append_3fe6f 66 = .ok (.iconst 1, 1) := by decide +kernel
theorem dJ5_append_3fe6f_67 : decode cJ5_append_3fe6f 67 = .ok (.iadd, 1) := by decide +kernel
theorem dJ5_append_3fe6f_68 : decode cJ5_append_3fe6f 68 = .ok (.putfield 79, 3) := by decide +kernel
theorem dJ5_append_3fe6f_71 : decode cJ5_append_3fe6f 71 = .ok (.iload_n 1, 1) := by decide +kernel
theorem dJ5_append_3fe6f_72 : decode cJ5_append_3fe6f 72 = .ok (.invokestatic 197, 3) := by decide +kernel
theorem dJ5_append_3fe6f_75 : decode cJ5_append_3fe6f 75 = .ok (.aload_n 0, 1) := by decide +kernel
theorem dJ5_append_3fe6f_76 : decode cJ5_append_3fe6f 76 = .ok (.areturn, 1) := by decide +kernel
theorem dJ5_append_c97b9_0 : decode cJ5_append_c97b9 0 = .ok (.aload_n 0, 1) := by decide +kernel
theorem dJ5_append_c97b9_1 : decode cJ5_append_c97b9 1 = .ok (.getfield 79, 3) := by decide +kernel
theorem dJ5_append_c97b9_4 : decode cJ5_append_c97b9 4 = .ok (.istore_n 2, 1) := by decide +kernel
theorem dJ5_append_c97b9_5 : decode cJ5_append_c97b9 5 = .ok (.iload_n 2, 1) := by decide +kernel
theorem dJ5_append_c97b9_6 : decode cJ5_append_c97b9 6 = .ok (.iload_n 1, 1) := by decide +kernel
theorem dJ5_append_c97b9_7 : decode cJ5_append_c97b9 7 = .ok (.invokestatic 245, 3) := by decide +kernel
theorem dJ5_append_c97b9_10 : decode cJ5_append_c97b9 10 = .ok (.iadd, 1) := by decide +kernel
theorem dJ5_append_c97b9_11 : decode cJ5_append_c97b9 11 = .ok (.istore_n 3, 1) := by decide +kernel
theorem dJ5_append_c97b9_12 : decode cJ5_append_c97b9 12 = .ok (.aload_n 0, 1) := by decide +kernel
theorem dJ5_append_c97b9_13 : decode cJ5_append_c97b9 13 = .ok (.iload_n 3, 1) := by decide +kernel
theorem dJ5_append_c97b9_14 : decode cJ5_append_c97b9 14 = .ok (.invokevirtual 100, 3) := by decide +kernel
theorem dJ5_append_c97b9_17 : decode cJ5_append_c97b9 17 = .ok (.aload_n 0, 1) := by decide +kernel
theorem dJ5_append_c97b9_18 : decode cJ5_append_c97b9 18 = .ok (.invokevirtual 83, 3) := by decide +kernel
theorem dJ5_append_c97b9_21 : decode cJ5_append_c97b9 21 = .ok (.ifCond .eq 16, 3) := by decide +kernel
theorem dJ5_append_c97b9_24 : decode cJ5_append_c97b9 24 = .ok (.iload_n 1, 1) := by decide +kernel
theorem dJ5_append_c97b9_25 : decode cJ5_append_c97b9 25 = .ok (.iload_n 3, 1) := by decide +kernel
theorem dJ5_append_c97b9_26 : decode cJ5_append_c97b9 26 = .ok (.aload_n 0, 1) := by decide +kernel
theorem dJ5_append_c97b9_27 : decode cJ5_append_c97b9 27 = .ok (.getfield 15, 3) := by decide +kernel
theorem dJ5_append_c97b9_30 : decode cJ5_append_c97b9 30 = .ok (.invokestatic 248, 3) := by decide +kernel
theorem dJ5_append_c97b9_33 : decode cJ5_append_c97b9 33 = .ok (.pop, 1) := by decide +kernel
theorem dJ5_append_c97b9_34 : decode cJ5_append_c97b9 34 = .ok (.goto 14, 3) := by decide +kernel
theorem dJ5_append_c97b9_37 : decode cJ5_append_c97b9 37 = .ok (.iload_n 1, 1) := by decide +kernel
theorem dJ5_append_c97b9_38 : decode cJ5_append_c97b9 38 = .ok (.iload_n 2, 1) := by decide +kernel
theorem dJ5_append_c97b9_39 : decode cJ5_append_c97b9 39 = .ok (.iload_n 3, 1) := by decide +kernel
theorem dJ5_append_c97b9_40 : decode cJ5_append_c97b9 40 = .ok (.aload_n 0, 1) := by decide +kernel
theorem dJ5_append_c97b9_41 : decode cJ5_append_c97b9 41 = .ok (.getfield 15, 3) := by decide +kernel
theorem dJ5_append_c97b9_44 : decode cJ5_append_c97b9 44 = .ok (.invokestatic 251, 3) := by decide +kernel
theorem dJ5_append_c97b9_47 : decode cJ5_append_c97b9 47 = .ok (.pop, 1) := by decide +kernel
theorem dJ5_append_c97b9_48 : decode cJ5_append_c97b9 48 = .ok (.aload_n 0, 1) := by decide +kernel
theorem dJ5_append_c97b9_49 : decode cJ5_append_c97b9 49 = .ok (.iload_n 3, 1) := by decide +kernel
theorem dJ5_append_c97b9_50 : decode cJ5_append_c97b9 50 = .ok (.putfield 79, 3) := by decide +kernel
theorem dJ5_append_c97b9_53 : decode cJ5_append_c97b9 53 = .ok (.aload_n 0, 1) := by decide +kernel
theorem dJ5_append_c97b9_54 : decode cJ5_append_c97b9 54 = .ok (.areturn, 1) := by decide +kernel
theorem dJ5_getValue_6d5f1_0 : decode cJ5_getValue_6d5f1 0 = .ok (.aload_n 0, 1) := by decide +kernel
theorem dJ5_getValue_6d5f1_1 : decode cJ5_getValue_6d5f1 1 = .ok (.getfield 15, 3) := by decide +kernel
theorem dJ5_getValue_6d5f1_4 : decode cJ5_getValue_6d5f1 4 = .ok (.areturn, 1) := by decide +kernel
theorem dJ5_isLatin1_aae02_0 : decode cJ5_isLatin1_aae02 0 = .ok (.getstatic 18, 3) := by decide +kernel
theorem dJ5_isLatin1_aae02_3 : decode cJ5_isLatin1_aae02 3 = .ok (.ifCond .eq 14, 3) := by decide +kernel
theorem dJ5_isLatin1_aae02_6 : decode cJ5_isLatin1_aae02 6 = .ok (.aload_n 0, 1) := by decide +kernel
theorem dJ5_isLatin1_aae02_7 : decode cJ5_isLatin1_aae02 7 = .ok (.getfield 22, 3) := by decide +kernel
theorem dJ5_isLatin1_aae02_10 : decode cJ5_isLatin1_aae02 10 = .ok (.ifCond .ne 7, 3) := by decide +kernel
theorem dJ5_isLatin1_aae02_13 : decode cJ5_isLatin1_aae02 13 = .ok (.iconst 1, 1) := by decide +kernel
theorem dJ5_isLatin1_aae02_14 : decode cJ5_isLatin1_aae02 14 = .ok (.goto 4, 3) := by decide +kernel
theorem dJ5_isLatin1_aae02_17 : decode cJ5_isLatin1_aae02 17 = .ok (.iconst 0, 1) := by decide +kernel
theorem dJ5_isLatin1_aae02_18 : decode cJ5_isLatin1_aae02 18 = .ok (.ireturn, 1) := by decide +kernel
theorem dJ5_inflateIfNeededFor_a7421_0 : decode cJ5_inflateIfNeededFor_a7421 0 = .ok (.getstatic 18, 3) := by decide +kernel
theorem dJ5_inflateIfNeededFor_a7421_3 : decode cJ5_inflateIfNeededFor_a7421 3 = .ok (.ifCond .eq 18, 3) := by decide +kernel
theorem dJ5_inflateIfNeededFor_a7421_6 : decode cJ5_inflateIfNeededFor_a7421 6 = .ok (.aload_n 0, 1) := by decide +kernel
theorem dJ5_inflateIfNeededFor_a7421_7 : decode cJ5_inflateIfNeededFor_a7421 7 = .ok (.getfield 22, 3) := by decide +kernel
theorem dJ5_inflateIfNeededFor_a7421_10 : decode cJ5_inflateIfNeededFor_a7421 10 = .ok (.aload_n 1, 1) := by decide +kernel
theorem dJ5_inflateIfNeededFor_a7421_11 : decode cJ5_inflateIfNeededFor_a7421 11 = .ok (.invokevirtual 40, 3) := by decide +kernel
theorem dJ5_inflateIfNeededFor_a7421_14 : decode cJ5_inflateIfNeededFor_a7421 14 = .ok (.if_icmp .eq 7, 3) := by decide +kernel
theorem dJ5_inflateIfNeededFor_a7421_17 : decode cJ5_inflateIfNeededFor_a7421 17 = .ok (.aload_n 0, 1) := by decide +kernel
theorem dJ5_inflateIfNeededFor_a7421_18 : decode cJ5_inflateIfNeededFor_a7421 18 = .ok (.invokevirtual 195, 3) := by decide +kernel
theorem dJ5_inflateIfNeededFor_a7421_21 : decode cJ5_inflateIfNeededFor_a7421 21 = .ok (.return_, 1) := by decide +kernel
theorem dJ5_putStringAt_47b60_0 : decode cJ5_putStringAt_47b60 0 = .ok (.aload_n 0, 1) := by decide +kernel
theorem dJ5_putStringAt_47b60_1 : decode cJ5_putStringAt_47b60 1 = .ok (.aload_n 2, 1) := by decide +kernel
theorem dJ5_putStringAt_47b60_2 : decode cJ5_putStringAt_47b60 2 = .ok (.invokevirtual 397, 3) := by decide +kernel
theorem dJ5_putStringAt_47b60_5 : decode cJ5_putStringAt_47b60 5 = .ok (.aload_n 2, 1) := by decide +kernel
theorem dJ5_putStringAt_47b60_6 : decode cJ5_putStringAt_47b60 6 = .ok (.aload_n 0, 1) := by decide +kernel
theorem dJ5_putStringAt_47b60_7 : decode cJ5_putStringAt_47b60 7 = .ok (.getfield 15, 3) := by decide +kernel
theorem dJ5_putStringAt_47b60_10 : decode cJ5_putStringAt_47b60 10 = .ok (.iload_n 1, 1) := by decide +kernel
theorem dJ5_putStringAt_47b60_11 : decode cJ5_putStringAt_47b60 11 = .ok (.aload_n 0, 1) := by decide +kernel
theorem dJ5_putStringAt_47b60_12 : decode cJ5_putStringAt_47b60 12 = .ok (.getfield 22, 3) := by decide +kernel
theorem dJ5_putStringAt_47b60_15 : decode cJ5_putStringAt_47b60 15 = .ok (.invokevirtual 399, 3) := by decide +kernel
theorem dJ5_putStringAt_47b60_18 : decode cJ5_putStringAt_47b60 18 = .ok (.return_, 1) := by decide +kernel
theorem dJx00060_init_d00df_0 : decode cJx00060_init_d00df 0 = .ok (.aload_n 0, 1) := by decide +kernel
theorem dJx00060_init_d00df_1 : decode cJx00060_init_d00df 1 = .ok (.new 10, 3) := by decide +kernel
theorem dJx00060_init_d00df_4 : decode cJx00060_init_d00df 4 = .ok (.dup, 1) := by decide +kernel
theorem dJx00060_init_d00df_5 : decode cJx00060_init_d00df 5 = .ok (.invokespecial 12, 3) := by decide +kernel
theorem dJx00060_init_d00df_8 : decode cJx00060_init_d00df 8 = .ok (.ldc 13, 2) := by decide +kernel
theorem dJx00060_init_d00df_10 : decode cJx00060_init_d00df 10 = .ok (.invokevirtual 15, 3) := by decide +kernel
theorem dJx00060_init_d00df_13 : decode cJx00060_init_d00df 13 = .ok (.iload_n 1, 1) := by decide +kernel
theorem dJx00060_init_d00df_14 : decode cJx00060_init_d00df 14 = .ok (.invokevirtual 19, 3) := by decide +kernel
theorem dJx00060_init_d00df_17 : decode cJx00060_init_d00df 17 = .ok (.invokevirtual 22, 3) := by decide +kernel
theorem dJx00060_init_d00df_20 : decode cJx00060_init_d00df 20 = .ok (.invokespecial 7, 3) := by decide +kernel
theorem dJx00060_init_d00df_23 : decode cJx00060_init_d00df 23 = .ok (.return_, 1) := by decide +kernel
theorem dJ6_getChars_ba4f3_0 : decode cJ6_getChars_ba4f3 0 = .ok (.iload_n 1, 1) := by decide +kernel
theorem dJ6_getChars_ba4f3_1 : decode cJ6_getChars_ba4f3 1 = .ok (.istore 5, 2) := by decide +kernel
theorem dJ6_getChars_ba4f3_3 : decode cJ6_getChars_ba4f3 3 = .ok (.iload_n 0, 1) := by decide +kernel
theorem dJ6_getChars_ba4f3_4 : decode cJ6_getChars_ba4f3 4 = .ok (.ifCond .ge 7, 3) := by decide +kernel
theorem dJ6_getChars_ba4f3_7 : decode cJ6_getChars_ba4f3 7 = .ok (.iconst 1, 1) := by decide +kernel
theorem dJ6_getChars_ba4f3_8 : decode cJ6_getChars_ba4f3 8 = .ok (.goto 4, 3) := by decide +kernel
theorem dJ6_getChars_ba4f3_11 : decode cJ6_getChars_ba4f3 11 = .ok (.iconst 0, 1) := by decide +kernel
theorem dJ6_getChars_ba4f3_12 : decode cJ6_getChars_ba4f3 12 = .ok (.istore 6, 2) := by decide +kernel
theorem dJ6_getChars_ba4f3_14 : decode cJ6_getChars_ba4f3 14 = .ok (.iload 6, 2) := by decide +kernel
theorem dJ6_getChars_ba4f3_16 : decode cJ6_getChars_ba4f3 16 = .ok (.ifCond .ne 6, 3) := by decide +kernel
theorem dJ6_getChars_ba4f3_19 : decode cJ6_getChars_ba4f3 19 = .ok (.iload_n 0, 1) := by decide +kernel
theorem dJ6_getChars_ba4f3_20 : decode cJ6_getChars_ba4f3 20 = .ok (.ineg, 1) := by decide +kernel
theorem dJ6_getChars_ba4f3_21 : decode cJ6_getChars_ba4f3 21 = .ok (.istore_n 0, 1) := by decide +kernel
theorem dJ6_getChars_ba4f3_22 : decode cJ6_getChars_ba4f3 22 = .ok (.iload_n 0, 1) := by decide +kernel
theorem dJ6_getChars_ba4f3_23 : decode cJ6_getChars_ba4f3 23 = .ok (.bipush (-100), 2) := by decide +kernel
theorem dJ6_getChars_ba4f3_25 : decode cJ6_getChars_ba4f3 25 = .ok (.if_icmp .gt 47, 3) := by decide +kernel
theorem dJ6_getChars_ba4f3_28 : decode cJ6_getChars_ba4f3 28 = .ok (.iload_n 0, 1) := by decide +kernel
theorem dJ6_getChars_ba4f3_29 : decode cJ6_getChars_ba4f3 29 = .ok (.bipush 100, 2) := by decide +kernel
theorem dJ6_getChars_ba4f3_31 : decode cJ6_getChars_ba4f3 31 = .ok (.idiv, 1) := by decide +kernel
theorem dJ6_getChars_ba4f3_32 : decode cJ6_getChars_ba4f3 32 = .ok (.istore_n 3, 1) := by decide +kernel
theorem dJ6_getChars_ba4f3_33 : decode cJ6_getChars_ba4f3 33 = .ok (.iload_n 3, 1) := by decide +kernel
theorem dJ6_getChars_ba4f3_34 : decode cJ6_getChars_ba4f3 34 = .ok (.bipush 100, 2) := by decide +kernel
theorem dJ6_getChars_ba4f3_36 : decode cJ6_getChars_ba4f3 36 = .ok (.imul, 1) := by decide +kernel
theorem dJ6_getChars_ba4f3_37 : decode cJ6_getChars_ba4f3 37 = .ok (.iload_n 0, 1) := by decide +kernel
theorem dJ6_getChars_ba4f3_38 : decode cJ6_getChars_ba4f3 38 = .ok (.isub, 1) := by decide +kernel
theorem dJ6_getChars_ba4f3_39 : decode cJ6_getChars_ba4f3 39 = .ok (.istore 4, 2) := by decide +kernel
theorem dJ6_getChars_ba4f3_41 : decode cJ6_getChars_ba4f3 41 = .ok (.iload_n 3, 1) := by decide +kernel
theorem dJ6_getChars_ba4f3_42 : decode cJ6_getChars_ba4f3 42 = .ok (.istore_n 0, 1) := by decide +kernel
theorem dJ6_getChars_ba4f3_43 : decode cJ6_getChars_ba4f3 43 = .ok (.aload_n 2, 1) := by decide +kernel
theorem dJ6_getChars_ba4f3_44 : decode cJ6_getChars_ba4f3 44 = .ok (.iinc 5 (-1), 3) := by decide +kernel
theorem dJ6_getChars_ba4f3_47 : decode cJ6_getChars_ba4f3 47 = .ok (.iload 5, 2) := by decide +kernel
theorem dJ6_getChars_ba4f3_49 : decode cJ6_getChars_ba4f3 49 = .ok (.getstatic 83, 3) := by decide +kernel
theorem dJ6_getChars_ba4f3_52 : decode cJ6_getChars_ba4f3 52 = .ok (.iload 4, 2) := by decide +kernel
theorem dJ6_getChars_ba4f3_54 : decode cJ6_getChars_ba4f3 54 = .ok (.baload, 1) := by decide +kernel
theorem dJ6_getChars_ba4f3_55 : decode cJ6_getChars_ba4f3 55 = .ok (.bastore, 1) := by decide +kernel
theorem dJ6_getChars_ba4f3_56 : decode cJ6_getChars_ba4f3 56 = .ok (.aload_n 2, 1) := by decide +kernel
theorem dJ6_getChars_ba4f3_57 : decode cJ6_getChars_ba4f3 57 = .ok (.iinc 5 (-1), 3) := by decide +kernel
theorem dJ6_getChars_ba4f3_60 : decode cJ6_getChars_ba4f3 60 = .ok (.iload 5, 2) := by decide +kernel
theorem dJ6_getChars_ba4f3_62 : decode cJ6_getChars_ba4f3 62 = .ok (.getstatic 87, 3) := by decide +kernel
theorem dJ6_getChars_ba4f3_65 : decode cJ6_getChars_ba4f3 65 = .ok (.iload 4, 2) := by decide +kernel
theorem dJ6_getChars_ba4f3_67 : decode cJ6_getChars_ba4f3 67 = .ok (.baload, 1) := by decide +kernel
theorem dJ6_getChars_ba4f3_68 : decode cJ6_getChars_ba4f3 68 = .ok (.bastore, 1) := by decide +kernel
theorem dJ6_getChars_ba4f3_69 : decode cJ6_getChars_ba4f3 69 = .ok (.goto (-47), 3) := by decide +kernel
theorem dJ6_getChars_ba4f3_72 : decode cJ6_getChars_ba4f3 72 = .ok (.aload_n 2, 1) := by decide +kernel
theorem dJ6_getChars_ba4f3_73 : decode cJ6_getChars_ba4f3 73 = .ok (.iinc 5 (-1), 3) := by decide +kernel
theorem dJ6_getChars_ba4f3_76 : decode cJ6_getChars_ba4f3 76 = .ok (.iload 5, 2) := by decide +kernel
theorem dJ6_getChars_ba4f3_78 : decode cJ6_getChars_ba4f3 78 = .ok (.getstatic 83, 3) := by decide +kernel
theorem dJ6_getChars_ba4f3_81 : decode cJ6_getChars_ba4f3 81 = .ok (.iload_n 0, 1) := by decide +kernel
theorem dJ6_getChars_ba4f3_82 : decode cJ6_getChars_ba4f3 82 = .ok (.ineg, 1) := by decide +kernel
theorem dJ6_getChars_ba4f3_83 : decode cJ6_getChars_ba4f3 83 = .ok (.baload, 1) := by decide +kernel
theorem dJ6_getChars_ba4f3_84 : decode cJ6_getChars_ba4f3 84 = .ok (.bastore, 1) := by decide +kernel
theorem dJ6_getChars_ba4f3_85 : decode cJ6_getChars_ba4f3 85 = .ok (.iload_n 0, 1) := by decide +kernel
theorem dJ6_getChars_ba4f3_86 : decode cJ6_getChars_ba4f3 86 = .ok (.bipush (-9), 2) := by decide +kernel
theorem dJ6_getChars_ba4f3_88 : decode cJ6_getChars_ba4f3 88 = .ok (.if_icmp .ge 16, 3) := by decide +kernel
theorem dJ6_getChars_ba4f3_91 : decode cJ6_getChars_ba4f3 91 = .ok (.aload_n 2, 1) := by decide +kernel
theorem dJ6_getChars_ba4f3_92 : decode cJ6_getChars_ba4f3 92 = .ok (.iinc 5 (-1), 3) := by decide +kernel
theorem dJ6_getChars_ba4f3_95 : decode cJ6_getChars_ba4f3 95 = .ok (.iload 5, 2) := by decide +kernel
theorem dJ6_getChars_ba4f3_97 : decode cJ6_getChars_ba4f3 97 = .ok (.getstatic 87, 3) := by decide +kernel
theorem dJ6_getChars_ba4f3_100 : decode cJ6_getChars_ba4f3 100 = .ok (.iload_n 0, 1) := by decide +kernel
theorem dJ6_getChars_ba4f3_101 : decode cJ6_getChars_ba4f3 101 = .ok (.ineg, 1) := by decide +kernel
theorem dJ6_getChars_ba4f3_102 : decode cJ6_getChars_ba4f3 102 = .ok (.baload, 1) := by decide +kernel
theorem dJ6_getChars_ba4f3_103 : decode cJ6_getChars_ba4f3 103 = .ok (.bastore, 1) := by decide +kernel
theorem dJ6_getChars_ba4f3_104 : decode cJ6_getChars_ba4f3 104 = .ok (.iload 6, 2) := by decide +kernel
theorem dJ6_getChars_ba4f3_106 : decode cJ6_getChars_ba4f3 106 = .ok (.ifCond .eq 12, 3) := by decide +kernel
theorem dJ6_getChars_ba4f3_109 : decode cJ6_getChars_ba4f3 109 = .ok (.aload_n 2, 1) := by decide +kernel
theorem dJ6_getChars_ba4f3_110 : decode cJ6_getChars_ba4f3 110 = .ok (.iinc 5 (-1), 3) := by decide +kernel
theorem dJ6_getChars_ba4f3_113 : decode cJ6_getChars_ba4f3 113 = .ok (.iload 5, 2) := by decide +kernel
theorem dJ6_getChars_ba4f3_115 : decode cJ6_getChars_ba4f3 115 = .ok (.bipush 45, 2) := by decide +kernel
theorem dJ6_getChars_ba4f3_117 : decode cJ6_getChars_ba4f3 117 = .ok (.bastore, 1) := by decide +kernel
theorem dJ6_getChars_ba4f3_118 : decode cJ6_getChars_ba4f3 118 = .ok (.iload 5, 2) := by decide +kernel
theorem dJ6_getChars_ba4f3_120 : decode cJ6_getChars_ba4f3 120 = .ok (.ireturn, 1) := by decide +kernel
theorem dJ6_stringSize_0f7a4_0 : decode cJ6_stringSize_0f7a4 0 = .ok (.iconst 1, 1) := by decide +kernel
theorem dJ6_stringSize_0f7a4_1 : decode cJ6_stringSize_0f7a4 1 = .ok (.istore_n 1, 1) := by decide +kernel
theorem dJ6_stringSize_0f7a4_2 : decode cJ6_stringSize_0f7a4 2 = .ok (.iload_n 0, 1) := by decide +kernel
theorem dJ6_stringSize_0f7a4_3 : decode cJ6_stringSize_0f7a4 3 = .ok (.ifCond .lt 8, 3) := by decide +kernel
theorem dJ6_stringSize_0f7a4_6 : decode cJ6_stringSize_0f7a4 6 = .ok (.iconst 0, 1) := by decide +kernel
theorem dJ6_stringSize_0f7a4_7 : decode cJ6_stringSize_0f7a4 7 = .ok (.istore_n 1, 1) := by decide +kernel
theorem dJ6_stringSize_0f7a4_8 : decode cJ6_stringSize_0f7a4 8 = .ok (.iload_n 0, 1) := by decide +kernel
theorem dJ6_stringSize_0f7a4_9 : decode cJ6_stringSize_0f7a4 9 = .ok (.ineg, 1) := by decide +kernel
theorem dJ6_stringSize_0f7a4_10 : decode cJ6_stringSize_0f7a4 10 = .ok (.istore_n 0, 1) := by decide +kernel
theorem dJ6_stringSize_0f7a4_11 : decode cJ6_stringSize_0f7a4 11 = .ok (.bipush (-10), 2) := by decide +kernel
theorem dJ6_stringSize_0f7a4_13 : decode cJ6_stringSize_0f7a4 13 = .ok (.istore_n 2, 1) := by decide +kernel
theorem dJ6_stringSize_0f7a4_14 : decode cJ6_stringSize_0f7a4 14 = .ok (.iconst 1, 1) := by decide +kernel
theorem dJ6_stringSize_0f7a4_15 : decode cJ6_stringSize_0f7a4 15 = .ok (.istore_n 3, 1) := by decide +kernel
theorem dJ6_stringSize_0f7a4_16 : decode cJ6_stringSize_0f7a4 16 = .ok (.iload_n 3, 1) := by decide +kernel
theorem dJ6_stringSize_0f7a4_17 : decode cJ6_stringSize_0f7a4 17 = .ok (.bipush 10, 2) := by decide +kernel
theorem dJ6_stringSize_0f7a4_19 : decode cJ6_stringSize_0f7a4 19 = .ok (.if_icmp .ge 23, 3) := by decide +kernel
theorem dJ6_stringSize_0f7a4_22 : decode cJ6_stringSize_0f7a4 22 = .ok (.iload_n 0, 1) := by decide +kernel
theorem dJ6_stringSize_0f7a4_23 : decode cJ6_stringSize_0f7a4 23 = .ok (.iload_n 2, 1) := by decide +kernel
theorem dJ6_stringSize_0f7a4_24 : decode cJ6_stringSize_0f7a4 24 = .ok (.if_icmp .le 7, 3) := by decide +kernel
theorem dJ6_stringSize_0f7a4_27 : decode cJ6_stringSize_0f7a4 27 = .ok (.iload_n 3, 1) := by decide +kernel
theorem dJ6_stringSize_0f7a4_28 : decode cJ6_stringSize_0f7a4 28 = .ok (.iload_n 1, 1) := by decide +kernel
theorem dJ6_stringSize_0f7a4_29 : decode cJ6_stringSize_0f7a4 29 = .ok (.iadd, 1) := by decide +kernel
theorem dJ6_stringSize_0f7a4_30 : decode cJ6_stringSize_0f7a4 30 = .ok (.ireturn, 1) := by decide +kernel
theorem dJ6_stringSize_0f7a4_31 : decode cJ6_stringSize_0f7a4 31 = .ok (.bipush 10, 2) := by decide +kernel
theorem dJ6_stringSize_0f7a4_33 : decode cJ6_stringSize_0f7a4 33 = .ok (.iload_n 2, 1) := by decide +kernel
theorem dJ6_stringSize_0f7a4_34 : decode cJ6_stringSize_0f7a4 34 = .ok (.imul, 1) := by decide +kernel
theorem dJ6_stringSize_0f7a4_35 : decode cJ6_stringSize_0f7a4 35 = .ok (.istore_n 2, 1) := by decide +kernel
theorem dJ6_stringSize_0f7a4_36 : decode cJ6_stringSize_0f7a4 36 = .ok (.iinc 3 1, 3) := by decide +kernel
theorem dJ6_stringSize_0f7a4_39 : decode cJ6_stringSize_0f7a4 39 = .ok (.goto (-23), 3) := by decide +kernel
theorem dJ6_stringSize_0f7a4_42 : decode cJ6_stringSize_0f7a4 42 = .ok (.bipush 10, 2) := by decide +kernel
theorem dJ6_stringSize_0f7a4_44 : decode cJ6_stringSize_0f7a4 44 = .ok (.iload_n 1, 1) := by decide +kernel
theorem dJ6_stringSize_0f7a4_45 : decode cJ6_stringSize_0f7a4 45 = .ok (.iadd, 1) := by decide +kernel
theorem dJ6_stringSize_0f7a4_46 : decode cJ6_stringSize_0f7a4 46 = .ok (.ireturn, 1) := by decide +kernel
theorem dJ6_bitCount_0f7a4_0 : decode cJ6_bitCount_0f7a4 0 = .ok (.iload_n 0, 1) := by decide +kernel
theorem dJ6_bitCount_0f7a4_1 : decode cJ6_bitCount_0f7a4 1 = .ok (.iload_n 0, 1) := by decide +kernel
theorem dJ6_bitCount_0f7a4_2 : decode cJ6_bitCount_0f7a4 2 = .ok (.iconst 1, 1) := by decide +kernel
theorem dJ6_bitCount_0f7a4_3 : decode cJ6_bitCount_0f7a4 3 = .ok (.iushr, 1) := by decide +kernel
theorem dJ6_bitCount_0f7a4_4 : decode cJ6_bitCount_0f7a4 4 = .ok (.ldc_w 265, 3) := by decide +kernel
theorem dJ6_bitCount_0f7a4_7 : decode cJ6_bitCount_0f7a4 7 = .ok (.iand, 1) := by decide +kernel
theorem dJ6_bitCount_0f7a4_8 : decode cJ6_bitCount_0f7a4 8 = .ok (.isub, 1) := by decide +kernel
theorem dJ6_bitCount_0f7a4_9 : decode cJ6_bitCount_0f7a4 9 = .ok (.istore_n 0, 1) := by decide +kernel
theorem dJ6_bitCount_0f7a4_10 : decode cJ6_bitCount_0f7a4 10 = .ok (.iload_n 0, 1) := by decide +kernel
theorem dJ6_bitCount_0f7a4_11 : decode cJ6_bitCount_0f7a4 11 = .ok (.ldc_w 266, 3) := by decide +kernel
theorem dJ6_bitCount_0f7a4_14 : decode cJ6_bitCount_0f7a4 14 = .ok (.iand, 1) := by decide +kernel
theorem dJ6_bitCount_0f7a4_15 : decode cJ6_bitCount_0f7a4 15 = .ok (.iload_n 0, 1) := by decide +kernel
theorem dJ6_bitCount_0f7a4_16 : decode cJ6_bitCount_0f7a4 16 = .ok (.iconst 2, 1) := by decide +kernel
theorem dJ6_bitCount_0f7a4_17 : decode cJ6_bitCount_0f7a4 17 = .ok (.iushr, 1) := by decide +kernel
theorem dJ6_bitCount_0f7a4_18 : decode cJ6_bitCount_0f7a4 18 = .ok (.ldc_w 266, 3) := by decide +kernel
theorem dJ6_bitCount_0f7a4_21 : decode cJ6_bitCount_0f7a4 21 = .ok (.iand, 1) := by decide +kernel
theorem dJ6_bitCount_0f7a4_22 : decode cJ6_bitCount_0f7a4 22 = .ok (.iadd, 1) := by decide +kernel
theorem dJ6_bitCount_0f7a4_23 : decode cJ6_bitCount_0f7a4 23 = .ok (.istore_n 0, 1) := by decide +kernel
theorem dJ6_bitCount_0f7a4_24 : decode cJ6_bitCount_0f7a4 24 = .ok (.iload_n 0, 1) := by decide +kernel
theorem dJ6_bitCount_0f7a4_25 : decode cJ6_bitCount_0f7a4 25 = .ok (.iload_n 0, 1) := by decide +kernel
theorem dJ6_bitCount_0f7a4_26 : decode cJ6_bitCount_0f7a4 26 = .ok (.iconst 4, 1) := by decide +kernel
theorem dJ6_bitCount_0f7a4_27 : decode cJ6_bitCount_0f7a4 27 = .ok (.iushr, 1) := by decide +kernel
theorem dJ6_bitCount_0f7a4_28 : decode cJ6_bitCount_0f7a4 28 = .ok (.iadd, 1) := by decide +kernel
theorem dJ6_bitCount_0f7a4_29 : decode cJ6_bitCount_0f7a4 29 = .ok (.ldc_w 267, 3) := by decide +kernel
theorem dJ6_bitCount_0f7a4_32 : decode cJ6_bitCount_0f7a4 32 = .ok (.iand, 1) := by decide +kernel
theorem dJ6_bitCount_0f7a4_33 : decode cJ6_bitCount_0f7a4 33 = .ok (.istore_n 0, 1) := by decide +kernel
theorem dJ6_bitCount_0f7a4_34 : decode cJ6_bitCount_0f7a4 34 = .ok (.iload_n 0, 1) := by decide +kernel
theorem dJ6_bitCount_0f7a4_35 : decode cJ6_bitCount_0f7a4 35 = .ok (.iload_n 0, 1) := by decide +kernel
theorem dJ6_bitCount_0f7a4_36 : decode cJ6_bitCount_0f7a4 36 = .ok (.bipush 8, 2) := by decide +kernel
theorem dJ6_bitCount_0f7a4_38 : decode cJ6_bitCount_0f7a4 38 = .ok (.iushr, 1) := by decide +kernel
theorem dJ6_bitCount_0f7a4_39 : decode cJ6_bitCount_0f7a4 39 = .ok (.iadd, 1) := by decide +kernel
theorem dJ6_bitCount_0f7a4_40 : decode cJ6_bitCount_0f7a4 40 = .ok (.istore_n 0, 1) := by decide +kernel
theorem dJ6_bitCount_0f7a4_41 : decode cJ6_bitCount_0f7a4 41 = .ok (.iload_n 0, 1) := by decide +kernel
theorem dJ6_bitCount_0f7a4_42 : decode cJ6_bitCount_0f7a4 42 = .ok (.iload_n 0, 1) := by decide +kernel
theorem dJ6_bitCount_0f7a4_43 : decode cJ6_bitCount_0f7a4 43 = .ok (.bipush 16, 2) := by decide +kernel
theorem dJ6_bitCount_0f7a4_45 : decode cJ6_bitCount_0f7a4 45 = .ok (.iushr, 1) := by decide +kernel
theorem dJ6_bitCount_0f7a4_46 : decode cJ6_bitCount_0f7a4 46 = .ok (.iadd, 1) := by decide +kernel
theorem dJ6_bitCount_0f7a4_47 : decode cJ6_bitCount_0f7a4 47 = .ok (.istore_n 0, 1) := by decide +kernel
theorem dJ6_bitCount_0f7a4_48 : decode cJ6_bitCount_0f7a4 48 = .ok (.iload_n 0, 1) := by decide +kernel
theorem dJ6_bitCount_0f7a4_49 : decode cJ6_bitCount_0f7a4 49 = .ok (.bipush 63, 2) := by decide +kernel
theorem dJ6_bitCount_0f7a4_51 : decode cJ6_bitCount_0f7a4 51 = .ok (.iand, 1) := by decide +kernel
theorem dJ6_bitCount_0f7a4_52 : decode cJ6_bitCount_0f7a4 52 = .ok (.ireturn, 1) := by decide +kernel
theorem dJ9_max_7cf53_0 : decode cJ9_max_7cf53 0 = .ok (.iload_n 0, 1) := by decide +kernel
theorem dJ9_max_7cf53_1 : decode cJ9_max_7cf53 1 = .ok (.iload_n 1, 1) := by decide +kernel
theorem dJ9_max_7cf53_2 : decode cJ9_max_7cf53 2 = .ok (.if_icmp .lt 7, 3) := by decide +kernel
theorem dJ9_max_7cf53_5 : decode cJ9_max_7cf53 5 = .ok (.iload_n 0, 1) := by decide +kernel
theorem dJ9_max_7cf53_6 : decode cJ9_max_7cf53 6 = .ok (.goto 4, 3) := by decide +kernel
theorem dJ9_max_7cf53_9 : decode cJ9_max_7cf53 9 = .ok (.iload_n 1, 1) := by decide +kernel
theorem dJ9_max_7cf53_10 : decode cJ9_max_7cf53 10 = .ok (.ireturn, 1) := by decide +kernel
theorem dJ9_min_7cf53_0 : decode cJ9_min_7cf53 0 = .ok (.iload_n 0, 1) := by decide +kernel
theorem dJ9_min_7cf53_1 : decode cJ9_min_7cf53 1 = .ok (.iload_n 1, 1) := by decide +kernel
theorem dJ9_min_7cf53_2 : decode cJ9_min_7cf53 2 = .ok (.if_icmp .gt 7, 3) := by decide +kernel
theorem dJ9_min_7cf53_5 : decode cJ9_min_7cf53 5 = .ok (.iload_n 0, 1) := by decide +kernel
theorem dJ9_min_7cf53_6 : decode cJ9_min_7cf53 6 = .ok (.goto 4, 3) := by decide +kernel
theorem dJ9_min_7cf53_9 : decode cJ9_min_7cf53 9 = .ok (.iload_n 1, 1) := by decide +kernel
theorem dJ9_min_7cf53_10 : decode cJ9_min_7cf53 10 = .ok (.ireturn, 1) := by decide +kernel
theorem dJ0_init_81219_0 : decode cJ0_init_81219 0 = .ok (.aload_n 0, 1) := by decide +kernel
theorem dJ0_init_81219_1 : decode cJ0_init_81219 1 = .ok (.aload_n 1, 1) := by decide +kernel
theorem dJ0_init_81219_2 : decode cJ0_init_81219 2 = .ok (.aconst_null, 1) := by decide +kernel
theorem dJ0_init_81219_3 : decode cJ0_init_81219 3 = .ok (.invokespecial 489, 3) := by decide +kernel
theorem dJ0_init_81219_6 : decode cJ0_init_81219 6 = .ok (.return_, 1) := by decide +kernel
theorem dJ0_length_8abf5_0 : decode cJ0_length_8abf5 0 = .ok (.aload_n 0, 1) := by decide +kernel
theorem dJ0_length_8abf5_1 : decode cJ0_length_8abf5 1 = .ok (.getfield 9, 3) := by decide +kernel
theorem dJ0_length_8abf5_4 : decode cJ0_length_8abf5 4 = .ok (.arraylength, 1) := by decide +kernel
theorem dJ0_length_8abf5_5 : decode cJ0_length_8abf5 5 = .ok (.aload_n 0, 1) := by decide +kernel
theorem dJ0_length_8abf5_6 : decode cJ0_length_8abf5 6 = .ok (.invokevirtual 335, 3) := by decide +kernel
theorem dJ0_length_8abf5_9 : decode cJ0_length_8abf5 9 = .ok (.ishr, 1) := by decide +kernel
theorem dJ0_length_8abf5_10 : decode cJ0_length_8abf5 10 = .ok (.ireturn, 1) := by decide +kernel
theorem dJ0_charAt_5068e_0 : decode cJ0_charAt_5068e 0 = .ok (.aload_n 0, 1) := by decide +kernel
theorem dJ0_charAt_5068e_1 : decode cJ0_charAt_5068e 1 = .ok (.invokevirtual 492, 3) := by decide +kernel
theorem dJ0_charAt_5068e_4 : decode cJ0_charAt_5068e 4 = .ok (.ifCond .eq 12, 3) := by decide +kernel
theorem dJ0_charAt_5068e_7 : decode cJ0_charAt_5068e 7 = .ok (.aload_n 0, 1) := by decide +kernel
theorem dJ0_charAt_5068e_8 : decode cJ0_charAt_5068e 8 = .ok (.getfield 9, 3) := by decide +kernel
theorem dJ0_charAt_5068e_11 : decode cJ0_charAt_5068e 11 = .ok (.iload_n 1, 1) := by decide +kernel
theorem dJ0_charAt_5068e_12 : decode cJ0_charAt_5068e 12 = .ok (.invokestatic 495, 3) := by decide +kernel
theorem dJ0_charAt_5068e_15 : decode cJ0_charAt_5068e 15 = .ok (.ireturn, 1) := by decide +kernel
theorem dJ0_charAt_5068e_16 : decode cJ0_charAt_5068e 16 = .ok (.aload_n 0, 1) := by decide +kernel
theorem dJ0_charAt_5068e_17 : decode cJ0_charAt_5068e 17 = .ok (.getfield 9, 3) := by decide +kernel
theorem dJ0_charAt_5068e_20 : decode cJ0_charAt_5068e 20 = .ok (.iload_n 1, 1) := by decide +kernel
theorem dJ0_charAt_5068e_21 : decode cJ0_charAt_5068e 21 = .ok (.invokestatic 498, 3) := by decide +kernel
theorem dJ0_charAt_5068e_24 : decode cJ0_charAt_5068e 24 = .ok (.ireturn, 1) := by decide +kernel
theorem dJ0_getBytes_840e7_0 : decode cJ0_getBytes_840e7 0 = .ok (.aload_n 0, 1) := by decide +kernel
theorem dJ0_getBytes_840e7_1 : decode cJ0_getBytes_840e7 1 = .ok (.invokevirtual 335, 3) := by decide +kernel
theorem dJ0_getBytes_840e7_4 : decode cJ0_getBytes_840e7 4 = .ok (.iload_n 3, 1) := by decide +kernel
theorem dJ0_getBytes_840e7_5 : decode cJ0_getBytes_840e7 5 = .ok (.if_icmp .ne 23, 3) := by decide +kernel
theorem dJ0_getBytes_840e7_8 : decode cJ0_getBytes_840e7 8 = .ok (.aload_n 0, 1) := by decide +kernel
theorem dJ0_getBytes_840e7_9 : decode cJ0_getBytes_840e7 9 = .ok (.getfield 9, 3) := by decide +kernel
theorem dJ0_getBytes_840e7_12 : decode cJ0_getBytes_840e7 12 = .ok (.iconst 0, 1) := by decide +kernel
theorem dJ0_getBytes_840e7_13 : decode cJ0_getBytes_840e7 13 = .ok (.aload_n 1, 1) := by decide +kernel
theorem dJ0_getBytes_840e7_14 : decode cJ0_getBytes_840e7 14 = .ok (.iload_n 2, 1) := by decide +kernel
theorem dJ0_getBytes_840e7_15 : decode cJ0_getBytes_840e7 15 = .ok (.iload_n 3, 1) := by decide +kernel
theorem dJ0_getBytes_840e7_16 : decode cJ0_getBytes_840e7 16 = .ok (.ishl, 1) := by decide +kernel
theorem dJ0_getBytes_840e7_17 : decode cJ0_getBytes_840e7 17 = .ok (.aload_n 0, 1) := by decide +kernel
theorem dJ0_getBytes_840e7_18 : decode cJ0_getBytes_840e7 18 = .ok (.getfield 9, 3) := by decide +kernel
theorem dJ0_getBytes_840e7_21 : decode cJ0_getBytes_840e7 21 = .ok (.arraylength, 1) := by decide +kernel
theorem dJ0_getBytes_840e7_22 : decode cJ0_getBytes_840e7 22 = .ok (.invokestatic 212, 3) := by decide +kernel
theorem dJ0_getBytes_840e7_25 : decode cJ0_getBytes_840e7 25 = .ok (.goto 18, 3) := by decide +kernel
theorem dJ0_getBytes_840e7_28 : decode cJ0_getBytes_840e7 28 = .ok (.aload_n 0, 1) := by decide +kernel
theorem dJ0_getBytes_840e7_29 : decode cJ0_getBytes_840e7 29 = .ok (.getfield 9, 3) := by decide +kernel
theorem dJ0_getBytes_840e7_32 : decode cJ0_getBytes_840e7 32 = .ok (.iconst 0, 1) := by decide +kernel
theorem dJ0_getBytes_840e7_33 : decode cJ0_getBytes_840e7 33 = .ok (.aload_n 1, 1) := by decide +kernel
theorem dJ0_getBytes_840e7_34 : decode cJ0_getBytes_840e7 34 = .ok (.iload_n 2, 1) := by decide +kernel
theorem dJ0_getBytes_840e7_35 : decode cJ0_getBytes_840e7 35 = .ok (.aload_n 0, 1) := by decide +kernel
theorem dJ0_getBytes_840e7_36 : decode cJ0_getBytes_840e7 36 = .ok (.getfield 9, 3) := by decide +kernel
theorem dJ0_getBytes_840e7_39 : decode cJ0_getBytes_840e7 39 = .ok (.arraylength, 1) := by decide +kernel
theorem dJ0_getBytes_840e7_40 : decode cJ0_getBytes_840e7 40 = .ok (.invokestatic 106, 3) := by decide +kernel
theorem dJ0_getBytes_840e7_43 : decode cJ0_getBytes_840e7 43 = .ok (.return_, 1) := by decide +kernel
theorem dJ0_init_db425_0 : decode cJ0_init_db425 0 = .ok (.aload_n 0, 1) := by decide +kernel
theorem dJ0_init_db425_1 : decode cJ0_init_db425 1 = .ok (.invokespecial 1, 3) := by decide +kernel
theorem dJ0_init_db425_4 : decode cJ0_init_db425 4 = .ok (.aload_n 1, 1) := by decide +kernel
theorem dJ0_init_db425_5 : decode cJ0_init_db425 5 = .ok (.invokevirtual 552, 3) := by decide +kernel
theorem dJ0_init_db425_8 : decode cJ0_init_db425 8 = .ok (.astore_n 3, 1) := by decide +kernel
theorem dJ0_init_db425_9 : decode cJ0_init_db425 9 = .ok (.aload_n 1, 1) := by decide +kernel
theorem dJ0_init_db425_10 : decode cJ0_init_db425 10 = .ok (.invokevirtual 549, 3) := by decide +kernel
theorem dJ0_init_db425_13 : decode cJ0_init_db425 13 = .ok (.istore 4, 2) := by decide +kernel
theorem dJ0_init_db425_15 : decode cJ0_init_db425 15 = .ok (.aload_n 1, 1) := by decide +kernel
theorem dJ0_init_db425_16 : decode cJ0_init_db425 16 = .ok (.invokevirtual 1047, 3) := by decide +kernel
theorem dJ0_init_db425_19 : decode cJ0_init_db425 19 = .ok (.ifCond .eq 22, 3) := by decide +kernel
theorem dJ0_init_db425_22 : decode cJ0_init_db425 22 = .ok (.aload_n 0, 1) := by decide +kernel
theorem dJ0_init_db425_23 : decode cJ0_init_db425 23 = .ok (.iconst 0, 1) := by decide +kernel
theorem dJ0_init_db425_24 : decode cJ0_init_db425 24 = .ok (.putfield 15, 3) := by decide +kernel
theorem dJ0_init_db425_27 : decode cJ0_init_db425 27 = .ok (.aload_n 0, 1) := by decide +kernel
theorem dJ0_init_db425_28 : decode cJ0_init_db425 28 = .ok (.aload_n 3, 1) := by decide +kernel
theorem dJ0_init_db425_29 : decode cJ0_init_db425 29 = .ok (.iconst 0, 1) := by decide +kernel
theorem dJ0_init_db425_30 : decode cJ0_init_db425 30 = .ok (.iload 4, 2) := by decide +kernel
theorem dJ0_init_db425_32 : decode cJ0_init_db425 32 = .ok (.invokestatic 54, 3) := by decide +kernel
theorem dJ0_init_db425_35 : decode cJ0_init_db425 35 = .ok (.putfield 9, 3) := by decide +kernel
theorem dJ0_init_db425_38 : decode cJ0_init_db425 38 = .ok (.goto 59, 3) := by decide +kernel
theorem dJ0_init_db425_41 : decode cJ0_init_db425 41 = .ok (.getstatic 38, 3) := by decide +kernel
theorem dJ0_init_db425_44 : decode cJ0_init_db425 44 = .ok (.ifCond .eq 35, 3) := by decide +kernel
theorem dJ0_init_db425_47 : decode cJ0_init_db425 47 = .ok (.aload_n 1, 1) := by decide +kernel
theorem dJ0_init_db425_48 : decode cJ0_init_db425 48 = .ok (.getfield 1048, 3) := by decide +kernel
theorem dJ0_init_db425_51 : decode cJ0_init_db425 51 = .ok (.ifCond .eq 28, 3) := by decide +kernel
theorem dJ0_init_db425_54 : decode cJ0_init_db425 54 = .ok (.aload_n 0, 1) := by decide +kernel
theorem dJ0_init_db425_55 : decode cJ0_init_db425 55 = .ok (.aload_n 3, 1) := by decide +kernel
theorem dJ0_init_db425_56 : decode cJ0_init_db425 56 = .ok (.iconst 0, 1) := by decide +kernel
theorem dJ0_init_db425_57 : decode cJ0_init_db425 57 = .ok (.iload 4, 2) := by decide +kernel
theorem dJ0_init_db425_59 : decode cJ0_init_db425 59 = .ok (.invokestatic 1051, 3) := by decide +kernel
theorem dJ0_init_db425_62 : decode cJ0_init_db425 62 = .ok (.putfield 9, 3) := by decide +kernel
theorem dJ0_init_db425_65 : decode cJ0_init_db425 65 = .ok (.aload_n 0, 1) := by decide +kernel
theorem dJ0_init_db425_66 : decode cJ0_init_db425 66 = .ok (.aload_n 0, 1) := by decide +kernel
theorem dJ0_init_db425_67 : decode cJ0_init_db425 67 = .ok (.getfield 9, 3) := by decide +kernel
theorem dJ0_init_db425_70 : decode cJ0_init_db425 70 = .ok (.iload 4, 2) := by decide +kernel
theorem dJ0_init_db425_72 : decode cJ0_init_db425 72 = .ok (.invokestatic 47, 3) := by decide +kernel
