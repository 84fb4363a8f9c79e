theorem dX0_init_0 : decode cX0_init 0 = .ok (.aload_n 0, 1) := by decide +kernel
theorem dX0_init_1 : decode cX0_init 1 = .ok (.invokespecial 1, 3) := by decide +kernel
theorem dX0_init_4 : decode cX0_init 4 = .ok (.return_, 1) := by decide +kernel
theorem dX1_init_0 : decode cX1_init 0 = .ok (.aload_n 0, 1) := by decide +kernel
theorem dX1_init_1 : decode cX1_init 1 = .ok (.invokespecial 3, 3) := by decide +kernel
theorem dX1_init_4 : decode cX1_init 4 = .ok (.aload_n 0, 1) := by decide +kernel
theorem dX1_init_5 : decode cX1_init 5 = .ok (.new 9, 3) := by decide +kernel
theorem dX1_init_8 : decode cX1_init 8 = .ok (.dup, 1) := by decide +kernel
theorem dX1_init_9 : decode cX1_init 9 = .ok (.invokespecial 11, 3) := by decide +kernel
theorem dX1_init_12 : decode cX1_init 12 = .ok (.putfield 12, 3) := by decide +kernel
theorem dX1_init_15 : decode cX1_init 15 = .ok (.aload_n 0, 1) := by decide +kernel
theorem dX1_init_16 : decode cX1_init 16 = .ok (.new 9, 3) := by decide +kernel
theorem dX1_init_19 : decode cX1_init 19 = .ok (.dup, 1) := by decide +kernel
theorem dX1_init_20 : decode cX1_init 20 = .ok (.invokespecial 11, 3) := by decide +kernel
theorem dX1_init_23 : decode cX1_init 23 = .ok (.putfield 18, 3) := by decide +kernel
theorem dX1_init_26 : decode cX1_init 26 = .ok (.aload_n 0, 1) := by decide +kernel
theorem dX1_init_27 : decode cX1_init 27 = .ok (.bipush 39, 2) := by decide +kernel
theorem dX1_init_29 : decode cX1_init 29 = .ok (.newarray .int, 2) := by decide +kernel
theorem dX1_init_31 : decode cX1_init 31 = .ok (.putfield 21, 3) := by decide +kernel
theorem dX1_init_34 : decode cX1_init 34 = .ok (.aload_n 0, 1) := by decide +kernel
theorem dX1_init_35 : decode cX1_init 35 = .ok (.bipush 39, 2) := by decide +kernel
theorem dX1_init_37 : decode cX1_init 37 = .ok (.newarray .int, 2) := by decide +kernel
theorem dX1_init_39 : decode cX1_init 39 = .ok (.putfield 25, 3) := by decide +kernel
theorem dX1_init_42 : decode cX1_init 42 = .ok (.aload_n 0, 1) := by decide +kernel
theorem dX1_init_43 : decode cX1_init 43 = .ok (.bipush 39, 2) := by decide +kernel
theorem dX1_init_45 : decode cX1_init 45 = .ok (.newarray .int, 2) := by decide +kernel
theorem dX1_init_47 : decode cX1_init 47 = .ok (.putfield 28, 3) := by decide +kernel
theorem dX1_init_50 : decode cX1_init 50 = .ok (.aload_n 0, 1) := by decide +kernel
theorem dX1_init_51 : decode cX1_init 51 = .ok (.bipush 64, 2) := by decide +kernel
theorem dX1_init_53 : decode cX1_init 53 = .ok (.newarray .int, 2) := by decide +kernel
theorem dX1_init_55 : decode cX1_init 55 = .ok (.putfield 31, 3) := by decide +kernel
theorem dX1_init_58 : decode cX1_init 58 = .ok (.aload_n 0, 1) := by decide +kernel
theorem dX1_init_59 : decode cX1_init 59 = .ok (.aload_n 1, 1) := by decide +kernel
theorem dX1_init_60 : decode cX1_init 60 = .ok (.putfield 34, 3) := by decide +kernel
theorem dX1_init_63 : decode cX1_init 63 = .ok (.return_, 1) := by decide +kernel
theorem dX1_useVariables_0 : decode cX1_useVariables 0 = .ok (.aload_n 0, 1) := by decide +kernel
theorem dX1_useVariables_1 : decode cX1_useVariables 1 = .ok (.iload_n 1, 1) := by decide +kernel
theorem dX1_useVariables_2 : decode cX1_useVariables 2 = .ok (.putfield 38, 3) := by decide +kernel
theorem dX1_useVariables_5 : decode cX1_useVariables 5 = .ok (.aload_n 0, 1) := by decide +kernel
theorem dX1_useVariables_6 : decode cX1_useVariables 6 = .ok (.iconst 0, 1) := by decide +kernel
theorem dX1_useVariables_7 : decode cX1_useVariables 7 = .ok (.putfield 42, 3) := by decide +kernel
theorem dX1_useVariables_10 : decode cX1_useVariables 10 = .ok (.return_, 1) := by decide +kernel
theorem dX1_readSum_0 : decode cX1_readSum 0 = .ok (.aload_n 0, 1) := by decide +kernel
theorem dX1_readSum_1 : decode cX1_readSum 1 = .ok (.getfield 18, 3) := by decide +kernel
theorem dX1_readSum_4 : decode cX1_readSum 4 = .ok (.aload_n 1, 1) := by decide +kernel
theorem dX1_readSum_5 : decode cX1_readSum 5 = .ok (.aload_n 0, 1) := by decide +kernel
theorem dX1_readSum_6 : decode cX1_readSum 6 = .ok (.getfield 38, 3) := by decide +kernel
theorem dX1_readSum_9 : decode cX1_readSum 9 = .ok (.aload_n 0, 1) := by decide +kernel
theorem dX1_readSum_10 : decode cX1_readSum 10 = .ok (.getfield 34, 3) := by decide +kernel
theorem dX1_readSum_13 : decode cX1_readSum 13 = .ok (.invokevirtual 46, 3) := by decide +kernel
theorem dX1_readSum_16 : decode cX1_readSum 16 = .ok (.invokevirtual 52, 3) := by decide +kernel
theorem dX1_readSum_19 : decode cX1_readSum 19 = .ok (.ifCond .ne 5, 3) := by decide +kernel
theorem dX1_readSum_22 : decode cX1_readSum 22 = .ok (.iconst 0, 1) := by decide +kernel
theorem dX1_readSum_23 : decode cX1_readSum 23 = .ok (.ireturn, 1) := by decide +kernel
theorem dX1_readSum_24 : decode cX1_readSum 24 = .ok (.aload_n 0, 1) := by decide +kernel
theorem dX1_readSum_25 : decode cX1_readSum 25 = .ok (.getfield 18, 3) := by decide +kernel
theorem dX1_readSum_28 : decode cX1_readSum 28 = .ok (.astore_n 2, 1) := by decide +kernel
theorem dX1_readSum_29 : decode cX1_readSum 29 = .ok (.aload_n 0, 1) := by decide +kernel
theorem dX1_readSum_30 : decode cX1_readSum 30 = .ok (.aload_n 0, 1) := by decide +kernel
theorem dX1_readSum_31 : decode cX1_readSum 31 = .ok (.getfield 12, 3) := by decide +kernel
theorem dX1_readSum_34 : decode cX1_readSum 34 = .ok (.putfield 18, 3) := by decide +kernel
theorem dX1_readSum_37 : decode cX1_readSum 37 = .ok (.aload_n 0, 1) := by decide +kernel
theorem dX1_readSum_38 : decode cX1_readSum 38 = .ok (.aload_n 2, 1) := by decide +kernel
theorem dX1_readSum_39 : decode cX1_readSum 39 = .ok (.putfield 12, 3) := by decide +kernel
theorem dX1_readSum_42 : decode cX1_readSum 42 = .ok (.aload_n 0, 1) := by decide +kernel
theorem dX1_readSum_43 : decode cX1_readSum 43 = .ok (.iconst 1, 1) := by decide +kernel
theorem dX1_readSum_44 : decode cX1_readSum 44 = .ok (.putfield 42, 3) := by decide +kernel
theorem dX1_readSum_47 : decode cX1_readSum 47 = .ok (.iconst 1, 1) := by decide +kernel
theorem dX1_readSum_48 : decode cX1_readSum 48 = .ok (.ireturn, 1) := by decide +kernel
theorem dX1_priceOfSum_0 : decode cX1_priceOfSum 0 = .ok (.aload_n 0, 1) := by decide +kernel
theorem dX1_priceOfSum_1 : decode cX1_priceOfSum 1 = .ok (.aload_n 0, 1) := by decide +kernel
theorem dX1_priceOfSum_2 : decode cX1_priceOfSum 2 = .ok (.invokevirtual 56, 3) := by decide +kernel
theorem dX1_priceOfSum_5 : decode cX1_priceOfSum 5 = .ok (.invokevirtual 59, 3) := by decide +kernel
theorem dX1_priceOfSum_8 : decode cX1_priceOfSum 8 = .ok (.istore_n 1, 1) := by decide +kernel
theorem dX1_priceOfSum_9 : decode cX1_priceOfSum 9 = .ok (.iconst 0, 1) := by decide +kernel
theorem dX1_priceOfSum_10 : decode cX1_priceOfSum 10 = .ok (.istore_n 2, 1) := by decide +kernel
theorem dX1_priceOfSum_11 : decode cX1_priceOfSum 11 = .ok (.iload_n 2, 1) := by decide +kernel
theorem dX1_priceOfSum_12 : decode cX1_priceOfSum 12 = .ok (.aload_n 0, 1) := by decide +kernel
theorem dX1_priceOfSum_13 : decode cX1_priceOfSum 13 = .ok (.getfield 12, 3) := by decide +kernel
theorem dX1_priceOfSum_16 : decode cX1_priceOfSum 16 = .ok (.getfield 63, 3) := by decide +kernel
theorem dX1_priceOfSum_19 : decode cX1_priceOfSum 19 = .ok (.if_icmp .ge 92, 3) := by decide +kernel
theorem dX1_priceOfSum_22 : decode cX1_priceOfSum 22 = .ok (.aload_n 0, 1) := by decide +kernel
theorem dX1_priceOfSum_23 : decode cX1_priceOfSum 23 = .ok (.getfield 12, 3) := by decide +kernel
theorem dX1_priceOfSum_26 : decode cX1_priceOfSum 26 = .ok (.iload_n 2, 1) := by decide +kernel
theorem dX1_priceOfSum_27 : decode cX1_priceOfSum 27 = .ok (.invokevirtual 66, 3) := by decide +kernel
theorem dX1_priceOfSum_30 : decode cX1_priceOfSum 30 = .ok (.ifCond .eq 20, 3) := by decide +kernel
theorem dX1_priceOfSum_33 : decode cX1_priceOfSum 33 = .ok (.aload_n 0, 1) := by decide +kernel
theorem dX1_priceOfSum_34 : decode cX1_priceOfSum 34 = .ok (.getfield 21, 3) := by decide +kernel
theorem dX1_priceOfSum_37 : decode cX1_priceOfSum 37 = .ok (.iload_n 2, 1) := by decide +kernel
theorem dX1_priceOfSum_38 : decode cX1_priceOfSum 38 = .ok (.iconst 0, 1) := by decide +kernel
theorem dX1_priceOfSum_39 : decode cX1_priceOfSum 39 = .ok (.iastore, 1) := by decide +kernel
theorem dX1_priceOfSum_40 : decode cX1_priceOfSum 40 = .ok (.aload_n 0, 1) := by decide +kernel
theorem dX1_priceOfSum_41 : decode cX1_priceOfSum 41 = .ok (.getfield 25, 3) := by decide +kernel
theorem dX1_priceOfSum_44 : decode cX1_priceOfSum 44 = .ok (.iload_n 2, 1) := by decide +kernel
theorem dX1_priceOfSum_45 : decode cX1_priceOfSum 45 = .ok (.iconst (-1), 1) := by decide +kernel
theorem dX1_priceOfSum_46 : decode cX1_priceOfSum 46 = .ok (.iastore, 1) := by decide +kernel
theorem dX1_priceOfSum_47 : decode cX1_priceOfSum 47 = .ok (.goto 58, 3) := by decide +kernel
theorem dX1_priceOfSum_50 : decode cX1_priceOfSum 50 = .ok (.aload_n 0, 1) := by decide +kernel
theorem dX1_priceOfSum_51 : decode cX1_priceOfSum 51 = .ok (.getfield 12, 3) := by decide +kernel
theorem dX1_priceOfSum_54 : decode cX1_priceOfSum 54 = .ok (.iload_n 2, 1) := by decide +kernel
theorem dX1_priceOfSum_55 : decode cX1_priceOfSum 55 = .ok (.invokevirtual 70, 3) := by decide +kernel
theorem dX1_priceOfSum_58 : decode cX1_priceOfSum 58 = .ok (.ifCond .eq 41, 3) := by decide +kernel
theorem dX1_priceOfSum_61 : decode cX1_priceOfSum 61 = .ok (.aload_n 0, 1) := by decide +kernel
theorem dX1_priceOfSum_62 : decode cX1_priceOfSum 62 = .ok (.getfield 25, 3) := by decide +kernel
theorem dX1_priceOfSum_65 : decode cX1_priceOfSum 65 = .ok (.iload_n 2, 1) := by decide +kernel
theorem dX1_priceOfSum_66 : decode cX1_priceOfSum 66 = .ok (.aload_n 0, 1) := by decide +kernel
theorem dX1_priceOfSum_67 : decode cX1_priceOfSum 67 = .ok (.aload_n 0, 1) := by decide +kernel
theorem dX1_priceOfSum_68 : decode cX1_priceOfSum 68 = .ok (.getfield 12, 3) := by decide +kernel
theorem dX1_priceOfSum_71 : decode cX1_priceOfSum 71 = .ok (.getfield 73, 3) := by decide +kernel
theorem dX1_priceOfSum_74 : decode cX1_priceOfSum 74 = .ok (.iload_n 2, 1) := by decide +kernel
theorem dX1_priceOfSum_75 : decode cX1_priceOfSum 75 = .ok (.iaload, 1) := by decide +kernel
theorem dX1_priceOfSum_76 : decode cX1_priceOfSum 76 = .ok (.invokevirtual 76, 3) := by decide +kernel
theorem dX1_priceOfSum_79 : decode cX1_priceOfSum 79 = .ok (.iastore, 1) := by decide +kernel
theorem dX1_priceOfSum_80 : decode cX1_priceOfSum 80 = .ok (.aload_n 0, 1) := by decide +kernel
theorem dX1_priceOfSum_81 : decode cX1_priceOfSum 81 = .ok (.getfield 21, 3) := by decide +kernel
theorem dX1_priceOfSum_84 : decode cX1_priceOfSum 84 = .ok (.iload_n 2, 1) := by decide +kernel
theorem dX1_priceOfSum_85 : decode cX1_priceOfSum 85 = .ok (.aload_n 0, 1) := by decide +kernel
theorem dX1_priceOfSum_86 : decode cX1_priceOfSum 86 = .ok (.aload_n 0, 1) := by decide +kernel
theorem dX1_priceOfSum_87 : decode cX1_priceOfSum 87 = .ok (.getfield 25, 3) := by decide +kernel
theorem dX1_priceOfSum_90 : decode cX1_priceOfSum 90 = .ok (.iload_n 2, 1) := by decide +kernel
theorem dX1_priceOfSum_91 : decode cX1_priceOfSum 91 = .ok (.iaload, 1) := by decide +kernel
theorem dX1_priceOfSum_92 : decode cX1_priceOfSum 92 = .ok (.invokevirtual 59, 3) := by decide +kernel
theorem dX1_priceOfSum_95 : decode cX1_priceOfSum 95 = .ok (.iastore, 1) := by decide +kernel
theorem dX1_priceOfSum_96 : decode cX1_priceOfSum 96 = .ok (.goto 9, 3) := by decide +kernel
theorem dX1_priceOfSum_99 : decode cX1_priceOfSum 99 = .ok (.aload_n 0, 1) := by decide +kernel
theorem dX1_priceOfSum_100 : decode cX1_priceOfSum 100 = .ok (.iload_n 2, 1) := by decide +kernel
theorem dX1_priceOfSum_101 : decode cX1_priceOfSum 101 = .ok (.iload_n 1, 1) := by decide +kernel
theorem dX1_priceOfSum_102 : decode cX1_priceOfSum 102 = .ok (.invokevirtual 79, 3) := by decide +kernel
theorem dX1_priceOfSum_105 : decode cX1_priceOfSum 105 = .ok (.iinc 2 1, 3) := by decide +kernel
theorem dX1_priceOfSum_108 : decode cX1_priceOfSum 108 = .ok (.goto (-97), 3) := by decide +kernel
theorem dX1_priceOfSum_111 : decode cX1_priceOfSum 111 = .ok (.aload_n 0, 1) := by decide +kernel
theorem dX1_priceOfSum_112 : decode cX1_priceOfSum 112 = .ok (.getfield 12, 3) := by decide +kernel
theorem dX1_priceOfSum_115 : decode cX1_priceOfSum 115 = .ok (.aload_n 0, 1) := by decide +kernel
theorem dX1_priceOfSum_116 : decode cX1_priceOfSum 116 = .ok (.getfield 12, 3) := by decide +kernel
theorem dX1_priceOfSum_119 : decode cX1_priceOfSum 119 = .ok (.invokevirtual 83, 3) := by decide +kernel
theorem dX1_priceOfSum_122 : decode cX1_priceOfSum 122 = .ok (.invokevirtual 66, 3) := by decide +kernel
theorem dX1_priceOfSum_125 : decode cX1_priceOfSum 125 = .ok (.ifCond .eq 7, 3) := by decide +kernel
theorem dX1_priceOfSum_128 : decode cX1_priceOfSum 128 = .ok (.iload_n 1, 1) := by decide +kernel
theorem dX1_priceOfSum_129 : decode cX1_priceOfSum 129 = .ok (.goto 15, 3) := by decide +kernel
theorem dX1_priceOfSum_132 : decode cX1_priceOfSum 132 = .ok (.aload_n 0, 1) := by decide +kernel
theorem dX1_priceOfSum_133 : decode cX1_priceOfSum 133 = .ok (.getfield 21, 3) := by decide +kernel
theorem dX1_priceOfSum_136 : decode cX1_priceOfSum 136 = .ok (.aload_n 0, 1) := by decide +kernel
theorem dX1_priceOfSum_137 : decode cX1_priceOfSum 137 = .ok (.getfield 12, 3) := by decide +kernel
theorem dX1_priceOfSum_140 : decode cX1_priceOfSum 140 = .ok (.invokevirtual 83, 3) := by decide +kernel
theorem dX1_priceOfSum_143 : decode cX1_priceOfSum 143 = .ok (.iaload, 1) := by decide +kernel
theorem dX1_priceOfSum_144 : decode cX1_priceOfSum 144 = .ok (.istore_n 2, 1) := by decide +kernel
theorem dX1_priceOfSum_145 : decode cX1_priceOfSum 145 = .ok (.iload_n 2, 1) := by decide +kernel
theorem dX1_priceOfSum_146 : decode cX1_priceOfSum 146 = .ok (.ldc 86, 2) := by decide +kernel
theorem dX1_priceOfSum_148 : decode cX1_priceOfSum 148 = .ok (.if_icmp .ge 7, 3) := by decide +kernel
theorem dX1_priceOfSum_151 : decode cX1_priceOfSum 151 = .ok (.iload_n 2, 1) := by decide +kernel
theorem dX1_priceOfSum_152 : decode cX1_priceOfSum 152 = .ok (.goto 5, 3) := by decide +kernel
theorem dX1_priceOfSum_155 : decode cX1_priceOfSum 155 = .ok (.bipush (-4), 2) := by decide +kernel
theorem dX1_priceOfSum_157 : decode cX1_priceOfSum 157 = .ok (.ireturn, 1) := by decide +kernel
theorem dX1_ticksOf_0 : decode cX1_ticksOf 0 = .ok (.aload_n 0, 1) := by decide +kernel
theorem dX1_ticksOf_1 : decode cX1_ticksOf 1 = .ok (.getfield 34, 3) := by decide +kernel
theorem dX1_ticksOf_4 : decode cX1_ticksOf 4 = .ok (.iload_n 1, 1) := by decide +kernel
theorem dX1_ticksOf_5 : decode cX1_ticksOf 5 = .ok (.invokevirtual 87, 3) := by decide +kernel
theorem dX1_ticksOf_8 : decode cX1_ticksOf 8 = .ok (.astore_n 2, 1) := by decide +kernel
theorem dX1_ticksOf_9 : decode cX1_ticksOf 9 = .ok (.aload_n 2, 1) := by decide +kernel
theorem dX1_ticksOf_10 : decode cX1_ticksOf 10 = .ok (.ifnonnull 8, 3) := by decide +kernel
theorem dX1_ticksOf_13 : decode cX1_ticksOf 13 = .ok (.ldc 86, 2) := by decide +kernel
theorem dX1_ticksOf_15 : decode cX1_ticksOf 15 = .ok (.goto 7, 3) := by decide +kernel
theorem dX1_ticksOf_18 : decode cX1_ticksOf 18 = .ok (.aload_n 2, 1) := by decide +kernel
theorem dX1_ticksOf_19 : decode cX1_ticksOf 19 = .ok (.getfield 91, 3) := by decide +kernel
theorem dX1_ticksOf_22 : decode cX1_ticksOf 22 = .ok (.ireturn, 1) := by decide +kernel
theorem dX1_hasRoomFor_0 : decode cX1_hasRoomFor 0 = .ok (.iload_n 1, 1) := by decide +kernel
theorem dX1_hasRoomFor_1 : decode cX1_hasRoomFor 1 = .ok (.iconst 1, 1) := by decide +kernel
theorem dX1_hasRoomFor_2 : decode cX1_hasRoomFor 2 = .ok (.aload_n 0, 1) := by decide +kernel
theorem dX1_hasRoomFor_3 : decode cX1_hasRoomFor 3 = .ok (.iconst 3, 1) := by decide +kernel
theorem dX1_hasRoomFor_4 : decode cX1_hasRoomFor 4 = .ok (.invokevirtual 96, 3) := by decide +kernel
theorem dX1_hasRoomFor_7 : decode cX1_hasRoomFor 7 = .ok (.ishl, 1) := by decide +kernel
theorem dX1_hasRoomFor_8 : decode cX1_hasRoomFor 8 = .ok (.if_icmp .ge 7, 3) := by decide +kernel
theorem dX1_hasRoomFor_11 : decode cX1_hasRoomFor 11 = .ok (.iconst 1, 1) := by decide +kernel
theorem dX1_hasRoomFor_12 : decode cX1_hasRoomFor 12 = .ok (.goto 4, 3) := by decide +kernel
theorem dX1_hasRoomFor_15 : decode cX1_hasRoomFor 15 = .ok (.iconst 0, 1) := by decide +kernel
theorem dX1_hasRoomFor_16 : decode cX1_hasRoomFor 16 = .ok (.ireturn, 1) := by decide +kernel
theorem dX1_leastLoad_0 : decode cX1_leastLoad 0 = .ok (.iconst (-1), 1) := by decide +kernel
theorem dX1_leastLoad_1 : decode cX1_leastLoad 1 = .ok (.istore_n 2, 1) := by decide +kernel
theorem dX1_leastLoad_2 : decode cX1_leastLoad 2 = .ok (.iconst 0, 1) := by decide +kernel
theorem dX1_leastLoad_3 : decode cX1_leastLoad 3 = .ok (.istore_n 3, 1) := by decide +kernel
theorem dX1_leastLoad_4 : decode cX1_leastLoad 4 = .ok (.iload_n 3, 1) := by decide +kernel
theorem dX1_leastLoad_5 : decode cX1_leastLoad 5 = .ok (.aload_n 0, 1) := by decide +kernel
theorem dX1_leastLoad_6 : decode cX1_leastLoad 6 = .ok (.getfield 34, 3) := by decide +kernel
theorem dX1_leastLoad_9 : decode cX1_leastLoad 9 = .ok (.getfield 99, 3) := by decide +kernel
theorem dX1_leastLoad_12 : decode cX1_leastLoad 12 = .ok (.if_icmp .ge 53, 3) := by decide +kernel
theorem dX1_leastLoad_15 : decode cX1_leastLoad 15 = .ok (.aload_n 0, 1) := by decide +kernel
theorem dX1_leastLoad_16 : decode cX1_leastLoad 16 = .ok (.getfield 34, 3) := by decide +kernel
theorem dX1_leastLoad_19 : decode cX1_leastLoad 19 = .ok (.getfield 101, 3) := by decide +kernel
theorem dX1_leastLoad_22 : decode cX1_leastLoad 22 = .ok (.iload_n 3, 1) := by decide +kernel
theorem dX1_leastLoad_23 : decode cX1_leastLoad 23 = .ok (.aaload, 1) := by decide +kernel
theorem dX1_leastLoad_24 : decode cX1_leastLoad 24 = .ok (.astore 4, 2) := by decide +kernel
theorem dX1_leastLoad_26 : decode cX1_leastLoad 26 = .ok (.aload 4, 2) := by decide +kernel
theorem dX1_leastLoad_28 : decode cX1_leastLoad 28 = .ok (.getfield 105, 3) := by decide +kernel
theorem dX1_leastLoad_31 : decode cX1_leastLoad 31 = .ok (.iconst 1, 1) := by decide +kernel
theorem dX1_leastLoad_32 : decode cX1_leastLoad 32 = .ok (.if_icmp .ne 27, 3) := by decide +kernel
theorem dX1_leastLoad_35 : decode cX1_leastLoad 35 = .ok (.aload 4, 2) := by decide +kernel
theorem dX1_leastLoad_37 : decode cX1_leastLoad 37 = .ok (.iload_n 1, 1) := by decide +kernel
theorem dX1_leastLoad_38 : decode cX1_leastLoad 38 = .ok (.invokestatic 108, 3) := by decide +kernel
theorem dX1_leastLoad_41 : decode cX1_leastLoad 41 = .ok (.ifCond .eq 18, 3) := by decide +kernel
theorem dX1_leastLoad_44 : decode cX1_leastLoad 44 = .ok (.aload 4, 2) := by decide +kernel
theorem dX1_leastLoad_46 : decode cX1_leastLoad 46 = .ok (.getfield 91, 3) := by decide +kernel
theorem dX1_leastLoad_49 : decode cX1_leastLoad 49 = .ok (.aload_n 0, 1) := by decide +kernel
theorem dX1_leastLoad_50 : decode cX1_leastLoad 50 = .ok (.iload_n 2, 1) := by decide +kernel
theorem dX1_leastLoad_51 : decode cX1_leastLoad 51 = .ok (.invokevirtual 59, 3) := by decide +kernel
theorem dX1_leastLoad_54 : decode cX1_leastLoad 54 = .ok (.if_icmp .ge 5, 3) := by decide +kernel
theorem dX1_leastLoad_57 : decode cX1_leastLoad 57 = .ok (.iload_n 3, 1) := by decide +kernel
theorem dX1_leastLoad_58 : decode cX1_leastLoad 58 = .ok (.istore_n 2, 1) := by decide +kernel
theorem dX1_leastLoad_59 : decode cX1_leastLoad 59 = .ok (.iinc 3 1, 3) := by decide +kernel
theorem dX1_leastLoad_62 : decode cX1_leastLoad 62 = .ok (.goto (-58), 3) := by decide +kernel
theorem dX1_leastLoad_65 : decode cX1_leastLoad 65 = .ok (.iload_n 2, 1) := by decide +kernel
theorem dX1_leastLoad_66 : decode cX1_leastLoad 66 = .ok (.ireturn, 1) := by decide +kernel
theorem dX1_leastMove_0 : decode cX1_leastMove 0 = .ok (.iconst (-1), 1) := by decide +kernel
theorem dX1_leastMove_1 : decode cX1_leastMove 1 = .ok (.istore_n 1, 1) := by decide +kernel
theorem dX1_leastMove_2 : decode cX1_leastMove 2 = .ok (.iconst 0, 1) := by decide +kernel
theorem dX1_leastMove_3 : decode cX1_leastMove 3 = .ok (.istore_n 2, 1) := by decide +kernel
theorem dX1_leastMove_4 : decode cX1_leastMove 4 = .ok (.iload_n 2, 1) := by decide +kernel
theorem dX1_leastMove_5 : decode cX1_leastMove 5 = .ok (.aload_n 0, 1) := by decide +kernel
theorem dX1_leastMove_6 : decode cX1_leastMove 6 = .ok (.getfield 34, 3) := by decide +kernel
theorem dX1_leastMove_9 : decode cX1_leastMove 9 = .ok (.getfield 99, 3) := by decide +kernel
theorem dX1_leastMove_12 : decode cX1_leastMove 12 = .ok (.if_icmp .ge 47, 3) := by decide +kernel
theorem dX1_leastMove_15 : decode cX1_leastMove 15 = .ok (.aload_n 0, 1) := by decide +kernel
theorem dX1_leastMove_16 : decode cX1_leastMove 16 = .ok (.getfield 34, 3) := by decide +kernel
theorem dX1_leastMove_19 : decode cX1_leastMove 19 = .ok (.getfield 101, 3) := by decide +kernel
theorem dX1_leastMove_22 : decode cX1_leastMove 22 = .ok (.iload_n 2, 1) := by decide +kernel
theorem dX1_leastMove_23 : decode cX1_leastMove 23 = .ok (.aaload, 1) := by decide +kernel
theorem dX1_leastMove_24 : decode cX1_leastMove 24 = .ok (.getfield 105, 3) := by decide +kernel
theorem dX1_leastMove_27 : decode cX1_leastMove 27 = .ok (.iconst 2, 1) := by decide +kernel
theorem dX1_leastMove_28 : decode cX1_leastMove 28 = .ok (.if_icmp .ne 25, 3) := by decide +kernel
theorem dX1_leastMove_31 : decode cX1_leastMove 31 = .ok (.aload_n 0, 1) := by decide +kernel
theorem dX1_leastMove_32 : decode cX1_leastMove 32 = .ok (.getfield 34, 3) := by decide +kernel
theorem dX1_leastMove_35 : decode cX1_leastMove 35 = .ok (.getfield 101, 3) := by decide +kernel
theorem dX1_leastMove_38 : decode cX1_leastMove 38 = .ok (.iload_n 2, 1) := by decide +kernel
theorem dX1_leastMove_39 : decode cX1_leastMove 39 = .ok (.aaload, 1) := by decide +kernel
theorem dX1_leastMove_40 : decode cX1_leastMove 40 = .ok (.getfield 91, 3) := by decide +kernel
theorem dX1_leastMove_43 : decode cX1_leastMove 43 = .ok (.aload_n 0, 1) := by decide +kernel
theorem dX1_leastMove_44 : decode cX1_leastMove 44 = .ok (.iload_n 1, 1) := by decide +kernel
theorem dX1_leastMove_45 : decode cX1_leastMove 45 = .ok (.invokevirtual 59, 3) := by decide +kernel
theorem dX1_leastMove_48 : decode cX1_leastMove 48 = .ok (.if_icmp .ge 5, 3) := by decide +kernel
theorem dX1_leastMove_51 : decode cX1_leastMove 51 = .ok (.iload_n 2, 1) := by decide +kernel
theorem dX1_leastMove_52 : decode cX1_leastMove 52 = .ok (.istore_n 1, 1) := by decide +kernel
theorem dX1_leastMove_53 : decode cX1_leastMove 53 = .ok (.iinc 2 1, 3) := by decide +kernel
theorem dX1_leastMove_56 : decode cX1_leastMove 56 = .ok (.goto (-52), 3) := by decide +kernel
theorem dX1_leastMove_59 : decode cX1_leastMove 59 = .ok (.iload_n 1, 1) := by decide +kernel
theorem dX1_leastMove_60 : decode cX1_leastMove 60 = .ok (.ireturn, 1) := by decide +kernel
theorem dX1_findSignPrice_0 : decode cX1_findSignPrice 0 = .ok (.aload_n 0, 1) := by decide +kernel
theorem dX1_findSignPrice_1 : decode cX1_findSignPrice 1 = .ok (.getfield 21, 3) := by decide +kernel
theorem dX1_findSignPrice_4 : decode cX1_findSignPrice 4 = .ok (.iload_n 1, 1) := by decide +kernel
theorem dX1_findSignPrice_5 : decode cX1_findSignPrice 5 = .ok (.ldc 86, 2) := by decide +kernel
theorem dX1_findSignPrice_7 : decode cX1_findSignPrice 7 = .ok (.iastore, 1) := by decide +kernel
theorem dX1_findSignPrice_8 : decode cX1_findSignPrice 8 = .ok (.aload_n 0, 1) := by decide +kernel
theorem dX1_findSignPrice_9 : decode cX1_findSignPrice 9 = .ok (.getfield 25, 3) := by decide +kernel
theorem dX1_findSignPrice_12 : decode cX1_findSignPrice 12 = .ok (.iload_n 1, 1) := by decide +kernel
theorem dX1_findSignPrice_13 : decode cX1_findSignPrice 13 = .ok (.iconst (-1), 1) := by decide +kernel
theorem dX1_findSignPrice_14 : decode cX1_findSignPrice 14 = .ok (.iastore, 1) := by decide +kernel
theorem dX1_findSignPrice_15 : decode cX1_findSignPrice 15 = .ok (.iconst 0, 1) := by decide +kernel
theorem dX1_findSignPrice_16 : decode cX1_findSignPrice 16 = .ok (.istore_n 3, 1) := by decide +kernel
theorem dX1_findSignPrice_17 : decode cX1_findSignPrice 17 = .ok (.iload_n 3, 1) := by decide +kernel
theorem dX1_findSignPrice_18 : decode cX1_findSignPrice 18 = .ok (.aload_n 0, 1) := by decide +kernel
theorem dX1_findSignPrice_19 : decode cX1_findSignPrice 19 = .ok (.getfield 34, 3) := by decide +kernel
theorem dX1_findSignPrice_22 : decode cX1_findSignPrice 22 = .ok (.getfield 99, 3) := by decide +kernel
theorem dX1_findSignPrice_25 : decode cX1_findSignPrice 25 = .ok (.if_icmp .ge 84, 3) := by decide +kernel
theorem dX1_findSignPrice_28 : decode cX1_findSignPrice 28 = .ok (.aload_n 0, 1) := by decide +kernel
theorem dX1_findSignPrice_29 : decode cX1_findSignPrice 29 = .ok (.getfield 34, 3) := by decide +kernel
theorem dX1_findSignPrice_32 : decode cX1_findSignPrice 32 = .ok (.getfield 101, 3) := by decide +kernel
theorem dX1_findSignPrice_35 : decode cX1_findSignPrice 35 = .ok (.iload_n 3, 1) := by decide +kernel
theorem dX1_findSignPrice_36 : decode cX1_findSignPrice 36 = .ok (.aaload, 1) := by decide +kernel
theorem dX1_findSignPrice_37 : decode cX1_findSignPrice 37 = .ok (.astore 4, 2) := by decide +kernel
theorem dX1_findSignPrice_39 : decode cX1_findSignPrice 39 = .ok (.aload 4, 2) := by decide +kernel
theorem dX1_findSignPrice_41 : decode cX1_findSignPrice 41 = .ok (.getfield 105, 3) := by decide +kernel
theorem dX1_findSignPrice_44 : decode cX1_findSignPrice 44 = .ok (.iconst 3, 1) := by decide +kernel
theorem dX1_findSignPrice_45 : decode cX1_findSignPrice 45 = .ok (.if_icmp .lt 58, 3) := by decide +kernel
theorem dX1_findSignPrice_48 : decode cX1_findSignPrice 48 = .ok (.aload 4, 2) := by decide +kernel
theorem dX1_findSignPrice_50 : decode cX1_findSignPrice 50 = .ok (.getfield 112, 3) := by decide +kernel
theorem dX1_findSignPrice_53 : decode cX1_findSignPrice 53 = .ok (.iconst 0, 1) := by decide +kernel
theorem dX1_findSignPrice_54 : decode cX1_findSignPrice 54 = .ok (.iaload, 1) := by decide +kernel
theorem dX1_findSignPrice_55 : decode cX1_findSignPrice 55 = .ok (.aload_n 0, 1) := by decide +kernel
theorem dX1_findSignPrice_56 : decode cX1_findSignPrice 56 = .ok (.getfield 12, 3) := by decide +kernel
theorem dX1_findSignPrice_59 : decode cX1_findSignPrice 59 = .ok (.getfield 115, 3) := by decide +kernel
theorem dX1_findSignPrice_62 : decode cX1_findSignPrice 62 = .ok (.iload_n 1, 1) := by decide +kernel
theorem dX1_findSignPrice_63 : decode cX1_findSignPrice 63 = .ok (.iaload, 1) := by decide +kernel
theorem dX1_findSignPrice_64 : decode cX1_findSignPrice 64 = .ok (.if_icmp .ne 39, 3) := by decide +kernel
theorem dX1_findSignPrice_67 : decode cX1_findSignPrice 67 = .ok (.aload_n 0, 1) := by decide +kernel
theorem dX1_findSignPrice_68 : decode cX1_findSignPrice 68 = .ok (.aload 4, 2) := by decide +kernel
theorem dX1_findSignPrice_70 : decode cX1_findSignPrice 70 = .ok (.iload_n 1, 1) := by decide +kernel
theorem dX1_findSignPrice_71 : decode cX1_findSignPrice 71 = .ok (.iload_n 2, 1) := by decide +kernel
theorem dX1_findSignPrice_72 : decode cX1_findSignPrice 72 = .ok (.invokevirtual 118, 3) := by decide +kernel
theorem dX1_findSignPrice_75 : decode cX1_findSignPrice 75 = .ok (.istore 5, 2) := by decide +kernel
theorem dX1_findSignPrice_77 : decode cX1_findSignPrice 77 = .ok (.iload 5, 2) := by decide +kernel
theorem dX1_findSignPrice_79 : decode cX1_findSignPrice 79 = .ok (.aload_n 0, 1) := by decide +kernel
theorem dX1_findSignPrice_80 : decode cX1_findSignPrice 80 = .ok (.getfield 21, 3) := by decide +kernel
theorem dX1_findSignPrice_83 : decode cX1_findSignPrice 83 = .ok (.iload_n 1, 1) := by decide +kernel
theorem dX1_findSignPrice_84 : decode cX1_findSignPrice 84 = .ok (.iaload, 1) := by decide +kernel
theorem dX1_findSignPrice_85 : decode cX1_findSignPrice 85 = .ok (.if_icmp .ge 18, 3) := by decide +kernel
theorem dX1_findSignPrice_88 : decode cX1_findSignPrice 88 = .ok (.aload_n 0, 1) := by decide +kernel
theorem dX1_findSignPrice_89 : decode cX1_findSignPrice 89 = .ok (.getfield 21, 3) := by decide +kernel
theorem dX1_findSignPrice_92 : decode cX1_findSignPrice 92 = .ok (.iload_n 1, 1) := by decide +kernel
theorem dX1_findSignPrice_93 : decode cX1_findSignPrice 93 = .ok (.iload 5, 2) := by decide +kernel
theorem dX1_findSignPrice_95 : decode cX1_findSignPrice 95 = .ok (.iastore, 1) := by decide +kernel
theorem dX1_findSignPrice_96 : decode cX1_findSignPrice 96 = .ok (.aload_n 0, 1) := by decide +kernel
theorem dX1_findSignPrice_97 : decode cX1_findSignPrice 97 = .ok (.getfield 25, 3) := by decide +kernel
theorem dX1_findSignPrice_100 : decode cX1_findSignPrice 100 = .ok (.iload_n 1, 1) := by decide +kernel
theorem dX1_findSignPrice_101 : decode cX1_findSignPrice 101 = .ok (.iload_n 3, 1) := by decide +kernel
theorem dX1_findSignPrice_102 : decode cX1_findSignPrice 102 = .ok (.iastore, 1) := by decide +kernel
theorem dX1_findSignPrice_103 : decode cX1_findSignPrice 103 = .ok (.iinc 3 1, 3) := by decide +kernel
theorem dX1_findSignPrice_106 : decode cX1_findSignPrice 106 = .ok (.goto (-89), 3) := by decide +kernel
theorem dX1_findSignPrice_109 : decode cX1_findSignPrice 109 = .ok (.return_, 1) := by decide +kernel
theorem dX1_priceBy_0 : decode cX1_priceBy 0 = .ok (.aload_n 0, 1) := by decide +kernel
theorem dX1_priceBy_1 : decode cX1_priceBy 1 = .ok (.getfield 12, 3) := by decide +kernel
theorem dX1_priceBy_4 : decode cX1_priceBy 4 = .ok (.getfield 122, 3) := by decide +kernel
theorem dX1_priceBy_7 : decode cX1_priceBy 7 = .ok (.iload_n 2, 1) := by decide +kernel
theorem dX1_priceBy_8 : decode cX1_priceBy 8 = .ok (.iaload, 1) := by decide +kernel
theorem dX1_priceBy_9 : decode cX1_priceBy 9 = .ok (.istore 4, 2) := by decide +kernel
theorem dX1_priceBy_11 : decode cX1_priceBy 11 = .ok (.aload_n 0, 1) := by decide +kernel
theorem dX1_priceBy_12 : decode cX1_priceBy 12 = .ok (.getfield 12, 3) := by decide +kernel
theorem dX1_priceBy_15 : decode cX1_priceBy 15 = .ok (.getfield 125, 3) := by decide +kernel
theorem dX1_priceBy_18 : decode cX1_priceBy 18 = .ok (.iload_n 2, 1) := by decide +kernel
theorem dX1_priceBy_19 : decode cX1_priceBy 19 = .ok (.iaload, 1) := by decide +kernel
theorem dX1_priceBy_20 : decode cX1_priceBy 20 = .ok (.istore 5, 2) := by decide +kernel
theorem dX1_priceBy_22 : decode cX1_priceBy 22 = .ok (.aload_n 1, 1) := by decide +kernel
theorem dX1_priceBy_23 : decode cX1_priceBy 23 = .ok (.getfield 91, 3) := by decide +kernel
theorem dX1_priceBy_26 : decode cX1_priceBy 26 = .ok (.aload_n 0, 1) := by decide +kernel
theorem dX1_priceBy_27 : decode cX1_priceBy 27 = .ok (.getfield 21, 3) := by decide +kernel
theorem dX1_priceBy_30 : decode cX1_priceBy 30 = .ok (.iload 4, 2) := by decide +kernel
theorem dX1_priceBy_32 : decode cX1_priceBy 32 = .ok (.iaload, 1) := by decide +kernel
theorem dX1_priceBy_33 : decode cX1_priceBy 33 = .ok (.iadd, 1) := by decide +kernel
theorem dX1_priceBy_34 : decode cX1_priceBy 34 = .ok (.istore 6, 2) := by decide +kernel
theorem dX1_priceBy_36 : decode cX1_priceBy 36 = .ok (.aload_n 1, 1) := by decide +kernel
theorem dX1_priceBy_37 : decode cX1_priceBy 37 = .ok (.getfield 105, 3) := by decide +kernel
theorem dX1_priceBy_40 : decode cX1_priceBy 40 = .ok (.invokestatic 128, 3) := by decide +kernel
theorem dX1_priceBy_43 : decode cX1_priceBy 43 = .ok (.ifCond .eq 18, 3) := by decide +kernel
theorem dX1_priceBy_46 : decode cX1_priceBy 46 = .ok (.iload 6, 2) := by decide +kernel
theorem dX1_priceBy_48 : decode cX1_priceBy 48 = .ok (.aload_n 0, 1) := by decide +kernel
theorem dX1_priceBy_49 : decode cX1_priceBy 49 = .ok (.getfield 21, 3) := by decide +kernel
theorem dX1_priceBy_52 : decode cX1_priceBy 52 = .ok (.iload 5, 2) := by decide +kernel
theorem dX1_priceBy_54 : decode cX1_priceBy 54 = .ok (.iaload, 1) := by decide +kernel
theorem dX1_priceBy_55 : decode cX1_priceBy 55 = .ok (.iadd, 1) := by decide +kernel
theorem dX1_priceBy_56 : decode cX1_priceBy 56 = .ok (.istore 6, 2) := by decide +kernel
theorem dX1_priceBy_58 : decode cX1_priceBy 58 = .ok (.goto 35, 3) := by decide +kernel
theorem dX1_priceBy_61 : decode cX1_priceBy 61 = .ok (.aload_n 0, 1) := by decide +kernel
theorem dX1_priceBy_62 : decode cX1_priceBy 62 = .ok (.getfield 12, 3) := by decide +kernel
theorem dX1_priceBy_65 : decode cX1_priceBy 65 = .ok (.iload 5, 2) := by decide +kernel
theorem dX1_priceBy_67 : decode cX1_priceBy 67 = .ok (.invokevirtual 70, 3) := by decide +kernel
theorem dX1_priceBy_70 : decode cX1_priceBy 70 = .ok (.ifCond .eq 20, 3) := by decide +kernel
theorem dX1_priceBy_73 : decode cX1_priceBy 73 = .ok (.aload_n 1, 1) := by decide +kernel
theorem dX1_priceBy_74 : decode cX1_priceBy 74 = .ok (.aload_n 0, 1) := by decide +kernel
theorem dX1_priceBy_75 : decode cX1_priceBy 75 = .ok (.getfield 12, 3) := by decide +kernel
theorem dX1_priceBy_78 : decode cX1_priceBy 78 = .ok (.getfield 73, 3) := by decide +kernel
theorem dX1_priceBy_81 : decode cX1_priceBy 81 = .ok (.iload 5, 2) := by decide +kernel
theorem dX1_priceBy_83 : decode cX1_priceBy 83 = .ok (.iaload, 1) := by decide +kernel
theorem dX1_priceBy_84 : decode cX1_priceBy 84 = .ok (.invokestatic 108, 3) := by decide +kernel
theorem dX1_priceBy_87 : decode cX1_priceBy 87 = .ok (.ifCond .ne 6, 3) := by decide +kernel
theorem dX1_priceBy_90 : decode cX1_priceBy 90 = .ok (.ldc 86, 2) := by decide +kernel
theorem dX1_priceBy_92 : decode cX1_priceBy 92 = .ok (.ireturn, 1) := by decide +kernel
theorem dX1_priceBy_93 : decode cX1_priceBy 93 = .ok (.aload_n 1, 1) := by decide +kernel
theorem dX1_priceBy_94 : decode cX1_priceBy 94 = .ok (.getfield 105, 3) := by decide +kernel
theorem dX1_priceBy_97 : decode cX1_priceBy 97 = .ok (.invokestatic 131, 3) := by decide +kernel
theorem dX1_priceBy_100 : decode cX1_priceBy 100 = .ok (.ifCond .eq 21, 3) := by decide +kernel
theorem dX1_priceBy_103 : decode cX1_priceBy 103 = .ok (.aload_n 0, 1) := by decide +kernel
theorem dX1_priceBy_104 : decode cX1_priceBy 104 = .ok (.getfield 12, 3) := by decide +kernel
theorem dX1_priceBy_107 : decode cX1_priceBy 107 = .ok (.iload 4, 2) := by decide +kernel
theorem dX1_priceBy_109 : decode cX1_priceBy 109 = .ok (.invokevirtual 66, 3) := by decide +kernel
theorem dX1_priceBy_112 : decode cX1_priceBy 112 = .ok (.ifCond .eq 9, 3) := by decide +kernel
theorem dX1_priceBy_115 : decode cX1_priceBy 115 = .ok (.iload 6, 2) := by decide +kernel
theorem dX1_priceBy_117 : decode cX1_priceBy 117 = .ok (.iload_n 3, 1) := by decide +kernel
theorem dX1_priceBy_118 : decode cX1_priceBy 118 = .ok (.iadd, 1) := by decide +kernel
theorem dX1_priceBy_119 : decode cX1_priceBy 119 = .ok (.istore 6, 2) := by decide +kernel
theorem dX1_priceBy_121 : decode cX1_priceBy 121 = .ok (.iload 6, 2) := by decide +kernel
theorem dX1_priceBy_123 : decode cX1_priceBy 123 = .ok (.ldc 86, 2) := by decide +kernel
theorem dX1_priceBy_125 : decode cX1_priceBy 125 = .ok (.invokestatic 134, 3) := by decide +kernel
theorem dX1_priceBy_128 : decode cX1_priceBy 128 = .ok (.ireturn, 1) := by decide +kernel
theorem dX1_takesRegister_0 : decode cX1_takesRegister 0 = .ok (.iload_n 0, 1) := by decide +kernel
theorem dX1_takesRegister_1 : decode cX1_takesRegister 1 = .ok (.iconst 3, 1) := by decide +kernel
theorem dX1_takesRegister_2 : decode cX1_takesRegister 2 = .ok (.if_icmp .eq 8, 3) := by decide +kernel
theorem dX1_takesRegister_5 : decode cX1_takesRegister 5 = .ok (.iload_n 0, 1) := by decide +kernel
theorem dX1_takesRegister_6 : decode cX1_takesRegister 6 = .ok (.iconst 5, 1) := by decide +kernel
theorem dX1_takesRegister_7 : decode cX1_takesRegister 7 = .ok (.if_icmp .ne 7, 3) := by decide +kernel
theorem dX1_takesRegister_10 : decode cX1_takesRegister 10 = .ok (.iconst 1, 1) := by decide +kernel
theorem dX1_takesRegister_11 : decode cX1_takesRegister 11 = .ok (.goto 4, 3) := by decide +kernel
theorem dX1_takesRegister_14 : decode cX1_takesRegister 14 = .ok (.iconst 0, 1) := by decide +kernel
theorem dX1_takesRegister_15 : decode cX1_takesRegister 15 = .ok (.ireturn, 1) := by decide +kernel
theorem dX1_worksInPlace_0 : decode cX1_worksInPlace 0 = .ok (.iload_n 0, 1) := by decide +kernel
theorem dX1_worksInPlace_1 : decode cX1_worksInPlace 1 = .ok (.iconst 5, 1) := by decide +kernel
theorem dX1_worksInPlace_2 : decode cX1_worksInPlace 2 = .ok (.if_icmp .eq 9, 3) := by decide +kernel
theorem dX1_worksInPlace_5 : decode cX1_worksInPlace 5 = .ok (.iload_n 0, 1) := by decide +kernel
theorem dX1_worksInPlace_6 : decode cX1_worksInPlace 6 = .ok (.bipush 6, 2) := by decide +kernel
theorem dX1_worksInPlace_8 : decode cX1_worksInPlace 8 = .ok (.if_icmp .ne 7, 3) := by decide +kernel
theorem dX1_worksInPlace_11 : decode cX1_worksInPlace 11 = .ok (.iconst 1, 1) := by decide +kernel
theorem dX1_worksInPlace_12 : decode cX1_worksInPlace 12 = .ok (.goto 4, 3) := by decide +kernel
theorem dX1_worksInPlace_15 : decode cX1_worksInPlace 15 = .ok (.iconst 0, 1) := by decide +kernel
theorem dX1_worksInPlace_16 : decode cX1_worksInPlace 16 = .ok (.ireturn, 1) := by decide +kernel
theorem dX1_makeInto_0 : decode cX1_makeInto 0 = .ok (.aload_n 0, 1) := by decide +kernel
theorem dX1_makeInto_1 : decode cX1_makeInto 1 = .ok (.invokevirtual 140, 3) := by decide +kernel
theorem dX1_makeInto_4 : decode cX1_makeInto 4 = .ok (.bipush (-4), 2) := by decide +kernel
theorem dX1_makeInto_6 : decode cX1_makeInto 6 = .ok (.if_icmp .ne 6, 3) := by decide +kernel
theorem dX1_makeInto_9 : decode cX1_makeInto 9 = .ok (.bipush (-4), 2) := by decide +kernel
theorem dX1_makeInto_11 : decode cX1_makeInto 11 = .ok (.ireturn, 1) := by decide +kernel
theorem dX1_makeInto_12 : decode cX1_makeInto 12 = .ok (.aload_n 0, 1) := by decide +kernel
theorem dX1_makeInto_13 : decode cX1_makeInto 13 = .ok (.invokevirtual 143, 3) := by decide +kernel
theorem dX1_makeInto_16 : decode cX1_makeInto 16 = .ok (.aload_n 0, 1) := by decide +kernel
theorem dX1_makeInto_17 : decode cX1_makeInto 17 = .ok (.iconst 0, 1) := by decide +kernel
theorem dX1_makeInto_18 : decode cX1_makeInto 18 = .ok (.putfield 146, 3) := by decide +kernel
theorem dX1_makeInto_21 : decode cX1_makeInto 21 = .ok (.iconst 0, 1) := by decide +kernel
theorem dX1_makeInto_22 : decode cX1_makeInto 22 = .ok (.istore_n 3, 1) := by decide +kernel
theorem dX1_makeInto_23 : decode cX1_makeInto 23 = .ok (.iload_n 3, 1) := by decide +kernel
theorem dX1_makeInto_24 : decode cX1_makeInto 24 = .ok (.aload_n 0, 1) := by decide +kernel
theorem dX1_makeInto_25 : decode cX1_makeInto 25 = .ok (.getfield 12, 3) := by decide +kernel
theorem dX1_makeInto_28 : decode cX1_makeInto 28 = .ok (.getfield 63, 3) := by decide +kernel
theorem dX1_makeInto_31 : decode cX1_makeInto 31 = .ok (.if_icmp .ge 30, 3) := by decide +kernel
theorem dX1_makeInto_34 : decode cX1_makeInto 34 = .ok (.aload_n 0, 1) := by decide +kernel
theorem dX1_makeInto_35 : decode cX1_makeInto 35 = .ok (.getfield 28, 3) := by decide +kernel
theorem dX1_makeInto_38 : decode cX1_makeInto 38 = .ok (.iload_n 3, 1) := by decide +kernel
theorem dX1_makeInto_39 : decode cX1_makeInto 39 = .ok (.iaload, 1) := by decide +kernel
theorem dX1_makeInto_40 : decode cX1_makeInto 40 = .ok (.iconst (-1), 1) := by decide +kernel
theorem dX1_makeInto_41 : decode cX1_makeInto 41 = .ok (.if_icmp .eq 14, 3) := by decide +kernel
theorem dX1_makeInto_44 : decode cX1_makeInto 44 = .ok (.aload_n 0, 1) := by decide +kernel
theorem dX1_makeInto_45 : decode cX1_makeInto 45 = .ok (.iload_n 3, 1) := by decide +kernel
theorem dX1_makeInto_46 : decode cX1_makeInto 46 = .ok (.invokevirtual 149, 3) := by decide +kernel
theorem dX1_makeInto_49 : decode cX1_makeInto 49 = .ok (.ifCond .ne 6, 3) := by decide +kernel
theorem dX1_makeInto_52 : decode cX1_makeInto 52 = .ok (.bipush (-3), 2) := by decide +kernel
theorem dX1_makeInto_54 : decode cX1_makeInto 54 = .ok (.ireturn, 1) := by decide +kernel
theorem dX1_makeInto_55 : decode cX1_makeInto 55 = .ok (.iinc 3 1, 3) := by decide +kernel
theorem dX1_makeInto_58 : decode cX1_makeInto 58 = .ok (.goto (-35), 3) := by decide +kernel
theorem dX1_makeInto_61 : decode cX1_makeInto 61 = .ok (.iload_n 2, 1) := by decide +kernel
theorem dX1_makeInto_62 : decode cX1_makeInto 62 = .ok (.aload_n 0, 1) := by decide +kernel
theorem dX1_makeInto_63 : decode cX1_makeInto 63 = .ok (.getfield 146, 3) := by decide +kernel
theorem dX1_makeInto_66 : decode cX1_makeInto 66 = .ok (.iadd, 1) := by decide +kernel
theorem dX1_makeInto_67 : decode cX1_makeInto 67 = .ok (.bipush 64, 2) := by decide +kernel
theorem dX1_makeInto_69 : decode cX1_makeInto 69 = .ok (.if_icmp .le 6, 3) := by decide +kernel
theorem dX1_makeInto_72 : decode cX1_makeInto 72 = .ok (.bipush (-3), 2) := by decide +kernel
theorem dX1_makeInto_74 : decode cX1_makeInto 74 = .ok (.ireturn, 1) := by decide +kernel
theorem dX1_makeInto_75 : decode cX1_makeInto 75 = .ok (.aload_n 0, 1) := by decide +kernel
theorem dX1_makeInto_76 : decode cX1_makeInto 76 = .ok (.getfield 31, 3) := by decide +kernel
theorem dX1_makeInto_79 : decode cX1_makeInto 79 = .ok (.iconst 0, 1) := by decide +kernel
theorem dX1_makeInto_80 : decode cX1_makeInto 80 = .ok (.aload_n 1, 1) := by decide +kernel
theorem dX1_makeInto_81 : decode cX1_makeInto 81 = .ok (.iload_n 2, 1) := by decide +kernel
theorem dX1_makeInto_82 : decode cX1_makeInto 82 = .ok (.aload_n 0, 1) := by decide +kernel
theorem dX1_makeInto_83 : decode cX1_makeInto 83 = .ok (.getfield 146, 3) := by decide +kernel
theorem dX1_makeInto_86 : decode cX1_makeInto 86 = .ok (.invokestatic 152, 3) := by decide +kernel
theorem dX1_makeInto_89 : decode cX1_makeInto 89 = .ok (.aload_n 0, 1) := by decide +kernel
theorem dX1_makeInto_90 : decode cX1_makeInto 90 = .ok (.getfield 146, 3) := by decide +kernel
theorem dX1_makeInto_93 : decode cX1_makeInto 93 = .ok (.ireturn, 1) := by decide +kernel
theorem dX1_chooseRegisters_0 : decode cX1_chooseRegisters 0 = .ok (.aload_n 0, 1) := by decide +kernel
theorem dX1_chooseRegisters_1 : decode cX1_chooseRegisters 1 = .ok (.getfield 28, 3) := by decide +kernel
theorem dX1_chooseRegisters_4 : decode cX1_chooseRegisters 4 = .ok (.iconst (-1), 1) := by decide +kernel
theorem dX1_chooseRegisters_5 : decode cX1_chooseRegisters 5 = .ok (.invokestatic 158, 3) := by decide +kernel
theorem dX1_chooseRegisters_8 : decode cX1_chooseRegisters 8 = .ok (.aload_n 0, 1) := by decide +kernel
theorem dX1_chooseRegisters_9 : decode cX1_chooseRegisters 9 = .ok (.getfield 28, 3) := by decide +kernel
theorem dX1_chooseRegisters_12 : decode cX1_chooseRegisters 12 = .ok (.aload_n 0, 1) := by decide +kernel
theorem dX1_chooseRegisters_13 : decode cX1_chooseRegisters 13 = .ok (.getfield 12, 3) := by decide +kernel
theorem dX1_chooseRegisters_16 : decode cX1_chooseRegisters 16 = .ok (.invokevirtual 83, 3) := by decide +kernel
theorem dX1_chooseRegisters_19 : decode cX1_chooseRegisters 19 = .ok (.aload_n 0, 1) := by decide +kernel
theorem dX1_chooseRegisters_20 : decode cX1_chooseRegisters 20 = .ok (.getfield 38, 3) := by decide +kernel
theorem dX1_chooseRegisters_23 : decode cX1_chooseRegisters 23 = .ok (.iastore, 1) := by decide +kernel
theorem dX1_chooseRegisters_24 : decode cX1_chooseRegisters 24 = .ok (.aload_n 0, 1) := by decide +kernel
theorem dX1_chooseRegisters_25 : decode cX1_chooseRegisters 25 = .ok (.getfield 12, 3) := by decide +kernel
theorem dX1_chooseRegisters_28 : decode cX1_chooseRegisters 28 = .ok (.invokevirtual 83, 3) := by decide +kernel
theorem dX1_chooseRegisters_31 : decode cX1_chooseRegisters 31 = .ok (.istore_n 1, 1) := by decide +kernel
theorem dX1_chooseRegisters_32 : decode cX1_chooseRegisters 32 = .ok (.iload_n 1, 1) := by decide +kernel
theorem dX1_chooseRegisters_33 : decode cX1_chooseRegisters 33 = .ok (.ifCond .lt 54, 3) := by decide +kernel
theorem dX1_chooseRegisters_36 : decode cX1_chooseRegisters 36 = .ok (.aload_n 0, 1) := by decide +kernel
theorem dX1_chooseRegisters_37 : decode cX1_chooseRegisters 37 = .ok (.getfield 34, 3) := by decide +kernel
theorem dX1_chooseRegisters_40 : decode cX1_chooseRegisters 40 = .ok (.aload_n 0, 1) := by decide +kernel
theorem dX1_chooseRegisters_41 : decode cX1_chooseRegisters 41 = .ok (.getfield 25, 3) := by decide +kernel
theorem dX1_chooseRegisters_44 : decode cX1_chooseRegisters 44 = .ok (.iload_n 1, 1) := by decide +kernel
theorem dX1_chooseRegisters_45 : decode cX1_chooseRegisters 45 = .ok (.iaload, 1) := by decide +kernel
theorem dX1_chooseRegisters_46 : decode cX1_chooseRegisters 46 = .ok (.invokevirtual 87, 3) := by decide +kernel
theorem dX1_chooseRegisters_49 : decode cX1_chooseRegisters 49 = .ok (.astore_n 2, 1) := by decide +kernel
theorem dX1_chooseRegisters_50 : decode cX1_chooseRegisters 50 = .ok (.aload_n 0, 1) := by decide +kernel
theorem dX1_chooseRegisters_51 : decode cX1_chooseRegisters 51 = .ok (.getfield 28, 3) := by decide +kernel
theorem dX1_chooseRegisters_54 : decode cX1_chooseRegisters 54 = .ok (.iload_n 1, 1) := by decide +kernel
theorem dX1_chooseRegisters_55 : decode cX1_chooseRegisters 55 = .ok (.iaload, 1) := by decide +kernel
theorem dX1_chooseRegisters_56 : decode cX1_chooseRegisters 56 = .ok (.iconst (-1), 1) := by decide +kernel
theorem dX1_chooseRegisters_57 : decode cX1_chooseRegisters 57 = .ok (.if_icmp .eq 24, 3) := by decide +kernel
theorem dX1_chooseRegisters_60 : decode cX1_chooseRegisters 60 = .ok (.aload_n 2, 1) := by decide +kernel
theorem dX1_chooseRegisters_61 : decode cX1_chooseRegisters 61 = .ok (.ifnull 20, 3) := by decide +kernel
theorem dX1_chooseRegisters_64 : decode cX1_chooseRegisters 64 = .ok (.aload_n 2, 1) := by decide +kernel
theorem dX1_chooseRegisters_65 : decode cX1_chooseRegisters 65 = .ok (.getfield 105, 3) := by decide +kernel
theorem dX1_chooseRegisters_68 : decode cX1_chooseRegisters 68 = .ok (.iconst 3, 1) := by decide +kernel
theorem dX1_chooseRegisters_69 : decode cX1_chooseRegisters 69 = .ok (.if_icmp .lt 12, 3) := by decide +kernel
theorem dX1_chooseRegisters_72 : decode cX1_chooseRegisters 72 = .ok (.aload_n 0, 1) := by decide +kernel
theorem dX1_chooseRegisters_73 : decode cX1_chooseRegisters 73 = .ok (.iload_n 1, 1) := by decide +kernel
theorem dX1_chooseRegisters_74 : decode cX1_chooseRegisters 74 = .ok (.aload_n 2, 1) := by decide +kernel
theorem dX1_chooseRegisters_75 : decode cX1_chooseRegisters 75 = .ok (.getfield 105, 3) := by decide +kernel
theorem dX1_chooseRegisters_78 : decode cX1_chooseRegisters 78 = .ok (.invokevirtual 164, 3) := by decide +kernel
theorem dX1_chooseRegisters_81 : decode cX1_chooseRegisters 81 = .ok (.iinc 1 (-1), 3) := by decide +kernel
theorem dX1_chooseRegisters_84 : decode cX1_chooseRegisters 84 = .ok (.goto (-52), 3) := by decide +kernel
theorem dX1_chooseRegisters_87 : decode cX1_chooseRegisters 87 = .ok (.return_, 1) := by decide +kernel
theorem dX1_chooseSides_0 : decode cX1_chooseSides 0 = .ok (.aload_n 0, 1) := by decide +kernel
theorem dX1_chooseSides_1 : decode cX1_chooseSides 1 = .ok (.getfield 12, 3) := by decide +kernel
theorem dX1_chooseSides_4 : decode cX1_chooseSides 4 = .ok (.getfield 122, 3) := by decide +kernel
theorem dX1_chooseSides_7 : decode cX1_chooseSides 7 = .ok (.iload_n 1, 1) := by decide +kernel
theorem dX1_chooseSides_8 : decode cX1_chooseSides 8 = .ok (.iaload, 1) := by decide +kernel
theorem dX1_chooseSides_9 : decode cX1_chooseSides 9 = .ok (.istore_n 3, 1) := by decide +kernel
theorem dX1_chooseSides_10 : decode cX1_chooseSides 10 = .ok (.aload_n 0, 1) := by decide +kernel
theorem dX1_chooseSides_11 : decode cX1_chooseSides 11 = .ok (.getfield 12, 3) := by decide +kernel
theorem dX1_chooseSides_14 : decode cX1_chooseSides 14 = .ok (.getfield 125, 3) := by decide +kernel
theorem dX1_chooseSides_17 : decode cX1_chooseSides 17 = .ok (.iload_n 1, 1) := by decide +kernel
theorem dX1_chooseSides_18 : decode cX1_chooseSides 18 = .ok (.iaload, 1) := by decide +kernel
theorem dX1_chooseSides_19 : decode cX1_chooseSides 19 = .ok (.istore 4, 2) := by decide +kernel
theorem dX1_chooseSides_21 : decode cX1_chooseSides 21 = .ok (.aload_n 0, 1) := by decide +kernel
theorem dX1_chooseSides_22 : decode cX1_chooseSides 22 = .ok (.getfield 12, 3) := by decide +kernel
theorem dX1_chooseSides_25 : decode cX1_chooseSides 25 = .ok (.iload_n 3, 1) := by decide +kernel
theorem dX1_chooseSides_26 : decode cX1_chooseSides 26 = .ok (.invokevirtual 66, 3) := by decide +kernel
theorem dX1_chooseSides_29 : decode cX1_chooseSides 29 = .ok (.ifCond .eq 14, 3) := by decide +kernel
theorem dX1_chooseSides_32 : decode cX1_chooseSides 32 = .ok (.iload_n 2, 1) := by decide +kernel
theorem dX1_chooseSides_33 : decode cX1_chooseSides 33 = .ok (.invokestatic 131, 3) := by decide +kernel
theorem dX1_chooseSides_36 : decode cX1_chooseSides 36 = .ok (.ifCond .ne 7, 3) := by decide +kernel
theorem dX1_chooseSides_39 : decode cX1_chooseSides 39 = .ok (.iconst 1, 1) := by decide +kernel
theorem dX1_chooseSides_40 : decode cX1_chooseSides 40 = .ok (.goto 4, 3) := by decide +kernel
theorem dX1_chooseSides_43 : decode cX1_chooseSides 43 = .ok (.iconst 0, 1) := by decide +kernel
theorem dX1_chooseSides_44 : decode cX1_chooseSides 44 = .ok (.istore 5, 2) := by decide +kernel
theorem dX1_chooseSides_46 : decode cX1_chooseSides 46 = .ok (.iload 5, 2) := by decide +kernel
theorem dX1_chooseSides_48 : decode cX1_chooseSides 48 = .ok (.ifCond .ne 15, 3) := by decide +kernel
theorem dX1_chooseSides_51 : decode cX1_chooseSides 51 = .ok (.aload_n 0, 1) := by decide +kernel
theorem dX1_chooseSides_52 : decode cX1_chooseSides 52 = .ok (.getfield 28, 3) := by decide +kernel
theorem dX1_chooseSides_55 : decode cX1_chooseSides 55 = .ok (.iload_n 3, 1) := by decide +kernel
theorem dX1_chooseSides_56 : decode cX1_chooseSides 56 = .ok (.aload_n 0, 1) := by decide +kernel
theorem dX1_chooseSides_57 : decode cX1_chooseSides 57 = .ok (.getfield 28, 3) := by decide +kernel
theorem dX1_chooseSides_60 : decode cX1_chooseSides 60 = .ok (.iload_n 1, 1) := by decide +kernel
theorem dX1_chooseSides_61 : decode cX1_chooseSides 61 = .ok (.iaload, 1) := by decide +kernel
theorem dX1_chooseSides_62 : decode cX1_chooseSides 62 = .ok (.iastore, 1) := by decide +kernel
theorem dX1_chooseSides_63 : decode cX1_chooseSides 63 = .ok (.iload_n 2, 1) := by decide +kernel
theorem dX1_chooseSides_64 : decode cX1_chooseSides 64 = .ok (.invokestatic 128, 3) := by decide +kernel
theorem dX1_chooseSides_67 : decode cX1_chooseSides 67 = .ok (.ifCond .eq 44, 3) := by decide +kernel
theorem dX1_chooseSides_70 : decode cX1_chooseSides 70 = .ok (.aload_n 0, 1) := by decide +kernel
theorem dX1_chooseSides_71 : decode cX1_chooseSides 71 = .ok (.getfield 12, 3) := by decide +kernel
theorem dX1_chooseSides_74 : decode cX1_chooseSides 74 = .ok (.iload 4, 2) := by decide +kernel
theorem dX1_chooseSides_76 : decode cX1_chooseSides 76 = .ok (.invokevirtual 66, 3) := by decide +kernel
theorem dX1_chooseSides_79 : decode cX1_chooseSides 79 = .ok (.ifCond .ne 32, 3) := by decide +kernel
theorem dX1_chooseSides_82 : decode cX1_chooseSides 82 = .ok (.aload_n 0, 1) := by decide +kernel
theorem dX1_chooseSides_83 : decode cX1_chooseSides 83 = .ok (.getfield 28, 3) := by decide +kernel
theorem dX1_chooseSides_86 : decode cX1_chooseSides 86 = .ok (.iload 4, 2) := by decide +kernel
theorem dX1_chooseSides_88 : decode cX1_chooseSides 88 = .ok (.iload 5, 2) := by decide +kernel
theorem dX1_chooseSides_90 : decode cX1_chooseSides 90 = .ok (.ifCond .eq 12, 3) := by decide +kernel
theorem dX1_chooseSides_93 : decode cX1_chooseSides 93 = .ok (.aload_n 0, 1) := by decide +kernel
theorem dX1_chooseSides_94 : decode cX1_chooseSides 94 = .ok (.getfield 28, 3) := by decide +kernel
theorem dX1_chooseSides_97 : decode cX1_chooseSides 97 = .ok (.iload_n 1, 1) := by decide +kernel
theorem dX1_chooseSides_98 : decode cX1_chooseSides 98 = .ok (.iaload, 1) := by decide +kernel
theorem dX1_chooseSides_99 : decode cX1_chooseSides 99 = .ok (.goto 11, 3) := by decide +kernel
theorem dX1_chooseSides_102 : decode cX1_chooseSides 102 = .ok (.aload_n 0, 1) := by decide +kernel
theorem dX1_chooseSides_103 : decode cX1_chooseSides 103 = .ok (.getfield 28, 3) := by decide +kernel
theorem dX1_chooseSides_106 : decode cX1_chooseSides 106 = .ok (.iload_n 1, 1) := by decide +kernel
theorem dX1_chooseSides_107 : decode cX1_chooseSides 107 = .ok (.iaload, 1) := by decide +kernel
theorem dX1_chooseSides_108 : decode cX1_chooseSides 108 = .ok (.iconst 1, 1) := by decide +kernel
theorem dX1_chooseSides_109 : decode cX1_chooseSides 109 = .ok (.iadd, 1) := by decide +kernel
theorem dX1_chooseSides_110 : decode cX1_chooseSides 110 = .ok (.iastore, 1) := by decide +kernel
theorem dX1_chooseSides_111 : decode cX1_chooseSides 111 = .ok (.return_, 1) := by decide +kernel
theorem dX1_registerOf_0 : decode cX1_registerOf 0 = .ok (.aload_n 0, 1) := by decide +kernel
theorem dX1_registerOf_1 : decode cX1_registerOf 1 = .ok (.getfield 28, 3) := by decide +kernel
theorem dX1_registerOf_4 : decode cX1_registerOf 4 = .ok (.iload_n 1, 1) := by decide +kernel
theorem dX1_registerOf_5 : decode cX1_registerOf 5 = .ok (.iaload, 1) := by decide +kernel
theorem dX1_registerOf_6 : decode cX1_registerOf 6 = .ok (.iconst (-1), 1) := by decide +kernel
theorem dX1_registerOf_7 : decode cX1_registerOf 7 = .ok (.if_icmp .ne 15, 3) := by decide +kernel
theorem dX1_registerOf_10 : decode cX1_registerOf 10 = .ok (.aload_n 0, 1) := by decide +kernel
theorem dX1_registerOf_11 : decode cX1_registerOf 11 = .ok (.getfield 12, 3) := by decide +kernel
theorem dX1_registerOf_14 : decode cX1_registerOf 14 = .ok (.getfield 73, 3) := by decide +kernel
theorem dX1_registerOf_17 : decode cX1_registerOf 17 = .ok (.iload_n 1, 1) := by decide +kernel
theorem dX1_registerOf_18 : decode cX1_registerOf 18 = .ok (.iaload, 1) := by decide +kernel
theorem dX1_registerOf_19 : decode cX1_registerOf 19 = .ok (.goto 9, 3) := by decide +kernel
theorem dX1_registerOf_22 : decode cX1_registerOf 22 = .ok (.aload_n 0, 1) := by decide +kernel
theorem dX1_registerOf_23 : decode cX1_registerOf 23 = .ok (.getfield 28, 3) := by decide +kernel
theorem dX1_registerOf_26 : decode cX1_registerOf 26 = .ok (.iload_n 1, 1) := by decide +kernel
theorem dX1_registerOf_27 : decode cX1_registerOf 27 = .ok (.iaload, 1) := by decide +kernel
theorem dX1_registerOf_28 : decode cX1_registerOf 28 = .ok (.ireturn, 1) := by decide +kernel
theorem dX1_emit_0 : decode cX1_emit 0 = .ok (.aload_n 0, 1) := by decide +kernel
theorem dX1_emit_1 : decode cX1_emit 1 = .ok (.getfield 12, 3) := by decide +kernel
theorem dX1_emit_4 : decode cX1_emit 4 = .ok (.iload_n 1, 1) := by decide +kernel
theorem dX1_emit_5 : decode cX1_emit 5 = .ok (.invokevirtual 66, 3) := by decide +kernel
theorem dX1_emit_8 : decode cX1_emit 8 = .ok (.ifCond .eq 10, 3) := by decide +kernel
theorem dX1_emit_11 : decode cX1_emit 11 = .ok (.aload_n 0, 1) := by decide +kernel
theorem dX1_emit_12 : decode cX1_emit 12 = .ok (.invokevirtual 56, 3) := by decide +kernel
theorem dX1_emit_15 : decode cX1_emit 15 = .ok (.goto 9, 3) := by decide +kernel
theorem dX1_emit_18 : decode cX1_emit 18 = .ok (.aload_n 0, 1) := by decide +kernel
theorem dX1_emit_19 : decode cX1_emit 19 = .ok (.getfield 25, 3) := by decide +kernel
theorem dX1_emit_22 : decode cX1_emit 22 = .ok (.iload_n 1, 1) := by decide +kernel
theorem dX1_emit_23 : decode cX1_emit 23 = .ok (.iaload, 1) := by decide +kernel
theorem dX1_emit_24 : decode cX1_emit 24 = .ok (.istore_n 2, 1) := by decide +kernel
theorem dX1_emit_25 : decode cX1_emit 25 = .ok (.aload_n 0, 1) := by decide +kernel
theorem dX1_emit_26 : decode cX1_emit 26 = .ok (.getfield 34, 3) := by decide +kernel
theorem dX1_emit_29 : decode cX1_emit 29 = .ok (.iload_n 2, 1) := by decide +kernel
theorem dX1_emit_30 : decode cX1_emit 30 = .ok (.invokevirtual 87, 3) := by decide +kernel
theorem dX1_emit_33 : decode cX1_emit 33 = .ok (.astore_n 3, 1) := by decide +kernel
theorem dX1_emit_34 : decode cX1_emit 34 = .ok (.aload_n 3, 1) := by decide +kernel
theorem dX1_emit_35 : decode cX1_emit 35 = .ok (.ifnull 28, 3) := by decide +kernel
theorem dX1_emit_38 : decode cX1_emit 38 = .ok (.aload_n 0, 1) := by decide +kernel
theorem dX1_emit_39 : decode cX1_emit 39 = .ok (.getfield 28, 3) := by decide +kernel
theorem dX1_emit_42 : decode cX1_emit 42 = .ok (.iload_n 1, 1) := by decide +kernel
theorem dX1_emit_43 : decode cX1_emit 43 = .ok (.iaload, 1) := by decide +kernel
theorem dX1_emit_44 : decode cX1_emit 44 = .ok (.aload_n 0, 1) := by decide +kernel
theorem dX1_emit_45 : decode cX1_emit 45 = .ok (.getfield 34, 3) := by decide +kernel
theorem dX1_emit_48 : decode cX1_emit 48 = .ok (.invokevirtual 167, 3) := by decide +kernel
theorem dX1_emit_51 : decode cX1_emit 51 = .ok (.if_icmp .ge 12, 3) := by decide +kernel
theorem dX1_emit_54 : decode cX1_emit 54 = .ok (.aload_n 0, 1) := by decide +kernel
theorem dX1_emit_55 : decode cX1_emit 55 = .ok (.getfield 146, 3) := by decide +kernel
theorem dX1_emit_58 : decode cX1_emit 58 = .ok (.bipush 64, 2) := by decide +kernel
theorem dX1_emit_60 : decode cX1_emit 60 = .ok (.if_icmp .lt 5, 3) := by decide +kernel
theorem dX1_emit_63 : decode cX1_emit 63 = .ok (.iconst 0, 1) := by decide +kernel
theorem dX1_emit_64 : decode cX1_emit 64 = .ok (.ireturn, 1) := by decide +kernel
theorem dX1_emit_65 : decode cX1_emit 65 = .ok (.aload_n 3, 1) := by decide +kernel
theorem dX1_emit_66 : decode cX1_emit 66 = .ok (.aload_n 3, 1) := by decide +kernel
theorem dX1_emit_67 : decode cX1_emit 67 = .ok (.getfield 170, 3) := by decide +kernel
theorem dX1_emit_70 : decode cX1_emit 70 = .ok (.iconst 0, 1) := by decide +kernel
theorem dX1_emit_71 : decode cX1_emit 71 = .ok (.aload_n 0, 1) := by decide +kernel
theorem dX1_emit_72 : decode cX1_emit 72 = .ok (.getfield 28, 3) := by decide +kernel
theorem dX1_emit_75 : decode cX1_emit 75 = .ok (.iload_n 1, 1) := by decide +kernel
theorem dX1_emit_76 : decode cX1_emit 76 = .ok (.iaload, 1) := by decide +kernel
theorem dX1_emit_77 : decode cX1_emit 77 = .ok (.invokevirtual 173, 3) := by decide +kernel
theorem dX1_emit_80 : decode cX1_emit 80 = .ok (.istore 4, 2) := by decide +kernel
theorem dX1_emit_82 : decode cX1_emit 82 = .ok (.aload_n 3, 1) := by decide +kernel
theorem dX1_emit_83 : decode cX1_emit 83 = .ok (.getfield 105, 3) := by decide +kernel
theorem dX1_emit_86 : decode cX1_emit 86 = .ok (.iconst 2, 1) := by decide +kernel
theorem dX1_emit_87 : decode cX1_emit 87 = .ok (.if_icmp .ne 24, 3) := by decide +kernel
theorem dX1_emit_90 : decode cX1_emit 90 = .ok (.aload_n 3, 1) := by decide +kernel
theorem dX1_emit_91 : decode cX1_emit 91 = .ok (.iload 4, 2) := by decide +kernel
theorem dX1_emit_93 : decode cX1_emit 93 = .ok (.iconst 1, 1) := by decide +kernel
theorem dX1_emit_94 : decode cX1_emit 94 = .ok (.aload_n 0, 1) := by decide +kernel
theorem dX1_emit_95 : decode cX1_emit 95 = .ok (.getfield 12, 3) := by decide +kernel
theorem dX1_emit_98 : decode cX1_emit 98 = .ok (.getfield 73, 3) := by decide +kernel
theorem dX1_emit_101 : decode cX1_emit 101 = .ok (.iload_n 1, 1) := by decide +kernel
theorem dX1_emit_102 : decode cX1_emit 102 = .ok (.iaload, 1) := by decide +kernel
theorem dX1_emit_103 : decode cX1_emit 103 = .ok (.invokevirtual 173, 3) := by decide +kernel
theorem dX1_emit_106 : decode cX1_emit 106 = .ok (.istore 4, 2) := by decide +kernel
theorem dX1_emit_108 : decode cX1_emit 108 = .ok (.goto 116, 3) := by decide +kernel
theorem dX1_emit_111 : decode cX1_emit 111 = .ok (.aload_n 3, 1) := by decide +kernel
theorem dX1_emit_112 : decode cX1_emit 112 = .ok (.getfield 105, 3) := by decide +kernel
theorem dX1_emit_115 : decode cX1_emit 115 = .ok (.iconst 1, 1) := by decide +kernel
theorem dX1_emit_116 : decode cX1_emit 116 = .ok (.if_icmp .ne 24, 3) := by decide +kernel
theorem dX1_emit_119 : decode cX1_emit 119 = .ok (.aload_n 3, 1) := by decide +kernel
theorem dX1_emit_120 : decode cX1_emit 120 = .ok (.iload 4, 2) := by decide +kernel
theorem dX1_emit_122 : decode cX1_emit 122 = .ok (.iconst 3, 1) := by decide +kernel
theorem dX1_emit_123 : decode cX1_emit 123 = .ok (.aload_n 0, 1) := by decide +kernel
theorem dX1_emit_124 : decode cX1_emit 124 = .ok (.getfield 12, 3) := by decide +kernel
theorem dX1_emit_127 : decode cX1_emit 127 = .ok (.getfield 73, 3) := by decide +kernel
theorem dX1_emit_130 : decode cX1_emit 130 = .ok (.iload_n 1, 1) := by decide +kernel
theorem dX1_emit_131 : decode cX1_emit 131 = .ok (.iaload, 1) := by decide +kernel
theorem dX1_emit_132 : decode cX1_emit 132 = .ok (.invokevirtual 173, 3) := by decide +kernel
theorem dX1_emit_135 : decode cX1_emit 135 = .ok (.istore 4, 2) := by decide +kernel
theorem dX1_emit_137 : decode cX1_emit 137 = .ok (.goto 87, 3) := by decide +kernel
theorem dX1_emit_140 : decode cX1_emit 140 = .ok (.aload_n 0, 1) := by decide +kernel
theorem dX1_emit_141 : decode cX1_emit 141 = .ok (.getfield 12, 3) := by decide +kernel
theorem dX1_emit_144 : decode cX1_emit 144 = .ok (.getfield 122, 3) := by decide +kernel
theorem dX1_emit_147 : decode cX1_emit 147 = .ok (.iload_n 1, 1) := by decide +kernel
theorem dX1_emit_148 : decode cX1_emit 148 = .ok (.iaload, 1) := by decide +kernel
theorem dX1_emit_149 : decode cX1_emit 149 = .ok (.istore 5, 2) := by decide +kernel
theorem dX1_emit_151 : decode cX1_emit 151 = .ok (.aload_n 0, 1) := by decide +kernel
theorem dX1_emit_152 : decode cX1_emit 152 = .ok (.getfield 12, 3) := by decide +kernel
theorem dX1_emit_155 : decode cX1_emit 155 = .ok (.getfield 125, 3) := by decide +kernel
theorem dX1_emit_158 : decode cX1_emit 158 = .ok (.iload_n 1, 1) := by decide +kernel
theorem dX1_emit_159 : decode cX1_emit 159 = .ok (.iaload, 1) := by decide +kernel
theorem dX1_emit_160 : decode cX1_emit 160 = .ok (.istore 6, 2) := by decide +kernel
theorem dX1_emit_162 : decode cX1_emit 162 = .ok (.aload_n 3, 1) := by decide +kernel
theorem dX1_emit_163 : decode cX1_emit 163 = .ok (.iload 4, 2) := by decide +kernel
theorem dX1_emit_165 : decode cX1_emit 165 = .ok (.iconst 1, 1) := by decide +kernel
theorem dX1_emit_166 : decode cX1_emit 166 = .ok (.aload_n 0, 1) := by decide +kernel
theorem dX1_emit_167 : decode cX1_emit 167 = .ok (.aload_n 3, 1) := by decide +kernel
theorem dX1_emit_168 : decode cX1_emit 168 = .ok (.getfield 105, 3) := by decide +kernel
theorem dX1_emit_171 : decode cX1_emit 171 = .ok (.iconst 5, 1) := by decide +kernel
theorem dX1_emit_172 : decode cX1_emit 172 = .ok (.if_icmp .ne 8, 3) := by decide +kernel
theorem dX1_emit_175 : decode cX1_emit 175 = .ok (.iload 6, 2) := by decide +kernel
theorem dX1_emit_177 : decode cX1_emit 177 = .ok (.goto 5, 3) := by decide +kernel
theorem dX1_emit_180 : decode cX1_emit 180 = .ok (.iload 5, 2) := by decide +kernel
theorem dX1_emit_182 : decode cX1_emit 182 = .ok (.invokevirtual 177, 3) := by decide +kernel
theorem dX1_emit_185 : decode cX1_emit 185 = .ok (.invokevirtual 173, 3) := by decide +kernel
theorem dX1_emit_188 : decode cX1_emit 188 = .ok (.istore 4, 2) := by decide +kernel
theorem dX1_emit_190 : decode cX1_emit 190 = .ok (.aload_n 3, 1) := by decide +kernel
theorem dX1_emit_191 : decode cX1_emit 191 = .ok (.iload 4, 2) := by decide +kernel
theorem dX1_emit_193 : decode cX1_emit 193 = .ok (.iconst 2, 1) := by decide +kernel
theorem dX1_emit_194 : decode cX1_emit 194 = .ok (.aload_n 0, 1) := by decide +kernel
theorem dX1_emit_195 : decode cX1_emit 195 = .ok (.iload 6, 2) := by decide +kernel
theorem dX1_emit_197 : decode cX1_emit 197 = .ok (.invokevirtual 177, 3) := by decide +kernel
theorem dX1_emit_200 : decode cX1_emit 200 = .ok (.invokevirtual 173, 3) := by decide +kernel
theorem dX1_emit_203 : decode cX1_emit 203 = .ok (.istore 4, 2) := by decide +kernel
theorem dX1_emit_205 : decode cX1_emit 205 = .ok (.aload_n 3, 1) := by decide +kernel
theorem dX1_emit_206 : decode cX1_emit 206 = .ok (.iload 4, 2) := by decide +kernel
theorem dX1_emit_208 : decode cX1_emit 208 = .ok (.iconst 3, 1) := by decide +kernel
theorem dX1_emit_209 : decode cX1_emit 209 = .ok (.aload_n 0, 1) := by decide +kernel
theorem dX1_emit_210 : decode cX1_emit 210 = .ok (.getfield 12, 3) := by decide +kernel
theorem dX1_emit_213 : decode cX1_emit 213 = .ok (.getfield 73, 3) := by decide +kernel
theorem dX1_emit_216 : decode cX1_emit 216 = .ok (.iload 6, 2) := by decide +kernel
theorem dX1_emit_218 : decode cX1_emit 218 = .ok (.iaload, 1) := by decide +kernel
theorem dX1_emit_219 : decode cX1_emit 219 = .ok (.invokevirtual 173, 3) := by decide +kernel
theorem dX1_emit_222 : decode cX1_emit 222 = .ok (.istore 4, 2) := by decide +kernel
theorem dX1_emit_224 : decode cX1_emit 224 = .ok (.aload_n 0, 1) := by decide +kernel
theorem dX1_emit_225 : decode cX1_emit 225 = .ok (.getfield 31, 3) := by decide +kernel
theorem dX1_emit_228 : decode cX1_emit 228 = .ok (.aload_n 0, 1) := by decide +kernel
theorem dX1_emit_229 : decode cX1_emit 229 = .ok (.dup, 1) := by decide +kernel
theorem dX1_emit_230 : decode cX1_emit 230 = .ok (.getfield 146, 3) := by decide +kernel
theorem dX1_emit_233 : decode cX1_emit 233 = .ok (.dup_x1, 1) := by decide +kernel
theorem dX1_emit_234 : decode cX1_emit 234 = .ok (.iconst 1, 1) := by decide +kernel
theorem dX1_emit_235 : decode cX1_emit 235 = .ok (.iadd, 1) := by decide +kernel
theorem dX1_emit_236 : decode cX1_emit 236 = .ok (.putfield 146, 3) := by decide +kernel
theorem dX1_emit_239 : decode cX1_emit 239 = .ok (.iload 4, 2) := by decide +kernel
theorem dX1_emit_241 : decode cX1_emit 241 = .ok (.iastore, 1) := by decide +kernel
theorem dX1_emit_242 : decode cX1_emit 242 = .ok (.iconst 1, 1) := by decide +kernel
theorem dX1_emit_243 : decode cX1_emit 243 = .ok (.ireturn, 1) := by decide +kernel
theorem dX2_init_0 : decode cX2_init 0 = .ok (.aload_n 0, 1) := by decide +kernel
theorem dX2_init_1 : decode cX2_init 1 = .ok (.invokespecial 3, 3) := by decide +kernel
theorem dX2_init_4 : decode cX2_init 4 = .ok (.aload_n 0, 1) := by decide +kernel
theorem dX2_init_5 : decode cX2_init 5 = .ok (.bipush 10, 2) := by decide +kernel
theorem dX2_init_7 : decode cX2_init 7 = .ok (.newarray .int, 2) := by decide +kernel
theorem dX2_init_9 : decode cX2_init 9 = .ok (.putfield 11, 3) := by decide +kernel
theorem dX2_init_12 : decode cX2_init 12 = .ok (.aload_n 0, 1) := by decide +kernel
theorem dX2_init_13 : decode cX2_init 13 = .ok (.bipush 9, 2) := by decide +kernel
theorem dX2_init_15 : decode cX2_init 15 = .ok (.newarray .int, 2) := by decide +kernel
theorem dX2_init_17 : decode cX2_init 17 = .ok (.putfield 15, 3) := by decide +kernel
theorem dX2_init_20 : decode cX2_init 20 = .ok (.aload_n 0, 1) := by decide +kernel
theorem dX2_init_21 : decode cX2_init 21 = .ok (.bipush 9, 2) := by decide +kernel
theorem dX2_init_23 : decode cX2_init 23 = .ok (.newarray .int, 2) := by decide +kernel
theorem dX2_init_25 : decode cX2_init 25 = .ok (.putfield 18, 3) := by decide +kernel
theorem dX2_init_28 : decode cX2_init 28 = .ok (.aload_n 0, 1) := by decide +kernel
theorem dX2_init_29 : decode cX2_init 29 = .ok (.bipush 10, 2) := by decide +kernel
theorem dX2_init_31 : decode cX2_init 31 = .ok (.newarray .int, 2) := by decide +kernel
theorem dX2_init_33 : decode cX2_init 33 = .ok (.putfield 21, 3) := by decide +kernel
theorem dX2_init_36 : decode cX2_init 36 = .ok (.aload_n 0, 1) := by decide +kernel
theorem dX2_init_37 : decode cX2_init 37 = .ok (.iconst 3, 1) := by decide +kernel
theorem dX2_init_38 : decode cX2_init 38 = .ok (.putfield 24, 3) := by decide +kernel
theorem dX2_init_41 : decode cX2_init 41 = .ok (.return_, 1) := by decide +kernel
theorem dX2_bitOf_0 : decode cX2_bitOf 0 = .ok (.iload_n 0, 1) := by decide +kernel
theorem dX2_bitOf_1 : decode cX2_bitOf 1 = .ok (.iconst 5, 1) := by decide +kernel
theorem dX2_bitOf_2 : decode cX2_bitOf 2 = .ok (.if_icmp .lt 8, 3) := by decide +kernel
theorem dX2_bitOf_5 : decode cX2_bitOf 5 = .ok (.bipush 32, 2) := by decide +kernel
theorem dX2_bitOf_7 : decode cX2_bitOf 7 = .ok (.goto 6, 3) := by decide +kernel
theorem dX2_bitOf_10 : decode cX2_bitOf 10 = .ok (.iconst 1, 1) := by decide +kernel
theorem dX2_bitOf_11 : decode cX2_bitOf 11 = .ok (.iload_n 0, 1) := by decide +kernel
theorem dX2_bitOf_12 : decode cX2_bitOf 12 = .ok (.ishl, 1) := by decide +kernel
theorem dX2_bitOf_13 : decode cX2_bitOf 13 = .ok (.ireturn, 1) := by decide +kernel
theorem dX2_valuesOf_0 : decode cX2_valuesOf 0 = .ok (.iload_n 0, 1) := by decide +kernel
theorem dX2_valuesOf_1 : decode cX2_valuesOf 1 = .ok (.iconst 3, 1) := by decide +kernel
theorem dX2_valuesOf_2 : decode cX2_valuesOf 2 = .ok (.if_icmp .ne 7, 3) := by decide +kernel
theorem dX2_valuesOf_5 : decode cX2_valuesOf 5 = .ok (.iconst 2, 1) := by decide +kernel
theorem dX2_valuesOf_6 : decode cX2_valuesOf 6 = .ok (.goto 4, 3) := by decide +kernel
theorem dX2_valuesOf_9 : decode cX2_valuesOf 9 = .ok (.iconst 4, 1) := by decide +kernel
theorem dX2_valuesOf_10 : decode cX2_valuesOf 10 = .ok (.ireturn, 1) := by decide +kernel
theorem dX2_startOver_0 : decode cX2_startOver 0 = .ok (.aload_n 0, 1) := by decide +kernel
theorem dX2_startOver_1 : decode cX2_startOver 1 = .ok (.getfield 11, 3) := by decide +kernel
theorem dX2_startOver_4 : decode cX2_startOver 4 = .ok (.iconst (-1), 1) := by decide +kernel
theorem dX2_startOver_5 : decode cX2_startOver 5 = .ok (.invokestatic 28, 3) := by decide +kernel
theorem dX2_startOver_8 : decode cX2_startOver 8 = .ok (.aload_n 0, 1) := by decide +kernel
theorem dX2_startOver_9 : decode cX2_startOver 9 = .ok (.iconst 0, 1) := by decide +kernel
theorem dX2_startOver_10 : decode cX2_startOver 10 = .ok (.putfield 34, 3) := by decide +kernel
theorem dX2_startOver_13 : decode cX2_startOver 13 = .ok (.return_, 1) := by decide +kernel
theorem dX2_goToNext_0 : decode cX2_goToNext 0 = .ok (.aload_n 0, 1) := by decide +kernel
theorem dX2_goToNext_1 : decode cX2_goToNext 1 = .ok (.getfield 34, 3) := by decide +kernel
theorem dX2_goToNext_4 : decode cX2_goToNext 4 = .ok (.istore_n 1, 1) := by decide +kernel
theorem dX2_goToNext_5 : decode cX2_goToNext 5 = .ok (.iload_n 1, 1) := by decide +kernel
theorem dX2_goToNext_6 : decode cX2_goToNext 6 = .ok (.ifCond .le 59, 3) := by decide +kernel
theorem dX2_goToNext_9 : decode cX2_goToNext 9 = .ok (.aload_n 0, 1) := by decide +kernel
theorem dX2_goToNext_10 : decode cX2_goToNext 10 = .ok (.getfield 21, 3) := by decide +kernel
theorem dX2_goToNext_13 : decode cX2_goToNext 13 = .ok (.iload_n 1, 1) := by decide +kernel
theorem dX2_goToNext_14 : decode cX2_goToNext 14 = .ok (.iconst 1, 1) := by decide +kernel
theorem dX2_goToNext_15 : decode cX2_goToNext 15 = .ok (.isub, 1) := by decide +kernel
theorem dX2_goToNext_16 : decode cX2_goToNext 16 = .ok (.iaload, 1) := by decide +kernel
theorem dX2_goToNext_17 : decode cX2_goToNext 17 = .ok (.istore_n 2, 1) := by decide +kernel
theorem dX2_goToNext_18 : decode cX2_goToNext 18 = .ok (.aload_n 0, 1) := by decide +kernel
theorem dX2_goToNext_19 : decode cX2_goToNext 19 = .ok (.getfield 11, 3) := by decide +kernel
theorem dX2_goToNext_22 : decode cX2_goToNext 22 = .ok (.iload_n 2, 1) := by decide +kernel
theorem dX2_goToNext_23 : decode cX2_goToNext 23 = .ok (.iaload, 1) := by decide +kernel
theorem dX2_goToNext_24 : decode cX2_goToNext 24 = .ok (.iconst 1, 1) := by decide +kernel
theorem dX2_goToNext_25 : decode cX2_goToNext 25 = .ok (.iadd, 1) := by decide +kernel
theorem dX2_goToNext_26 : decode cX2_goToNext 26 = .ok (.iload_n 2, 1) := by decide +kernel
theorem dX2_goToNext_27 : decode cX2_goToNext 27 = .ok (.invokestatic 37, 3) := by decide +kernel
theorem dX2_goToNext_30 : decode cX2_goToNext 30 = .ok (.if_icmp .ge 15, 3) := by decide +kernel
theorem dX2_goToNext_33 : decode cX2_goToNext 33 = .ok (.aload_n 0, 1) := by decide +kernel
theorem dX2_goToNext_34 : decode cX2_goToNext 34 = .ok (.getfield 11, 3) := by decide +kernel
theorem dX2_goToNext_37 : decode cX2_goToNext 37 = .ok (.iload_n 2, 1) := by decide +kernel
theorem dX2_goToNext_38 : decode cX2_goToNext 38 = .ok (.dup2, 1) := by decide +kernel
theorem dX2_goToNext_39 : decode cX2_goToNext 39 = .ok (.iaload, 1) := by decide +kernel
theorem dX2_goToNext_40 : decode cX2_goToNext 40 = .ok (.iconst 1, 1) := by decide +kernel
theorem dX2_goToNext_41 : decode cX2_goToNext 41 = .ok (.iadd, 1) := by decide +kernel
theorem dX2_goToNext_42 : decode cX2_goToNext 42 = .ok (.iastore, 1) := by decide +kernel
theorem dX2_goToNext_43 : decode cX2_goToNext 43 = .ok (.iconst 1, 1) := by decide +kernel
theorem dX2_goToNext_44 : decode cX2_goToNext 44 = .ok (.ireturn, 1) := by decide +kernel
theorem dX2_goToNext_45 : decode cX2_goToNext 45 = .ok (.aload_n 0, 1) := by decide +kernel
theorem dX2_goToNext_46 : decode cX2_goToNext 46 = .ok (.getfield 11, 3) := by decide +kernel
theorem dX2_goToNext_49 : decode cX2_goToNext 49 = .ok (.iload_n 2, 1) := by decide +kernel
theorem dX2_goToNext_50 : decode cX2_goToNext 50 = .ok (.iconst (-1), 1) := by decide +kernel
theorem dX2_goToNext_51 : decode cX2_goToNext 51 = .ok (.iastore, 1) := by decide +kernel
theorem dX2_goToNext_52 : decode cX2_goToNext 52 = .ok (.aload_n 0, 1) := by decide +kernel
theorem dX2_goToNext_53 : decode cX2_goToNext 53 = .ok (.iload_n 1, 1) := by decide +kernel
theorem dX2_goToNext_54 : decode cX2_goToNext 54 = .ok (.iconst 1, 1) := by decide +kernel
theorem dX2_goToNext_55 : decode cX2_goToNext 55 = .ok (.isub, 1) := by decide +kernel
theorem dX2_goToNext_56 : decode cX2_goToNext 56 = .ok (.putfield 34, 3) := by decide +kernel
theorem dX2_goToNext_59 : decode cX2_goToNext 59 = .ok (.iinc 1 (-1), 3) := by decide +kernel
theorem dX2_goToNext_62 : decode cX2_goToNext 62 = .ok (.goto (-57), 3) := by decide +kernel
theorem dX2_goToNext_65 : decode cX2_goToNext 65 = .ok (.iconst 0, 1) := by decide +kernel
theorem dX2_goToNext_66 : decode cX2_goToNext 66 = .ok (.ireturn, 1) := by decide +kernel
theorem dX2_aheadIn_0 : decode cX2_aheadIn 0 = .ok (.aload_n 0, 1) := by decide +kernel
theorem dX2_aheadIn_1 : decode cX2_aheadIn 1 = .ok (.getfield 11, 3) := by decide +kernel
theorem dX2_aheadIn_4 : decode cX2_aheadIn 4 = .ok (.iload_n 1, 1) := by decide +kernel
theorem dX2_aheadIn_5 : decode cX2_aheadIn 5 = .ok (.iaload, 1) := by decide +kernel
theorem dX2_aheadIn_6 : decode cX2_aheadIn 6 = .ok (.iconst (-1), 1) := by decide +kernel
theorem dX2_aheadIn_7 : decode cX2_aheadIn 7 = .ok (.if_icmp .ne 36, 3) := by decide +kernel
theorem dX2_aheadIn_10 : decode cX2_aheadIn 10 = .ok (.aload_n 0, 1) := by decide +kernel
theorem dX2_aheadIn_11 : decode cX2_aheadIn 11 = .ok (.getfield 34, 3) := by decide +kernel
theorem dX2_aheadIn_14 : decode cX2_aheadIn 14 = .ok (.bipush 10, 2) := by decide +kernel
theorem dX2_aheadIn_16 : decode cX2_aheadIn 16 = .ok (.if_icmp .ge 27, 3) := by decide +kernel
theorem dX2_aheadIn_19 : decode cX2_aheadIn 19 = .ok (.aload_n 0, 1) := by decide +kernel
theorem dX2_aheadIn_20 : decode cX2_aheadIn 20 = .ok (.getfield 11, 3) := by decide +kernel
theorem dX2_aheadIn_23 : decode cX2_aheadIn 23 = .ok (.iload_n 1, 1) := by decide +kernel
theorem dX2_aheadIn_24 : decode cX2_aheadIn 24 = .ok (.iconst 0, 1) := by decide +kernel
theorem dX2_aheadIn_25 : decode cX2_aheadIn 25 = .ok (.iastore, 1) := by decide +kernel
theorem dX2_aheadIn_26 : decode cX2_aheadIn 26 = .ok (.aload_n 0, 1) := by decide +kernel
theorem dX2_aheadIn_27 : decode cX2_aheadIn 27 = .ok (.getfield 21, 3) := by decide +kernel
theorem dX2_aheadIn_30 : decode cX2_aheadIn 30 = .ok (.aload_n 0, 1) := by decide +kernel
theorem dX2_aheadIn_31 : decode cX2_aheadIn 31 = .ok (.dup, 1) := by decide +kernel
theorem dX2_aheadIn_32 : decode cX2_aheadIn 32 = .ok (.getfield 34, 3) := by decide +kernel
theorem dX2_aheadIn_35 : decode cX2_aheadIn 35 = .ok (.dup_x1, 1) := by decide +kernel
theorem dX2_aheadIn_36 : decode cX2_aheadIn 36 = .ok (.iconst 1, 1) := by decide +kernel
theorem dX2_aheadIn_37 : decode cX2_aheadIn 37 = .ok (.iadd, 1) := by decide +kernel
theorem dX2_aheadIn_38 : decode cX2_aheadIn 38 = .ok (.putfield 34, 3) := by decide +kernel
theorem dX2_aheadIn_41 : decode cX2_aheadIn 41 = .ok (.iload_n 1, 1) := by decide +kernel
theorem dX2_aheadIn_42 : decode cX2_aheadIn 42 = .ok (.iastore, 1) := by decide +kernel
theorem dX2_aheadIn_43 : decode cX2_aheadIn 43 = .ok (.aload_n 0, 1) := by decide +kernel
theorem dX2_aheadIn_44 : decode cX2_aheadIn 44 = .ok (.getfield 11, 3) := by decide +kernel
theorem dX2_aheadIn_47 : decode cX2_aheadIn 47 = .ok (.iload_n 1, 1) := by decide +kernel
theorem dX2_aheadIn_48 : decode cX2_aheadIn 48 = .ok (.iaload, 1) := by decide +kernel
theorem dX2_aheadIn_49 : decode cX2_aheadIn 49 = .ok (.ireturn, 1) := by decide +kernel
theorem dX2_inSlot_0 : decode cX2_inSlot 0 = .ok (.iload_n 1, 1) := by decide +kernel
theorem dX2_inSlot_1 : decode cX2_inSlot 1 = .ok (.bipush 9, 2) := by decide +kernel
theorem dX2_inSlot_3 : decode cX2_inSlot 3 = .ok (.if_icmp .ge 22, 3) := by decide +kernel
theorem dX2_inSlot_6 : decode cX2_inSlot 6 = .ok (.aload_n 0, 1) := by decide +kernel
theorem dX2_inSlot_7 : decode cX2_inSlot 7 = .ok (.getfield 15, 3) := by decide +kernel
theorem dX2_inSlot_10 : decode cX2_inSlot 10 = .ok (.iload_n 1, 1) := by decide +kernel
theorem dX2_inSlot_11 : decode cX2_inSlot 11 = .ok (.iaload, 1) := by decide +kernel
theorem dX2_inSlot_12 : decode cX2_inSlot 12 = .ok (.iconst (-1), 1) := by decide +kernel
theorem dX2_inSlot_13 : decode cX2_inSlot 13 = .ok (.if_icmp .eq 12, 3) := by decide +kernel
theorem dX2_inSlot_16 : decode cX2_inSlot 16 = .ok (.aload_n 0, 1) := by decide +kernel
theorem dX2_inSlot_17 : decode cX2_inSlot 17 = .ok (.getfield 15, 3) := by decide +kernel
theorem dX2_inSlot_20 : decode cX2_inSlot 20 = .ok (.iload_n 1, 1) := by decide +kernel
theorem dX2_inSlot_21 : decode cX2_inSlot 21 = .ok (.iaload, 1) := by decide +kernel
theorem dX2_inSlot_22 : decode cX2_inSlot 22 = .ok (.goto 8, 3) := by decide +kernel
theorem dX2_inSlot_25 : decode cX2_inSlot 25 = .ok (.aload_n 0, 1) := by decide +kernel
theorem dX2_inSlot_26 : decode cX2_inSlot 26 = .ok (.iload_n 1, 1) := by decide +kernel
theorem dX2_inSlot_27 : decode cX2_inSlot 27 = .ok (.invokevirtual 41, 3) := by decide +kernel
theorem dX2_inSlot_30 : decode cX2_inSlot 30 = .ok (.ireturn, 1) := by decide +kernel
theorem dX2_slotOf_0 : decode cX2_slotOf 0 = .ok (.iload_n 0, 1) := by decide +kernel
theorem dX2_slotOf_1 : decode cX2_slotOf 1 = .ok (.tableswitch 46 1 5 #[35, 37, 39, 42, 44], 35) := by decide +kernel
theorem dX2_slotOf_36 : decode cX2_slotOf 36 = .ok (.iconst 1, 1) := by decide +kernel
theorem dX2_slotOf_37 : decode cX2_slotOf 37 = .ok (.ireturn, 1) := by decide +kernel
theorem dX2_slotOf_38 : decode cX2_slotOf 38 = .ok (.iconst 2, 1) := by decide +kernel
theorem dX2_slotOf_39 : decode cX2_slotOf 39 = .ok (.ireturn, 1) := by decide +kernel
theorem dX2_slotOf_40 : decode cX2_slotOf 40 = .ok (.bipush 9, 2) := by decide +kernel
theorem dX2_slotOf_42 : decode cX2_slotOf 42 = .ok (.ireturn, 1) := by decide +kernel
theorem dX2_slotOf_43 : decode cX2_slotOf 43 = .ok (.iconst 3, 1) := by decide +kernel
theorem dX2_slotOf_44 : decode cX2_slotOf 44 = .ok (.ireturn, 1) := by decide +kernel
theorem dX2_slotOf_45 : decode cX2_slotOf 45 = .ok (.iconst 4, 1) := by decide +kernel
theorem dX2_slotOf_46 : decode cX2_slotOf 46 = .ok (.ireturn, 1) := by decide +kernel
theorem dX2_slotOf_47 : decode cX2_slotOf 47 = .ok (.iconst 0, 1) := by decide +kernel
theorem dX2_slotOf_48 : decode cX2_slotOf 48 = .ok (.ireturn, 1) := by decide +kernel
theorem dX2_wordOf_0 : decode cX2_wordOf 0 = .ok (.iload_n 1, 1) := by decide +kernel
theorem dX2_wordOf_1 : decode cX2_wordOf 1 = .ok (.bipush 16, 2) := by decide +kernel
theorem dX2_wordOf_3 : decode cX2_wordOf 3 = .ok (.if_icmp .lt 13, 3) := by decide +kernel
theorem dX2_wordOf_6 : decode cX2_wordOf 6 = .ok (.iload_n 1, 1) := by decide +kernel
theorem dX2_wordOf_7 : decode cX2_wordOf 7 = .ok (.bipush 16, 2) := by decide +kernel
theorem dX2_wordOf_9 : decode cX2_wordOf 9 = .ok (.isub, 1) := by decide +kernel
theorem dX2_wordOf_10 : decode cX2_wordOf 10 = .ok (.aload_n 0, 1) := by decide +kernel
theorem dX2_wordOf_11 : decode cX2_wordOf 11 = .ok (.getfield 24, 3) := by decide +kernel
theorem dX2_wordOf_14 : decode cX2_wordOf 14 = .ok (.iand, 1) := by decide +kernel
theorem dX2_wordOf_15 : decode cX2_wordOf 15 = .ok (.ireturn, 1) := by decide +kernel
theorem dX2_wordOf_16 : decode cX2_wordOf 16 = .ok (.aload_n 0, 1) := by decide +kernel
theorem dX2_wordOf_17 : decode cX2_wordOf 17 = .ok (.iload_n 1, 1) := by decide +kernel
theorem dX2_wordOf_18 : decode cX2_wordOf 18 = .ok (.bipush 6, 2) := by decide +kernel
theorem dX2_wordOf_20 : decode cX2_wordOf 20 = .ok (.if_icmp .lt 10, 3) := by decide +kernel
theorem dX2_wordOf_23 : decode cX2_wordOf 23 = .ok (.iload_n 1, 1) := by decide +kernel
theorem dX2_wordOf_24 : decode cX2_wordOf 24 = .ok (.bipush 6, 2) := by decide +kernel
theorem dX2_wordOf_26 : decode cX2_wordOf 26 = .ok (.isub, 1) := by decide +kernel
theorem dX2_wordOf_27 : decode cX2_wordOf 27 = .ok (.goto 4, 3) := by decide +kernel
theorem dX2_wordOf_30 : decode cX2_wordOf 30 = .ok (.iload_n 1, 1) := by decide +kernel
theorem dX2_wordOf_31 : decode cX2_wordOf 31 = .ok (.invokestatic 44, 3) := by decide +kernel
theorem dX2_wordOf_34 : decode cX2_wordOf 34 = .ok (.invokevirtual 47, 3) := by decide +kernel
theorem dX2_wordOf_37 : decode cX2_wordOf 37 = .ok (.istore_n 2, 1) := by decide +kernel
theorem dX2_wordOf_38 : decode cX2_wordOf 38 = .ok (.iload_n 1, 1) := by decide +kernel
theorem dX2_wordOf_39 : decode cX2_wordOf 39 = .ok (.bipush 6, 2) := by decide +kernel
theorem dX2_wordOf_41 : decode cX2_wordOf 41 = .ok (.if_icmp .lt 18, 3) := by decide +kernel
theorem dX2_wordOf_44 : decode cX2_wordOf 44 = .ok (.aload_n 0, 1) := by decide +kernel
theorem dX2_wordOf_45 : decode cX2_wordOf 45 = .ok (.iconst 5, 1) := by decide +kernel
theorem dX2_wordOf_46 : decode cX2_wordOf 46 = .ok (.iload_n 2, 1) := by decide +kernel
theorem dX2_wordOf_47 : decode cX2_wordOf 47 = .ok (.aload_n 0, 1) := by decide +kernel
theorem dX2_wordOf_48 : decode cX2_wordOf 48 = .ok (.getfield 24, 3) := by decide +kernel
theorem dX2_wordOf_51 : decode cX2_wordOf 51 = .ok (.iand, 1) := by decide +kernel
theorem dX2_wordOf_52 : decode cX2_wordOf 52 = .ok (.iadd, 1) := by decide +kernel
theorem dX2_wordOf_53 : decode cX2_wordOf 53 = .ok (.invokevirtual 47, 3) := by decide +kernel
theorem dX2_wordOf_56 : decode cX2_wordOf 56 = .ok (.goto 4, 3) := by decide +kernel
theorem dX2_wordOf_59 : decode cX2_wordOf 59 = .ok (.iload_n 2, 1) := by decide +kernel
theorem dX2_wordOf_60 : decode cX2_wordOf 60 = .ok (.ireturn, 1) := by decide +kernel
theorem dX2_become_0 : decode cX2_become 0 = .ok (.iload_n 1, 1) := by decide +kernel
theorem dX2_become_1 : decode cX2_become 1 = .ok (.bipush 6, 2) := by decide +kernel
theorem dX2_become_3 : decode cX2_become 3 = .ok (.if_icmp .lt 37, 3) := by decide +kernel
theorem dX2_become_6 : decode cX2_become 6 = .ok (.aload_n 0, 1) := by decide +kernel
theorem dX2_become_7 : decode cX2_become 7 = .ok (.iload_n 1, 1) := by decide +kernel
theorem dX2_become_8 : decode cX2_become 8 = .ok (.bipush 6, 2) := by decide +kernel
theorem dX2_become_10 : decode cX2_become 10 = .ok (.isub, 1) := by decide +kernel
theorem dX2_become_11 : decode cX2_become 11 = .ok (.invokestatic 44, 3) := by decide +kernel
theorem dX2_become_14 : decode cX2_become 14 = .ok (.invokevirtual 47, 3) := by decide +kernel
theorem dX2_become_17 : decode cX2_become 17 = .ok (.aload_n 0, 1) := by decide +kernel
theorem dX2_become_18 : decode cX2_become 18 = .ok (.getfield 24, 3) := by decide +kernel
theorem dX2_become_21 : decode cX2_become 21 = .ok (.iand, 1) := by decide +kernel
theorem dX2_become_22 : decode cX2_become 22 = .ok (.istore_n 3, 1) := by decide +kernel
theorem dX2_become_23 : decode cX2_become 23 = .ok (.aload_n 0, 1) := by decide +kernel
theorem dX2_become_24 : decode cX2_become 24 = .ok (.getfield 15, 3) := by decide +kernel
theorem dX2_become_27 : decode cX2_become 27 = .ok (.iconst 5, 1) := by decide +kernel
theorem dX2_become_28 : decode cX2_become 28 = .ok (.iload_n 3, 1) := by decide +kernel
theorem dX2_become_29 : decode cX2_become 29 = .ok (.iadd, 1) := by decide +kernel
theorem dX2_become_30 : decode cX2_become 30 = .ok (.iload_n 2, 1) := by decide +kernel
theorem dX2_become_31 : decode cX2_become 31 = .ok (.aload_n 0, 1) := by decide +kernel
theorem dX2_become_32 : decode cX2_become 32 = .ok (.getfield 24, 3) := by decide +kernel
theorem dX2_become_35 : decode cX2_become 35 = .ok (.iand, 1) := by decide +kernel
theorem dX2_become_36 : decode cX2_become 36 = .ok (.iastore, 1) := by decide +kernel
theorem dX2_become_37 : decode cX2_become 37 = .ok (.goto 40, 3) := by decide +kernel
theorem dX2_become_40 : decode cX2_become 40 = .ok (.iload_n 1, 1) := by decide +kernel
theorem dX2_become_41 : decode cX2_become 41 = .ok (.iconst 3, 1) := by decide +kernel
theorem dX2_become_42 : decode cX2_become 42 = .ok (.if_icmp .eq 35, 3) := by decide +kernel
theorem dX2_become_45 : decode cX2_become 45 = .ok (.aload_n 0, 1) := by decide +kernel
theorem dX2_become_46 : decode cX2_become 46 = .ok (.getfield 15, 3) := by decide +kernel
theorem dX2_become_49 : decode cX2_become 49 = .ok (.iload_n 1, 1) := by decide +kernel
theorem dX2_become_50 : decode cX2_become 50 = .ok (.invokestatic 44, 3) := by decide +kernel
theorem dX2_become_53 : decode cX2_become 53 = .ok (.iload_n 1, 1) := by decide +kernel
theorem dX2_become_54 : decode cX2_become 54 = .ok (.iconst 4, 1) := by decide +kernel
theorem dX2_become_55 : decode cX2_become 55 = .ok (.if_icmp .ne 15, 3) := by decide +kernel
theorem dX2_become_58 : decode cX2_become 58 = .ok (.iload_n 2, 1) := by decide +kernel
theorem dX2_become_59 : decode cX2_become 59 = .ok (.ifCond .ne 7, 3) := by decide +kernel
theorem dX2_become_62 : decode cX2_become 62 = .ok (.iconst 0, 1) := by decide +kernel
theorem dX2_become_63 : decode cX2_become 63 = .ok (.goto 13, 3) := by decide +kernel
theorem dX2_become_66 : decode cX2_become 66 = .ok (.iconst 1, 1) := by decide +kernel
theorem dX2_become_67 : decode cX2_become 67 = .ok (.goto 9, 3) := by decide +kernel
theorem dX2_become_70 : decode cX2_become 70 = .ok (.iload_n 2, 1) := by decide +kernel
theorem dX2_become_71 : decode cX2_become 71 = .ok (.aload_n 0, 1) := by decide +kernel
theorem dX2_become_72 : decode cX2_become 72 = .ok (.getfield 24, 3) := by decide +kernel
theorem dX2_become_75 : decode cX2_become 75 = .ok (.iand, 1) := by decide +kernel
theorem dX2_become_76 : decode cX2_become 76 = .ok (.iastore, 1) := by decide +kernel
theorem dX2_become_77 : decode cX2_become 77 = .ok (.return_, 1) := by decide +kernel
theorem dX2_doAfresh_0 : decode cX2_doAfresh 0 = .ok (.aload_n 0, 1) := by decide +kernel
theorem dX2_doAfresh_1 : decode cX2_doAfresh 1 = .ok (.getfield 15, 3) := by decide +kernel
theorem dX2_doAfresh_4 : decode cX2_doAfresh 4 = .ok (.iconst (-1), 1) := by decide +kernel
theorem dX2_doAfresh_5 : decode cX2_doAfresh 5 = .ok (.invokestatic 28, 3) := by decide +kernel
theorem dX2_doAfresh_8 : decode cX2_doAfresh 8 = .ok (.aload_n 1, 1) := by decide +kernel
theorem dX2_doAfresh_9 : decode cX2_doAfresh 9 = .ok (.aload_n 0, 1) := by decide +kernel
theorem dX2_doAfresh_10 : decode cX2_doAfresh 10 = .ok (.invokevirtual 50, 3) := by decide +kernel
theorem dX2_doAfresh_13 : decode cX2_doAfresh 13 = .ok (.return_, 1) := by decide +kernel
theorem dX2_whatReads_0 : decode cX2_whatReads 0 = .ok (.aload_n 1, 1) := by decide +kernel
theorem dX2_whatReads_1 : decode cX2_whatReads 1 = .ok (.getfield 56, 3) := by decide +kernel
theorem dX2_whatReads_4 : decode cX2_whatReads 4 = .ok (.iconst (-1), 1) := by decide +kernel
theorem dX2_whatReads_5 : decode cX2_whatReads 5 = .ok (.if_icmp .ne 61, 3) := by decide +kernel
theorem dX2_whatReads_8 : decode cX2_whatReads 8 = .ok (.iconst 0, 1) := by decide +kernel
theorem dX2_whatReads_9 : decode cX2_whatReads 9 = .ok (.istore_n 2, 1) := by decide +kernel
theorem dX2_whatReads_10 : decode cX2_whatReads 10 = .ok (.iconst 0, 1) := by decide +kernel
theorem dX2_whatReads_11 : decode cX2_whatReads 11 = .ok (.istore_n 3, 1) := by decide +kernel
theorem dX2_whatReads_12 : decode cX2_whatReads 12 = .ok (.iload_n 3, 1) := by decide +kernel
theorem dX2_whatReads_13 : decode cX2_whatReads 13 = .ok (.bipush 9, 2) := by decide +kernel
theorem dX2_whatReads_15 : decode cX2_whatReads 15 = .ok (.if_icmp .ge 46, 3) := by decide +kernel
theorem dX2_whatReads_18 : decode cX2_whatReads 18 = .ok (.iload_n 3, 1) := by decide +kernel
theorem dX2_whatReads_19 : decode cX2_whatReads 19 = .ok (.invokestatic 59, 3) := by decide +kernel
theorem dX2_whatReads_22 : decode cX2_whatReads 22 = .ok (.istore 4, 2) := by decide +kernel
theorem dX2_whatReads_24 : decode cX2_whatReads 24 = .ok (.aload_n 1, 1) := by decide +kernel
theorem dX2_whatReads_25 : decode cX2_whatReads 25 = .ok (.getfield 62, 3) := by decide +kernel
theorem dX2_whatReads_28 : decode cX2_whatReads 28 = .ok (.iload 4, 2) := by decide +kernel
theorem dX2_whatReads_30 : decode cX2_whatReads 30 = .ok (.iand, 1) := by decide +kernel
theorem dX2_whatReads_31 : decode cX2_whatReads 31 = .ok (.ifCond .eq 24, 3) := by decide +kernel
theorem dX2_whatReads_34 : decode cX2_whatReads 34 = .ok (.iload_n 2, 1) := by decide +kernel
theorem dX2_whatReads_35 : decode cX2_whatReads 35 = .ok (.iload 4, 2) := by decide +kernel
theorem dX2_whatReads_37 : decode cX2_whatReads 37 = .ok (.iand, 1) := by decide +kernel
theorem dX2_whatReads_38 : decode cX2_whatReads 38 = .ok (.ifCond .ne 17, 3) := by decide +kernel
theorem dX2_whatReads_41 : decode cX2_whatReads 41 = .ok (.aload_n 0, 1) := by decide +kernel
theorem dX2_whatReads_42 : decode cX2_whatReads 42 = .ok (.aload_n 1, 1) := by decide +kernel
theorem dX2_whatReads_43 : decode cX2_whatReads 43 = .ok (.iload_n 3, 1) := by decide +kernel
theorem dX2_whatReads_44 : decode cX2_whatReads 44 = .ok (.invokevirtual 65, 3) := by decide +kernel
theorem dX2_whatReads_47 : decode cX2_whatReads 47 = .ok (.ifCond .eq 8, 3) := by decide +kernel
theorem dX2_whatReads_50 : decode cX2_whatReads 50 = .ok (.iload_n 2, 1) := by decide +kernel
theorem dX2_whatReads_51 : decode cX2_whatReads 51 = .ok (.iload 4, 2) := by decide +kernel
theorem dX2_whatReads_53 : decode cX2_whatReads 53 = .ok (.ior, 1) := by decide +kernel
theorem dX2_whatReads_54 : decode cX2_whatReads 54 = .ok (.istore_n 2, 1) := by decide +kernel
theorem dX2_whatReads_55 : decode cX2_whatReads 55 = .ok (.iinc 3 1, 3) := by decide +kernel
theorem dX2_whatReads_58 : decode cX2_whatReads 58 = .ok (.goto (-46), 3) := by decide +kernel
theorem dX2_whatReads_61 : decode cX2_whatReads 61 = .ok (.aload_n 1, 1) := by decide +kernel
theorem dX2_whatReads_62 : decode cX2_whatReads 62 = .ok (.iload_n 2, 1) := by decide +kernel
theorem dX2_whatReads_63 : decode cX2_whatReads 63 = .ok (.putfield 56, 3) := by decide +kernel
theorem dX2_whatReads_66 : decode cX2_whatReads 66 = .ok (.aload_n 1, 1) := by decide +kernel
theorem dX2_whatReads_67 : decode cX2_whatReads 67 = .ok (.getfield 56, 3) := by decide +kernel
theorem dX2_whatReads_70 : decode cX2_whatReads 70 = .ok (.ireturn, 1) := by decide +kernel
theorem dX2_readsSlot_0 : decode cX2_readsSlot 0 = .ok (.aload_n 0, 1) := by decide +kernel
theorem dX2_readsSlot_1 : decode cX2_readsSlot 1 = .ok (.invokevirtual 69, 3) := by decide +kernel
theorem dX2_readsSlot_4 : decode cX2_readsSlot 4 = .ok (.iconst 0, 1) := by decide +kernel
theorem dX2_readsSlot_5 : decode cX2_readsSlot 5 = .ok (.istore_n 3, 1) := by decide +kernel
theorem dX2_readsSlot_6 : decode cX2_readsSlot 6 = .ok (.iload_n 3, 1) := by decide +kernel
theorem dX2_readsSlot_7 : decode cX2_readsSlot 7 = .ok (.ldc 72, 2) := by decide +kernel
theorem dX2_readsSlot_9 : decode cX2_readsSlot 9 = .ok (.if_icmp .ge 29, 3) := by decide +kernel
theorem dX2_readsSlot_12 : decode cX2_readsSlot 12 = .ok (.aload_n 0, 1) := by decide +kernel
theorem dX2_readsSlot_13 : decode cX2_readsSlot 13 = .ok (.aload_n 1, 1) := by decide +kernel
theorem dX2_readsSlot_14 : decode cX2_readsSlot 14 = .ok (.iload_n 2, 1) := by decide +kernel
theorem dX2_readsSlot_15 : decode cX2_readsSlot 15 = .ok (.invokevirtual 73, 3) := by decide +kernel
theorem dX2_readsSlot_18 : decode cX2_readsSlot 18 = .ok (.ifCond .eq 5, 3) := by decide +kernel
theorem dX2_readsSlot_21 : decode cX2_readsSlot 21 = .ok (.iconst 1, 1) := by decide +kernel
theorem dX2_readsSlot_22 : decode cX2_readsSlot 22 = .ok (.ireturn, 1) := by decide +kernel
theorem dX2_readsSlot_23 : decode cX2_readsSlot 23 = .ok (.aload_n 0, 1) := by decide +kernel
theorem dX2_readsSlot_24 : decode cX2_readsSlot 24 = .ok (.invokevirtual 76, 3) := by decide +kernel
theorem dX2_readsSlot_27 : decode cX2_readsSlot 27 = .ok (.ifCond .ne 5, 3) := by decide +kernel
theorem dX2_readsSlot_30 : decode cX2_readsSlot 30 = .ok (.iconst 0, 1) := by decide +kernel
theorem dX2_readsSlot_31 : decode cX2_readsSlot 31 = .ok (.ireturn, 1) := by decide +kernel
theorem dX2_readsSlot_32 : decode cX2_readsSlot 32 = .ok (.iinc 3 1, 3) := by decide +kernel
theorem dX2_readsSlot_35 : decode cX2_readsSlot 35 = .ok (.goto (-29), 3) := by decide +kernel
theorem dX2_readsSlot_38 : decode cX2_readsSlot 38 = .ok (.iconst 0, 1) := by decide +kernel
theorem dX2_readsSlot_39 : decode cX2_readsSlot 39 = .ok (.ireturn, 1) := by decide +kernel
theorem dX2_isSeenBehind_0 : decode cX2_isSeenBehind 0 = .ok (.iconst 1, 1) := by decide +kernel
theorem dX2_isSeenBehind_1 : decode cX2_isSeenBehind 1 = .ok (.istore_n 3, 1) := by decide +kernel
theorem dX2_isSeenBehind_2 : decode cX2_isSeenBehind 2 = .ok (.iconst 1, 1) := by decide +kernel
theorem dX2_isSeenBehind_3 : decode cX2_isSeenBehind 3 = .ok (.istore 4, 2) := by decide +kernel
theorem dX2_isSeenBehind_5 : decode cX2_isSeenBehind 5 = .ok (.iconst 0, 1) := by decide +kernel
theorem dX2_isSeenBehind_6 : decode cX2_isSeenBehind 6 = .ok (.istore 5, 2) := by decide +kernel
theorem dX2_isSeenBehind_8 : decode cX2_isSeenBehind 8 = .ok (.iconst 0, 1) := by decide +kernel
theorem dX2_isSeenBehind_9 : decode cX2_isSeenBehind 9 = .ok (.istore 6, 2) := by decide +kernel
theorem dX2_isSeenBehind_11 : decode cX2_isSeenBehind 11 = .ok (.iload 6, 2) := by decide +kernel
theorem dX2_isSeenBehind_13 : decode cX2_isSeenBehind 13 = .ok (.iload_n 2, 1) := by decide +kernel
theorem dX2_isSeenBehind_14 : decode cX2_isSeenBehind 14 = .ok (.invokestatic 37, 3) := by decide +kernel
theorem dX2_isSeenBehind_17 : decode cX2_isSeenBehind 17 = .ok (.if_icmp .ge 106, 3) := by decide +kernel
theorem dX2_isSeenBehind_20 : decode cX2_isSeenBehind 20 = .ok (.aload_n 0, 1) := by decide +kernel
theorem dX2_isSeenBehind_21 : decode cX2_isSeenBehind 21 = .ok (.getfield 11, 3) := by decide +kernel
theorem dX2_isSeenBehind_24 : decode cX2_isSeenBehind 24 = .ok (.iload_n 2, 1) := by decide +kernel
theorem dX2_isSeenBehind_25 : decode cX2_isSeenBehind 25 = .ok (.iload 6, 2) := by decide +kernel
theorem dX2_isSeenBehind_27 : decode cX2_isSeenBehind 27 = .ok (.iastore, 1) := by decide +kernel
theorem dX2_isSeenBehind_28 : decode cX2_isSeenBehind 28 = .ok (.aload_n 0, 1) := by decide +kernel
theorem dX2_isSeenBehind_29 : decode cX2_isSeenBehind 29 = .ok (.getfield 15, 3) := by decide +kernel
theorem dX2_isSeenBehind_32 : decode cX2_isSeenBehind 32 = .ok (.iconst (-1), 1) := by decide +kernel
theorem dX2_isSeenBehind_33 : decode cX2_isSeenBehind 33 = .ok (.invokestatic 28, 3) := by decide +kernel
theorem dX2_isSeenBehind_36 : decode cX2_isSeenBehind 36 = .ok (.aload_n 1, 1) := by decide +kernel
theorem dX2_isSeenBehind_37 : decode cX2_isSeenBehind 37 = .ok (.aload_n 0, 1) := by decide +kernel
theorem dX2_isSeenBehind_38 : decode cX2_isSeenBehind 38 = .ok (.invokevirtual 50, 3) := by decide +kernel
theorem dX2_isSeenBehind_41 : decode cX2_isSeenBehind 41 = .ok (.aload_n 0, 1) := by decide +kernel
theorem dX2_isSeenBehind_42 : decode cX2_isSeenBehind 42 = .ok (.iload_n 2, 1) := by decide +kernel
theorem dX2_isSeenBehind_43 : decode cX2_isSeenBehind 43 = .ok (.invokevirtual 47, 3) := by decide +kernel
theorem dX2_isSeenBehind_46 : decode cX2_isSeenBehind 46 = .ok (.istore 7, 2) := by decide +kernel
theorem dX2_isSeenBehind_48 : decode cX2_isSeenBehind 48 = .ok (.iload 6, 2) := by decide +kernel
theorem dX2_isSeenBehind_50 : decode cX2_isSeenBehind 50 = .ok (.ifCond .ne 25, 3) := by decide +kernel
theorem dX2_isSeenBehind_53 : decode cX2_isSeenBehind 53 = .ok (.iload 7, 2) := by decide +kernel
theorem dX2_isSeenBehind_55 : decode cX2_isSeenBehind 55 = .ok (.istore 5, 2) := by decide +kernel
theorem dX2_isSeenBehind_57 : decode cX2_isSeenBehind 57 = .ok (.aload_n 0, 1) := by decide +kernel
theorem dX2_isSeenBehind_58 : decode cX2_isSeenBehind 58 = .ok (.getfield 15, 3) := by decide +kernel
theorem dX2_isSeenBehind_61 : decode cX2_isSeenBehind 61 = .ok (.iconst 0, 1) := by decide +kernel
theorem dX2_isSeenBehind_62 : decode cX2_isSeenBehind 62 = .ok (.aload_n 0, 1) := by decide +kernel
theorem dX2_isSeenBehind_63 : decode cX2_isSeenBehind 63 = .ok (.getfield 18, 3) := by decide +kernel
theorem dX2_isSeenBehind_66 : decode cX2_isSeenBehind 66 = .ok (.iconst 0, 1) := by decide +kernel
theorem dX2_isSeenBehind_67 : decode cX2_isSeenBehind 67 = .ok (.bipush 9, 2) := by decide +kernel
theorem dX2_isSeenBehind_69 : decode cX2_isSeenBehind 69 = .ok (.invokestatic 80, 3) := by decide +kernel
theorem dX2_isSeenBehind_72 : decode cX2_isSeenBehind 72 = .ok (.goto 13, 3) := by decide +kernel
theorem dX2_isSeenBehind_75 : decode cX2_isSeenBehind 75 = .ok (.aload_n 0, 1) := by decide +kernel
theorem dX2_isSeenBehind_76 : decode cX2_isSeenBehind 76 = .ok (.iload_n 2, 1) := by decide +kernel
theorem dX2_isSeenBehind_77 : decode cX2_isSeenBehind 77 = .ok (.invokevirtual 86, 3) := by decide +kernel
theorem dX2_isSeenBehind_80 : decode cX2_isSeenBehind 80 = .ok (.ifCond .eq 5, 3) := by decide +kernel
theorem dX2_isSeenBehind_83 : decode cX2_isSeenBehind 83 = .ok (.iconst 1, 1) := by decide +kernel
theorem dX2_isSeenBehind_84 : decode cX2_isSeenBehind 84 = .ok (.ireturn, 1) := by decide +kernel
theorem dX2_isSeenBehind_85 : decode cX2_isSeenBehind 85 = .ok (.iload_n 3, 1) := by decide +kernel
theorem dX2_isSeenBehind_86 : decode cX2_isSeenBehind 86 = .ok (.iload 7, 2) := by decide +kernel
theorem dX2_isSeenBehind_88 : decode cX2_isSeenBehind 88 = .ok (.iload 6, 2) := by decide +kernel
theorem dX2_isSeenBehind_90 : decode cX2_isSeenBehind 90 = .ok (.if_icmp .ne 7, 3) := by decide +kernel
theorem dX2_isSeenBehind_93 : decode cX2_isSeenBehind 93 = .ok (.iconst 1, 1) := by decide +kernel
theorem dX2_isSeenBehind_94 : decode cX2_isSeenBehind 94 = .ok (.goto 4, 3) := by decide +kernel
theorem dX2_isSeenBehind_97 : decode cX2_isSeenBehind 97 = .ok (.iconst 0, 1) := by decide +kernel
theorem dX2_isSeenBehind_98 : decode cX2_isSeenBehind 98 = .ok (.iand, 1) := by decide +kernel
theorem dX2_isSeenBehind_99 : decode cX2_isSeenBehind 99 = .ok (.istore_n 3, 1) := by decide +kernel
theorem dX2_isSeenBehind_100 : decode cX2_isSeenBehind 100 = .ok (.iload 4, 2) := by decide +kernel
theorem dX2_isSeenBehind_102 : decode cX2_isSeenBehind 102 = .ok (.iload 7, 2) := by decide +kernel
theorem dX2_isSeenBehind_104 : decode cX2_isSeenBehind 104 = .ok (.iload 5, 2) := by decide +kernel
theorem dX2_isSeenBehind_106 : decode cX2_isSeenBehind 106 = .ok (.if_icmp .ne 7, 3) := by decide +kernel
theorem dX2_isSeenBehind_109 : decode cX2_isSeenBehind 109 = .ok (.iconst 1, 1) := by decide +kernel
theorem dX2_isSeenBehind_110 : decode cX2_isSeenBehind 110 = .ok (.goto 4, 3) := by decide +kernel
theorem dX2_isSeenBehind_113 : decode cX2_isSeenBehind 113 = .ok (.iconst 0, 1) := by decide +kernel
theorem dX2_isSeenBehind_114 : decode cX2_isSeenBehind 114 = .ok (.iand, 1) := by decide +kernel
theorem dX2_isSeenBehind_115 : decode cX2_isSeenBehind 115 = .ok (.istore 4, 2) := by decide +kernel
theorem dX2_isSeenBehind_117 : decode cX2_isSeenBehind 117 = .ok (.iinc 6 1, 3) := by decide +kernel
theorem dX2_isSeenBehind_120 : decode cX2_isSeenBehind 120 = .ok (.goto (-109), 3) := by decide +kernel
theorem dX2_isSeenBehind_123 : decode cX2_isSeenBehind 123 = .ok (.iload_n 3, 1) := by decide +kernel
theorem dX2_isSeenBehind_124 : decode cX2_isSeenBehind 124 = .ok (.ifCond .ne 12, 3) := by decide +kernel
theorem dX2_isSeenBehind_127 : decode cX2_isSeenBehind 127 = .ok (.iload 4, 2) := by decide +kernel
theorem dX2_isSeenBehind_129 : decode cX2_isSeenBehind 129 = .ok (.ifCond .ne 7, 3) := by decide +kernel
theorem dX2_isSeenBehind_132 : decode cX2_isSeenBehind 132 = .ok (.iconst 1, 1) := by decide +kernel
theorem dX2_isSeenBehind_133 : decode cX2_isSeenBehind 133 = .ok (.goto 4, 3) := by decide +kernel
theorem dX2_isSeenBehind_136 : decode cX2_isSeenBehind 136 = .ok (.iconst 0, 1) := by decide +kernel
theorem dX2_isSeenBehind_137 : decode cX2_isSeenBehind 137 = .ok (.ireturn, 1) := by decide +kernel
theorem dX2_isUnlike_0 : decode cX2_isUnlike 0 = .ok (.iconst 0, 1) := by decide +kernel
theorem dX2_isUnlike_1 : decode cX2_isUnlike 1 = .ok (.istore_n 2, 1) := by decide +kernel
theorem dX2_isUnlike_2 : decode cX2_isUnlike 2 = .ok (.iload_n 2, 1) := by decide +kernel
theorem dX2_isUnlike_3 : decode cX2_isUnlike 3 = .ok (.bipush 9, 2) := by decide +kernel
theorem dX2_isUnlike_5 : decode cX2_isUnlike 5 = .ok (.if_icmp .ge 65, 3) := by decide +kernel
theorem dX2_isUnlike_8 : decode cX2_isUnlike 8 = .ok (.iload_n 2, 1) := by decide +kernel
theorem dX2_isUnlike_9 : decode cX2_isUnlike 9 = .ok (.iload_n 1, 1) := by decide +kernel
theorem dX2_isUnlike_10 : decode cX2_isUnlike 10 = .ok (.if_icmp .eq 54, 3) := by decide +kernel
theorem dX2_isUnlike_13 : decode cX2_isUnlike 13 = .ok (.aload_n 0, 1) := by decide +kernel
theorem dX2_isUnlike_14 : decode cX2_isUnlike 14 = .ok (.getfield 18, 3) := by decide +kernel
theorem dX2_isUnlike_17 : decode cX2_isUnlike 17 = .ok (.iload_n 2, 1) := by decide +kernel
theorem dX2_isUnlike_18 : decode cX2_isUnlike 18 = .ok (.iaload, 1) := by decide +kernel
theorem dX2_isUnlike_19 : decode cX2_isUnlike 19 = .ok (.aload_n 0, 1) := by decide +kernel
theorem dX2_isUnlike_20 : decode cX2_isUnlike 20 = .ok (.getfield 15, 3) := by decide +kernel
theorem dX2_isUnlike_23 : decode cX2_isUnlike 23 = .ok (.iload_n 2, 1) := by decide +kernel
theorem dX2_isUnlike_24 : decode cX2_isUnlike 24 = .ok (.iaload, 1) := by decide +kernel
theorem dX2_isUnlike_25 : decode cX2_isUnlike 25 = .ok (.if_icmp .eq 39, 3) := by decide +kernel
theorem dX2_isUnlike_28 : decode cX2_isUnlike 28 = .ok (.aload_n 0, 1) := by decide +kernel
theorem dX2_isUnlike_29 : decode cX2_isUnlike 29 = .ok (.getfield 18, 3) := by decide +kernel
theorem dX2_isUnlike_32 : decode cX2_isUnlike 32 = .ok (.iload_n 2, 1) := by decide +kernel
theorem dX2_isUnlike_33 : decode cX2_isUnlike 33 = .ok (.iaload, 1) := by decide +kernel
theorem dX2_isUnlike_34 : decode cX2_isUnlike 34 = .ok (.iconst (-1), 1) := by decide +kernel
theorem dX2_isUnlike_35 : decode cX2_isUnlike 35 = .ok (.if_icmp .ne 11, 3) := by decide +kernel
theorem dX2_isUnlike_38 : decode cX2_isUnlike 38 = .ok (.aload_n 0, 1) := by decide +kernel
theorem dX2_isUnlike_39 : decode cX2_isUnlike 39 = .ok (.iload_n 2, 1) := by decide +kernel
theorem dX2_isUnlike_40 : decode cX2_isUnlike 40 = .ok (.invokevirtual 41, 3) := by decide +kernel
theorem dX2_isUnlike_43 : decode cX2_isUnlike 43 = .ok (.goto 9, 3) := by decide +kernel
theorem dX2_isUnlike_46 : decode cX2_isUnlike 46 = .ok (.aload_n 0, 1) := by decide +kernel
theorem dX2_isUnlike_47 : decode cX2_isUnlike 47 = .ok (.getfield 18, 3) := by decide +kernel
theorem dX2_isUnlike_50 : decode cX2_isUnlike 50 = .ok (.iload_n 2, 1) := by decide +kernel
theorem dX2_isUnlike_51 : decode cX2_isUnlike 51 = .ok (.iaload, 1) := by decide +kernel
theorem dX2_isUnlike_52 : decode cX2_isUnlike 52 = .ok (.istore_n 3, 1) := by decide +kernel
theorem dX2_isUnlike_53 : decode cX2_isUnlike 53 = .ok (.iload_n 3, 1) := by decide +kernel
theorem dX2_isUnlike_54 : decode cX2_isUnlike 54 = .ok (.aload_n 0, 1) := by decide +kernel
theorem dX2_isUnlike_55 : decode cX2_isUnlike 55 = .ok (.iload_n 2, 1) := by decide +kernel
theorem dX2_isUnlike_56 : decode cX2_isUnlike 56 = .ok (.invokevirtual 47, 3) := by decide +kernel
theorem dX2_isUnlike_59 : decode cX2_isUnlike 59 = .ok (.if_icmp .eq 5, 3) := by decide +kernel
theorem dX2_isUnlike_62 : decode cX2_isUnlike 62 = .ok (.iconst 1, 1) := by decide +kernel
theorem dX2_isUnlike_63 : decode cX2_isUnlike 63 = .ok (.ireturn, 1) := by decide +kernel
theorem dX2_isUnlike_64 : decode cX2_isUnlike 64 = .ok (.iinc 2 1, 3) := by decide +kernel
theorem dX2_isUnlike_67 : decode cX2_isUnlike 67 = .ok (.goto (-65), 3) := by decide +kernel
theorem dX2_isUnlike_70 : decode cX2_isUnlike 70 = .ok (.iconst 0, 1) := by decide +kernel
theorem dX2_isUnlike_71 : decode cX2_isUnlike 71 = .ok (.ireturn, 1) := by decide +kernel
theorem dX2_whatWrites_0 : decode cX2_whatWrites 0 = .ok (.aload_n 1, 1) := by decide +kernel
theorem dX2_whatWrites_1 : decode cX2_whatWrites 1 = .ok (.getfield 90, 3) := by decide +kernel
theorem dX2_whatWrites_4 : decode cX2_whatWrites 4 = .ok (.iconst (-1), 1) := by decide +kernel
theorem dX2_whatWrites_5 : decode cX2_whatWrites 5 = .ok (.if_icmp .ne 54, 3) := by decide +kernel
theorem dX2_whatWrites_8 : decode cX2_whatWrites 8 = .ok (.iconst 0, 1) := by decide +kernel
theorem dX2_whatWrites_9 : decode cX2_whatWrites 9 = .ok (.istore_n 2, 1) := by decide +kernel
theorem dX2_whatWrites_10 : decode cX2_whatWrites 10 = .ok (.aload_n 0, 1) := by decide +kernel
theorem dX2_whatWrites_11 : decode cX2_whatWrites 11 = .ok (.invokevirtual 69, 3) := by decide +kernel
theorem dX2_whatWrites_14 : decode cX2_whatWrites 14 = .ok (.iconst 0, 1) := by decide +kernel
theorem dX2_whatWrites_15 : decode cX2_whatWrites 15 = .ok (.istore_n 3, 1) := by decide +kernel
theorem dX2_whatWrites_16 : decode cX2_whatWrites 16 = .ok (.iload_n 3, 1) := by decide +kernel
theorem dX2_whatWrites_17 : decode cX2_whatWrites 17 = .ok (.ldc 72, 2) := by decide +kernel
theorem dX2_whatWrites_19 : decode cX2_whatWrites 19 = .ok (.if_icmp .ge 35, 3) := by decide +kernel
theorem dX2_whatWrites_22 : decode cX2_whatWrites 22 = .ok (.iload_n 2, 1) := by decide +kernel
theorem dX2_whatWrites_23 : decode cX2_whatWrites 23 = .ok (.aload_n 0, 1) := by decide +kernel
theorem dX2_whatWrites_24 : decode cX2_whatWrites 24 = .ok (.aload_n 1, 1) := by decide +kernel
theorem dX2_whatWrites_25 : decode cX2_whatWrites 25 = .ok (.invokevirtual 93, 3) := by decide +kernel
theorem dX2_whatWrites_28 : decode cX2_whatWrites 28 = .ok (.ior, 1) := by decide +kernel
theorem dX2_whatWrites_29 : decode cX2_whatWrites 29 = .ok (.istore_n 2, 1) := by decide +kernel
theorem dX2_whatWrites_30 : decode cX2_whatWrites 30 = .ok (.iload_n 2, 1) := by decide +kernel
theorem dX2_whatWrites_31 : decode cX2_whatWrites 31 = .ok (.aload_n 1, 1) := by decide +kernel
theorem dX2_whatWrites_32 : decode cX2_whatWrites 32 = .ok (.getfield 97, 3) := by decide +kernel
theorem dX2_whatWrites_35 : decode cX2_whatWrites 35 = .ok (.if_icmp .eq 19, 3) := by decide +kernel
theorem dX2_whatWrites_38 : decode cX2_whatWrites 38 = .ok (.aload_n 0, 1) := by decide +kernel
theorem dX2_whatWrites_39 : decode cX2_whatWrites 39 = .ok (.invokevirtual 76, 3) := by decide +kernel
theorem dX2_whatWrites_42 : decode cX2_whatWrites 42 = .ok (.ifCond .ne 6, 3) := by decide +kernel
theorem dX2_whatWrites_45 : decode cX2_whatWrites 45 = .ok (.goto 9, 3) := by decide +kernel
theorem dX2_whatWrites_48 : decode cX2_whatWrites 48 = .ok (.iinc 3 1, 3) := by decide +kernel
theorem dX2_whatWrites_51 : decode cX2_whatWrites 51 = .ok (.goto (-35), 3) := by decide +kernel
theorem dX2_whatWrites_54 : decode cX2_whatWrites 54 = .ok (.aload_n 1, 1) := by decide +kernel
theorem dX2_whatWrites_55 : decode cX2_whatWrites 55 = .ok (.iload_n 2, 1) := by decide +kernel
theorem dX2_whatWrites_56 : decode cX2_whatWrites 56 = .ok (.putfield 90, 3) := by decide +kernel
theorem dX2_whatWrites_59 : decode cX2_whatWrites 59 = .ok (.aload_n 1, 1) := by decide +kernel
theorem dX2_whatWrites_60 : decode cX2_whatWrites 60 = .ok (.getfield 90, 3) := by decide +kernel
theorem dX2_whatWrites_63 : decode cX2_whatWrites 63 = .ok (.ireturn, 1) := by decide +kernel
theorem dX2_changedBy_0 : decode cX2_changedBy 0 = .ok (.iconst 0, 1) := by decide +kernel
theorem dX2_changedBy_1 : decode cX2_changedBy 1 = .ok (.istore_n 2, 1) := by decide +kernel
theorem dX2_changedBy_2 : decode cX2_changedBy 2 = .ok (.aload_n 0, 1) := by decide +kernel
theorem dX2_changedBy_3 : decode cX2_changedBy 3 = .ok (.aload_n 1, 1) := by decide +kernel
theorem dX2_changedBy_4 : decode cX2_changedBy 4 = .ok (.invokevirtual 100, 3) := by decide +kernel
theorem dX2_changedBy_7 : decode cX2_changedBy 7 = .ok (.iconst 0, 1) := by decide +kernel
theorem dX2_changedBy_8 : decode cX2_changedBy 8 = .ok (.istore_n 3, 1) := by decide +kernel
theorem dX2_changedBy_9 : decode cX2_changedBy 9 = .ok (.iload_n 3, 1) := by decide +kernel
theorem dX2_changedBy_10 : decode cX2_changedBy 10 = .ok (.bipush 9, 2) := by decide +kernel
theorem dX2_changedBy_12 : decode cX2_changedBy 12 = .ok (.if_icmp .ge 40, 3) := by decide +kernel
theorem dX2_changedBy_15 : decode cX2_changedBy 15 = .ok (.aload_n 0, 1) := by decide +kernel
theorem dX2_changedBy_16 : decode cX2_changedBy 16 = .ok (.getfield 15, 3) := by decide +kernel
theorem dX2_changedBy_19 : decode cX2_changedBy 19 = .ok (.iload_n 3, 1) := by decide +kernel
theorem dX2_changedBy_20 : decode cX2_changedBy 20 = .ok (.iaload, 1) := by decide +kernel
theorem dX2_changedBy_21 : decode cX2_changedBy 21 = .ok (.iconst (-1), 1) := by decide +kernel
theorem dX2_changedBy_22 : decode cX2_changedBy 22 = .ok (.if_icmp .eq 24, 3) := by decide +kernel
theorem dX2_changedBy_25 : decode cX2_changedBy 25 = .ok (.aload_n 0, 1) := by decide +kernel
theorem dX2_changedBy_26 : decode cX2_changedBy 26 = .ok (.getfield 15, 3) := by decide +kernel
theorem dX2_changedBy_29 : decode cX2_changedBy 29 = .ok (.iload_n 3, 1) := by decide +kernel
theorem dX2_changedBy_30 : decode cX2_changedBy 30 = .ok (.iaload, 1) := by decide +kernel
theorem dX2_changedBy_31 : decode cX2_changedBy 31 = .ok (.aload_n 0, 1) := by decide +kernel
theorem dX2_changedBy_32 : decode cX2_changedBy 32 = .ok (.iload_n 3, 1) := by decide +kernel
theorem dX2_changedBy_33 : decode cX2_changedBy 33 = .ok (.invokevirtual 41, 3) := by decide +kernel
theorem dX2_changedBy_36 : decode cX2_changedBy 36 = .ok (.if_icmp .eq 10, 3) := by decide +kernel
theorem dX2_changedBy_39 : decode cX2_changedBy 39 = .ok (.iload_n 2, 1) := by decide +kernel
theorem dX2_changedBy_40 : decode cX2_changedBy 40 = .ok (.iload_n 3, 1) := by decide +kernel
theorem dX2_changedBy_41 : decode cX2_changedBy 41 = .ok (.invokestatic 59, 3) := by decide +kernel
theorem dX2_changedBy_44 : decode cX2_changedBy 44 = .ok (.ior, 1) := by decide +kernel
theorem dX2_changedBy_45 : decode cX2_changedBy 45 = .ok (.istore_n 2, 1) := by decide +kernel
theorem dX2_changedBy_46 : decode cX2_changedBy 46 = .ok (.iinc 3 1, 3) := by decide +kernel
theorem dX2_changedBy_49 : decode cX2_changedBy 49 = .ok (.goto (-40), 3) := by decide +kernel
theorem dX2_changedBy_52 : decode cX2_changedBy 52 = .ok (.iload_n 2, 1) := by decide +kernel
theorem dX2_changedBy_53 : decode cX2_changedBy 53 = .ok (.ireturn, 1) := by decide +kernel
theorem dX2_leaveTheSame_0 : decode cX2_leaveTheSame 0 = .ok (.aload_n 0, 1) := by decide +kernel
theorem dX2_leaveTheSame_1 : decode cX2_leaveTheSame 1 = .ok (.invokevirtual 69, 3) := by decide +kernel
theorem dX2_leaveTheSame_4 : decode cX2_leaveTheSame 4 = .ok (.iconst 0, 1) := by decide +kernel
theorem dX2_leaveTheSame_5 : decode cX2_leaveTheSame 5 = .ok (.istore_n 3, 1) := by decide +kernel
theorem dX2_leaveTheSame_6 : decode cX2_leaveTheSame 6 = .ok (.iload_n 3, 1) := by decide +kernel
theorem dX2_leaveTheSame_7 : decode cX2_leaveTheSame 7 = .ok (.ldc 72, 2) := by decide +kernel
theorem dX2_leaveTheSame_9 : decode cX2_leaveTheSame 9 = .ok (.if_icmp .ge 54, 3) := by decide +kernel
theorem dX2_leaveTheSame_12 : decode cX2_leaveTheSame 12 = .ok (.aload_n 0, 1) := by decide +kernel
theorem dX2_leaveTheSame_13 : decode cX2_leaveTheSame 13 = .ok (.aload_n 1, 1) := by decide +kernel
theorem dX2_leaveTheSame_14 : decode cX2_leaveTheSame 14 = .ok (.invokevirtual 100, 3) := by decide +kernel
theorem dX2_leaveTheSame_17 : decode cX2_leaveTheSame 17 = .ok (.aload_n 0, 1) := by decide +kernel
theorem dX2_leaveTheSame_18 : decode cX2_leaveTheSame 18 = .ok (.getfield 15, 3) := by decide +kernel
theorem dX2_leaveTheSame_21 : decode cX2_leaveTheSame 21 = .ok (.iconst 0, 1) := by decide +kernel
theorem dX2_leaveTheSame_22 : decode cX2_leaveTheSame 22 = .ok (.aload_n 0, 1) := by decide +kernel
theorem dX2_leaveTheSame_23 : decode cX2_leaveTheSame 23 = .ok (.getfield 18, 3) := by decide +kernel
theorem dX2_leaveTheSame_26 : decode cX2_leaveTheSame 26 = .ok (.iconst 0, 1) := by decide +kernel
theorem dX2_leaveTheSame_27 : decode cX2_leaveTheSame 27 = .ok (.bipush 9, 2) := by decide +kernel
theorem dX2_leaveTheSame_29 : decode cX2_leaveTheSame 29 = .ok (.invokestatic 80, 3) := by decide +kernel
theorem dX2_leaveTheSame_32 : decode cX2_leaveTheSame 32 = .ok (.aload_n 0, 1) := by decide +kernel
theorem dX2_leaveTheSame_33 : decode cX2_leaveTheSame 33 = .ok (.aload_n 2, 1) := by decide +kernel
theorem dX2_leaveTheSame_34 : decode cX2_leaveTheSame 34 = .ok (.invokevirtual 100, 3) := by decide +kernel
theorem dX2_leaveTheSame_37 : decode cX2_leaveTheSame 37 = .ok (.aload_n 0, 1) := by decide +kernel
theorem dX2_leaveTheSame_38 : decode cX2_leaveTheSame 38 = .ok (.bipush 9, 2) := by decide +kernel
theorem dX2_leaveTheSame_40 : decode cX2_leaveTheSame 40 = .ok (.invokevirtual 86, 3) := by decide +kernel
theorem dX2_leaveTheSame_43 : decode cX2_leaveTheSame 43 = .ok (.ifCond .eq 5, 3) := by decide +kernel
theorem dX2_leaveTheSame_46 : decode cX2_leaveTheSame 46 = .ok (.iconst 0, 1) := by decide +kernel
theorem dX2_leaveTheSame_47 : decode cX2_leaveTheSame 47 = .ok (.ireturn, 1) := by decide +kernel
theorem dX2_leaveTheSame_48 : decode cX2_leaveTheSame 48 = .ok (.aload_n 0, 1) := by decide +kernel
theorem dX2_leaveTheSame_49 : decode cX2_leaveTheSame 49 = .ok (.invokevirtual 76, 3) := by decide +kernel
theorem dX2_leaveTheSame_52 : decode cX2_leaveTheSame 52 = .ok (.ifCond .ne 5, 3) := by decide +kernel
theorem dX2_leaveTheSame_55 : decode cX2_leaveTheSame 55 = .ok (.iconst 1, 1) := by decide +kernel
theorem dX2_leaveTheSame_56 : decode cX2_leaveTheSame 56 = .ok (.ireturn, 1) := by decide +kernel
theorem dX2_leaveTheSame_57 : decode cX2_leaveTheSame 57 = .ok (.iinc 3 1, 3) := by decide +kernel
theorem dX2_leaveTheSame_60 : decode cX2_leaveTheSame 60 = .ok (.goto (-54), 3) := by decide +kernel
theorem dX2_leaveTheSame_63 : decode cX2_leaveTheSame 63 = .ok (.iconst 1, 1) := by decide +kernel
theorem dX2_leaveTheSame_64 : decode cX2_leaveTheSame 64 = .ok (.ireturn, 1) := by decide +kernel
theorem dX3_init_0 : decode cX3_init 0 = .ok (.aload_n 0, 1) := by decide +kernel
theorem dX3_init_1 : decode cX3_init 1 = .ok (.invokespecial 3, 3) := by decide +kernel
theorem dX3_init_4 : decode cX3_init 4 = .ok (.aload_n 0, 1) := by decide +kernel
theorem dX3_init_5 : decode cX3_init 5 = .ok (.iconst 4, 1) := by decide +kernel
theorem dX3_init_6 : decode cX3_init 6 = .ok (.newarray .int, 2) := by decide +kernel
theorem dX3_init_8 : decode cX3_init 8 = .ok (.putfield 9, 3) := by decide +kernel
theorem dX3_init_11 : decode cX3_init 11 = .ok (.aload_n 0, 1) := by decide +kernel
theorem dX3_init_12 : decode cX3_init 12 = .ok (.iconst 3, 1) := by decide +kernel
theorem dX3_init_13 : decode cX3_init 13 = .ok (.newarray .int, 2) := by decide +kernel
theorem dX3_init_15 : decode cX3_init 15 = .ok (.putfield 15, 3) := by decide +kernel
theorem dX3_init_18 : decode cX3_init 18 = .ok (.aload_n 0, 1) := by decide +kernel
theorem dX3_init_19 : decode cX3_init 19 = .ok (.iconst 3, 1) := by decide +kernel
theorem dX3_init_20 : decode cX3_init 20 = .ok (.newarray .int, 2) := by decide +kernel
theorem dX3_init_22 : decode cX3_init 22 = .ok (.putfield 18, 3) := by decide +kernel
theorem dX3_init_25 : decode cX3_init 25 = .ok (.aload_n 0, 1) := by decide +kernel
theorem dX3_init_26 : decode cX3_init 26 = .ok (.iconst 3, 1) := by decide +kernel
theorem dX3_init_27 : decode cX3_init 27 = .ok (.newarray .int, 2) := by decide +kernel
theorem dX3_init_29 : decode cX3_init 29 = .ok (.putfield 21, 3) := by decide +kernel
theorem dX3_init_32 : decode cX3_init 32 = .ok (.aload_n 0, 1) := by decide +kernel
theorem dX3_init_33 : decode cX3_init 33 = .ok (.iconst 3, 1) := by decide +kernel
theorem dX3_init_34 : decode cX3_init 34 = .ok (.newarray .int, 2) := by decide +kernel
theorem dX3_init_36 : decode cX3_init 36 = .ok (.putfield 24, 3) := by decide +kernel
theorem dX3_init_39 : decode cX3_init 39 = .ok (.return_, 1) := by decide +kernel
theorem dX3_clear_0 : decode cX3_clear 0 = .ok (.aload_n 0, 1) := by decide +kernel
theorem dX3_clear_1 : decode cX3_clear 1 = .ok (.iconst 0, 1) := by decide +kernel
theorem dX3_clear_2 : decode cX3_clear 2 = .ok (.putfield 27, 3) := by decide +kernel
theorem dX3_clear_5 : decode cX3_clear 5 = .ok (.aload_n 0, 1) := by decide +kernel
theorem dX3_clear_6 : decode cX3_clear 6 = .ok (.iconst 0, 1) := by decide +kernel
theorem dX3_clear_7 : decode cX3_clear 7 = .ok (.putfield 31, 3) := by decide +kernel
theorem dX3_clear_10 : decode cX3_clear 10 = .ok (.aload_n 0, 1) := by decide +kernel
theorem dX3_clear_11 : decode cX3_clear 11 = .ok (.iconst 0, 1) := by decide +kernel
theorem dX3_clear_12 : decode cX3_clear 12 = .ok (.putfield 34, 3) := by decide +kernel
theorem dX3_clear_15 : decode cX3_clear 15 = .ok (.aload_n 0, 1) := by decide +kernel
theorem dX3_clear_16 : decode cX3_clear 16 = .ok (.getfield 9, 3) := by decide +kernel
theorem dX3_clear_19 : decode cX3_clear 19 = .ok (.iconst 0, 1) := by decide +kernel
theorem dX3_clear_20 : decode cX3_clear 20 = .ok (.invokestatic 37, 3) := by decide +kernel
theorem dX3_clear_23 : decode cX3_clear 23 = .ok (.aload_n 0, 1) := by decide +kernel
theorem dX3_clear_24 : decode cX3_clear 24 = .ok (.iconst 0, 1) := by decide +kernel
theorem dX3_clear_25 : decode cX3_clear 25 = .ok (.putfield 43, 3) := by decide +kernel
theorem dX3_clear_28 : decode cX3_clear 28 = .ok (.aload_n 0, 1) := by decide +kernel
theorem dX3_clear_29 : decode cX3_clear 29 = .ok (.iconst 0, 1) := by decide +kernel
theorem dX3_clear_30 : decode cX3_clear 30 = .ok (.putfield 46, 3) := by decide +kernel
theorem dX3_clear_33 : decode cX3_clear 33 = .ok (.aload_n 0, 1) := by decide +kernel
theorem dX3_clear_34 : decode cX3_clear 34 = .ok (.iconst 0, 1) := by decide +kernel
theorem dX3_clear_35 : decode cX3_clear 35 = .ok (.putfield 49, 3) := by decide +kernel
theorem dX3_clear_38 : decode cX3_clear 38 = .ok (.aload_n 0, 1) := by decide +kernel
theorem dX3_clear_39 : decode cX3_clear 39 = .ok (.iconst 0, 1) := by decide +kernel
theorem dX3_clear_40 : decode cX3_clear 40 = .ok (.putfield 52, 3) := by decide +kernel
theorem dX3_clear_43 : decode cX3_clear 43 = .ok (.aload_n 0, 1) := by decide +kernel
theorem dX3_clear_44 : decode cX3_clear 44 = .ok (.iconst 0, 1) := by decide +kernel
theorem dX3_clear_45 : decode cX3_clear 45 = .ok (.putfield 55, 3) := by decide +kernel
theorem dX3_clear_48 : decode cX3_clear 48 = .ok (.aload_n 0, 1) := by decide +kernel
theorem dX3_clear_49 : decode cX3_clear 49 = .ok (.iconst 0, 1) := by decide +kernel
theorem dX3_clear_50 : decode cX3_clear 50 = .ok (.putfield 58, 3) := by decide +kernel
theorem dX3_clear_53 : decode cX3_clear 53 = .ok (.aload_n 0, 1) := by decide +kernel
theorem dX3_clear_54 : decode cX3_clear 54 = .ok (.iconst 0, 1) := by decide +kernel
theorem dX3_clear_55 : decode cX3_clear 55 = .ok (.putfield 61, 3) := by decide +kernel
theorem dX3_clear_58 : decode cX3_clear 58 = .ok (.aload_n 0, 1) := by decide +kernel
theorem dX3_clear_59 : decode cX3_clear 59 = .ok (.iconst (-1), 1) := by decide +kernel
theorem dX3_clear_60 : decode cX3_clear 60 = .ok (.putfield 64, 3) := by decide +kernel
theorem dX3_clear_63 : decode cX3_clear 63 = .ok (.aload_n 0, 1) := by decide +kernel
theorem dX3_clear_64 : decode cX3_clear 64 = .ok (.iconst (-1), 1) := by decide +kernel
theorem dX3_clear_65 : decode cX3_clear 65 = .ok (.putfield 67, 3) := by decide +kernel
theorem dX3_clear_68 : decode cX3_clear 68 = .ok (.return_, 1) := by decide +kernel
theorem dX3_addGuard_0 : decode cX3_addGuard 0 = .ok (.aload_n 0, 1) := by decide +kernel
theorem dX3_addGuard_1 : decode cX3_addGuard 1 = .ok (.iload_n 1, 1) := by decide +kernel
theorem dX3_addGuard_2 : decode cX3_addGuard 2 = .ok (.putfield 43, 3) := by decide +kernel
theorem dX3_addGuard_5 : decode cX3_addGuard 5 = .ok (.aload_n 0, 1) := by decide +kernel
theorem dX3_addGuard_6 : decode cX3_addGuard 6 = .ok (.iload_n 2, 1) := by decide +kernel
theorem dX3_addGuard_7 : decode cX3_addGuard 7 = .ok (.putfield 46, 3) := by decide +kernel
theorem dX3_addGuard_10 : decode cX3_addGuard 10 = .ok (.aload_n 0, 1) := by decide +kernel
theorem dX3_addGuard_11 : decode cX3_addGuard 11 = .ok (.dup, 1) := by decide +kernel
theorem dX3_addGuard_12 : decode cX3_addGuard 12 = .ok (.getfield 55, 3) := by decide +kernel
theorem dX3_addGuard_15 : decode cX3_addGuard 15 = .ok (.iload_n 2, 1) := by decide +kernel
theorem dX3_addGuard_16 : decode cX3_addGuard 16 = .ok (.invokestatic 70, 3) := by decide +kernel
theorem dX3_addGuard_19 : decode cX3_addGuard 19 = .ok (.ior, 1) := by decide +kernel
theorem dX3_addGuard_20 : decode cX3_addGuard 20 = .ok (.putfield 55, 3) := by decide +kernel
theorem dX3_addGuard_23 : decode cX3_addGuard 23 = .ok (.return_, 1) := by decide +kernel
theorem dX3_addAct_0 : decode cX3_addAct 0 = .ok (.aload_n 0, 1) := by decide +kernel
theorem dX3_addAct_1 : decode cX3_addAct 1 = .ok (.getfield 49, 3) := by decide +kernel
theorem dX3_addAct_4 : decode cX3_addAct 4 = .ok (.iconst 3, 1) := by decide +kernel
theorem dX3_addAct_5 : decode cX3_addAct 5 = .ok (.if_icmp .lt 4, 3) := by decide +kernel
theorem dX3_addAct_8 : decode cX3_addAct 8 = .ok (.return_, 1) := by decide +kernel
theorem dX3_addAct_9 : decode cX3_addAct 9 = .ok (.aload_n 0, 1) := by decide +kernel
theorem dX3_addAct_10 : decode cX3_addAct 10 = .ok (.getfield 15, 3) := by decide +kernel
theorem dX3_addAct_13 : decode cX3_addAct 13 = .ok (.aload_n 0, 1) := by decide +kernel
theorem dX3_addAct_14 : decode cX3_addAct 14 = .ok (.getfield 49, 3) := by decide +kernel
theorem dX3_addAct_17 : decode cX3_addAct 17 = .ok (.iload_n 1, 1) := by decide +kernel
theorem dX3_addAct_18 : decode cX3_addAct 18 = .ok (.iastore, 1) := by decide +kernel
theorem dX3_addAct_19 : decode cX3_addAct 19 = .ok (.aload_n 0, 1) := by decide +kernel
theorem dX3_addAct_20 : decode cX3_addAct 20 = .ok (.getfield 18, 3) := by decide +kernel
theorem dX3_addAct_23 : decode cX3_addAct 23 = .ok (.aload_n 0, 1) := by decide +kernel
theorem dX3_addAct_24 : decode cX3_addAct 24 = .ok (.getfield 49, 3) := by decide +kernel
theorem dX3_addAct_27 : decode cX3_addAct 27 = .ok (.iload_n 2, 1) := by decide +kernel
theorem dX3_addAct_28 : decode cX3_addAct 28 = .ok (.iastore, 1) := by decide +kernel
theorem dX3_addAct_29 : decode cX3_addAct 29 = .ok (.aload_n 0, 1) := by decide +kernel
theorem dX3_addAct_30 : decode cX3_addAct 30 = .ok (.getfield 21, 3) := by decide +kernel
theorem dX3_addAct_33 : decode cX3_addAct 33 = .ok (.aload_n 0, 1) := by decide +kernel
theorem dX3_addAct_34 : decode cX3_addAct 34 = .ok (.getfield 49, 3) := by decide +kernel
theorem dX3_addAct_37 : decode cX3_addAct 37 = .ok (.iload_n 3, 1) := by decide +kernel
theorem dX3_addAct_38 : decode cX3_addAct 38 = .ok (.iastore, 1) := by decide +kernel
theorem dX3_addAct_39 : decode cX3_addAct 39 = .ok (.aload_n 0, 1) := by decide +kernel
theorem dX3_addAct_40 : decode cX3_addAct 40 = .ok (.getfield 24, 3) := by decide +kernel
theorem dX3_addAct_43 : decode cX3_addAct 43 = .ok (.aload_n 0, 1) := by decide +kernel
theorem dX3_addAct_44 : decode cX3_addAct 44 = .ok (.getfield 49, 3) := by decide +kernel
theorem dX3_addAct_47 : decode cX3_addAct 47 = .ok (.iload 4, 2) := by decide +kernel
theorem dX3_addAct_49 : decode cX3_addAct 49 = .ok (.iastore, 1) := by decide +kernel
theorem dX3_addAct_50 : decode cX3_addAct 50 = .ok (.aload_n 0, 1) := by decide +kernel
theorem dX3_addAct_51 : decode cX3_addAct 51 = .ok (.dup, 1) := by decide +kernel
theorem dX3_addAct_52 : decode cX3_addAct 52 = .ok (.getfield 49, 3) := by decide +kernel
theorem dX3_addAct_55 : decode cX3_addAct 55 = .ok (.iconst 1, 1) := by decide +kernel
theorem dX3_addAct_56 : decode cX3_addAct 56 = .ok (.iadd, 1) := by decide +kernel
theorem dX3_addAct_57 : decode cX3_addAct 57 = .ok (.putfield 49, 3) := by decide +kernel
theorem dX3_addAct_60 : decode cX3_addAct 60 = .ok (.aload_n 0, 1) := by decide +kernel
theorem dX3_addAct_61 : decode cX3_addAct 61 = .ok (.dup, 1) := by decide +kernel
theorem dX3_addAct_62 : decode cX3_addAct 62 = .ok (.getfield 55, 3) := by decide +kernel
theorem dX3_addAct_65 : decode cX3_addAct 65 = .ok (.iload_n 2, 1) := by decide +kernel
theorem dX3_addAct_66 : decode cX3_addAct 66 = .ok (.invokestatic 70, 3) := by decide +kernel
theorem dX3_addAct_69 : decode cX3_addAct 69 = .ok (.iload_n 3, 1) := by decide +kernel
theorem dX3_addAct_70 : decode cX3_addAct 70 = .ok (.ifCond .ne 7, 3) := by decide +kernel
theorem dX3_addAct_73 : decode cX3_addAct 73 = .ok (.iconst 0, 1) := by decide +kernel
theorem dX3_addAct_74 : decode cX3_addAct 74 = .ok (.goto 8, 3) := by decide +kernel
theorem dX3_addAct_77 : decode cX3_addAct 77 = .ok (.iload 4, 2) := by decide +kernel
theorem dX3_addAct_79 : decode cX3_addAct 79 = .ok (.invokestatic 70, 3) := by decide +kernel
theorem dX3_addAct_82 : decode cX3_addAct 82 = .ok (.ior, 1) := by decide +kernel
theorem dX3_addAct_83 : decode cX3_addAct 83 = .ok (.ior, 1) := by decide +kernel
theorem dX3_addAct_84 : decode cX3_addAct 84 = .ok (.putfield 55, 3) := by decide +kernel
theorem dX3_addAct_87 : decode cX3_addAct 87 = .ok (.iload_n 1, 1) := by decide +kernel
theorem dX3_addAct_88 : decode cX3_addAct 88 = .ok (.bipush 6, 2) := by decide +kernel
theorem dX3_addAct_90 : decode cX3_addAct 90 = .ok (.if_icmp .lt 33, 3) := by decide +kernel
theorem dX3_addAct_93 : decode cX3_addAct 93 = .ok (.aload_n 0, 1) := by decide +kernel
theorem dX3_addAct_94 : decode cX3_addAct 94 = .ok (.dup, 1) := by decide +kernel
theorem dX3_addAct_95 : decode cX3_addAct 95 = .ok (.getfield 58, 3) := by decide +kernel
theorem dX3_addAct_98 : decode cX3_addAct 98 = .ok (.bipush 32, 2) := by decide +kernel
theorem dX3_addAct_100 : decode cX3_addAct 100 = .ok (.ior, 1) := by decide +kernel
theorem dX3_addAct_101 : decode cX3_addAct 101 = .ok (.putfield 58, 3) := by decide +kernel
theorem dX3_addAct_104 : decode cX3_addAct 104 = .ok (.aload_n 0, 1) := by decide +kernel
theorem dX3_addAct_105 : decode cX3_addAct 105 = .ok (.dup, 1) := by decide +kernel
theorem dX3_addAct_106 : decode cX3_addAct 106 = .ok (.getfield 55, 3) := by decide +kernel
theorem dX3_addAct_109 : decode cX3_addAct 109 = .ok (.iload_n 1, 1) := by decide +kernel
theorem dX3_addAct_110 : decode cX3_addAct 110 = .ok (.bipush 6, 2) := by decide +kernel
theorem dX3_addAct_112 : decode cX3_addAct 112 = .ok (.isub, 1) := by decide +kernel
theorem dX3_addAct_113 : decode cX3_addAct 113 = .ok (.invokestatic 70, 3) := by decide +kernel
theorem dX3_addAct_116 : decode cX3_addAct 116 = .ok (.ior, 1) := by decide +kernel
theorem dX3_addAct_117 : decode cX3_addAct 117 = .ok (.putfield 55, 3) := by decide +kernel
theorem dX3_addAct_120 : decode cX3_addAct 120 = .ok (.goto 16, 3) := by decide +kernel
theorem dX3_addAct_123 : decode cX3_addAct 123 = .ok (.aload_n 0, 1) := by decide +kernel
theorem dX3_addAct_124 : decode cX3_addAct 124 = .ok (.dup, 1) := by decide +kernel
theorem dX3_addAct_125 : decode cX3_addAct 125 = .ok (.getfield 58, 3) := by decide +kernel
theorem dX3_addAct_128 : decode cX3_addAct 128 = .ok (.iload_n 1, 1) := by decide +kernel
theorem dX3_addAct_129 : decode cX3_addAct 129 = .ok (.invokestatic 70, 3) := by decide +kernel
theorem dX3_addAct_132 : decode cX3_addAct 132 = .ok (.ior, 1) := by decide +kernel
theorem dX3_addAct_133 : decode cX3_addAct 133 = .ok (.putfield 58, 3) := by decide +kernel
theorem dX3_addAct_136 : decode cX3_addAct 136 = .ok (.return_, 1) := by decide +kernel
theorem dX3_addActsOf_0 : decode cX3_addActsOf 0 = .ok (.iconst 0, 1) := by decide +kernel
theorem dX3_addActsOf_1 : decode cX3_addActsOf 1 = .ok (.istore_n 2, 1) := by decide +kernel
theorem dX3_addActsOf_2 : decode cX3_addActsOf 2 = .ok (.iload_n 2, 1) := by decide +kernel
theorem dX3_addActsOf_3 : decode cX3_addActsOf 3 = .ok (.aload_n 1, 1) := by decide +kernel
theorem dX3_addActsOf_4 : decode cX3_addActsOf 4 = .ok (.getfield 49, 3) := by decide +kernel
theorem dX3_addActsOf_7 : decode cX3_addActsOf 7 = .ok (.if_icmp .ge 37, 3) := by decide +kernel
theorem dX3_addActsOf_10 : decode cX3_addActsOf 10 = .ok (.aload_n 0, 1) := by decide +kernel
theorem dX3_addActsOf_11 : decode cX3_addActsOf 11 = .ok (.aload_n 1, 1) := by decide +kernel
theorem dX3_addActsOf_12 : decode cX3_addActsOf 12 = .ok (.getfield 15, 3) := by decide +kernel
theorem dX3_addActsOf_15 : decode cX3_addActsOf 15 = .ok (.iload_n 2, 1) := by decide +kernel
theorem dX3_addActsOf_16 : decode cX3_addActsOf 16 = .ok (.iaload, 1) := by decide +kernel
theorem dX3_addActsOf_17 : decode cX3_addActsOf 17 = .ok (.aload_n 1, 1) := by decide +kernel
theorem dX3_addActsOf_18 : decode cX3_addActsOf 18 = .ok (.getfield 18, 3) := by decide +kernel
theorem dX3_addActsOf_21 : decode cX3_addActsOf 21 = .ok (.iload_n 2, 1) := by decide +kernel
theorem dX3_addActsOf_22 : decode cX3_addActsOf 22 = .ok (.iaload, 1) := by decide +kernel
theorem dX3_addActsOf_23 : decode cX3_addActsOf 23 = .ok (.aload_n 1, 1) := by decide +kernel
theorem dX3_addActsOf_24 : decode cX3_addActsOf 24 = .ok (.getfield 21, 3) := by decide +kernel
theorem dX3_addActsOf_27 : decode cX3_addActsOf 27 = .ok (.iload_n 2, 1) := by decide +kernel
theorem dX3_addActsOf_28 : decode cX3_addActsOf 28 = .ok (.iaload, 1) := by decide +kernel
theorem dX3_addActsOf_29 : decode cX3_addActsOf 29 = .ok (.aload_n 1, 1) := by decide +kernel
theorem dX3_addActsOf_30 : decode cX3_addActsOf 30 = .ok (.getfield 24, 3) := by decide +kernel
theorem dX3_addActsOf_33 : decode cX3_addActsOf 33 = .ok (.iload_n 2, 1) := by decide +kernel
theorem dX3_addActsOf_34 : decode cX3_addActsOf 34 = .ok (.iaload, 1) := by decide +kernel
theorem dX3_addActsOf_35 : decode cX3_addActsOf 35 = .ok (.invokevirtual 74, 3) := by decide +kernel
theorem dX3_addActsOf_38 : decode cX3_addActsOf 38 = .ok (.iinc 2 1, 3) := by decide +kernel
theorem dX3_addActsOf_41 : decode cX3_addActsOf 41 = .ok (.goto (-39), 3) := by decide +kernel
theorem dX3_addActsOf_44 : decode cX3_addActsOf 44 = .ok (.return_, 1) := by decide +kernel
theorem dX3_namedBy_0 : decode cX3_namedBy 0 = .ok (.iload_n 0, 1) := by decide +kernel
theorem dX3_namedBy_1 : decode cX3_namedBy 1 = .ok (.iconst 4, 1) := by decide +kernel
theorem dX3_namedBy_2 : decode cX3_namedBy 2 = .ok (.if_icmp .ne 6, 3) := by decide +kernel
theorem dX3_namedBy_5 : decode cX3_namedBy 5 = .ok (.bipush 8, 2) := by decide +kernel
theorem dX3_namedBy_7 : decode cX3_namedBy 7 = .ok (.ireturn, 1) := by decide +kernel
theorem dX3_namedBy_8 : decode cX3_namedBy 8 = .ok (.iload_n 0, 1) := by decide +kernel
theorem dX3_namedBy_9 : decode cX3_namedBy 9 = .ok (.iconst 5, 1) := by decide +kernel
theorem dX3_namedBy_10 : decode cX3_namedBy 10 = .ok (.if_icmp .ne 6, 3) := by decide +kernel
theorem dX3_namedBy_13 : decode cX3_namedBy 13 = .ok (.bipush 16, 2) := by decide +kernel
theorem dX3_namedBy_15 : decode cX3_namedBy 15 = .ok (.ireturn, 1) := by decide +kernel
theorem dX3_namedBy_16 : decode cX3_namedBy 16 = .ok (.iload_n 0, 1) := by decide +kernel
theorem dX3_namedBy_17 : decode cX3_namedBy 17 = .ok (.iconst 3, 1) := by decide +kernel
theorem dX3_namedBy_18 : decode cX3_namedBy 18 = .ok (.if_icmp .eq 9, 3) := by decide +kernel
theorem dX3_namedBy_21 : decode cX3_namedBy 21 = .ok (.iload_n 0, 1) := by decide +kernel
theorem dX3_namedBy_22 : decode cX3_namedBy 22 = .ok (.bipush 16, 2) := by decide +kernel
theorem dX3_namedBy_24 : decode cX3_namedBy 24 = .ok (.if_icmp .lt 5, 3) := by decide +kernel
theorem dX3_namedBy_27 : decode cX3_namedBy 27 = .ok (.iconst 0, 1) := by decide +kernel
theorem dX3_namedBy_28 : decode cX3_namedBy 28 = .ok (.ireturn, 1) := by decide +kernel
theorem dX3_namedBy_29 : decode cX3_namedBy 29 = .ok (.iload_n 0, 1) := by decide +kernel
theorem dX3_namedBy_30 : decode cX3_namedBy 30 = .ok (.bipush 6, 2) := by decide +kernel
theorem dX3_namedBy_32 : decode cX3_namedBy 32 = .ok (.if_icmp .lt 25, 3) := by decide +kernel
theorem dX3_namedBy_35 : decode cX3_namedBy 35 = .ok (.bipush 32, 2) := by decide +kernel
theorem dX3_namedBy_37 : decode cX3_namedBy 37 = .ok (.iload_n 0, 1) := by decide +kernel
theorem dX3_namedBy_38 : decode cX3_namedBy 38 = .ok (.bipush 6, 2) := by decide +kernel
theorem dX3_namedBy_40 : decode cX3_namedBy 40 = .ok (.isub, 1) := by decide +kernel
theorem dX3_namedBy_41 : decode cX3_namedBy 41 = .ok (.iconst 3, 1) := by decide +kernel
theorem dX3_namedBy_42 : decode cX3_namedBy 42 = .ok (.if_icmp .ne 7, 3) := by decide +kernel
theorem dX3_namedBy_45 : decode cX3_namedBy 45 = .ok (.iconst 0, 1) := by decide +kernel
theorem dX3_namedBy_46 : decode cX3_namedBy 46 = .ok (.goto 9, 3) := by decide +kernel
theorem dX3_namedBy_49 : decode cX3_namedBy 49 = .ok (.iconst 1, 1) := by decide +kernel
theorem dX3_namedBy_50 : decode cX3_namedBy 50 = .ok (.iload_n 0, 1) := by decide +kernel
theorem dX3_namedBy_51 : decode cX3_namedBy 51 = .ok (.bipush 6, 2) := by decide +kernel
theorem dX3_namedBy_53 : decode cX3_namedBy 53 = .ok (.isub, 1) := by decide +kernel
theorem dX3_namedBy_54 : decode cX3_namedBy 54 = .ok (.ishl, 1) := by decide +kernel
theorem dX3_namedBy_55 : decode cX3_namedBy 55 = .ok (.ior, 1) := by decide +kernel
theorem dX3_namedBy_56 : decode cX3_namedBy 56 = .ok (.ireturn, 1) := by decide +kernel
theorem dX3_namedBy_57 : decode cX3_namedBy 57 = .ok (.iconst 1, 1) := by decide +kernel
theorem dX3_namedBy_58 : decode cX3_namedBy 58 = .ok (.iload_n 0, 1) := by decide +kernel
theorem dX3_namedBy_59 : decode cX3_namedBy 59 = .ok (.ishl, 1) := by decide +kernel
theorem dX3_namedBy_60 : decode cX3_namedBy 60 = .ok (.ireturn, 1) := by decide +kernel
theorem dX3_hasField_0 : decode cX3_hasField 0 = .ok (.aload_n 0, 1) := by decide +kernel
theorem dX3_hasField_1 : decode cX3_hasField 1 = .ok (.getfield 9, 3) := by decide +kernel
theorem dX3_hasField_4 : decode cX3_hasField 4 = .ok (.iload_n 1, 1) := by decide +kernel
theorem dX3_hasField_5 : decode cX3_hasField 5 = .ok (.iaload, 1) := by decide +kernel
theorem dX3_hasField_6 : decode cX3_hasField 6 = .ok (.ifCond .eq 7, 3) := by decide +kernel
theorem dX3_hasField_9 : decode cX3_hasField 9 = .ok (.iconst 1, 1) := by decide +kernel
theorem dX3_hasField_10 : decode cX3_hasField 10 = .ok (.goto 4, 3) := by decide +kernel
theorem dX3_hasField_13 : decode cX3_hasField 13 = .ok (.iconst 0, 1) := by decide +kernel
theorem dX3_hasField_14 : decode cX3_hasField 14 = .ok (.ireturn, 1) := by decide +kernel
theorem dX3_fieldBits_0 : decode cX3_fieldBits 0 = .ok (.aload_n 0, 1) := by decide +kernel
theorem dX3_fieldBits_1 : decode cX3_fieldBits 1 = .ok (.getfield 9, 3) := by decide +kernel
theorem dX3_fieldBits_4 : decode cX3_fieldBits 4 = .ok (.iload_n 1, 1) := by decide +kernel
theorem dX3_fieldBits_5 : decode cX3_fieldBits 5 = .ok (.iaload, 1) := by decide +kernel
theorem dX3_fieldBits_6 : decode cX3_fieldBits 6 = .ok (.invokestatic 78, 3) := by decide +kernel
theorem dX3_fieldBits_9 : decode cX3_fieldBits 9 = .ok (.ireturn, 1) := by decide +kernel
theorem dX3_fieldLetters_0 : decode cX3_fieldLetters 0 = .ok (.iconst 0, 1) := by decide +kernel
theorem dX3_fieldLetters_1 : decode cX3_fieldLetters 1 = .ok (.istore_n 1, 1) := by decide +kernel
theorem dX3_fieldLetters_2 : decode cX3_fieldLetters 2 = .ok (.iconst 0, 1) := by decide +kernel
theorem dX3_fieldLetters_3 : decode cX3_fieldLetters 3 = .ok (.istore_n 2, 1) := by decide +kernel
theorem dX3_fieldLetters_4 : decode cX3_fieldLetters 4 = .ok (.iload_n 2, 1) := by decide +kernel
theorem dX3_fieldLetters_5 : decode cX3_fieldLetters 5 = .ok (.iconst 3, 1) := by decide +kernel
theorem dX3_fieldLetters_6 : decode cX3_fieldLetters 6 = .ok (.if_icmp .gt 27, 3) := by decide +kernel
theorem dX3_fieldLetters_9 : decode cX3_fieldLetters 9 = .ok (.iload_n 1, 1) := by decide +kernel
theorem dX3_fieldLetters_10 : decode cX3_fieldLetters 10 = .ok (.aload_n 0, 1) := by decide +kernel
theorem dX3_fieldLetters_11 : decode cX3_fieldLetters 11 = .ok (.iload_n 2, 1) := by decide +kernel
theorem dX3_fieldLetters_12 : decode cX3_fieldLetters 12 = .ok (.invokevirtual 83, 3) := by decide +kernel
theorem dX3_fieldLetters_15 : decode cX3_fieldLetters 15 = .ok (.ifCond .eq 9, 3) := by decide +kernel
theorem dX3_fieldLetters_18 : decode cX3_fieldLetters 18 = .ok (.iconst 1, 1) := by decide +kernel
theorem dX3_fieldLetters_19 : decode cX3_fieldLetters 19 = .ok (.iload_n 2, 1) := by decide +kernel
theorem dX3_fieldLetters_20 : decode cX3_fieldLetters 20 = .ok (.ishl, 1) := by decide +kernel
theorem dX3_fieldLetters_21 : decode cX3_fieldLetters 21 = .ok (.goto 4, 3) := by decide +kernel
theorem dX3_fieldLetters_24 : decode cX3_fieldLetters 24 = .ok (.iconst 0, 1) := by decide +kernel
theorem dX3_fieldLetters_25 : decode cX3_fieldLetters 25 = .ok (.ior, 1) := by decide +kernel
theorem dX3_fieldLetters_26 : decode cX3_fieldLetters 26 = .ok (.istore_n 1, 1) := by decide +kernel
theorem dX3_fieldLetters_27 : decode cX3_fieldLetters 27 = .ok (.iinc 2 1, 3) := by decide +kernel
theorem dX3_fieldLetters_30 : decode cX3_fieldLetters 30 = .ok (.goto (-26), 3) := by decide +kernel
theorem dX3_fieldLetters_33 : decode cX3_fieldLetters 33 = .ok (.iload_n 1, 1) := by decide +kernel
theorem dX3_fieldLetters_34 : decode cX3_fieldLetters 34 = .ok (.ireturn, 1) := by decide +kernel
theorem dX3_fieldOf_0 : decode cX3_fieldOf 0 = .ok (.aload_n 0, 1) := by decide +kernel
theorem dX3_fieldOf_1 : decode cX3_fieldOf 1 = .ok (.getfield 9, 3) := by decide +kernel
theorem dX3_fieldOf_4 : decode cX3_fieldOf 4 = .ok (.iload_n 2, 1) := by decide +kernel
theorem dX3_fieldOf_5 : decode cX3_fieldOf 5 = .ok (.iaload, 1) := by decide +kernel
theorem dX3_fieldOf_6 : decode cX3_fieldOf 6 = .ok (.istore_n 3, 1) := by decide +kernel
theorem dX3_fieldOf_7 : decode cX3_fieldOf 7 = .ok (.iload_n 3, 1) := by decide +kernel
theorem dX3_fieldOf_8 : decode cX3_fieldOf 8 = .ok (.ifCond .ne 5, 3) := by decide +kernel
theorem dX3_fieldOf_11 : decode cX3_fieldOf 11 = .ok (.iconst 0, 1) := by decide +kernel
theorem dX3_fieldOf_12 : decode cX3_fieldOf 12 = .ok (.ireturn, 1) := by decide +kernel
theorem dX3_fieldOf_13 : decode cX3_fieldOf 13 = .ok (.iconst 0, 1) := by decide +kernel
theorem dX3_fieldOf_14 : decode cX3_fieldOf 14 = .ok (.istore 4, 2) := by decide +kernel
theorem dX3_fieldOf_16 : decode cX3_fieldOf 16 = .ok (.sipush 2048, 3) := by decide +kernel
theorem dX3_fieldOf_19 : decode cX3_fieldOf 19 = .ok (.istore 5, 2) := by decide +kernel
theorem dX3_fieldOf_21 : decode cX3_fieldOf 21 = .ok (.iload 5, 2) := by decide +kernel
theorem dX3_fieldOf_23 : decode cX3_fieldOf 23 = .ok (.ifCond .le 38, 3) := by decide +kernel
theorem dX3_fieldOf_26 : decode cX3_fieldOf 26 = .ok (.iload_n 3, 1) := by decide +kernel
theorem dX3_fieldOf_27 : decode cX3_fieldOf 27 = .ok (.iload 5, 2) := by decide +kernel
theorem dX3_fieldOf_29 : decode cX3_fieldOf 29 = .ok (.iand, 1) := by decide +kernel
theorem dX3_fieldOf_30 : decode cX3_fieldOf 30 = .ok (.ifCond .eq 22, 3) := by decide +kernel
theorem dX3_fieldOf_33 : decode cX3_fieldOf 33 = .ok (.iload 4, 2) := by decide +kernel
theorem dX3_fieldOf_35 : decode cX3_fieldOf 35 = .ok (.iconst 2, 1) := by decide +kernel
theorem dX3_fieldOf_36 : decode cX3_fieldOf 36 = .ok (.imul, 1) := by decide +kernel
theorem dX3_fieldOf_37 : decode cX3_fieldOf 37 = .ok (.iload_n 1, 1) := by decide +kernel
theorem dX3_fieldOf_38 : decode cX3_fieldOf 38 = .ok (.iload 5, 2) := by decide +kernel
theorem dX3_fieldOf_40 : decode cX3_fieldOf 40 = .ok (.iand, 1) := by decide +kernel
theorem dX3_fieldOf_41 : decode cX3_fieldOf 41 = .ok (.ifCond .ne 7, 3) := by decide +kernel
theorem dX3_fieldOf_44 : decode cX3_fieldOf 44 = .ok (.iconst 0, 1) := by decide +kernel
theorem dX3_fieldOf_45 : decode cX3_fieldOf 45 = .ok (.goto 4, 3) := by decide +kernel
theorem dX3_fieldOf_48 : decode cX3_fieldOf 48 = .ok (.iconst 1, 1) := by decide +kernel
theorem dX3_fieldOf_49 : decode cX3_fieldOf 49 = .ok (.iadd, 1) := by decide +kernel
theorem dX3_fieldOf_50 : decode cX3_fieldOf 50 = .ok (.istore 4, 2) := by decide +kernel
theorem dX3_fieldOf_52 : decode cX3_fieldOf 52 = .ok (.iload 5, 2) := by decide +kernel
theorem dX3_fieldOf_54 : decode cX3_fieldOf 54 = .ok (.iconst 1, 1) := by decide +kernel
theorem dX3_fieldOf_55 : decode cX3_fieldOf 55 = .ok (.ishr, 1) := by decide +kernel
theorem dX3_fieldOf_56 : decode cX3_fieldOf 56 = .ok (.istore 5, 2) := by decide +kernel
theorem dX3_fieldOf_58 : decode cX3_fieldOf 58 = .ok (.goto (-37), 3) := by decide +kernel
theorem dX3_fieldOf_61 : decode cX3_fieldOf 61 = .ok (.iload 4, 2) := by decide +kernel
theorem dX3_fieldOf_63 : decode cX3_fieldOf 63 = .ok (.ireturn, 1) := by decide +kernel
theorem dX3_withField_0 : decode cX3_withField 0 = .ok (.iload_n 1, 1) := by decide +kernel
theorem dX3_withField_1 : decode cX3_withField 1 = .ok (.istore 4, 2) := by decide +kernel
theorem dX3_withField_3 : decode cX3_withField 3 = .ok (.iload_n 3, 1) := by decide +kernel
theorem dX3_withField_4 : decode cX3_withField 4 = .ok (.istore 5, 2) := by decide +kernel
theorem dX3_withField_6 : decode cX3_withField 6 = .ok (.iconst 1, 1) := by decide +kernel
theorem dX3_withField_7 : decode cX3_withField 7 = .ok (.istore 6, 2) := by decide +kernel
theorem dX3_withField_9 : decode cX3_withField 9 = .ok (.iload 6, 2) := by decide +kernel
theorem dX3_withField_11 : decode cX3_withField 11 = .ok (.sipush 4096, 3) := by decide +kernel
theorem dX3_withField_14 : decode cX3_withField 14 = .ok (.if_icmp .ge 48, 3) := by decide +kernel
theorem dX3_withField_17 : decode cX3_withField 17 = .ok (.aload_n 0, 1) := by decide +kernel
theorem dX3_withField_18 : decode cX3_withField 18 = .ok (.getfield 9, 3) := by decide +kernel
theorem dX3_withField_21 : decode cX3_withField 21 = .ok (.iload_n 2, 1) := by decide +kernel
theorem dX3_withField_22 : decode cX3_withField 22 = .ok (.iaload, 1) := by decide +kernel
theorem dX3_withField_23 : decode cX3_withField 23 = .ok (.iload 6, 2) := by decide +kernel
theorem dX3_withField_25 : decode cX3_withField 25 = .ok (.iand, 1) := by decide +kernel
theorem dX3_withField_26 : decode cX3_withField 26 = .ok (.ifCond .eq 27, 3) := by decide +kernel
theorem dX3_withField_29 : decode cX3_withField 29 = .ok (.iload 4, 2) := by decide +kernel
theorem dX3_withField_31 : decode cX3_withField 31 = .ok (.iload 5, 2) := by decide +kernel
theorem dX3_withField_33 : decode cX3_withField 33 = .ok (.iconst 1, 1) := by decide +kernel
theorem dX3_withField_34 : decode cX3_withField 34 = .ok (.iand, 1) := by decide +kernel
theorem dX3_withField_35 : decode cX3_withField 35 = .ok (.ifCond .ne 7, 3) := by decide +kernel
theorem dX3_withField_38 : decode cX3_withField 38 = .ok (.iconst 0, 1) := by decide +kernel
theorem dX3_withField_39 : decode cX3_withField 39 = .ok (.goto 5, 3) := by decide +kernel
theorem dX3_withField_42 : decode cX3_withField 42 = .ok (.iload 6, 2) := by decide +kernel
theorem dX3_withField_44 : decode cX3_withField 44 = .ok (.ior, 1) := by decide +kernel
theorem dX3_withField_45 : decode cX3_withField 45 = .ok (.istore 4, 2) := by decide +kernel
theorem dX3_withField_47 : decode cX3_withField 47 = .ok (.iload 5, 2) := by decide +kernel
theorem dX3_withField_49 : decode cX3_withField 49 = .ok (.iconst 1, 1) := by decide +kernel
theorem dX3_withField_50 : decode cX3_withField 50 = .ok (.ishr, 1) := by decide +kernel
theorem dX3_withField_51 : decode cX3_withField 51 = .ok (.istore 5, 2) := by decide +kernel
theorem dX3_withField_53 : decode cX3_withField 53 = .ok (.iload 6, 2) := by decide +kernel
theorem dX3_withField_55 : decode cX3_withField 55 = .ok (.iconst 1, 1) := by decide +kernel
theorem dX3_withField_56 : decode cX3_withField 56 = .ok (.ishl, 1) := by decide +kernel
theorem dX3_withField_57 : decode cX3_withField 57 = .ok (.istore 6, 2) := by decide +kernel
theorem dX3_withField_59 : decode cX3_withField 59 = .ok (.goto (-50), 3) := by decide +kernel
theorem dX3_withField_62 : decode cX3_withField 62 = .ok (.iload 4, 2) := by decide +kernel
theorem dX3_withField_64 : decode cX3_withField 64 = .ok (.ireturn, 1) := by decide +kernel
theorem dX3_isOf_0 : decode cX3_isOf 0 = .ok (.iload_n 1, 1) := by decide +kernel
theorem dX3_isOf_1 : decode cX3_isOf 1 = .ok (.aload_n 0, 1) := by decide +kernel
theorem dX3_isOf_2 : decode cX3_isOf 2 = .ok (.getfield 31, 3) := by decide +kernel
theorem dX3_isOf_5 : decode cX3_isOf 5 = .ok (.iand, 1) := by decide +kernel
theorem dX3_isOf_6 : decode cX3_isOf 6 = .ok (.aload_n 0, 1) := by decide +kernel
theorem dX3_isOf_7 : decode cX3_isOf 7 = .ok (.getfield 34, 3) := by decide +kernel
theorem dX3_isOf_10 : decode cX3_isOf 10 = .ok (.if_icmp .ne 7, 3) := by decide +kernel
theorem dX3_isOf_13 : decode cX3_isOf 13 = .ok (.iconst 1, 1) := by decide +kernel
theorem dX3_isOf_14 : decode cX3_isOf 14 = .ok (.goto 4, 3) := by decide +kernel
theorem dX3_isOf_17 : decode cX3_isOf 17 = .ok (.iconst 0, 1) := by decide +kernel
theorem dX3_isOf_18 : decode cX3_isOf 18 = .ok (.ireturn, 1) := by decide +kernel
theorem dX3_tellAbout_0 : decode cX3_tellAbout 0 = .ok (.iload_n 1, 1) := by decide +kernel
theorem dX3_tellAbout_1 : decode cX3_tellAbout 1 = .ok (.tableswitch 70 0 5 #[39, 44, 49, 54, 59, 65], 39) := by decide +kernel
theorem dX3_tellAbout_40 : decode cX3_tellAbout 40 = .ok (.aload_n 0, 1) := by decide +kernel
theorem dX3_tellAbout_41 : decode cX3_tellAbout 41 = .ok (.getfield 52, 3) := by decide +kernel
theorem dX3_tellAbout_44 : decode cX3_tellAbout 44 = .ok (.ireturn, 1) := by decide +kernel
theorem dX3_tellAbout_45 : decode cX3_tellAbout 45 = .ok (.aload_n 0, 1) := by decide +kernel
theorem dX3_tellAbout_46 : decode cX3_tellAbout 46 = .ok (.getfield 49, 3) := by decide +kernel
theorem dX3_tellAbout_49 : decode cX3_tellAbout 49 = .ok (.ireturn, 1) := by decide +kernel
theorem dX3_tellAbout_50 : decode cX3_tellAbout 50 = .ok (.aload_n 0, 1) := by decide +kernel
theorem dX3_tellAbout_51 : decode cX3_tellAbout 51 = .ok (.getfield 43, 3) := by decide +kernel
theorem dX3_tellAbout_54 : decode cX3_tellAbout 54 = .ok (.ireturn, 1) := by decide +kernel
theorem dX3_tellAbout_55 : decode cX3_tellAbout 55 = .ok (.aload_n 0, 1) := by decide +kernel
theorem dX3_tellAbout_56 : decode cX3_tellAbout 56 = .ok (.invokevirtual 89, 3) := by decide +kernel
theorem dX3_tellAbout_59 : decode cX3_tellAbout 59 = .ok (.ireturn, 1) := by decide +kernel
theorem dX3_tellAbout_60 : decode cX3_tellAbout 60 = .ok (.aload_n 0, 1) := by decide +kernel
theorem dX3_tellAbout_61 : decode cX3_tellAbout 61 = .ok (.iconst 3, 1) := by decide +kernel
theorem dX3_tellAbout_62 : decode cX3_tellAbout 62 = .ok (.invokevirtual 93, 3) := by decide +kernel
theorem dX3_tellAbout_65 : decode cX3_tellAbout 65 = .ok (.ireturn, 1) := by decide +kernel
theorem dX3_tellAbout_66 : decode cX3_tellAbout 66 = .ok (.aload_n 0, 1) := by decide +kernel
theorem dX3_tellAbout_67 : decode cX3_tellAbout 67 = .ok (.getfield 34, 3) := by decide +kernel
theorem dX3_tellAbout_70 : decode cX3_tellAbout 70 = .ok (.ireturn, 1) := by decide +kernel
theorem dX3_tellAbout_71 : decode cX3_tellAbout 71 = .ok (.iconst (-1), 1) := by decide +kernel
theorem dX3_tellAbout_72 : decode cX3_tellAbout 72 = .ok (.ireturn, 1) := by decide +kernel
theorem dX3_findForm_0 : decode cX3_findForm 0 = .ok (.aload_n 0, 1) := by decide +kernel
theorem dX3_findForm_1 : decode cX3_findForm 1 = .ok (.iconst 0, 1) := by decide +kernel
theorem dX3_findForm_2 : decode cX3_findForm 2 = .ok (.putfield 61, 3) := by decide +kernel
theorem dX3_findForm_5 : decode cX3_findForm 5 = .ok (.aload_n 0, 1) := by decide +kernel
theorem dX3_findForm_6 : decode cX3_findForm 6 = .ok (.getfield 43, 3) := by decide +kernel
theorem dX3_findForm_9 : decode cX3_findForm 9 = .ok (.ifCond .ne 51, 3) := by decide +kernel
theorem dX3_findForm_12 : decode cX3_findForm 12 = .ok (.aload_n 0, 1) := by decide +kernel
theorem dX3_findForm_13 : decode cX3_findForm 13 = .ok (.getfield 49, 3) := by decide +kernel
theorem dX3_findForm_16 : decode cX3_findForm 16 = .ok (.iconst 1, 1) := by decide +kernel
theorem dX3_findForm_17 : decode cX3_findForm 17 = .ok (.if_icmp .ne 43, 3) := by decide +kernel
theorem dX3_findForm_20 : decode cX3_findForm 20 = .ok (.aload_n 0, 1) := by decide +kernel
theorem dX3_findForm_21 : decode cX3_findForm 21 = .ok (.getfield 15, 3) := by decide +kernel
theorem dX3_findForm_24 : decode cX3_findForm 24 = .ok (.iconst 0, 1) := by decide +kernel
theorem dX3_findForm_25 : decode cX3_findForm 25 = .ok (.iaload, 1) := by decide +kernel
theorem dX3_findForm_26 : decode cX3_findForm 26 = .ok (.ifCond .ne 34, 3) := by decide +kernel
theorem dX3_findForm_29 : decode cX3_findForm 29 = .ok (.aload_n 0, 1) := by decide +kernel
theorem dX3_findForm_30 : decode cX3_findForm 30 = .ok (.invokevirtual 89, 3) := by decide +kernel
theorem dX3_findForm_33 : decode cX3_findForm 33 = .ok (.istore_n 1, 1) := by decide +kernel
theorem dX3_findForm_34 : decode cX3_findForm 34 = .ok (.aload_n 0, 1) := by decide +kernel
theorem dX3_findForm_35 : decode cX3_findForm 35 = .ok (.aload_n 0, 1) := by decide +kernel
theorem dX3_findForm_36 : decode cX3_findForm 36 = .ok (.getfield 21, 3) := by decide +kernel
theorem dX3_findForm_39 : decode cX3_findForm 39 = .ok (.iconst 0, 1) := by decide +kernel
theorem dX3_findForm_40 : decode cX3_findForm 40 = .ok (.iaload, 1) := by decide +kernel
theorem dX3_findForm_41 : decode cX3_findForm 41 = .ok (.ifCond .ne 11, 3) := by decide +kernel
theorem dX3_findForm_44 : decode cX3_findForm 44 = .ok (.aload_n 0, 1) := by decide +kernel
theorem dX3_findForm_45 : decode cX3_findForm 45 = .ok (.iload_n 1, 1) := by decide +kernel
theorem dX3_findForm_46 : decode cX3_findForm 46 = .ok (.invokevirtual 96, 3) := by decide +kernel
theorem dX3_findForm_49 : decode cX3_findForm 49 = .ok (.goto 8, 3) := by decide +kernel
theorem dX3_findForm_52 : decode cX3_findForm 52 = .ok (.aload_n 0, 1) := by decide +kernel
theorem dX3_findForm_53 : decode cX3_findForm 53 = .ok (.iload_n 1, 1) := by decide +kernel
theorem dX3_findForm_54 : decode cX3_findForm 54 = .ok (.invokevirtual 99, 3) := by decide +kernel
theorem dX3_findForm_57 : decode cX3_findForm 57 = .ok (.putfield 61, 3) := by decide +kernel
theorem dX3_findForm_60 : decode cX3_findForm 60 = .ok (.return_, 1) := by decide +kernel
theorem dX3_plainForm_0 : decode cX3_plainForm 0 = .ok (.aload_n 0, 1) := by decide +kernel
theorem dX3_plainForm_1 : decode cX3_plainForm 1 = .ok (.getfield 18, 3) := by decide +kernel
theorem dX3_plainForm_4 : decode cX3_plainForm 4 = .ok (.iconst 0, 1) := by decide +kernel
theorem dX3_plainForm_5 : decode cX3_plainForm 5 = .ok (.iaload, 1) := by decide +kernel
theorem dX3_plainForm_6 : decode cX3_plainForm 6 = .ok (.iconst 3, 1) := by decide +kernel
theorem dX3_plainForm_7 : decode cX3_plainForm 7 = .ok (.if_icmp .ne 11, 3) := by decide +kernel
theorem dX3_plainForm_10 : decode cX3_plainForm 10 = .ok (.iload_n 1, 1) := by decide +kernel
theorem dX3_plainForm_11 : decode cX3_plainForm 11 = .ok (.bipush 9, 2) := by decide +kernel
theorem dX3_plainForm_13 : decode cX3_plainForm 13 = .ok (.if_icmp .ne 5, 3) := by decide +kernel
theorem dX3_plainForm_16 : decode cX3_plainForm 16 = .ok (.iconst 1, 1) := by decide +kernel
theorem dX3_plainForm_17 : decode cX3_plainForm 17 = .ok (.ireturn, 1) := by decide +kernel
theorem dX3_plainForm_18 : decode cX3_plainForm 18 = .ok (.aload_n 0, 1) := by decide +kernel
theorem dX3_plainForm_19 : decode cX3_plainForm 19 = .ok (.getfield 18, 3) := by decide +kernel
theorem dX3_plainForm_22 : decode cX3_plainForm 22 = .ok (.iconst 0, 1) := by decide +kernel
theorem dX3_plainForm_23 : decode cX3_plainForm 23 = .ok (.iaload, 1) := by decide +kernel
theorem dX3_plainForm_24 : decode cX3_plainForm 24 = .ok (.iconst 1, 1) := by decide +kernel
theorem dX3_plainForm_25 : decode cX3_plainForm 25 = .ok (.if_icmp .ne 12, 3) := by decide +kernel
theorem dX3_plainForm_28 : decode cX3_plainForm 28 = .ok (.iload_n 1, 1) := by decide +kernel
theorem dX3_plainForm_29 : decode cX3_plainForm 29 = .ok (.iconst 3, 1) := by decide +kernel
theorem dX3_plainForm_30 : decode cX3_plainForm 30 = .ok (.if_icmp .ne 7, 3) := by decide +kernel
theorem dX3_plainForm_33 : decode cX3_plainForm 33 = .ok (.iconst 2, 1) := by decide +kernel
theorem dX3_plainForm_34 : decode cX3_plainForm 34 = .ok (.goto 4, 3) := by decide +kernel
theorem dX3_plainForm_37 : decode cX3_plainForm 37 = .ok (.iconst 0, 1) := by decide +kernel
theorem dX3_plainForm_38 : decode cX3_plainForm 38 = .ok (.ireturn, 1) := by decide +kernel
theorem dX3_signForm_0 : decode cX3_signForm 0 = .ok (.aload_n 0, 1) := by decide +kernel
theorem dX3_signForm_1 : decode cX3_signForm 1 = .ok (.getfield 18, 3) := by decide +kernel
theorem dX3_signForm_4 : decode cX3_signForm 4 = .ok (.iconst 0, 1) := by decide +kernel
theorem dX3_signForm_5 : decode cX3_signForm 5 = .ok (.iaload, 1) := by decide +kernel
theorem dX3_signForm_6 : decode cX3_signForm 6 = .ok (.iconst 1, 1) := by decide +kernel
theorem dX3_signForm_7 : decode cX3_signForm 7 = .ok (.if_icmp .ne 21, 3) := by decide +kernel
theorem dX3_signForm_10 : decode cX3_signForm 10 = .ok (.aload_n 0, 1) := by decide +kernel
theorem dX3_signForm_11 : decode cX3_signForm 11 = .ok (.getfield 24, 3) := by decide +kernel
theorem dX3_signForm_14 : decode cX3_signForm 14 = .ok (.iconst 0, 1) := by decide +kernel
theorem dX3_signForm_15 : decode cX3_signForm 15 = .ok (.iaload, 1) := by decide +kernel
theorem dX3_signForm_16 : decode cX3_signForm 16 = .ok (.iconst 2, 1) := by decide +kernel
theorem dX3_signForm_17 : decode cX3_signForm 17 = .ok (.if_icmp .ne 11, 3) := by decide +kernel
theorem dX3_signForm_20 : decode cX3_signForm 20 = .ok (.iload_n 1, 1) := by decide +kernel
theorem dX3_signForm_21 : decode cX3_signForm 21 = .ok (.bipush 7, 2) := by decide +kernel
theorem dX3_signForm_23 : decode cX3_signForm 23 = .ok (.if_icmp .ne 5, 3) := by decide +kernel
theorem dX3_signForm_26 : decode cX3_signForm 26 = .ok (.iconst 3, 1) := by decide +kernel
theorem dX3_signForm_27 : decode cX3_signForm 27 = .ok (.ireturn, 1) := by decide +kernel
theorem dX3_signForm_28 : decode cX3_signForm 28 = .ok (.aload_n 0, 1) := by decide +kernel
theorem dX3_signForm_29 : decode cX3_signForm 29 = .ok (.getfield 18, 3) := by decide +kernel
theorem dX3_signForm_32 : decode cX3_signForm 32 = .ok (.iconst 0, 1) := by decide +kernel
theorem dX3_signForm_33 : decode cX3_signForm 33 = .ok (.iaload, 1) := by decide +kernel
theorem dX3_signForm_34 : decode cX3_signForm 34 = .ok (.iconst 1, 1) := by decide +kernel
theorem dX3_signForm_35 : decode cX3_signForm 35 = .ok (.if_icmp .ne 21, 3) := by decide +kernel
theorem dX3_signForm_38 : decode cX3_signForm 38 = .ok (.aload_n 0, 1) := by decide +kernel
theorem dX3_signForm_39 : decode cX3_signForm 39 = .ok (.getfield 24, 3) := by decide +kernel
theorem dX3_signForm_42 : decode cX3_signForm 42 = .ok (.iconst 0, 1) := by decide +kernel
theorem dX3_signForm_43 : decode cX3_signForm 43 = .ok (.iaload, 1) := by decide +kernel
theorem dX3_signForm_44 : decode cX3_signForm 44 = .ok (.iconst 3, 1) := by decide +kernel
theorem dX3_signForm_45 : decode cX3_signForm 45 = .ok (.if_icmp .ne 11, 3) := by decide +kernel
theorem dX3_signForm_48 : decode cX3_signForm 48 = .ok (.iload_n 1, 1) := by decide +kernel
theorem dX3_signForm_49 : decode cX3_signForm 49 = .ok (.bipush 11, 2) := by decide +kernel
theorem dX3_signForm_51 : decode cX3_signForm 51 = .ok (.if_icmp .ne 5, 3) := by decide +kernel
theorem dX3_signForm_54 : decode cX3_signForm 54 = .ok (.iconst 4, 1) := by decide +kernel
theorem dX3_signForm_55 : decode cX3_signForm 55 = .ok (.ireturn, 1) := by decide +kernel
theorem dX3_signForm_56 : decode cX3_signForm 56 = .ok (.aload_n 0, 1) := by decide +kernel
theorem dX3_signForm_57 : decode cX3_signForm 57 = .ok (.getfield 18, 3) := by decide +kernel
theorem dX3_signForm_60 : decode cX3_signForm 60 = .ok (.iconst 0, 1) := by decide +kernel
theorem dX3_signForm_61 : decode cX3_signForm 61 = .ok (.iaload, 1) := by decide +kernel
theorem dX3_signForm_62 : decode cX3_signForm 62 = .ok (.ifCond .ne 20, 3) := by decide +kernel
theorem dX3_signForm_65 : decode cX3_signForm 65 = .ok (.aload_n 0, 1) := by decide +kernel
theorem dX3_signForm_66 : decode cX3_signForm 66 = .ok (.getfield 24, 3) := by decide +kernel
theorem dX3_signForm_69 : decode cX3_signForm 69 = .ok (.iconst 0, 1) := by decide +kernel
theorem dX3_signForm_70 : decode cX3_signForm 70 = .ok (.iaload, 1) := by decide +kernel
theorem dX3_signForm_71 : decode cX3_signForm 71 = .ok (.iconst 1, 1) := by decide +kernel
theorem dX3_signForm_72 : decode cX3_signForm 72 = .ok (.if_icmp .ne 10, 3) := by decide +kernel
theorem dX3_signForm_75 : decode cX3_signForm 75 = .ok (.iload_n 1, 1) := by decide +kernel
theorem dX3_signForm_76 : decode cX3_signForm 76 = .ok (.iconst 3, 1) := by decide +kernel
theorem dX3_signForm_77 : decode cX3_signForm 77 = .ok (.if_icmp .ne 5, 3) := by decide +kernel
theorem dX3_signForm_80 : decode cX3_signForm 80 = .ok (.iconst 5, 1) := by decide +kernel
theorem dX3_signForm_81 : decode cX3_signForm 81 = .ok (.ireturn, 1) := by decide +kernel
theorem dX3_signForm_82 : decode cX3_signForm 82 = .ok (.aload_n 0, 1) := by decide +kernel
theorem dX3_signForm_83 : decode cX3_signForm 83 = .ok (.getfield 18, 3) := by decide +kernel
theorem dX3_signForm_86 : decode cX3_signForm 86 = .ok (.iconst 0, 1) := by decide +kernel
theorem dX3_signForm_87 : decode cX3_signForm 87 = .ok (.iaload, 1) := by decide +kernel
theorem dX3_signForm_88 : decode cX3_signForm 88 = .ok (.ifCond .ne 24, 3) := by decide +kernel
theorem dX3_signForm_91 : decode cX3_signForm 91 = .ok (.aload_n 0, 1) := by decide +kernel
theorem dX3_signForm_92 : decode cX3_signForm 92 = .ok (.getfield 24, 3) := by decide +kernel
theorem dX3_signForm_95 : decode cX3_signForm 95 = .ok (.iconst 0, 1) := by decide +kernel
theorem dX3_signForm_96 : decode cX3_signForm 96 = .ok (.iaload, 1) := by decide +kernel
theorem dX3_signForm_97 : decode cX3_signForm 97 = .ok (.iconst 3, 1) := by decide +kernel
theorem dX3_signForm_98 : decode cX3_signForm 98 = .ok (.if_icmp .ne 14, 3) := by decide +kernel
theorem dX3_signForm_101 : decode cX3_signForm 101 = .ok (.iload_n 1, 1) := by decide +kernel
theorem dX3_signForm_102 : decode cX3_signForm 102 = .ok (.bipush 9, 2) := by decide +kernel
theorem dX3_signForm_104 : decode cX3_signForm 104 = .ok (.if_icmp .ne 8, 3) := by decide +kernel
theorem dX3_signForm_107 : decode cX3_signForm 107 = .ok (.bipush 6, 2) := by decide +kernel
theorem dX3_signForm_109 : decode cX3_signForm 109 = .ok (.goto 4, 3) := by decide +kernel
theorem dX3_signForm_112 : decode cX3_signForm 112 = .ok (.iconst 0, 1) := by decide +kernel
theorem dX3_signForm_113 : decode cX3_signForm 113 = .ok (.ireturn, 1) := by decide +kernel
theorem dX3_doOn_0 : decode cX3_doOn 0 = .ok (.aload_n 0, 1) := by decide +kernel
theorem dX3_doOn_1 : decode cX3_doOn 1 = .ok (.getfield 43, 3) := by decide +kernel
theorem dX3_doOn_4 : decode cX3_doOn 4 = .ok (.ifCond .eq 36, 3) := by decide +kernel
theorem dX3_doOn_7 : decode cX3_doOn 7 = .ok (.aload_n 1, 1) := by decide +kernel
theorem dX3_doOn_8 : decode cX3_doOn 8 = .ok (.aload_n 0, 1) := by decide +kernel
theorem dX3_doOn_9 : decode cX3_doOn 9 = .ok (.getfield 46, 3) := by decide +kernel
theorem dX3_doOn_12 : decode cX3_doOn 12 = .ok (.invokevirtual 102, 3) := by decide +kernel
theorem dX3_doOn_15 : decode cX3_doOn 15 = .ok (.ifCond .eq 7, 3) := by decide +kernel
theorem dX3_doOn_18 : decode cX3_doOn 18 = .ok (.iconst 1, 1) := by decide +kernel
theorem dX3_doOn_19 : decode cX3_doOn 19 = .ok (.goto 4, 3) := by decide +kernel
theorem dX3_doOn_22 : decode cX3_doOn 22 = .ok (.iconst 0, 1) := by decide +kernel
theorem dX3_doOn_23 : decode cX3_doOn 23 = .ok (.aload_n 0, 1) := by decide +kernel
theorem dX3_doOn_24 : decode cX3_doOn 24 = .ok (.getfield 43, 3) := by decide +kernel
theorem dX3_doOn_27 : decode cX3_doOn 27 = .ok (.iconst 1, 1) := by decide +kernel
theorem dX3_doOn_28 : decode cX3_doOn 28 = .ok (.if_icmp .ne 7, 3) := by decide +kernel
theorem dX3_doOn_31 : decode cX3_doOn 31 = .ok (.iconst 1, 1) := by decide +kernel
theorem dX3_doOn_32 : decode cX3_doOn 32 = .ok (.goto 4, 3) := by decide +kernel
theorem dX3_doOn_35 : decode cX3_doOn 35 = .ok (.iconst 0, 1) := by decide +kernel
theorem dX3_doOn_36 : decode cX3_doOn 36 = .ok (.if_icmp .eq 4, 3) := by decide +kernel
theorem dX3_doOn_39 : decode cX3_doOn 39 = .ok (.return_, 1) := by decide +kernel
theorem dX3_doOn_40 : decode cX3_doOn 40 = .ok (.iconst 0, 1) := by decide +kernel
theorem dX3_doOn_41 : decode cX3_doOn 41 = .ok (.istore_n 2, 1) := by decide +kernel
theorem dX3_doOn_42 : decode cX3_doOn 42 = .ok (.iload_n 2, 1) := by decide +kernel
theorem dX3_doOn_43 : decode cX3_doOn 43 = .ok (.aload_n 0, 1) := by decide +kernel
theorem dX3_doOn_44 : decode cX3_doOn 44 = .ok (.getfield 49, 3) := by decide +kernel
theorem dX3_doOn_47 : decode cX3_doOn 47 = .ok (.if_icmp .ge 65, 3) := by decide +kernel
theorem dX3_doOn_50 : decode cX3_doOn 50 = .ok (.aload_n 1, 1) := by decide +kernel
theorem dX3_doOn_51 : decode cX3_doOn 51 = .ok (.aload_n 0, 1) := by decide +kernel
theorem dX3_doOn_52 : decode cX3_doOn 52 = .ok (.getfield 18, 3) := by decide +kernel
theorem dX3_doOn_55 : decode cX3_doOn 55 = .ok (.iload_n 2, 1) := by decide +kernel
theorem dX3_doOn_56 : decode cX3_doOn 56 = .ok (.iaload, 1) := by decide +kernel
theorem dX3_doOn_57 : decode cX3_doOn 57 = .ok (.invokevirtual 102, 3) := by decide +kernel
theorem dX3_doOn_60 : decode cX3_doOn 60 = .ok (.istore_n 3, 1) := by decide +kernel
theorem dX3_doOn_61 : decode cX3_doOn 61 = .ok (.aload_n 0, 1) := by decide +kernel
theorem dX3_doOn_62 : decode cX3_doOn 62 = .ok (.getfield 21, 3) := by decide +kernel
theorem dX3_doOn_65 : decode cX3_doOn 65 = .ok (.iload_n 2, 1) := by decide +kernel
theorem dX3_doOn_66 : decode cX3_doOn 66 = .ok (.iaload, 1) := by decide +kernel
theorem dX3_doOn_67 : decode cX3_doOn 67 = .ok (.ifCond .eq 28, 3) := by decide +kernel
theorem dX3_doOn_70 : decode cX3_doOn 70 = .ok (.aload_n 0, 1) := by decide +kernel
theorem dX3_doOn_71 : decode cX3_doOn 71 = .ok (.getfield 21, 3) := by decide +kernel
theorem dX3_doOn_74 : decode cX3_doOn 74 = .ok (.iload_n 2, 1) := by decide +kernel
theorem dX3_doOn_75 : decode cX3_doOn 75 = .ok (.iaload, 1) := by decide +kernel
theorem dX3_doOn_76 : decode cX3_doOn 76 = .ok (.iload_n 3, 1) := by decide +kernel
theorem dX3_doOn_77 : decode cX3_doOn 77 = .ok (.aload_n 1, 1) := by decide +kernel
theorem dX3_doOn_78 : decode cX3_doOn 78 = .ok (.aload_n 0, 1) := by decide +kernel
theorem dX3_doOn_79 : decode cX3_doOn 79 = .ok (.getfield 24, 3) := by decide +kernel
theorem dX3_doOn_82 : decode cX3_doOn 82 = .ok (.iload_n 2, 1) := by decide +kernel
theorem dX3_doOn_83 : decode cX3_doOn 83 = .ok (.iaload, 1) := by decide +kernel
theorem dX3_doOn_84 : decode cX3_doOn 84 = .ok (.invokevirtual 102, 3) := by decide +kernel
theorem dX3_doOn_87 : decode cX3_doOn 87 = .ok (.aload_n 1, 1) := by decide +kernel
theorem dX3_doOn_88 : decode cX3_doOn 88 = .ok (.getfield 107, 3) := by decide +kernel
theorem dX3_doOn_91 : decode cX3_doOn 91 = .ok (.invokestatic 110, 3) := by decide +kernel
theorem dX3_doOn_94 : decode cX3_doOn 94 = .ok (.istore_n 3, 1) := by decide +kernel
theorem dX3_doOn_95 : decode cX3_doOn 95 = .ok (.aload_n 1, 1) := by decide +kernel
theorem dX3_doOn_96 : decode cX3_doOn 96 = .ok (.aload_n 0, 1) := by decide +kernel
theorem dX3_doOn_97 : decode cX3_doOn 97 = .ok (.getfield 15, 3) := by decide +kernel
theorem dX3_doOn_100 : decode cX3_doOn 100 = .ok (.iload_n 2, 1) := by decide +kernel
theorem dX3_doOn_101 : decode cX3_doOn 101 = .ok (.iaload, 1) := by decide +kernel
theorem dX3_doOn_102 : decode cX3_doOn 102 = .ok (.iload_n 3, 1) := by decide +kernel
theorem dX3_doOn_103 : decode cX3_doOn 103 = .ok (.invokevirtual 114, 3) := by decide +kernel
theorem dX3_doOn_106 : decode cX3_doOn 106 = .ok (.iinc 2 1, 3) := by decide +kernel
theorem dX3_doOn_109 : decode cX3_doOn 109 = .ok (.goto (-67), 3) := by decide +kernel
theorem dX3_doOn_112 : decode cX3_doOn 112 = .ok (.return_, 1) := by decide +kernel
theorem dX3_combine_0 : decode cX3_combine 0 = .ok (.iload_n 0, 1) := by decide +kernel
theorem dX3_combine_1 : decode cX3_combine 1 = .ok (.lookupswitch 75 #[(38, 63), (43, 51), (45, 57), (94, 71), (124, 67)], 51) := by decide +kernel
theorem dX3_combine_52 : decode cX3_combine 52 = .ok (.iload_n 1, 1) := by decide +kernel
theorem dX3_combine_53 : decode cX3_combine 53 = .ok (.iload_n 2, 1) := by decide +kernel
theorem dX3_combine_54 : decode cX3_combine 54 = .ok (.iadd, 1) := by decide +kernel
theorem dX3_combine_55 : decode cX3_combine 55 = .ok (.iload_n 3, 1) := by decide +kernel
theorem dX3_combine_56 : decode cX3_combine 56 = .ok (.iand, 1) := by decide +kernel
theorem dX3_combine_57 : decode cX3_combine 57 = .ok (.ireturn, 1) := by decide +kernel
theorem dX3_combine_58 : decode cX3_combine 58 = .ok (.iload_n 1, 1) := by decide +kernel
theorem dX3_combine_59 : decode cX3_combine 59 = .ok (.iload_n 2, 1) := by decide +kernel
theorem dX3_combine_60 : decode cX3_combine 60 = .ok (.isub, 1) := by decide +kernel
theorem dX3_combine_61 : decode cX3_combine 61 = .ok (.iload_n 3, 1) := by decide +kernel
theorem dX3_combine_62 : decode cX3_combine 62 = .ok (.iand, 1) := by decide +kernel
theorem dX3_combine_63 : decode cX3_combine 63 = .ok (.ireturn, 1) := by decide +kernel
theorem dX3_combine_64 : decode cX3_combine 64 = .ok (.iload_n 1, 1) := by decide +kernel
theorem dX3_combine_65 : decode cX3_combine 65 = .ok (.iload_n 2, 1) := by decide +kernel
theorem dX3_combine_66 : decode cX3_combine 66 = .ok (.iand, 1) := by decide +kernel
theorem dX3_combine_67 : decode cX3_combine 67 = .ok (.ireturn, 1) := by decide +kernel
theorem dX3_combine_68 : decode cX3_combine 68 = .ok (.iload_n 1, 1) := by decide +kernel
theorem dX3_combine_69 : decode cX3_combine 69 = .ok (.iload_n 2, 1) := by decide +kernel
theorem dX3_combine_70 : decode cX3_combine 70 = .ok (.ior, 1) := by decide +kernel
theorem dX3_combine_71 : decode cX3_combine 71 = .ok (.ireturn, 1) := by decide +kernel
theorem dX3_combine_72 : decode cX3_combine 72 = .ok (.iload_n 1, 1) := by decide +kernel
theorem dX3_combine_73 : decode cX3_combine 73 = .ok (.iload_n 2, 1) := by decide +kernel
theorem dX3_combine_74 : decode cX3_combine 74 = .ok (.ixor, 1) := by decide +kernel
theorem dX3_combine_75 : decode cX3_combine 75 = .ok (.ireturn, 1) := by decide +kernel
theorem dX3_combine_76 : decode cX3_combine 76 = .ok (.iload_n 1, 1) := by decide +kernel
theorem dX3_combine_77 : decode cX3_combine 77 = .ok (.iload_n 2, 1) := by decide +kernel
theorem dX3_combine_78 : decode cX3_combine 78 = .ok (.if_icmp .ge 7, 3) := by decide +kernel
theorem dX3_combine_81 : decode cX3_combine 81 = .ok (.iconst 1, 1) := by decide +kernel
theorem dX3_combine_82 : decode cX3_combine 82 = .ok (.goto 4, 3) := by decide +kernel
theorem dX3_combine_85 : decode cX3_combine 85 = .ok (.iconst 0, 1) := by decide +kernel
theorem dX3_combine_86 : decode cX3_combine 86 = .ok (.ireturn, 1) := by decide +kernel
theorem dX4_init_0 : decode cX4_init 0 = .ok (.aload_n 0, 1) := by decide +kernel
theorem dX4_init_1 : decode cX4_init 1 = .ok (.invokespecial 3, 3) := by decide +kernel
theorem dX4_init_4 : decode cX4_init 4 = .ok (.aload_n 0, 1) := by decide +kernel
theorem dX4_init_5 : decode cX4_init 5 = .ok (.bipush 16, 2) := by decide +kernel
theorem dX4_init_7 : decode cX4_init 7 = .ok (.newarray .int, 2) := by decide +kernel
theorem dX4_init_9 : decode cX4_init 9 = .ok (.putfield 11, 3) := by decide +kernel
theorem dX4_init_12 : decode cX4_init 12 = .ok (.aload_n 0, 1) := by decide +kernel
theorem dX4_init_13 : decode cX4_init 13 = .ok (.aload_n 1, 1) := by decide +kernel
theorem dX4_init_14 : decode cX4_init 14 = .ok (.putfield 15, 3) := by decide +kernel
theorem dX4_init_17 : decode cX4_init 17 = .ok (.aload_n 0, 1) := by decide +kernel
theorem dX4_init_18 : decode cX4_init 18 = .ok (.aload_n 2, 1) := by decide +kernel
theorem dX4_init_19 : decode cX4_init 19 = .ok (.putfield 19, 3) := by decide +kernel
theorem dX4_init_22 : decode cX4_init 22 = .ok (.return_, 1) := by decide +kernel
theorem dX4_readOrder_0 : decode cX4_readOrder 0 = .ok (.aload_n 0, 1) := by decide +kernel
theorem dX4_readOrder_1 : decode cX4_readOrder 1 = .ok (.invokevirtual 23, 3) := by decide +kernel
theorem dX4_readOrder_4 : decode cX4_readOrder 4 = .ok (.ifCond .eq 82, 3) := by decide +kernel
theorem dX4_readOrder_7 : decode cX4_readOrder 7 = .ok (.aload_n 0, 1) := by decide +kernel
theorem dX4_readOrder_8 : decode cX4_readOrder 8 = .ok (.getfield 15, 3) := by decide +kernel
theorem dX4_readOrder_11 : decode cX4_readOrder 11 = .ok (.bipush 58, 2) := by decide +kernel
theorem dX4_readOrder_13 : decode cX4_readOrder 13 = .ok (.invokevirtual 27, 3) := by decide +kernel
theorem dX4_readOrder_16 : decode cX4_readOrder 16 = .ok (.ifCond .eq 70, 3) := by decide +kernel
theorem dX4_readOrder_19 : decode cX4_readOrder 19 = .ok (.aload_n 0, 1) := by decide +kernel
theorem dX4_readOrder_20 : decode cX4_readOrder 20 = .ok (.invokevirtual 33, 3) := by decide +kernel
theorem dX4_readOrder_23 : decode cX4_readOrder 23 = .ok (.ifCond .eq 63, 3) := by decide +kernel
theorem dX4_readOrder_26 : decode cX4_readOrder 26 = .ok (.aload_n 0, 1) := by decide +kernel
theorem dX4_readOrder_27 : decode cX4_readOrder 27 = .ok (.getfield 15, 3) := by decide +kernel
theorem dX4_readOrder_30 : decode cX4_readOrder 30 = .ok (.bipush 58, 2) := by decide +kernel
theorem dX4_readOrder_32 : decode cX4_readOrder 32 = .ok (.invokevirtual 27, 3) := by decide +kernel
theorem dX4_readOrder_35 : decode cX4_readOrder 35 = .ok (.ifCond .eq 51, 3) := by decide +kernel
theorem dX4_readOrder_38 : decode cX4_readOrder 38 = .ok (.aload_n 0, 1) := by decide +kernel
theorem dX4_readOrder_39 : decode cX4_readOrder 39 = .ok (.invokevirtual 36, 3) := by decide +kernel
theorem dX4_readOrder_42 : decode cX4_readOrder 42 = .ok (.ifCond .eq 44, 3) := by decide +kernel
theorem dX4_readOrder_45 : decode cX4_readOrder 45 = .ok (.aload_n 0, 1) := by decide +kernel
theorem dX4_readOrder_46 : decode cX4_readOrder 46 = .ok (.invokevirtual 39, 3) := by decide +kernel
theorem dX4_readOrder_49 : decode cX4_readOrder 49 = .ok (.ifCond .eq 37, 3) := by decide +kernel
theorem dX4_readOrder_52 : decode cX4_readOrder 52 = .ok (.aload_n 0, 1) := by decide +kernel
theorem dX4_readOrder_53 : decode cX4_readOrder 53 = .ok (.getfield 15, 3) := by decide +kernel
theorem dX4_readOrder_56 : decode cX4_readOrder 56 = .ok (.bipush 58, 2) := by decide +kernel
theorem dX4_readOrder_58 : decode cX4_readOrder 58 = .ok (.invokevirtual 27, 3) := by decide +kernel
theorem dX4_readOrder_61 : decode cX4_readOrder 61 = .ok (.ifCond .eq 25, 3) := by decide +kernel
theorem dX4_readOrder_64 : decode cX4_readOrder 64 = .ok (.aload_n 0, 1) := by decide +kernel
theorem dX4_readOrder_65 : decode cX4_readOrder 65 = .ok (.invokevirtual 42, 3) := by decide +kernel
theorem dX4_readOrder_68 : decode cX4_readOrder 68 = .ok (.ifCond .eq 18, 3) := by decide +kernel
theorem dX4_readOrder_71 : decode cX4_readOrder 71 = .ok (.aload_n 0, 1) := by decide +kernel
theorem dX4_readOrder_72 : decode cX4_readOrder 72 = .ok (.getfield 15, 3) := by decide +kernel
theorem dX4_readOrder_75 : decode cX4_readOrder 75 = .ok (.invokevirtual 45, 3) := by decide +kernel
theorem dX4_readOrder_78 : decode cX4_readOrder 78 = .ok (.iconst (-1), 1) := by decide +kernel
theorem dX4_readOrder_79 : decode cX4_readOrder 79 = .ok (.if_icmp .ne 7, 3) := by decide +kernel
theorem dX4_readOrder_82 : decode cX4_readOrder 82 = .ok (.iconst 1, 1) := by decide +kernel
theorem dX4_readOrder_83 : decode cX4_readOrder 83 = .ok (.goto 4, 3) := by decide +kernel
theorem dX4_readOrder_86 : decode cX4_readOrder 86 = .ok (.iconst 0, 1) := by decide +kernel
theorem dX4_readOrder_87 : decode cX4_readOrder 87 = .ok (.ireturn, 1) := by decide +kernel
theorem dX4_readNameAlone_0 : decode cX4_readNameAlone 0 = .ok (.aload_n 0, 1) := by decide +kernel
theorem dX4_readNameAlone_1 : decode cX4_readNameAlone 1 = .ok (.invokevirtual 23, 3) := by decide +kernel
theorem dX4_readNameAlone_4 : decode cX4_readNameAlone 4 = .ok (.ifCond .eq 18, 3) := by decide +kernel
theorem dX4_readNameAlone_7 : decode cX4_readNameAlone 7 = .ok (.aload_n 0, 1) := by decide +kernel
theorem dX4_readNameAlone_8 : decode cX4_readNameAlone 8 = .ok (.getfield 15, 3) := by decide +kernel
theorem dX4_readNameAlone_11 : decode cX4_readNameAlone 11 = .ok (.invokevirtual 45, 3) := by decide +kernel
theorem dX4_readNameAlone_14 : decode cX4_readNameAlone 14 = .ok (.iconst (-1), 1) := by decide +kernel
theorem dX4_readNameAlone_15 : decode cX4_readNameAlone 15 = .ok (.if_icmp .ne 7, 3) := by decide +kernel
theorem dX4_readNameAlone_18 : decode cX4_readNameAlone 18 = .ok (.iconst 1, 1) := by decide +kernel
theorem dX4_readNameAlone_19 : decode cX4_readNameAlone 19 = .ok (.goto 4, 3) := by decide +kernel
theorem dX4_readNameAlone_22 : decode cX4_readNameAlone 22 = .ok (.iconst 0, 1) := by decide +kernel
theorem dX4_readNameAlone_23 : decode cX4_readNameAlone 23 = .ok (.ireturn, 1) := by decide +kernel
theorem dX4_readNewName_0 : decode cX4_readNewName 0 = .ok (.aload_n 0, 1) := by decide +kernel
theorem dX4_readNewName_1 : decode cX4_readNewName 1 = .ok (.getfield 19, 3) := by decide +kernel
theorem dX4_readNewName_4 : decode cX4_readNewName 4 = .ok (.getfield 49, 3) := by decide +kernel
theorem dX4_readNewName_7 : decode cX4_readNewName 7 = .ok (.astore_n 1, 1) := by decide +kernel
theorem dX4_readNewName_8 : decode cX4_readNewName 8 = .ok (.aload_n 1, 1) := by decide +kernel
theorem dX4_readNewName_9 : decode cX4_readNewName 9 = .ok (.invokevirtual 55, 3) := by decide +kernel
theorem dX4_readNewName_12 : decode cX4_readNewName 12 = .ok (.aload_n 0, 1) := by decide +kernel
theorem dX4_readNewName_13 : decode cX4_readNewName 13 = .ok (.getfield 15, 3) := by decide +kernel
theorem dX4_readNewName_16 : decode cX4_readNewName 16 = .ok (.invokevirtual 60, 3) := by decide +kernel
theorem dX4_readNewName_19 : decode cX4_readNewName 19 = .ok (.aload_n 1, 1) := by decide +kernel
theorem dX4_readNewName_20 : decode cX4_readNewName 20 = .ok (.aload_n 0, 1) := by decide +kernel
theorem dX4_readNewName_21 : decode cX4_readNewName 21 = .ok (.getfield 15, 3) := by decide +kernel
theorem dX4_readNewName_24 : decode cX4_readNewName 24 = .ok (.invokevirtual 63, 3) := by decide +kernel
theorem dX4_readNewName_27 : decode cX4_readNewName 27 = .ok (.putfield 66, 3) := by decide +kernel
theorem dX4_readNewName_30 : decode cX4_readNewName 30 = .ok (.aload_n 1, 1) := by decide +kernel
theorem dX4_readNewName_31 : decode cX4_readNewName 31 = .ok (.getfield 66, 3) := by decide +kernel
theorem dX4_readNewName_34 : decode cX4_readNewName 34 = .ok (.ifCond .ne 5, 3) := by decide +kernel
theorem dX4_readNewName_37 : decode cX4_readNewName 37 = .ok (.iconst 0, 1) := by decide +kernel
theorem dX4_readNewName_38 : decode cX4_readNewName 38 = .ok (.ireturn, 1) := by decide +kernel
theorem dX4_readNewName_39 : decode cX4_readNewName 39 = .ok (.aload_n 0, 1) := by decide +kernel
theorem dX4_readNewName_40 : decode cX4_readNewName 40 = .ok (.getfield 19, 3) := by decide +kernel
theorem dX4_readNewName_43 : decode cX4_readNewName 43 = .ok (.aload_n 1, 1) := by decide +kernel
theorem dX4_readNewName_44 : decode cX4_readNewName 44 = .ok (.getfield 66, 3) := by decide +kernel
theorem dX4_readNewName_47 : decode cX4_readNewName 47 = .ok (.invokevirtual 70, 3) := by decide +kernel
theorem dX4_readNewName_50 : decode cX4_readNewName 50 = .ok (.ifCond .lt 12, 3) := by decide +kernel
theorem dX4_readNewName_53 : decode cX4_readNewName 53 = .ok (.aload_n 0, 1) := by decide +kernel
theorem dX4_readNewName_54 : decode cX4_readNewName 54 = .ok (.getfield 15, 3) := by decide +kernel
theorem dX4_readNewName_57 : decode cX4_readNewName 57 = .ok (.invokevirtual 74, 3) := by decide +kernel
theorem dX4_readNewName_60 : decode cX4_readNewName 60 = .ok (.iconst 0, 1) := by decide +kernel
theorem dX4_readNewName_61 : decode cX4_readNewName 61 = .ok (.ireturn, 1) := by decide +kernel
theorem dX4_readNewName_62 : decode cX4_readNewName 62 = .ok (.iconst 1, 1) := by decide +kernel
theorem dX4_readNewName_63 : decode cX4_readNewName 63 = .ok (.ireturn, 1) := by decide +kernel
theorem dX4_readLook_0 : decode cX4_readLook 0 = .ok (.aload_n 0, 1) := by decide +kernel
theorem dX4_readLook_1 : decode cX4_readLook 1 = .ok (.getfield 19, 3) := by decide +kernel
theorem dX4_readLook_4 : decode cX4_readLook 4 = .ok (.getfield 49, 3) := by decide +kernel
theorem dX4_readLook_7 : decode cX4_readLook 7 = .ok (.astore_n 1, 1) := by decide +kernel
theorem dX4_readLook_8 : decode cX4_readLook 8 = .ok (.aload_n 0, 1) := by decide +kernel
theorem dX4_readLook_9 : decode cX4_readLook 9 = .ok (.getfield 19, 3) := by decide +kernel
theorem dX4_readLook_12 : decode cX4_readLook 12 = .ok (.invokevirtual 77, 3) := by decide +kernel
theorem dX4_readLook_15 : decode cX4_readLook 15 = .ok (.iconst 1, 1) := by decide +kernel
theorem dX4_readLook_16 : decode cX4_readLook 16 = .ok (.ishr, 1) := by decide +kernel
theorem dX4_readLook_17 : decode cX4_readLook 17 = .ok (.istore_n 2, 1) := by decide +kernel
theorem dX4_readLook_18 : decode cX4_readLook 18 = .ok (.iload_n 2, 1) := by decide +kernel
theorem dX4_readLook_19 : decode cX4_readLook 19 = .ok (.ifCond .le 97, 3) := by decide +kernel
theorem dX4_readLook_22 : decode cX4_readLook 22 = .ok (.aload_n 0, 1) := by decide +kernel
theorem dX4_readLook_23 : decode cX4_readLook 23 = .ok (.getfield 15, 3) := by decide +kernel
theorem dX4_readLook_26 : decode cX4_readLook 26 = .ok (.invokevirtual 45, 3) := by decide +kernel
theorem dX4_readLook_29 : decode cX4_readLook 29 = .ok (.istore_n 3, 1) := by decide +kernel
theorem dX4_readLook_30 : decode cX4_readLook 30 = .ok (.iload_n 3, 1) := by decide +kernel
theorem dX4_readLook_31 : decode cX4_readLook 31 = .ok (.invokestatic 80, 3) := by decide +kernel
theorem dX4_readLook_34 : decode cX4_readLook 34 = .ok (.istore 4, 2) := by decide +kernel
theorem dX4_readLook_36 : decode cX4_readLook 36 = .ok (.iload 4, 2) := by decide +kernel
theorem dX4_readLook_38 : decode cX4_readLook 38 = .ok (.ifCond .lt 17, 3) := by decide +kernel
theorem dX4_readLook_41 : decode cX4_readLook 41 = .ok (.aload_n 1, 1) := by decide +kernel
theorem dX4_readLook_42 : decode cX4_readLook 42 = .ok (.getfield 83, 3) := by decide +kernel
theorem dX4_readLook_45 : decode cX4_readLook 45 = .ok (.iload 4, 2) := by decide +kernel
theorem dX4_readLook_47 : decode cX4_readLook 47 = .ok (.dup2, 1) := by decide +kernel
theorem dX4_readLook_48 : decode cX4_readLook 48 = .ok (.iaload, 1) := by decide +kernel
theorem dX4_readLook_49 : decode cX4_readLook 49 = .ok (.iload_n 2, 1) := by decide +kernel
theorem dX4_readLook_50 : decode cX4_readLook 50 = .ok (.ior, 1) := by decide +kernel
theorem dX4_readLook_51 : decode cX4_readLook 51 = .ok (.iastore, 1) := by decide +kernel
theorem dX4_readLook_52 : decode cX4_readLook 52 = .ok (.goto 50, 3) := by decide +kernel
theorem dX4_readLook_55 : decode cX4_readLook 55 = .ok (.iload_n 3, 1) := by decide +kernel
theorem dX4_readLook_56 : decode cX4_readLook 56 = .ok (.bipush 48, 2) := by decide +kernel
theorem dX4_readLook_58 : decode cX4_readLook 58 = .ok (.if_icmp .eq 9, 3) := by decide +kernel
theorem dX4_readLook_61 : decode cX4_readLook 61 = .ok (.iload_n 3, 1) := by decide +kernel
theorem dX4_readLook_62 : decode cX4_readLook 62 = .ok (.bipush 49, 2) := by decide +kernel
theorem dX4_readLook_64 : decode cX4_readLook 64 = .ok (.if_icmp .ne 36, 3) := by decide +kernel
theorem dX4_readLook_67 : decode cX4_readLook 67 = .ok (.aload_n 1, 1) := by decide +kernel
theorem dX4_readLook_68 : decode cX4_readLook 68 = .ok (.dup, 1) := by decide +kernel
theorem dX4_readLook_69 : decode cX4_readLook 69 = .ok (.getfield 86, 3) := by decide +kernel
theorem dX4_readLook_72 : decode cX4_readLook 72 = .ok (.iload_n 2, 1) := by decide +kernel
theorem dX4_readLook_73 : decode cX4_readLook 73 = .ok (.ior, 1) := by decide +kernel
theorem dX4_readLook_74 : decode cX4_readLook 74 = .ok (.putfield 86, 3) := by decide +kernel
theorem dX4_readLook_77 : decode cX4_readLook 77 = .ok (.aload_n 1, 1) := by decide +kernel
theorem dX4_readLook_78 : decode cX4_readLook 78 = .ok (.dup, 1) := by decide +kernel
theorem dX4_readLook_79 : decode cX4_readLook 79 = .ok (.getfield 89, 3) := by decide +kernel
theorem dX4_readLook_82 : decode cX4_readLook 82 = .ok (.iload_n 3, 1) := by decide +kernel
theorem dX4_readLook_83 : decode cX4_readLook 83 = .ok (.bipush 49, 2) := by decide +kernel
theorem dX4_readLook_85 : decode cX4_readLook 85 = .ok (.if_icmp .ne 7, 3) := by decide +kernel
theorem dX4_readLook_88 : decode cX4_readLook 88 = .ok (.iload_n 2, 1) := by decide +kernel
theorem dX4_readLook_89 : decode cX4_readLook 89 = .ok (.goto 4, 3) := by decide +kernel
theorem dX4_readLook_92 : decode cX4_readLook 92 = .ok (.iconst 0, 1) := by decide +kernel
theorem dX4_readLook_93 : decode cX4_readLook 93 = .ok (.ior, 1) := by decide +kernel
theorem dX4_readLook_94 : decode cX4_readLook 94 = .ok (.putfield 89, 3) := by decide +kernel
theorem dX4_readLook_97 : decode cX4_readLook 97 = .ok (.goto 5, 3) := by decide +kernel
theorem dX4_readLook_100 : decode cX4_readLook 100 = .ok (.iconst 0, 1) := by decide +kernel
theorem dX4_readLook_101 : decode cX4_readLook 101 = .ok (.ireturn, 1) := by decide +kernel
theorem dX4_readLook_102 : decode cX4_readLook 102 = .ok (.aload_n 0, 1) := by decide +kernel
theorem dX4_readLook_103 : decode cX4_readLook 103 = .ok (.getfield 15, 3) := by decide +kernel
theorem dX4_readLook_106 : decode cX4_readLook 106 = .ok (.invokevirtual 92, 3) := by decide +kernel
theorem dX4_readLook_109 : decode cX4_readLook 109 = .ok (.iload_n 2, 1) := by decide +kernel
theorem dX4_readLook_110 : decode cX4_readLook 110 = .ok (.iconst 1, 1) := by decide +kernel
theorem dX4_readLook_111 : decode cX4_readLook 111 = .ok (.ishr, 1) := by decide +kernel
theorem dX4_readLook_112 : decode cX4_readLook 112 = .ok (.istore_n 2, 1) := by decide +kernel
theorem dX4_readLook_113 : decode cX4_readLook 113 = .ok (.goto (-95), 3) := by decide +kernel
theorem dX4_readLook_116 : decode cX4_readLook 116 = .ok (.aload_n 0, 1) := by decide +kernel
theorem dX4_readLook_117 : decode cX4_readLook 117 = .ok (.getfield 15, 3) := by decide +kernel
theorem dX4_readLook_120 : decode cX4_readLook 120 = .ok (.invokevirtual 45, 3) := by decide +kernel
theorem dX4_readLook_123 : decode cX4_readLook 123 = .ok (.pop, 1) := by decide +kernel
theorem dX4_readLook_124 : decode cX4_readLook 124 = .ok (.aload_n 0, 1) := by decide +kernel
theorem dX4_readLook_125 : decode cX4_readLook 125 = .ok (.aload_n 1, 1) := by decide +kernel
theorem dX4_readLook_126 : decode cX4_readLook 126 = .ok (.invokevirtual 95, 3) := by decide +kernel
theorem dX4_readLook_129 : decode cX4_readLook 129 = .ok (.ireturn, 1) := by decide +kernel
theorem dX4_areFieldsAsTold_0 : decode cX4_areFieldsAsTold 0 = .ok (.iconst 0, 1) := by decide +kernel
theorem dX4_areFieldsAsTold_1 : decode cX4_areFieldsAsTold 1 = .ok (.istore_n 2, 1) := by decide +kernel
theorem dX4_areFieldsAsTold_2 : decode cX4_areFieldsAsTold 2 = .ok (.iload_n 2, 1) := by decide +kernel
theorem dX4_areFieldsAsTold_3 : decode cX4_areFieldsAsTold 3 = .ok (.iconst 2, 1) := by decide +kernel
theorem dX4_areFieldsAsTold_4 : decode cX4_areFieldsAsTold 4 = .ok (.if_icmp .gt 34, 3) := by decide +kernel
theorem dX4_areFieldsAsTold_7 : decode cX4_areFieldsAsTold 7 = .ok (.aload_n 1, 1) := by decide +kernel
theorem dX4_areFieldsAsTold_8 : decode cX4_areFieldsAsTold 8 = .ok (.iload_n 2, 1) := by decide +kernel
theorem dX4_areFieldsAsTold_9 : decode cX4_areFieldsAsTold 9 = .ok (.invokevirtual 99, 3) := by decide +kernel
theorem dX4_areFieldsAsTold_12 : decode cX4_areFieldsAsTold 12 = .ok (.ifCond .eq 20, 3) := by decide +kernel
theorem dX4_areFieldsAsTold_15 : decode cX4_areFieldsAsTold 15 = .ok (.aload_n 1, 1) := by decide +kernel
theorem dX4_areFieldsAsTold_16 : decode cX4_areFieldsAsTold 16 = .ok (.iload_n 2, 1) := by decide +kernel
theorem dX4_areFieldsAsTold_17 : decode cX4_areFieldsAsTold 17 = .ok (.invokevirtual 102, 3) := by decide +kernel
theorem dX4_areFieldsAsTold_20 : decode cX4_areFieldsAsTold 20 = .ok (.aload_n 0, 1) := by decide +kernel
theorem dX4_areFieldsAsTold_21 : decode cX4_areFieldsAsTold 21 = .ok (.getfield 19, 3) := by decide +kernel
theorem dX4_areFieldsAsTold_24 : decode cX4_areFieldsAsTold 24 = .ok (.getfield 105, 3) := by decide +kernel
theorem dX4_areFieldsAsTold_27 : decode cX4_areFieldsAsTold 27 = .ok (.if_icmp .eq 5, 3) := by decide +kernel
theorem dX4_areFieldsAsTold_30 : decode cX4_areFieldsAsTold 30 = .ok (.iconst 0, 1) := by decide +kernel
theorem dX4_areFieldsAsTold_31 : decode cX4_areFieldsAsTold 31 = .ok (.ireturn, 1) := by decide +kernel
theorem dX4_areFieldsAsTold_32 : decode cX4_areFieldsAsTold 32 = .ok (.iinc 2 1, 3) := by decide +kernel
theorem dX4_areFieldsAsTold_35 : decode cX4_areFieldsAsTold 35 = .ok (.goto (-33), 3) := by decide +kernel
theorem dX4_areFieldsAsTold_38 : decode cX4_areFieldsAsTold 38 = .ok (.aload_n 1, 1) := by decide +kernel
theorem dX4_areFieldsAsTold_39 : decode cX4_areFieldsAsTold 39 = .ok (.iconst 3, 1) := by decide +kernel
theorem dX4_areFieldsAsTold_40 : decode cX4_areFieldsAsTold 40 = .ok (.invokevirtual 102, 3) := by decide +kernel
theorem dX4_areFieldsAsTold_43 : decode cX4_areFieldsAsTold 43 = .ok (.aload_n 0, 1) := by decide +kernel
theorem dX4_areFieldsAsTold_44 : decode cX4_areFieldsAsTold 44 = .ok (.getfield 19, 3) := by decide +kernel
theorem dX4_areFieldsAsTold_47 : decode cX4_areFieldsAsTold 47 = .ok (.getfield 108, 3) := by decide +kernel
theorem dX4_areFieldsAsTold_50 : decode cX4_areFieldsAsTold 50 = .ok (.if_icmp .gt 7, 3) := by decide +kernel
theorem dX4_areFieldsAsTold_53 : decode cX4_areFieldsAsTold 53 = .ok (.iconst 1, 1) := by decide +kernel
theorem dX4_areFieldsAsTold_54 : decode cX4_areFieldsAsTold 54 = .ok (.goto 4, 3) := by decide +kernel
theorem dX4_areFieldsAsTold_57 : decode cX4_areFieldsAsTold 57 = .ok (.iconst 0, 1) := by decide +kernel
theorem dX4_areFieldsAsTold_58 : decode cX4_areFieldsAsTold 58 = .ok (.ireturn, 1) := by decide +kernel
theorem dX4_fieldNamed_0 : decode cX4_fieldNamed 0 = .ok (.iload_n 0, 1) := by decide +kernel
theorem dX4_fieldNamed_1 : decode cX4_fieldNamed 1 = .ok (.lookupswitch 51 #[(100, 43), (105, 49), (115, 45), (116, 47)], 43) := by decide +kernel
theorem dX4_fieldNamed_44 : decode cX4_fieldNamed 44 = .ok (.iconst 0, 1) := by decide +kernel
theorem dX4_fieldNamed_45 : decode cX4_fieldNamed 45 = .ok (.ireturn, 1) := by decide +kernel
theorem dX4_fieldNamed_46 : decode cX4_fieldNamed 46 = .ok (.iconst 1, 1) := by decide +kernel
theorem dX4_fieldNamed_47 : decode cX4_fieldNamed 47 = .ok (.ireturn, 1) := by decide +kernel
theorem dX4_fieldNamed_48 : decode cX4_fieldNamed 48 = .ok (.iconst 2, 1) := by decide +kernel
theorem dX4_fieldNamed_49 : decode cX4_fieldNamed 49 = .ok (.ireturn, 1) := by decide +kernel
theorem dX4_fieldNamed_50 : decode cX4_fieldNamed 50 = .ok (.iconst 3, 1) := by decide +kernel
theorem dX4_fieldNamed_51 : decode cX4_fieldNamed 51 = .ok (.ireturn, 1) := by decide +kernel
theorem dX4_fieldNamed_52 : decode cX4_fieldNamed 52 = .ok (.iconst (-1), 1) := by decide +kernel
theorem dX4_fieldNamed_53 : decode cX4_fieldNamed 53 = .ok (.ireturn, 1) := by decide +kernel
theorem dX4_fieldInLook_0 : decode cX4_fieldInLook 0 = .ok (.iload_n 1, 1) := by decide +kernel
theorem dX4_fieldInLook_1 : decode cX4_fieldInLook 1 = .ok (.invokestatic 80, 3) := by decide +kernel
theorem dX4_fieldInLook_4 : decode cX4_fieldInLook 4 = .ok (.istore_n 2, 1) := by decide +kernel
theorem dX4_fieldInLook_5 : decode cX4_fieldInLook 5 = .ok (.iload_n 2, 1) := by decide +kernel
theorem dX4_fieldInLook_6 : decode cX4_fieldInLook 6 = .ok (.ifCond .lt 21, 3) := by decide +kernel
theorem dX4_fieldInLook_9 : decode cX4_fieldInLook 9 = .ok (.aload_n 0, 1) := by decide +kernel
theorem dX4_fieldInLook_10 : decode cX4_fieldInLook 10 = .ok (.getfield 19, 3) := by decide +kernel
theorem dX4_fieldInLook_13 : decode cX4_fieldInLook 13 = .ok (.getfield 49, 3) := by decide +kernel
theorem dX4_fieldInLook_16 : decode cX4_fieldInLook 16 = .ok (.iload_n 2, 1) := by decide +kernel
theorem dX4_fieldInLook_17 : decode cX4_fieldInLook 17 = .ok (.invokevirtual 99, 3) := by decide +kernel
theorem dX4_fieldInLook_20 : decode cX4_fieldInLook 20 = .ok (.ifCond .eq 7, 3) := by decide +kernel
theorem dX4_fieldInLook_23 : decode cX4_fieldInLook 23 = .ok (.iload_n 2, 1) := by decide +kernel
theorem dX4_fieldInLook_24 : decode cX4_fieldInLook 24 = .ok (.goto 4, 3) := by decide +kernel
theorem dX4_fieldInLook_27 : decode cX4_fieldInLook 27 = .ok (.iconst (-1), 1) := by decide +kernel
theorem dX4_fieldInLook_28 : decode cX4_fieldInLook 28 = .ok (.ireturn, 1) := by decide +kernel
theorem dX4_readGuard_0 : decode cX4_readGuard 0 = .ok (.aload_n 0, 1) := by decide +kernel
theorem dX4_readGuard_1 : decode cX4_readGuard 1 = .ok (.getfield 15, 3) := by decide +kernel
theorem dX4_readGuard_4 : decode cX4_readGuard 4 = .ok (.bipush 63, 2) := by decide +kernel
theorem dX4_readGuard_6 : decode cX4_readGuard 6 = .ok (.invokevirtual 27, 3) := by decide +kernel
theorem dX4_readGuard_9 : decode cX4_readGuard 9 = .ok (.ifCond .ne 5, 3) := by decide +kernel
theorem dX4_readGuard_12 : decode cX4_readGuard 12 = .ok (.iconst 1, 1) := by decide +kernel
theorem dX4_readGuard_13 : decode cX4_readGuard 13 = .ok (.ireturn, 1) := by decide +kernel
theorem dX4_readGuard_14 : decode cX4_readGuard 14 = .ok (.aload_n 0, 1) := by decide +kernel
theorem dX4_readGuard_15 : decode cX4_readGuard 15 = .ok (.getfield 15, 3) := by decide +kernel
theorem dX4_readGuard_18 : decode cX4_readGuard 18 = .ok (.bipush 33, 2) := by decide +kernel
theorem dX4_readGuard_20 : decode cX4_readGuard 20 = .ok (.invokevirtual 27, 3) := by decide +kernel
theorem dX4_readGuard_23 : decode cX4_readGuard 23 = .ok (.ifCond .eq 7, 3) := by decide +kernel
theorem dX4_readGuard_26 : decode cX4_readGuard 26 = .ok (.iconst 2, 1) := by decide +kernel
theorem dX4_readGuard_27 : decode cX4_readGuard 27 = .ok (.goto 4, 3) := by decide +kernel
theorem dX4_readGuard_30 : decode cX4_readGuard 30 = .ok (.iconst 1, 1) := by decide +kernel
theorem dX4_readGuard_31 : decode cX4_readGuard 31 = .ok (.istore_n 1, 1) := by decide +kernel
theorem dX4_readGuard_32 : decode cX4_readGuard 32 = .ok (.aload_n 0, 1) := by decide +kernel
theorem dX4_readGuard_33 : decode cX4_readGuard 33 = .ok (.invokevirtual 111, 3) := by decide +kernel
theorem dX4_readGuard_36 : decode cX4_readGuard 36 = .ok (.istore_n 2, 1) := by decide +kernel
theorem dX4_readGuard_37 : decode cX4_readGuard 37 = .ok (.iload_n 2, 1) := by decide +kernel
theorem dX4_readGuard_38 : decode cX4_readGuard 38 = .ok (.iconst (-1), 1) := by decide +kernel
theorem dX4_readGuard_39 : decode cX4_readGuard 39 = .ok (.if_icmp .eq 13, 3) := by decide +kernel
theorem dX4_readGuard_42 : decode cX4_readGuard 42 = .ok (.iload_n 2, 1) := by decide +kernel
theorem dX4_readGuard_43 : decode cX4_readGuard 43 = .ok (.iconst 3, 1) := by decide +kernel
theorem dX4_readGuard_44 : decode cX4_readGuard 44 = .ok (.if_icmp .eq 8, 3) := by decide +kernel
theorem dX4_readGuard_47 : decode cX4_readGuard 47 = .ok (.iload_n 2, 1) := by decide +kernel
theorem dX4_readGuard_48 : decode cX4_readGuard 48 = .ok (.iconst 5, 1) := by decide +kernel
theorem dX4_readGuard_49 : decode cX4_readGuard 49 = .ok (.if_icmp .ne 5, 3) := by decide +kernel
theorem dX4_readGuard_52 : decode cX4_readGuard 52 = .ok (.iconst 0, 1) := by decide +kernel
theorem dX4_readGuard_53 : decode cX4_readGuard 53 = .ok (.ireturn, 1) := by decide +kernel
theorem dX4_readGuard_54 : decode cX4_readGuard 54 = .ok (.aload_n 0, 1) := by decide +kernel
theorem dX4_readGuard_55 : decode cX4_readGuard 55 = .ok (.getfield 15, 3) := by decide +kernel
theorem dX4_readGuard_58 : decode cX4_readGuard 58 = .ok (.invokevirtual 92, 3) := by decide +kernel
theorem dX4_readGuard_61 : decode cX4_readGuard 61 = .ok (.aload_n 0, 1) := by decide +kernel
theorem dX4_readGuard_62 : decode cX4_readGuard 62 = .ok (.getfield 19, 3) := by decide +kernel
theorem dX4_readGuard_65 : decode cX4_readGuard 65 = .ok (.getfield 49, 3) := by decide +kernel
theorem dX4_readGuard_68 : decode cX4_readGuard 68 = .ok (.iload_n 1, 1) := by decide +kernel
theorem dX4_readGuard_69 : decode cX4_readGuard 69 = .ok (.iload_n 2, 1) := by decide +kernel
theorem dX4_readGuard_70 : decode cX4_readGuard 70 = .ok (.invokevirtual 114, 3) := by decide +kernel
theorem dX4_readGuard_73 : decode cX4_readGuard 73 = .ok (.aload_n 0, 1) := by decide +kernel
theorem dX4_readGuard_74 : decode cX4_readGuard 74 = .ok (.getfield 15, 3) := by decide +kernel
theorem dX4_readGuard_77 : decode cX4_readGuard 77 = .ok (.bipush 44, 2) := by decide +kernel
theorem dX4_readGuard_79 : decode cX4_readGuard 79 = .ok (.invokevirtual 27, 3) := by decide +kernel
theorem dX4_readGuard_82 : decode cX4_readGuard 82 = .ok (.ireturn, 1) := by decide +kernel
theorem dX4_readActs_0 : decode cX4_readActs 0 = .ok (.iconst 0, 1) := by decide +kernel
theorem dX4_readActs_1 : decode cX4_readActs 1 = .ok (.istore_n 1, 1) := by decide +kernel
theorem dX4_readActs_2 : decode cX4_readActs 2 = .ok (.iload_n 1, 1) := by decide +kernel
theorem dX4_readActs_3 : decode cX4_readActs 3 = .ok (.iconst 3, 1) := by decide +kernel
theorem dX4_readActs_4 : decode cX4_readActs 4 = .ok (.if_icmp .ge 36, 3) := by decide +kernel
theorem dX4_readActs_7 : decode cX4_readActs 7 = .ok (.iload_n 1, 1) := by decide +kernel
theorem dX4_readActs_8 : decode cX4_readActs 8 = .ok (.ifCond .le 17, 3) := by decide +kernel
theorem dX4_readActs_11 : decode cX4_readActs 11 = .ok (.aload_n 0, 1) := by decide +kernel
theorem dX4_readActs_12 : decode cX4_readActs 12 = .ok (.getfield 15, 3) := by decide +kernel
theorem dX4_readActs_15 : decode cX4_readActs 15 = .ok (.bipush 44, 2) := by decide +kernel
theorem dX4_readActs_17 : decode cX4_readActs 17 = .ok (.invokevirtual 27, 3) := by decide +kernel
theorem dX4_readActs_20 : decode cX4_readActs 20 = .ok (.ifCond .ne 5, 3) := by decide +kernel
theorem dX4_readActs_23 : decode cX4_readActs 23 = .ok (.iconst 1, 1) := by decide +kernel
theorem dX4_readActs_24 : decode cX4_readActs 24 = .ok (.ireturn, 1) := by decide +kernel
theorem dX4_readActs_25 : decode cX4_readActs 25 = .ok (.aload_n 0, 1) := by decide +kernel
theorem dX4_readActs_26 : decode cX4_readActs 26 = .ok (.invokevirtual 118, 3) := by decide +kernel
theorem dX4_readActs_29 : decode cX4_readActs 29 = .ok (.ifCond .ne 5, 3) := by decide +kernel
theorem dX4_readActs_32 : decode cX4_readActs 32 = .ok (.iconst 0, 1) := by decide +kernel
theorem dX4_readActs_33 : decode cX4_readActs 33 = .ok (.ireturn, 1) := by decide +kernel
theorem dX4_readActs_34 : decode cX4_readActs 34 = .ok (.iinc 1 1, 3) := by decide +kernel
theorem dX4_readActs_37 : decode cX4_readActs 37 = .ok (.goto (-35), 3) := by decide +kernel
theorem dX4_readActs_40 : decode cX4_readActs 40 = .ok (.iconst 1, 1) := by decide +kernel
theorem dX4_readActs_41 : decode cX4_readActs 41 = .ok (.ireturn, 1) := by decide +kernel
theorem dX4_readAct_0 : decode cX4_readAct 0 = .ok (.aload_n 0, 1) := by decide +kernel
theorem dX4_readAct_1 : decode cX4_readAct 1 = .ok (.invokevirtual 121, 3) := by decide +kernel
theorem dX4_readAct_4 : decode cX4_readAct 4 = .ok (.istore_n 1, 1) := by decide +kernel
theorem dX4_readAct_5 : decode cX4_readAct 5 = .ok (.iload_n 1, 1) := by decide +kernel
theorem dX4_readAct_6 : decode cX4_readAct 6 = .ok (.iconst (-1), 1) := by decide +kernel
theorem dX4_readAct_7 : decode cX4_readAct 7 = .ok (.if_icmp .eq 15, 3) := by decide +kernel
theorem dX4_readAct_10 : decode cX4_readAct 10 = .ok (.aload_n 0, 1) := by decide +kernel
theorem dX4_readAct_11 : decode cX4_readAct 11 = .ok (.getfield 15, 3) := by decide +kernel
theorem dX4_readAct_14 : decode cX4_readAct 14 = .ok (.bipush 61, 2) := by decide +kernel
theorem dX4_readAct_16 : decode cX4_readAct 16 = .ok (.invokevirtual 27, 3) := by decide +kernel
theorem dX4_readAct_19 : decode cX4_readAct 19 = .ok (.ifCond .ne 5, 3) := by decide +kernel
theorem dX4_readAct_22 : decode cX4_readAct 22 = .ok (.iconst 0, 1) := by decide +kernel
theorem dX4_readAct_23 : decode cX4_readAct 23 = .ok (.ireturn, 1) := by decide +kernel
theorem dX4_readAct_24 : decode cX4_readAct 24 = .ok (.aload_n 0, 1) := by decide +kernel
theorem dX4_readAct_25 : decode cX4_readAct 25 = .ok (.invokevirtual 124, 3) := by decide +kernel
theorem dX4_readAct_28 : decode cX4_readAct 28 = .ok (.istore_n 2, 1) := by decide +kernel
theorem dX4_readAct_29 : decode cX4_readAct 29 = .ok (.iload_n 2, 1) := by decide +kernel
theorem dX4_readAct_30 : decode cX4_readAct 30 = .ok (.iconst (-1), 1) := by decide +kernel
theorem dX4_readAct_31 : decode cX4_readAct 31 = .ok (.if_icmp .ne 5, 3) := by decide +kernel
theorem dX4_readAct_34 : decode cX4_readAct 34 = .ok (.iconst 0, 1) := by decide +kernel
theorem dX4_readAct_35 : decode cX4_readAct 35 = .ok (.ireturn, 1) := by decide +kernel
theorem dX4_readAct_36 : decode cX4_readAct 36 = .ok (.aload_n 0, 1) := by decide +kernel
theorem dX4_readAct_37 : decode cX4_readAct 37 = .ok (.getfield 15, 3) := by decide +kernel
theorem dX4_readAct_40 : decode cX4_readAct 40 = .ok (.invokevirtual 45, 3) := by decide +kernel
theorem dX4_readAct_43 : decode cX4_readAct 43 = .ok (.istore_n 3, 1) := by decide +kernel
theorem dX4_readAct_44 : decode cX4_readAct 44 = .ok (.iload_n 3, 1) := by decide +kernel
theorem dX4_readAct_45 : decode cX4_readAct 45 = .ok (.invokestatic 127, 3) := by decide +kernel
theorem dX4_readAct_48 : decode cX4_readAct 48 = .ok (.ifCond .ne 19, 3) := by decide +kernel
theorem dX4_readAct_51 : decode cX4_readAct 51 = .ok (.aload_n 0, 1) := by decide +kernel
theorem dX4_readAct_52 : decode cX4_readAct 52 = .ok (.getfield 19, 3) := by decide +kernel
theorem dX4_readAct_55 : decode cX4_readAct 55 = .ok (.getfield 49, 3) := by decide +kernel
theorem dX4_readAct_58 : decode cX4_readAct 58 = .ok (.iload_n 1, 1) := by decide +kernel
theorem dX4_readAct_59 : decode cX4_readAct 59 = .ok (.iload_n 2, 1) := by decide +kernel
theorem dX4_readAct_60 : decode cX4_readAct 60 = .ok (.iconst 0, 1) := by decide +kernel
theorem dX4_readAct_61 : decode cX4_readAct 61 = .ok (.iconst 0, 1) := by decide +kernel
theorem dX4_readAct_62 : decode cX4_readAct 62 = .ok (.invokevirtual 130, 3) := by decide +kernel
theorem dX4_readAct_65 : decode cX4_readAct 65 = .ok (.iconst 1, 1) := by decide +kernel
theorem dX4_readAct_66 : decode cX4_readAct 66 = .ok (.ireturn, 1) := by decide +kernel
theorem dX4_readAct_67 : decode cX4_readAct 67 = .ok (.aload_n 0, 1) := by decide +kernel
theorem dX4_readAct_68 : decode cX4_readAct 68 = .ok (.getfield 15, 3) := by decide +kernel
theorem dX4_readAct_71 : decode cX4_readAct 71 = .ok (.invokevirtual 92, 3) := by decide +kernel
theorem dX4_readAct_74 : decode cX4_readAct 74 = .ok (.aload_n 0, 1) := by decide +kernel
theorem dX4_readAct_75 : decode cX4_readAct 75 = .ok (.invokevirtual 124, 3) := by decide +kernel
theorem dX4_readAct_78 : decode cX4_readAct 78 = .ok (.istore 4, 2) := by decide +kernel
theorem dX4_readAct_80 : decode cX4_readAct 80 = .ok (.iload 4, 2) := by decide +kernel
theorem dX4_readAct_82 : decode cX4_readAct 82 = .ok (.iconst (-1), 1) := by decide +kernel
theorem dX4_readAct_83 : decode cX4_readAct 83 = .ok (.if_icmp .ne 5, 3) := by decide +kernel
theorem dX4_readAct_86 : decode cX4_readAct 86 = .ok (.iconst 0, 1) := by decide +kernel
theorem dX4_readAct_87 : decode cX4_readAct 87 = .ok (.ireturn, 1) := by decide +kernel
theorem dX4_readAct_88 : decode cX4_readAct 88 = .ok (.aload_n 0, 1) := by decide +kernel
theorem dX4_readAct_89 : decode cX4_readAct 89 = .ok (.getfield 19, 3) := by decide +kernel
theorem dX4_readAct_92 : decode cX4_readAct 92 = .ok (.getfield 49, 3) := by decide +kernel
theorem dX4_readAct_95 : decode cX4_readAct 95 = .ok (.iload_n 1, 1) := by decide +kernel
theorem dX4_readAct_96 : decode cX4_readAct 96 = .ok (.iload_n 2, 1) := by decide +kernel
theorem dX4_readAct_97 : decode cX4_readAct 97 = .ok (.iload_n 3, 1) := by decide +kernel
theorem dX4_readAct_98 : decode cX4_readAct 98 = .ok (.iload 4, 2) := by decide +kernel
theorem dX4_readAct_100 : decode cX4_readAct 100 = .ok (.invokevirtual 130, 3) := by decide +kernel
theorem dX4_readAct_103 : decode cX4_readAct 103 = .ok (.iconst 1, 1) := by decide +kernel
theorem dX4_readAct_104 : decode cX4_readAct 104 = .ok (.ireturn, 1) := by decide +kernel
theorem dX4_readTarget_0 : decode cX4_readTarget 0 = .ok (.aload_n 0, 1) := by decide +kernel
theorem dX4_readTarget_1 : decode cX4_readTarget 1 = .ok (.getfield 15, 3) := by decide +kernel
theorem dX4_readTarget_4 : decode cX4_readTarget 4 = .ok (.bipush 91, 2) := by decide +kernel
theorem dX4_readTarget_6 : decode cX4_readTarget 6 = .ok (.invokevirtual 27, 3) := by decide +kernel
theorem dX4_readTarget_9 : decode cX4_readTarget 9 = .ok (.ifCond .eq 8, 3) := by decide +kernel
theorem dX4_readTarget_12 : decode cX4_readTarget 12 = .ok (.aload_n 0, 1) := by decide +kernel
theorem dX4_readTarget_13 : decode cX4_readTarget 13 = .ok (.invokevirtual 134, 3) := by decide +kernel
theorem dX4_readTarget_16 : decode cX4_readTarget 16 = .ok (.ireturn, 1) := by decide +kernel
theorem dX4_readTarget_17 : decode cX4_readTarget 17 = .ok (.aload_n 0, 1) := by decide +kernel
theorem dX4_readTarget_18 : decode cX4_readTarget 18 = .ok (.invokevirtual 111, 3) := by decide +kernel
theorem dX4_readTarget_21 : decode cX4_readTarget 21 = .ok (.istore_n 1, 1) := by decide +kernel
theorem dX4_readTarget_22 : decode cX4_readTarget 22 = .ok (.iload_n 1, 1) := by decide +kernel
theorem dX4_readTarget_23 : decode cX4_readTarget 23 = .ok (.iconst (-1), 1) := by decide +kernel
theorem dX4_readTarget_24 : decode cX4_readTarget 24 = .ok (.if_icmp .eq 8, 3) := by decide +kernel
theorem dX4_readTarget_27 : decode cX4_readTarget 27 = .ok (.iload_n 1, 1) := by decide +kernel
theorem dX4_readTarget_28 : decode cX4_readTarget 28 = .ok (.iconst 3, 1) := by decide +kernel
theorem dX4_readTarget_29 : decode cX4_readTarget 29 = .ok (.if_icmp .ne 5, 3) := by decide +kernel
theorem dX4_readTarget_32 : decode cX4_readTarget 32 = .ok (.iconst (-1), 1) := by decide +kernel
theorem dX4_readTarget_33 : decode cX4_readTarget 33 = .ok (.ireturn, 1) := by decide +kernel
theorem dX4_readTarget_34 : decode cX4_readTarget 34 = .ok (.aload_n 0, 1) := by decide +kernel
theorem dX4_readTarget_35 : decode cX4_readTarget 35 = .ok (.getfield 15, 3) := by decide +kernel
theorem dX4_readTarget_38 : decode cX4_readTarget 38 = .ok (.invokevirtual 92, 3) := by decide +kernel
theorem dX4_readTarget_41 : decode cX4_readTarget 41 = .ok (.iload_n 1, 1) := by decide +kernel
theorem dX4_readTarget_42 : decode cX4_readTarget 42 = .ok (.ireturn, 1) := by decide +kernel
theorem dX4_readOperand_0 : decode cX4_readOperand 0 = .ok (.aload_n 0, 1) := by decide +kernel
theorem dX4_readOperand_1 : decode cX4_readOperand 1 = .ok (.getfield 15, 3) := by decide +kernel
theorem dX4_readOperand_4 : decode cX4_readOperand 4 = .ok (.bipush 91, 2) := by decide +kernel
theorem dX4_readOperand_6 : decode cX4_readOperand 6 = .ok (.invokevirtual 27, 3) := by decide +kernel
theorem dX4_readOperand_9 : decode cX4_readOperand 9 = .ok (.ifCond .eq 8, 3) := by decide +kernel
theorem dX4_readOperand_12 : decode cX4_readOperand 12 = .ok (.aload_n 0, 1) := by decide +kernel
theorem dX4_readOperand_13 : decode cX4_readOperand 13 = .ok (.invokevirtual 134, 3) := by decide +kernel
theorem dX4_readOperand_16 : decode cX4_readOperand 16 = .ok (.ireturn, 1) := by decide +kernel
theorem dX4_readOperand_17 : decode cX4_readOperand 17 = .ok (.aload_n 0, 1) := by decide +kernel
theorem dX4_readOperand_18 : decode cX4_readOperand 18 = .ok (.invokevirtual 111, 3) := by decide +kernel
theorem dX4_readOperand_21 : decode cX4_readOperand 21 = .ok (.istore_n 1, 1) := by decide +kernel
theorem dX4_readOperand_22 : decode cX4_readOperand 22 = .ok (.iload_n 1, 1) := by decide +kernel
theorem dX4_readOperand_23 : decode cX4_readOperand 23 = .ok (.iconst (-1), 1) := by decide +kernel
theorem dX4_readOperand_24 : decode cX4_readOperand 24 = .ok (.if_icmp .ne 27, 3) := by decide +kernel
theorem dX4_readOperand_27 : decode cX4_readOperand 27 = .ok (.aload_n 0, 1) := by decide +kernel
theorem dX4_readOperand_28 : decode cX4_readOperand 28 = .ok (.getfield 15, 3) := by decide +kernel
theorem dX4_readOperand_31 : decode cX4_readOperand 31 = .ok (.sipush 255, 3) := by decide +kernel
theorem dX4_readOperand_34 : decode cX4_readOperand 34 = .ok (.invokevirtual 137, 3) := by decide +kernel
theorem dX4_readOperand_37 : decode cX4_readOperand 37 = .ok (.istore_n 2, 1) := by decide +kernel
theorem dX4_readOperand_38 : decode cX4_readOperand 38 = .ok (.iload_n 2, 1) := by decide +kernel
theorem dX4_readOperand_39 : decode cX4_readOperand 39 = .ok (.ifCond .ge 7, 3) := by decide +kernel
theorem dX4_readOperand_42 : decode cX4_readOperand 42 = .ok (.iconst (-1), 1) := by decide +kernel
theorem dX4_readOperand_43 : decode cX4_readOperand 43 = .ok (.goto 7, 3) := by decide +kernel
theorem dX4_readOperand_46 : decode cX4_readOperand 46 = .ok (.bipush 16, 2) := by decide +kernel
theorem dX4_readOperand_48 : decode cX4_readOperand 48 = .ok (.iload_n 2, 1) := by decide +kernel
theorem dX4_readOperand_49 : decode cX4_readOperand 49 = .ok (.iadd, 1) := by decide +kernel
theorem dX4_readOperand_50 : decode cX4_readOperand 50 = .ok (.ireturn, 1) := by decide +kernel
theorem dX4_readOperand_51 : decode cX4_readOperand 51 = .ok (.aload_n 0, 1) := by decide +kernel
theorem dX4_readOperand_52 : decode cX4_readOperand 52 = .ok (.getfield 15, 3) := by decide +kernel
theorem dX4_readOperand_55 : decode cX4_readOperand 55 = .ok (.invokevirtual 92, 3) := by decide +kernel
theorem dX4_readOperand_58 : decode cX4_readOperand 58 = .ok (.iload_n 1, 1) := by decide +kernel
theorem dX4_readOperand_59 : decode cX4_readOperand 59 = .ok (.ireturn, 1) := by decide +kernel
theorem dX4_readMemory_0 : decode cX4_readMemory 0 = .ok (.aload_n 0, 1) := by decide +kernel
theorem dX4_readMemory_1 : decode cX4_readMemory 1 = .ok (.aload_n 0, 1) := by decide +kernel
theorem dX4_readMemory_2 : decode cX4_readMemory 2 = .ok (.getfield 15, 3) := by decide +kernel
theorem dX4_readMemory_5 : decode cX4_readMemory 5 = .ok (.invokevirtual 45, 3) := by decide +kernel
theorem dX4_readMemory_8 : decode cX4_readMemory 8 = .ok (.invokevirtual 140, 3) := by decide +kernel
theorem dX4_readMemory_11 : decode cX4_readMemory 11 = .ok (.istore_n 1, 1) := by decide +kernel
theorem dX4_readMemory_12 : decode cX4_readMemory 12 = .ok (.iload_n 1, 1) := by decide +kernel
theorem dX4_readMemory_13 : decode cX4_readMemory 13 = .ok (.iconst (-1), 1) := by decide +kernel
theorem dX4_readMemory_14 : decode cX4_readMemory 14 = .ok (.if_icmp .ne 5, 3) := by decide +kernel
theorem dX4_readMemory_17 : decode cX4_readMemory 17 = .ok (.iconst (-1), 1) := by decide +kernel
theorem dX4_readMemory_18 : decode cX4_readMemory 18 = .ok (.ireturn, 1) := by decide +kernel
theorem dX4_readMemory_19 : decode cX4_readMemory 19 = .ok (.aload_n 0, 1) := by decide +kernel
theorem dX4_readMemory_20 : decode cX4_readMemory 20 = .ok (.getfield 15, 3) := by decide +kernel
theorem dX4_readMemory_23 : decode cX4_readMemory 23 = .ok (.invokevirtual 92, 3) := by decide +kernel
theorem dX4_readMemory_26 : decode cX4_readMemory 26 = .ok (.aload_n 0, 1) := by decide +kernel
theorem dX4_readMemory_27 : decode cX4_readMemory 27 = .ok (.getfield 15, 3) := by decide +kernel
theorem dX4_readMemory_30 : decode cX4_readMemory 30 = .ok (.bipush 93, 2) := by decide +kernel
theorem dX4_readMemory_32 : decode cX4_readMemory 32 = .ok (.invokevirtual 27, 3) := by decide +kernel
theorem dX4_readMemory_35 : decode cX4_readMemory 35 = .ok (.ifCond .eq 10, 3) := by decide +kernel
theorem dX4_readMemory_38 : decode cX4_readMemory 38 = .ok (.bipush 6, 2) := by decide +kernel
theorem dX4_readMemory_40 : decode cX4_readMemory 40 = .ok (.iload_n 1, 1) := by decide +kernel
theorem dX4_readMemory_41 : decode cX4_readMemory 41 = .ok (.iadd, 1) := by decide +kernel
theorem dX4_readMemory_42 : decode cX4_readMemory 42 = .ok (.goto 4, 3) := by decide +kernel
theorem dX4_readMemory_45 : decode cX4_readMemory 45 = .ok (.iconst (-1), 1) := by decide +kernel
theorem dX4_readMemory_46 : decode cX4_readMemory 46 = .ok (.ireturn, 1) := by decide +kernel
theorem dX4_nextStore_0 : decode cX4_nextStore 0 = .ok (.aload_n 0, 1) := by decide +kernel
theorem dX4_nextStore_1 : decode cX4_nextStore 1 = .ok (.getfield 15, 3) := by decide +kernel
theorem dX4_nextStore_4 : decode cX4_nextStore 4 = .ok (.invokevirtual 45, 3) := by decide +kernel
theorem dX4_nextStore_7 : decode cX4_nextStore 7 = .ok (.istore_n 1, 1) := by decide +kernel
theorem dX4_nextStore_8 : decode cX4_nextStore 8 = .ok (.iload_n 1, 1) := by decide +kernel
theorem dX4_nextStore_9 : decode cX4_nextStore 9 = .ok (.bipush 122, 2) := by decide +kernel
theorem dX4_nextStore_11 : decode cX4_nextStore 11 = .ok (.if_icmp .ne 7, 3) := by decide +kernel
theorem dX4_nextStore_14 : decode cX4_nextStore 14 = .ok (.iconst 4, 1) := by decide +kernel
theorem dX4_nextStore_15 : decode cX4_nextStore 15 = .ok (.goto 18, 3) := by decide +kernel
theorem dX4_nextStore_18 : decode cX4_nextStore 18 = .ok (.iload_n 1, 1) := by decide +kernel
theorem dX4_nextStore_19 : decode cX4_nextStore 19 = .ok (.bipush 112, 2) := by decide +kernel
theorem dX4_nextStore_21 : decode cX4_nextStore 21 = .ok (.if_icmp .ne 7, 3) := by decide +kernel
theorem dX4_nextStore_24 : decode cX4_nextStore 24 = .ok (.iconst 5, 1) := by decide +kernel
theorem dX4_nextStore_25 : decode cX4_nextStore 25 = .ok (.goto 8, 3) := by decide +kernel
theorem dX4_nextStore_28 : decode cX4_nextStore 28 = .ok (.aload_n 0, 1) := by decide +kernel
theorem dX4_nextStore_29 : decode cX4_nextStore 29 = .ok (.iload_n 1, 1) := by decide +kernel
theorem dX4_nextStore_30 : decode cX4_nextStore 30 = .ok (.invokevirtual 140, 3) := by decide +kernel
theorem dX4_nextStore_33 : decode cX4_nextStore 33 = .ok (.ireturn, 1) := by decide +kernel
theorem dX4_readTicks_0 : decode cX4_readTicks 0 = .ok (.aload_n 0, 1) := by decide +kernel
theorem dX4_readTicks_1 : decode cX4_readTicks 1 = .ok (.getfield 15, 3) := by decide +kernel
theorem dX4_readTicks_4 : decode cX4_readTicks 4 = .ok (.invokevirtual 45, 3) := by decide +kernel
theorem dX4_readTicks_7 : decode cX4_readTicks 7 = .ok (.istore_n 1, 1) := by decide +kernel
theorem dX4_readTicks_8 : decode cX4_readTicks 8 = .ok (.iload_n 1, 1) := by decide +kernel
theorem dX4_readTicks_9 : decode cX4_readTicks 9 = .ok (.bipush 49, 2) := by decide +kernel
theorem dX4_readTicks_11 : decode cX4_readTicks 11 = .ok (.if_icmp .lt 9, 3) := by decide +kernel
theorem dX4_readTicks_14 : decode cX4_readTicks 14 = .ok (.iload_n 1, 1) := by decide +kernel
theorem dX4_readTicks_15 : decode cX4_readTicks 15 = .ok (.bipush 57, 2) := by decide +kernel
theorem dX4_readTicks_17 : decode cX4_readTicks 17 = .ok (.if_icmp .le 5, 3) := by decide +kernel
theorem dX4_readTicks_20 : decode cX4_readTicks 20 = .ok (.iconst 0, 1) := by decide +kernel
theorem dX4_readTicks_21 : decode cX4_readTicks 21 = .ok (.ireturn, 1) := by decide +kernel
theorem dX4_readTicks_22 : decode cX4_readTicks 22 = .ok (.aload_n 0, 1) := by decide +kernel
theorem dX4_readTicks_23 : decode cX4_readTicks 23 = .ok (.getfield 15, 3) := by decide +kernel
theorem dX4_readTicks_26 : decode cX4_readTicks 26 = .ok (.invokevirtual 92, 3) := by decide +kernel
theorem dX4_readTicks_29 : decode cX4_readTicks 29 = .ok (.aload_n 0, 1) := by decide +kernel
theorem dX4_readTicks_30 : decode cX4_readTicks 30 = .ok (.getfield 19, 3) := by decide +kernel
theorem dX4_readTicks_33 : decode cX4_readTicks 33 = .ok (.getfield 49, 3) := by decide +kernel
theorem dX4_readTicks_36 : decode cX4_readTicks 36 = .ok (.iload_n 1, 1) := by decide +kernel
theorem dX4_readTicks_37 : decode cX4_readTicks 37 = .ok (.bipush 48, 2) := by decide +kernel
theorem dX4_readTicks_39 : decode cX4_readTicks 39 = .ok (.isub, 1) := by decide +kernel
theorem dX4_readTicks_40 : decode cX4_readTicks 40 = .ok (.putfield 143, 3) := by decide +kernel
theorem dX4_readTicks_43 : decode cX4_readTicks 43 = .ok (.iconst 1, 1) := by decide +kernel
theorem dX4_readTicks_44 : decode cX4_readTicks 44 = .ok (.ireturn, 1) := by decide +kernel
theorem dX4_readLine_0 : decode cX4_readLine 0 = .ok (.aload_n 0, 1) := by decide +kernel
theorem dX4_readLine_1 : decode cX4_readLine 1 = .ok (.getfield 15, 3) := by decide +kernel
theorem dX4_readLine_4 : decode cX4_readLine 4 = .ok (.invokevirtual 60, 3) := by decide +kernel
theorem dX4_readLine_7 : decode cX4_readLine 7 = .ok (.aload_n 0, 1) := by decide +kernel
theorem dX4_readLine_8 : decode cX4_readLine 8 = .ok (.getfield 19, 3) := by decide +kernel
theorem dX4_readLine_11 : decode cX4_readLine 11 = .ok (.aload_n 0, 1) := by decide +kernel
theorem dX4_readLine_12 : decode cX4_readLine 12 = .ok (.getfield 19, 3) := by decide +kernel
theorem dX4_readLine_15 : decode cX4_readLine 15 = .ok (.aload_n 0, 1) := by decide +kernel
theorem dX4_readLine_16 : decode cX4_readLine 16 = .ok (.getfield 15, 3) := by decide +kernel
theorem dX4_readLine_19 : decode cX4_readLine 19 = .ok (.invokevirtual 63, 3) := by decide +kernel
theorem dX4_readLine_22 : decode cX4_readLine 22 = .ok (.invokevirtual 70, 3) := by decide +kernel
theorem dX4_readLine_25 : decode cX4_readLine 25 = .ok (.invokevirtual 146, 3) := by decide +kernel
theorem dX4_readLine_28 : decode cX4_readLine 28 = .ok (.astore_n 1, 1) := by decide +kernel
theorem dX4_readLine_29 : decode cX4_readLine 29 = .ok (.aload_n 1, 1) := by decide +kernel
theorem dX4_readLine_30 : decode cX4_readLine 30 = .ok (.ifnonnull 12, 3) := by decide +kernel
theorem dX4_readLine_33 : decode cX4_readLine 33 = .ok (.aload_n 0, 1) := by decide +kernel
theorem dX4_readLine_34 : decode cX4_readLine 34 = .ok (.getfield 15, 3) := by decide +kernel
theorem dX4_readLine_37 : decode cX4_readLine 37 = .ok (.invokevirtual 74, 3) := by decide +kernel
theorem dX4_readLine_40 : decode cX4_readLine 40 = .ok (.iconst (-1), 1) := by decide +kernel
theorem dX4_readLine_41 : decode cX4_readLine 41 = .ok (.ireturn, 1) := by decide +kernel
theorem dX4_readLine_42 : decode cX4_readLine 42 = .ok (.aload_n 1, 1) := by decide +kernel
theorem dX4_readLine_43 : decode cX4_readLine 43 = .ok (.getfield 89, 3) := by decide +kernel
theorem dX4_readLine_46 : decode cX4_readLine 46 = .ok (.istore_n 2, 1) := by decide +kernel
theorem dX4_readLine_47 : decode cX4_readLine 47 = .ok (.iconst 1, 1) := by decide +kernel
theorem dX4_readLine_48 : decode cX4_readLine 48 = .ok (.istore_n 3, 1) := by decide +kernel
theorem dX4_readLine_49 : decode cX4_readLine 49 = .ok (.iconst 0, 1) := by decide +kernel
theorem dX4_readLine_50 : decode cX4_readLine 50 = .ok (.istore 4, 2) := by decide +kernel
theorem dX4_readLine_52 : decode cX4_readLine 52 = .ok (.iload 4, 2) := by decide +kernel
theorem dX4_readLine_54 : decode cX4_readLine 54 = .ok (.iconst 3, 1) := by decide +kernel
theorem dX4_readLine_55 : decode cX4_readLine 55 = .ok (.if_icmp .gt 77, 3) := by decide +kernel
theorem dX4_readLine_58 : decode cX4_readLine 58 = .ok (.aload_n 1, 1) := by decide +kernel
theorem dX4_readLine_59 : decode cX4_readLine 59 = .ok (.iload 4, 2) := by decide +kernel
theorem dX4_readLine_61 : decode cX4_readLine 61 = .ok (.invokevirtual 99, 3) := by decide +kernel
theorem dX4_readLine_64 : decode cX4_readLine 64 = .ok (.ifCond .ne 6, 3) := by decide +kernel
theorem dX4_readLine_67 : decode cX4_readLine 67 = .ok (.goto 59, 3) := by decide +kernel
theorem dX4_readLine_70 : decode cX4_readLine 70 = .ok (.iload_n 3, 1) := by decide +kernel
theorem dX4_readLine_71 : decode cX4_readLine 71 = .ok (.ifCond .ne 17, 3) := by decide +kernel
theorem dX4_readLine_74 : decode cX4_readLine 74 = .ok (.aload_n 0, 1) := by decide +kernel
theorem dX4_readLine_75 : decode cX4_readLine 75 = .ok (.getfield 15, 3) := by decide +kernel
theorem dX4_readLine_78 : decode cX4_readLine 78 = .ok (.bipush 44, 2) := by decide +kernel
theorem dX4_readLine_80 : decode cX4_readLine 80 = .ok (.invokevirtual 27, 3) := by decide +kernel
theorem dX4_readLine_83 : decode cX4_readLine 83 = .ok (.ifCond .ne 5, 3) := by decide +kernel
theorem dX4_readLine_86 : decode cX4_readLine 86 = .ok (.iconst (-1), 1) := by decide +kernel
theorem dX4_readLine_87 : decode cX4_readLine 87 = .ok (.ireturn, 1) := by decide +kernel
theorem dX4_readLine_88 : decode cX4_readLine 88 = .ok (.aload_n 0, 1) := by decide +kernel
theorem dX4_readLine_89 : decode cX4_readLine 89 = .ok (.getfield 15, 3) := by decide +kernel
theorem dX4_readLine_92 : decode cX4_readLine 92 = .ok (.iconst 1, 1) := by decide +kernel
theorem dX4_readLine_93 : decode cX4_readLine 93 = .ok (.aload_n 1, 1) := by decide +kernel
theorem dX4_readLine_94 : decode cX4_readLine 94 = .ok (.iload 4, 2) := by decide +kernel
theorem dX4_readLine_96 : decode cX4_readLine 96 = .ok (.invokevirtual 102, 3) := by decide +kernel
theorem dX4_readLine_99 : decode cX4_readLine 99 = .ok (.ishl, 1) := by decide +kernel
theorem dX4_readLine_100 : decode cX4_readLine 100 = .ok (.iconst 1, 1) := by decide +kernel
theorem dX4_readLine_101 : decode cX4_readLine 101 = .ok (.isub, 1) := by decide +kernel
theorem dX4_readLine_102 : decode cX4_readLine 102 = .ok (.invokevirtual 137, 3) := by decide +kernel
theorem dX4_readLine_105 : decode cX4_readLine 105 = .ok (.istore 5, 2) := by decide +kernel
theorem dX4_readLine_107 : decode cX4_readLine 107 = .ok (.iload 5, 2) := by decide +kernel
theorem dX4_readLine_109 : decode cX4_readLine 109 = .ok (.ifCond .ge 5, 3) := by decide +kernel
theorem dX4_readLine_112 : decode cX4_readLine 112 = .ok (.iconst (-1), 1) := by decide +kernel
theorem dX4_readLine_113 : decode cX4_readLine 113 = .ok (.ireturn, 1) := by decide +kernel
theorem dX4_readLine_114 : decode cX4_readLine 114 = .ok (.aload_n 1, 1) := by decide +kernel
theorem dX4_readLine_115 : decode cX4_readLine 115 = .ok (.iload_n 2, 1) := by decide +kernel
theorem dX4_readLine_116 : decode cX4_readLine 116 = .ok (.iload 4, 2) := by decide +kernel
theorem dX4_readLine_118 : decode cX4_readLine 118 = .ok (.iload 5, 2) := by decide +kernel
theorem dX4_readLine_120 : decode cX4_readLine 120 = .ok (.invokevirtual 150, 3) := by decide +kernel
theorem dX4_readLine_123 : decode cX4_readLine 123 = .ok (.istore_n 2, 1) := by decide +kernel
theorem dX4_readLine_124 : decode cX4_readLine 124 = .ok (.iconst 0, 1) := by decide +kernel
theorem dX4_readLine_125 : decode cX4_readLine 125 = .ok (.istore_n 3, 1) := by decide +kernel
theorem dX4_readLine_126 : decode cX4_readLine 126 = .ok (.iinc 4 1, 3) := by decide +kernel
theorem dX4_readLine_129 : decode cX4_readLine 129 = .ok (.goto (-77), 3) := by decide +kernel
theorem dX4_readLine_132 : decode cX4_readLine 132 = .ok (.aload_n 0, 1) := by decide +kernel
theorem dX4_readLine_133 : decode cX4_readLine 133 = .ok (.getfield 15, 3) := by decide +kernel
theorem dX4_readLine_136 : decode cX4_readLine 136 = .ok (.invokevirtual 45, 3) := by decide +kernel
theorem dX4_readLine_139 : decode cX4_readLine 139 = .ok (.iconst (-1), 1) := by decide +kernel
theorem dX4_readLine_140 : decode cX4_readLine 140 = .ok (.if_icmp .ne 7, 3) := by decide +kernel
theorem dX4_readLine_143 : decode cX4_readLine 143 = .ok (.iload_n 2, 1) := by decide +kernel
theorem dX4_readLine_144 : decode cX4_readLine 144 = .ok (.goto 4, 3) := by decide +kernel
theorem dX4_readLine_147 : decode cX4_readLine 147 = .ok (.iconst (-1), 1) := by decide +kernel
theorem dX4_readLine_148 : decode cX4_readLine 148 = .ok (.ireturn, 1) := by decide +kernel
theorem dX4_writeLine_0 : decode cX4_writeLine 0 = .ok (.aload_n 0, 1) := by decide +kernel
theorem dX4_writeLine_1 : decode cX4_writeLine 1 = .ok (.iconst 0, 1) := by decide +kernel
theorem dX4_writeLine_2 : decode cX4_writeLine 2 = .ok (.putfield 154, 3) := by decide +kernel
theorem dX4_writeLine_5 : decode cX4_writeLine 5 = .ok (.bipush 16, 2) := by decide +kernel
theorem dX4_writeLine_7 : decode cX4_writeLine 7 = .ok (.istore_n 3, 1) := by decide +kernel
theorem dX4_writeLine_8 : decode cX4_writeLine 8 = .ok (.iload_n 3, 1) := by decide +kernel
theorem dX4_writeLine_9 : decode cX4_writeLine 9 = .ok (.ifCond .lt 32, 3) := by decide +kernel
theorem dX4_writeLine_12 : decode cX4_writeLine 12 = .ok (.aload_n 1, 1) := by decide +kernel
theorem dX4_writeLine_13 : decode cX4_writeLine 13 = .ok (.getfield 66, 3) := by decide +kernel
theorem dX4_writeLine_16 : decode cX4_writeLine 16 = .ok (.iload_n 3, 1) := by decide +kernel
theorem dX4_writeLine_17 : decode cX4_writeLine 17 = .ok (.ishr, 1) := by decide +kernel
theorem dX4_writeLine_18 : decode cX4_writeLine 18 = .ok (.ifCond .eq 17, 3) := by decide +kernel
theorem dX4_writeLine_21 : decode cX4_writeLine 21 = .ok (.aload_n 0, 1) := by decide +kernel
theorem dX4_writeLine_22 : decode cX4_writeLine 22 = .ok (.aload_n 1, 1) := by decide +kernel
theorem dX4_writeLine_23 : decode cX4_writeLine 23 = .ok (.getfield 66, 3) := by decide +kernel
theorem dX4_writeLine_26 : decode cX4_writeLine 26 = .ok (.iload_n 3, 1) := by decide +kernel
theorem dX4_writeLine_27 : decode cX4_writeLine 27 = .ok (.ishr, 1) := by decide +kernel
theorem dX4_writeLine_28 : decode cX4_writeLine 28 = .ok (.sipush 255, 3) := by decide +kernel
theorem dX4_writeLine_31 : decode cX4_writeLine 31 = .ok (.iand, 1) := by decide +kernel
theorem dX4_writeLine_32 : decode cX4_writeLine 32 = .ok (.invokevirtual 157, 3) := by decide +kernel
theorem dX4_writeLine_35 : decode cX4_writeLine 35 = .ok (.iinc 3 (-8), 3) := by decide +kernel
theorem dX4_writeLine_38 : decode cX4_writeLine 38 = .ok (.goto (-30), 3) := by decide +kernel
theorem dX4_writeLine_41 : decode cX4_writeLine 41 = .ok (.bipush 32, 2) := by decide +kernel
theorem dX4_writeLine_43 : decode cX4_writeLine 43 = .ok (.istore_n 3, 1) := by decide +kernel
theorem dX4_writeLine_44 : decode cX4_writeLine 44 = .ok (.iconst 0, 1) := by decide +kernel
theorem dX4_writeLine_45 : decode cX4_writeLine 45 = .ok (.istore 4, 2) := by decide +kernel
theorem dX4_writeLine_47 : decode cX4_writeLine 47 = .ok (.iload 4, 2) := by decide +kernel
theorem dX4_writeLine_49 : decode cX4_writeLine 49 = .ok (.iconst 3, 1) := by decide +kernel
theorem dX4_writeLine_50 : decode cX4_writeLine 50 = .ok (.if_icmp .gt 37, 3) := by decide +kernel
theorem dX4_writeLine_53 : decode cX4_writeLine 53 = .ok (.aload_n 1, 1) := by decide +kernel
theorem dX4_writeLine_54 : decode cX4_writeLine 54 = .ok (.iload 4, 2) := by decide +kernel
theorem dX4_writeLine_56 : decode cX4_writeLine 56 = .ok (.invokevirtual 99, 3) := by decide +kernel
theorem dX4_writeLine_59 : decode cX4_writeLine 59 = .ok (.ifCond .eq 22, 3) := by decide +kernel
theorem dX4_writeLine_62 : decode cX4_writeLine 62 = .ok (.aload_n 0, 1) := by decide +kernel
theorem dX4_writeLine_63 : decode cX4_writeLine 63 = .ok (.iload_n 3, 1) := by decide +kernel
theorem dX4_writeLine_64 : decode cX4_writeLine 64 = .ok (.invokevirtual 157, 3) := by decide +kernel
theorem dX4_writeLine_67 : decode cX4_writeLine 67 = .ok (.aload_n 0, 1) := by decide +kernel
theorem dX4_writeLine_68 : decode cX4_writeLine 68 = .ok (.aload_n 1, 1) := by decide +kernel
theorem dX4_writeLine_69 : decode cX4_writeLine 69 = .ok (.iload_n 2, 1) := by decide +kernel
theorem dX4_writeLine_70 : decode cX4_writeLine 70 = .ok (.iload 4, 2) := by decide +kernel
theorem dX4_writeLine_72 : decode cX4_writeLine 72 = .ok (.invokevirtual 161, 3) := by decide +kernel
theorem dX4_writeLine_75 : decode cX4_writeLine 75 = .ok (.invokevirtual 165, 3) := by decide +kernel
theorem dX4_writeLine_78 : decode cX4_writeLine 78 = .ok (.bipush 44, 2) := by decide +kernel
theorem dX4_writeLine_80 : decode cX4_writeLine 80 = .ok (.istore_n 3, 1) := by decide +kernel
theorem dX4_writeLine_81 : decode cX4_writeLine 81 = .ok (.iinc 4 1, 3) := by decide +kernel
theorem dX4_writeLine_84 : decode cX4_writeLine 84 = .ok (.goto (-37), 3) := by decide +kernel
theorem dX4_writeLine_87 : decode cX4_writeLine 87 = .ok (.return_, 1) := by decide +kernel
theorem dX4_writeNumber_0 : decode cX4_writeNumber 0 = .ok (.iload_n 1, 1) := by decide +kernel
theorem dX4_writeNumber_1 : decode cX4_writeNumber 1 = .ok (.bipush 100, 2) := by decide +kernel
theorem dX4_writeNumber_3 : decode cX4_writeNumber 3 = .ok (.if_icmp .lt 14, 3) := by decide +kernel
theorem dX4_writeNumber_6 : decode cX4_writeNumber 6 = .ok (.aload_n 0, 1) := by decide +kernel
theorem dX4_writeNumber_7 : decode cX4_writeNumber 7 = .ok (.bipush 48, 2) := by decide +kernel
theorem dX4_writeNumber_9 : decode cX4_writeNumber 9 = .ok (.iload_n 1, 1) := by decide +kernel
theorem dX4_writeNumber_10 : decode cX4_writeNumber 10 = .ok (.bipush 100, 2) := by decide +kernel
theorem dX4_writeNumber_12 : decode cX4_writeNumber 12 = .ok (.idiv, 1) := by decide +kernel
theorem dX4_writeNumber_13 : decode cX4_writeNumber 13 = .ok (.iadd, 1) := by decide +kernel
theorem dX4_writeNumber_14 : decode cX4_writeNumber 14 = .ok (.invokevirtual 157, 3) := by decide +kernel
theorem dX4_writeNumber_17 : decode cX4_writeNumber 17 = .ok (.iload_n 1, 1) := by decide +kernel
theorem dX4_writeNumber_18 : decode cX4_writeNumber 18 = .ok (.bipush 10, 2) := by decide +kernel
theorem dX4_writeNumber_20 : decode cX4_writeNumber 20 = .ok (.if_icmp .lt 17, 3) := by decide +kernel
theorem dX4_writeNumber_23 : decode cX4_writeNumber 23 = .ok (.aload_n 0, 1) := by decide +kernel
theorem dX4_writeNumber_24 : decode cX4_writeNumber 24 = .ok (.bipush 48, 2) := by decide +kernel
theorem dX4_writeNumber_26 : decode cX4_writeNumber 26 = .ok (.iload_n 1, 1) := by decide +kernel
theorem dX4_writeNumber_27 : decode cX4_writeNumber 27 = .ok (.bipush 10, 2) := by decide +kernel
theorem dX4_writeNumber_29 : decode cX4_writeNumber 29 = .ok (.idiv, 1) := by decide +kernel
theorem dX4_writeNumber_30 : decode cX4_writeNumber 30 = .ok (.bipush 10, 2) := by decide +kernel
theorem dX4_writeNumber_32 : decode cX4_writeNumber 32 = .ok (.irem, 1) := by decide +kernel
theorem dX4_writeNumber_33 : decode cX4_writeNumber 33 = .ok (.iadd, 1) := by decide +kernel
theorem dX4_writeNumber_34 : decode cX4_writeNumber 34 = .ok (.invokevirtual 157, 3) := by decide +kernel
theorem dX4_writeNumber_37 : decode cX4_writeNumber 37 = .ok (.aload_n 0, 1) := by decide +kernel
theorem dX4_writeNumber_38 : decode cX4_writeNumber 38 = .ok (.bipush 48, 2) := by decide +kernel
theorem dX4_writeNumber_40 : decode cX4_writeNumber 40 = .ok (.iload_n 1, 1) := by decide +kernel
theorem dX4_writeNumber_41 : decode cX4_writeNumber 41 = .ok (.bipush 10, 2) := by decide +kernel
theorem dX4_writeNumber_43 : decode cX4_writeNumber 43 = .ok (.irem, 1) := by decide +kernel
theorem dX4_writeNumber_44 : decode cX4_writeNumber 44 = .ok (.iadd, 1) := by decide +kernel
theorem dX4_writeNumber_45 : decode cX4_writeNumber 45 = .ok (.invokevirtual 157, 3) := by decide +kernel
theorem dX4_writeNumber_48 : decode cX4_writeNumber 48 = .ok (.return_, 1) := by decide +kernel
theorem dX4_writeByte_0 : decode cX4_writeByte 0 = .ok (.aload_n 0, 1) := by decide +kernel
theorem dX4_writeByte_1 : decode cX4_writeByte 1 = .ok (.getfield 154, 3) := by decide +kernel
theorem dX4_writeByte_4 : decode cX4_writeByte 4 = .ok (.bipush 16, 2) := by decide +kernel
theorem dX4_writeByte_6 : decode cX4_writeByte 6 = .ok (.if_icmp .ge 20, 3) := by decide +kernel
theorem dX4_writeByte_9 : decode cX4_writeByte 9 = .ok (.aload_n 0, 1) := by decide +kernel
theorem dX4_writeByte_10 : decode cX4_writeByte 10 = .ok (.getfield 11, 3) := by decide +kernel
theorem dX4_writeByte_13 : decode cX4_writeByte 13 = .ok (.aload_n 0, 1) := by decide +kernel
theorem dX4_writeByte_14 : decode cX4_writeByte 14 = .ok (.dup, 1) := by decide +kernel
theorem dX4_writeByte_15 : decode cX4_writeByte 15 = .ok (.getfield 154, 3) := by decide +kernel
theorem dX4_writeByte_18 : decode cX4_writeByte 18 = .ok (.dup_x1, 1) := by decide +kernel
theorem dX4_writeByte_19 : decode cX4_writeByte 19 = .ok (.iconst 1, 1) := by decide +kernel
theorem dX4_writeByte_20 : decode cX4_writeByte 20 = .ok (.iadd, 1) := by decide +kernel
theorem dX4_writeByte_21 : decode cX4_writeByte 21 = .ok (.putfield 154, 3) := by decide +kernel
theorem dX4_writeByte_24 : decode cX4_writeByte 24 = .ok (.iload_n 1, 1) := by decide +kernel
theorem dX4_writeByte_25 : decode cX4_writeByte 25 = .ok (.iastore, 1) := by decide +kernel
theorem dX4_writeByte_26 : decode cX4_writeByte 26 = .ok (.return_, 1) := by decide +kernel
theorem dX4_byteAt_0 : decode cX4_byteAt 0 = .ok (.iload_n 1, 1) := by decide +kernel
theorem dX4_byteAt_1 : decode cX4_byteAt 1 = .ok (.ifCond .lt 20, 3) := by decide +kernel
theorem dX4_byteAt_4 : decode cX4_byteAt 4 = .ok (.iload_n 1, 1) := by decide +kernel
theorem dX4_byteAt_5 : decode cX4_byteAt 5 = .ok (.aload_n 0, 1) := by decide +kernel
theorem dX4_byteAt_6 : decode cX4_byteAt 6 = .ok (.getfield 154, 3) := by decide +kernel
theorem dX4_byteAt_9 : decode cX4_byteAt 9 = .ok (.if_icmp .ge 12, 3) := by decide +kernel
theorem dX4_byteAt_12 : decode cX4_byteAt 12 = .ok (.aload_n 0, 1) := by decide +kernel
theorem dX4_byteAt_13 : decode cX4_byteAt 13 = .ok (.getfield 11, 3) := by decide +kernel
theorem dX4_byteAt_16 : decode cX4_byteAt 16 = .ok (.iload_n 1, 1) := by decide +kernel
theorem dX4_byteAt_17 : decode cX4_byteAt 17 = .ok (.iaload, 1) := by decide +kernel
theorem dX4_byteAt_18 : decode cX4_byteAt 18 = .ok (.goto 4, 3) := by decide +kernel
theorem dX4_byteAt_21 : decode cX4_byteAt 21 = .ok (.iconst (-1), 1) := by decide +kernel
theorem dX4_byteAt_22 : decode cX4_byteAt 22 = .ok (.ireturn, 1) := by decide +kernel
theorem dX5_init_0 : decode cX5_init 0 = .ok (.aload_n 0, 1) := by decide +kernel
theorem dX5_init_1 : decode cX5_init 1 = .ok (.invokespecial 3, 3) := by decide +kernel
theorem dX5_init_4 : decode cX5_init 4 = .ok (.aload_n 0, 1) := by decide +kernel
theorem dX5_init_5 : decode cX5_init 5 = .ok (.iconst 4, 1) := by decide +kernel
theorem dX5_init_6 : decode cX5_init 6 = .ok (.newarray .int, 2) := by decide +kernel
theorem dX5_init_8 : decode cX5_init 8 = .ok (.putfield 11, 3) := by decide +kernel
theorem dX5_init_11 : decode cX5_init 11 = .ok (.aload_n 0, 1) := by decide +kernel
theorem dX5_init_12 : decode cX5_init 12 = .ok (.iconst 4, 1) := by decide +kernel
theorem dX5_init_13 : decode cX5_init 13 = .ok (.newarray .int, 2) := by decide +kernel
theorem dX5_init_15 : decode cX5_init 15 = .ok (.putfield 15, 3) := by decide +kernel
theorem dX5_init_18 : decode cX5_init 18 = .ok (.aload_n 0, 1) := by decide +kernel
theorem dX5_init_19 : decode cX5_init 19 = .ok (.iconst 4, 1) := by decide +kernel
theorem dX5_init_20 : decode cX5_init 20 = .ok (.bipush 30, 2) := by decide +kernel
theorem dX5_init_22 : decode cX5_init 22 = .ok (.multianewarray 18 2, 4) := by decide +kernel
theorem dX5_init_26 : decode cX5_init 26 = .ok (.putfield 20, 3) := by decide +kernel
theorem dX5_init_29 : decode cX5_init 29 = .ok (.aload_n 0, 1) := by decide +kernel
theorem dX5_init_30 : decode cX5_init 30 = .ok (.getfield 11, 3) := by decide +kernel
theorem dX5_init_33 : decode cX5_init 33 = .ok (.iconst (-1), 1) := by decide +kernel
theorem dX5_init_34 : decode cX5_init 34 = .ok (.invokestatic 23, 3) := by decide +kernel
theorem dX5_init_37 : decode cX5_init 37 = .ok (.return_, 1) := by decide +kernel
theorem dX5_isSheet_0 : decode cX5_isSheet 0 = .ok (.iload_n 0, 1) := by decide +kernel
theorem dX5_isSheet_1 : decode cX5_isSheet 1 = .ok (.ifCond .lt 12, 3) := by decide +kernel
theorem dX5_isSheet_4 : decode cX5_isSheet 4 = .ok (.iload_n 0, 1) := by decide +kernel
theorem dX5_isSheet_5 : decode cX5_isSheet 5 = .ok (.iconst 4, 1) := by decide +kernel
theorem dX5_isSheet_6 : decode cX5_isSheet 6 = .ok (.if_icmp .ge 7, 3) := by decide +kernel
theorem dX5_isSheet_9 : decode cX5_isSheet 9 = .ok (.iconst 1, 1) := by decide +kernel
theorem dX5_isSheet_10 : decode cX5_isSheet 10 = .ok (.goto 4, 3) := by decide +kernel
theorem dX5_isSheet_13 : decode cX5_isSheet 13 = .ok (.iconst 0, 1) := by decide +kernel
theorem dX5_isSheet_14 : decode cX5_isSheet 14 = .ok (.ireturn, 1) := by decide +kernel
theorem dX5_isLane_0 : decode cX5_isLane 0 = .ok (.iload_n 0, 1) := by decide +kernel
theorem dX5_isLane_1 : decode cX5_isLane 1 = .ok (.ifCond .lt 12, 3) := by decide +kernel
theorem dX5_isLane_4 : decode cX5_isLane 4 = .ok (.iload_n 0, 1) := by decide +kernel
theorem dX5_isLane_5 : decode cX5_isLane 5 = .ok (.iconst 2, 1) := by decide +kernel
theorem dX5_isLane_6 : decode cX5_isLane 6 = .ok (.if_icmp .gt 7, 3) := by decide +kernel
theorem dX5_isLane_9 : decode cX5_isLane 9 = .ok (.iconst 1, 1) := by decide +kernel
theorem dX5_isLane_10 : decode cX5_isLane 10 = .ok (.goto 4, 3) := by decide +kernel
theorem dX5_isLane_13 : decode cX5_isLane 13 = .ok (.iconst 0, 1) := by decide +kernel
theorem dX5_isLane_14 : decode cX5_isLane 14 = .ok (.ireturn, 1) := by decide +kernel
theorem dX5_refusal_0 : decode cX5_refusal 0 = .ok (.aload_n 0, 1) := by decide +kernel
theorem dX5_refusal_1 : decode cX5_refusal 1 = .ok (.getfield 11, 3) := by decide +kernel
theorem dX5_refusal_4 : decode cX5_refusal 4 = .ok (.iload_n 1, 1) := by decide +kernel
theorem dX5_refusal_5 : decode cX5_refusal 5 = .ok (.iaload, 1) := by decide +kernel
theorem dX5_refusal_6 : decode cX5_refusal 6 = .ok (.iconst (-1), 1) := by decide +kernel
theorem dX5_refusal_7 : decode cX5_refusal 7 = .ok (.if_icmp .ne 6, 3) := by decide +kernel
theorem dX5_refusal_10 : decode cX5_refusal 10 = .ok (.bipush (-11), 2) := by decide +kernel
theorem dX5_refusal_12 : decode cX5_refusal 12 = .ok (.ireturn, 1) := by decide +kernel
theorem dX5_refusal_13 : decode cX5_refusal 13 = .ok (.aload_n 0, 1) := by decide +kernel
theorem dX5_refusal_14 : decode cX5_refusal 14 = .ok (.getfield 11, 3) := by decide +kernel
theorem dX5_refusal_17 : decode cX5_refusal 17 = .ok (.iload_n 1, 1) := by decide +kernel
theorem dX5_refusal_18 : decode cX5_refusal 18 = .ok (.iaload, 1) := by decide +kernel
theorem dX5_refusal_19 : decode cX5_refusal 19 = .ok (.iload_n 2, 1) := by decide +kernel
theorem dX5_refusal_20 : decode cX5_refusal 20 = .ok (.if_icmp .eq 6, 3) := by decide +kernel
theorem dX5_refusal_23 : decode cX5_refusal 23 = .ok (.bipush (-12), 2) := by decide +kernel
theorem dX5_refusal_25 : decode cX5_refusal 25 = .ok (.ireturn, 1) := by decide +kernel
theorem dX5_refusal_26 : decode cX5_refusal 26 = .ok (.iload_n 3, 1) := by decide +kernel
theorem dX5_refusal_27 : decode cX5_refusal 27 = .ok (.ifCond .lt 16, 3) := by decide +kernel
theorem dX5_refusal_30 : decode cX5_refusal 30 = .ok (.iload_n 3, 1) := by decide +kernel
theorem dX5_refusal_31 : decode cX5_refusal 31 = .ok (.aload_n 0, 1) := by decide +kernel
theorem dX5_refusal_32 : decode cX5_refusal 32 = .ok (.getfield 15, 3) := by decide +kernel
theorem dX5_refusal_35 : decode cX5_refusal 35 = .ok (.iload_n 1, 1) := by decide +kernel
theorem dX5_refusal_36 : decode cX5_refusal 36 = .ok (.iaload, 1) := by decide +kernel
theorem dX5_refusal_37 : decode cX5_refusal 37 = .ok (.iload 4, 2) := by decide +kernel
theorem dX5_refusal_39 : decode cX5_refusal 39 = .ok (.isub, 1) := by decide +kernel
theorem dX5_refusal_40 : decode cX5_refusal 40 = .ok (.if_icmp .le 8, 3) := by decide +kernel
theorem dX5_refusal_43 : decode cX5_refusal 43 = .ok (.bipush (-13), 2) := by decide +kernel
theorem dX5_refusal_45 : decode cX5_refusal 45 = .ok (.goto 4, 3) := by decide +kernel
theorem dX5_refusal_48 : decode cX5_refusal 48 = .ok (.iconst 0, 1) := by decide +kernel
theorem dX5_refusal_49 : decode cX5_refusal 49 = .ok (.ireturn, 1) := by decide +kernel
theorem dX5_lay_0 : decode cX5_lay 0 = .ok (.aload_n 0, 1) := by decide +kernel
theorem dX5_lay_1 : decode cX5_lay 1 = .ok (.getfield 11, 3) := by decide +kernel
theorem dX5_lay_4 : decode cX5_lay 4 = .ok (.iload_n 1, 1) := by decide +kernel
theorem dX5_lay_5 : decode cX5_lay 5 = .ok (.iload_n 2, 1) := by decide +kernel
theorem dX5_lay_6 : decode cX5_lay 6 = .ok (.iastore, 1) := by decide +kernel
theorem dX5_lay_7 : decode cX5_lay 7 = .ok (.aload_n 0, 1) := by decide +kernel
theorem dX5_lay_8 : decode cX5_lay 8 = .ok (.getfield 15, 3) := by decide +kernel
theorem dX5_lay_11 : decode cX5_lay 11 = .ok (.iload_n 1, 1) := by decide +kernel
theorem dX5_lay_12 : decode cX5_lay 12 = .ok (.iload_n 3, 1) := by decide +kernel
theorem dX5_lay_13 : decode cX5_lay 13 = .ok (.iastore, 1) := by decide +kernel
theorem dX5_lay_14 : decode cX5_lay 14 = .ok (.aload_n 0, 1) := by decide +kernel
theorem dX5_lay_15 : decode cX5_lay 15 = .ok (.getfield 20, 3) := by decide +kernel
theorem dX5_lay_18 : decode cX5_lay 18 = .ok (.iload_n 1, 1) := by decide +kernel
theorem dX5_lay_19 : decode cX5_lay 19 = .ok (.aaload, 1) := by decide +kernel
theorem dX5_lay_20 : decode cX5_lay 20 = .ok (.iconst 0, 1) := by decide +kernel
theorem dX5_lay_21 : decode cX5_lay 21 = .ok (.invokestatic 23, 3) := by decide +kernel
theorem dX5_lay_24 : decode cX5_lay 24 = .ok (.iload_n 3, 1) := by decide +kernel
theorem dX5_lay_25 : decode cX5_lay 25 = .ok (.ireturn, 1) := by decide +kernel
theorem dX5_takeAway_0 : decode cX5_takeAway 0 = .ok (.aload_n 0, 1) := by decide +kernel
theorem dX5_takeAway_1 : decode cX5_takeAway 1 = .ok (.getfield 11, 3) := by decide +kernel
theorem dX5_takeAway_4 : decode cX5_takeAway 4 = .ok (.iload_n 1, 1) := by decide +kernel
theorem dX5_takeAway_5 : decode cX5_takeAway 5 = .ok (.iaload, 1) := by decide +kernel
theorem dX5_takeAway_6 : decode cX5_takeAway 6 = .ok (.iconst (-1), 1) := by decide +kernel
theorem dX5_takeAway_7 : decode cX5_takeAway 7 = .ok (.if_icmp .ne 6, 3) := by decide +kernel
theorem dX5_takeAway_10 : decode cX5_takeAway 10 = .ok (.bipush (-11), 2) := by decide +kernel
theorem dX5_takeAway_12 : decode cX5_takeAway 12 = .ok (.ireturn, 1) := by decide +kernel
theorem dX5_takeAway_13 : decode cX5_takeAway 13 = .ok (.aload_n 0, 1) := by decide +kernel
theorem dX5_takeAway_14 : decode cX5_takeAway 14 = .ok (.getfield 11, 3) := by decide +kernel
theorem dX5_takeAway_17 : decode cX5_takeAway 17 = .ok (.iload_n 1, 1) := by decide +kernel
theorem dX5_takeAway_18 : decode cX5_takeAway 18 = .ok (.iconst (-1), 1) := by decide +kernel
theorem dX5_takeAway_19 : decode cX5_takeAway 19 = .ok (.iastore, 1) := by decide +kernel
theorem dX5_takeAway_20 : decode cX5_takeAway 20 = .ok (.aload_n 0, 1) := by decide +kernel
theorem dX5_takeAway_21 : decode cX5_takeAway 21 = .ok (.getfield 15, 3) := by decide +kernel
theorem dX5_takeAway_24 : decode cX5_takeAway 24 = .ok (.iload_n 1, 1) := by decide +kernel
theorem dX5_takeAway_25 : decode cX5_takeAway 25 = .ok (.iaload, 1) := by decide +kernel
theorem dX5_takeAway_26 : decode cX5_takeAway 26 = .ok (.ireturn, 1) := by decide +kernel
theorem dX5_write_0 : decode cX5_write 0 = .ok (.aload_n 0, 1) := by decide +kernel
theorem dX5_write_1 : decode cX5_write 1 = .ok (.getfield 11, 3) := by decide +kernel
theorem dX5_write_4 : decode cX5_write 4 = .ok (.iload_n 1, 1) := by decide +kernel
theorem dX5_write_5 : decode cX5_write 5 = .ok (.iaload, 1) := by decide +kernel
theorem dX5_write_6 : decode cX5_write 6 = .ok (.lookupswitch 52 #[(0, 26), (1, 39)], 26) := by decide +kernel
theorem dX5_write_32 : decode cX5_write 32 = .ok (.aload_n 0, 1) := by decide +kernel
theorem dX5_write_33 : decode cX5_write 33 = .ok (.getfield 20, 3) := by decide +kernel
theorem dX5_write_36 : decode cX5_write 36 = .ok (.iload_n 1, 1) := by decide +kernel
theorem dX5_write_37 : decode cX5_write 37 = .ok (.aaload, 1) := by decide +kernel
theorem dX5_write_38 : decode cX5_write 38 = .ok (.iload_n 2, 1) := by decide +kernel
theorem dX5_write_39 : decode cX5_write 39 = .ok (.iload_n 3, 1) := by decide +kernel
theorem dX5_write_40 : decode cX5_write 40 = .ok (.i2b, 1) := by decide +kernel
theorem dX5_write_41 : decode cX5_write 41 = .ok (.iastore, 1) := by decide +kernel
theorem dX5_write_42 : decode cX5_write 42 = .ok (.goto 25, 3) := by decide +kernel
theorem dX5_write_45 : decode cX5_write 45 = .ok (.aload_n 0, 1) := by decide +kernel
theorem dX5_write_46 : decode cX5_write 46 = .ok (.getfield 20, 3) := by decide +kernel
theorem dX5_write_49 : decode cX5_write 49 = .ok (.iload_n 1, 1) := by decide +kernel
theorem dX5_write_50 : decode cX5_write 50 = .ok (.aaload, 1) := by decide +kernel
theorem dX5_write_51 : decode cX5_write 51 = .ok (.iload_n 2, 1) := by decide +kernel
theorem dX5_write_52 : decode cX5_write 52 = .ok (.iload_n 3, 1) := by decide +kernel
theorem dX5_write_53 : decode cX5_write 53 = .ok (.i2s, 1) := by decide +kernel
theorem dX5_write_54 : decode cX5_write 54 = .ok (.iastore, 1) := by decide +kernel
theorem dX5_write_55 : decode cX5_write 55 = .ok (.goto 12, 3) := by decide +kernel
theorem dX5_write_58 : decode cX5_write 58 = .ok (.aload_n 0, 1) := by decide +kernel
theorem dX5_write_59 : decode cX5_write 59 = .ok (.getfield 20, 3) := by decide +kernel
theorem dX5_write_62 : decode cX5_write 62 = .ok (.iload_n 1, 1) := by decide +kernel
theorem dX5_write_63 : decode cX5_write 63 = .ok (.aaload, 1) := by decide +kernel
theorem dX5_write_64 : decode cX5_write 64 = .ok (.iload_n 2, 1) := by decide +kernel
theorem dX5_write_65 : decode cX5_write 65 = .ok (.iload_n 3, 1) := by decide +kernel
theorem dX5_write_66 : decode cX5_write 66 = .ok (.iastore, 1) := by decide +kernel
theorem dX5_write_67 : decode cX5_write 67 = .ok (.iconst 1, 1) := by decide +kernel
theorem dX5_write_68 : decode cX5_write 68 = .ok (.ireturn, 1) := by decide +kernel
theorem dX6_init_0 : decode cX6_init 0 = .ok (.aload_n 0, 1) := by decide +kernel
theorem dX6_init_1 : decode cX6_init 1 = .ok (.invokespecial 7, 3) := by decide +kernel
theorem dX6_init_4 : decode cX6_init 4 = .ok (.aload_n 0, 1) := by decide +kernel
theorem dX6_init_5 : decode cX6_init 5 = .ok (.new 13, 3) := by decide +kernel
theorem dX6_init_8 : decode cX6_init 8 = .ok (.dup, 1) := by decide +kernel
theorem dX6_init_9 : decode cX6_init 9 = .ok (.invokespecial 15, 3) := by decide +kernel
theorem dX6_init_12 : decode cX6_init 12 = .ok (.putfield 16, 3) := by decide +kernel
theorem dX6_init_15 : decode cX6_init 15 = .ok (.aload_n 0, 1) := by decide +kernel
theorem dX6_init_16 : decode cX6_init 16 = .ok (.new 13, 3) := by decide +kernel
theorem dX6_init_19 : decode cX6_init 19 = .ok (.dup, 1) := by decide +kernel
theorem dX6_init_20 : decode cX6_init 20 = .ok (.invokespecial 15, 3) := by decide +kernel
theorem dX6_init_23 : decode cX6_init 23 = .ok (.putfield 20, 3) := by decide +kernel
theorem dX6_init_26 : decode cX6_init 26 = .ok (.aload_n 0, 1) := by decide +kernel
theorem dX6_init_27 : decode cX6_init 27 = .ok (.bipush 100, 2) := by decide +kernel
theorem dX6_init_29 : decode cX6_init 29 = .ok (.bipush 13, 2) := by decide +kernel
theorem dX6_init_31 : decode cX6_init 31 = .ok (.multianewarray 23 2, 4) := by decide +kernel
theorem dX6_init_35 : decode cX6_init 35 = .ok (.putfield 25, 3) := by decide +kernel
theorem dX6_init_38 : decode cX6_init 38 = .ok (.aload_n 0, 1) := by decide +kernel
theorem dX6_init_39 : decode cX6_init 39 = .ok (.bipush 64, 2) := by decide +kernel
theorem dX6_init_41 : decode cX6_init 41 = .ok (.newarray .int, 2) := by decide +kernel
theorem dX6_init_43 : decode cX6_init 43 = .ok (.putfield 28, 3) := by decide +kernel
theorem dX6_init_46 : decode cX6_init 46 = .ok (.aload_n 0, 1) := by decide +kernel
theorem dX6_init_47 : decode cX6_init 47 = .ok (.aload_n 1, 1) := by decide +kernel
theorem dX6_init_48 : decode cX6_init 48 = .ok (.putfield 32, 3) := by decide +kernel
theorem dX6_init_51 : decode cX6_init 51 = .ok (.aload_n 0, 1) := by decide +kernel
theorem dX6_init_52 : decode cX6_init 52 = .ok (.aload_n 2, 1) := by decide +kernel
theorem dX6_init_53 : decode cX6_init 53 = .ok (.putfield 36, 3) := by decide +kernel
theorem dX6_init_56 : decode cX6_init 56 = .ok (.return_, 1) := by decide +kernel
theorem dX6_startAnew_0 : decode cX6_startAnew 0 = .ok (.aload_n 0, 1) := by decide +kernel
theorem dX6_startAnew_1 : decode cX6_startAnew 1 = .ok (.getfield 16, 3) := by decide +kernel
theorem dX6_startAnew_4 : decode cX6_startAnew 4 = .ok (.iload_n 1, 1) := by decide +kernel
theorem dX6_startAnew_5 : decode cX6_startAnew 5 = .ok (.putfield 39, 3) := by decide +kernel
theorem dX6_startAnew_8 : decode cX6_startAnew 8 = .ok (.aload_n 0, 1) := by decide +kernel
theorem dX6_startAnew_9 : decode cX6_startAnew 9 = .ok (.iconst 2, 1) := by decide +kernel
theorem dX6_startAnew_10 : decode cX6_startAnew 10 = .ok (.putfield 43, 3) := by decide +kernel
theorem dX6_startAnew_13 : decode cX6_startAnew 13 = .ok (.aload_n 0, 1) := by decide +kernel
theorem dX6_startAnew_14 : decode cX6_startAnew 14 = .ok (.invokevirtual 46, 3) := by decide +kernel
theorem dX6_startAnew_17 : decode cX6_startAnew 17 = .ok (.return_, 1) := by decide +kernel
theorem dX6_clear_0 : decode cX6_clear 0 = .ok (.aload_n 0, 1) := by decide +kernel
theorem dX6_clear_1 : decode cX6_clear 1 = .ok (.getfield 16, 3) := by decide +kernel
theorem dX6_clear_4 : decode cX6_clear 4 = .ok (.invokevirtual 49, 3) := by decide +kernel
theorem dX6_clear_7 : decode cX6_clear 7 = .ok (.iconst 0, 1) := by decide +kernel
theorem dX6_clear_8 : decode cX6_clear 8 = .ok (.istore_n 1, 1) := by decide +kernel
theorem dX6_clear_9 : decode cX6_clear 9 = .ok (.iload_n 1, 1) := by decide +kernel
theorem dX6_clear_10 : decode cX6_clear 10 = .ok (.bipush 64, 2) := by decide +kernel
theorem dX6_clear_12 : decode cX6_clear 12 = .ok (.if_icmp .ge 21, 3) := by decide +kernel
theorem dX6_clear_15 : decode cX6_clear 15 = .ok (.aload_n 0, 1) := by decide +kernel
theorem dX6_clear_16 : decode cX6_clear 16 = .ok (.getfield 28, 3) := by decide +kernel
theorem dX6_clear_19 : decode cX6_clear 19 = .ok (.iload_n 1, 1) := by decide +kernel
theorem dX6_clear_20 : decode cX6_clear 20 = .ok (.iload_n 1, 1) := by decide +kernel
theorem dX6_clear_21 : decode cX6_clear 21 = .ok (.iconst 1, 1) := by decide +kernel
theorem dX6_clear_22 : decode cX6_clear 22 = .ok (.iadd, 1) := by decide +kernel
theorem dX6_clear_23 : decode cX6_clear 23 = .ok (.bipush 63, 2) := by decide +kernel
theorem dX6_clear_25 : decode cX6_clear 25 = .ok (.iand, 1) := by decide +kernel
theorem dX6_clear_26 : decode cX6_clear 26 = .ok (.iastore, 1) := by decide +kernel
theorem dX6_clear_27 : decode cX6_clear 27 = .ok (.iinc 1 1, 3) := by decide +kernel
theorem dX6_clear_30 : decode cX6_clear 30 = .ok (.goto (-21), 3) := by decide +kernel
theorem dX6_clear_33 : decode cX6_clear 33 = .ok (.aload_n 0, 1) := by decide +kernel
theorem dX6_clear_34 : decode cX6_clear 34 = .ok (.iconst 0, 1) := by decide +kernel
theorem dX6_clear_35 : decode cX6_clear 35 = .ok (.putfield 50, 3) := by decide +kernel
theorem dX6_clear_38 : decode cX6_clear 38 = .ok (.aload_n 0, 1) := by decide +kernel
theorem dX6_clear_39 : decode cX6_clear 39 = .ok (.iconst 0, 1) := by decide +kernel
theorem dX6_clear_40 : decode cX6_clear 40 = .ok (.putfield 53, 3) := by decide +kernel
theorem dX6_clear_43 : decode cX6_clear 43 = .ok (.aload_n 0, 1) := by decide +kernel
theorem dX6_clear_44 : decode cX6_clear 44 = .ok (.iconst 0, 1) := by decide +kernel
theorem dX6_clear_45 : decode cX6_clear 45 = .ok (.putfield 56, 3) := by decide +kernel
theorem dX6_clear_48 : decode cX6_clear 48 = .ok (.aload_n 0, 1) := by decide +kernel
theorem dX6_clear_49 : decode cX6_clear 49 = .ok (.iconst 0, 1) := by decide +kernel
theorem dX6_clear_50 : decode cX6_clear 50 = .ok (.putfield 59, 3) := by decide +kernel
theorem dX6_clear_53 : decode cX6_clear 53 = .ok (.aload_n 0, 1) := by decide +kernel
theorem dX6_clear_54 : decode cX6_clear 54 = .ok (.invokevirtual 62, 3) := by decide +kernel
theorem dX6_clear_57 : decode cX6_clear 57 = .ok (.return_, 1) := by decide +kernel
theorem dX6_forgetPast_0 : decode cX6_forgetPast 0 = .ok (.aload_n 0, 1) := by decide +kernel
theorem dX6_forgetPast_1 : decode cX6_forgetPast 1 = .ok (.iconst 0, 1) := by decide +kernel
theorem dX6_forgetPast_2 : decode cX6_forgetPast 2 = .ok (.putfield 65, 3) := by decide +kernel
theorem dX6_forgetPast_5 : decode cX6_forgetPast 5 = .ok (.aload_n 0, 1) := by decide +kernel
theorem dX6_forgetPast_6 : decode cX6_forgetPast 6 = .ok (.invokevirtual 68, 3) := by decide +kernel
theorem dX6_forgetPast_9 : decode cX6_forgetPast 9 = .ok (.return_, 1) := by decide +kernel
theorem dX6_forgetLatest_0 : decode cX6_forgetLatest 0 = .ok (.aload_n 0, 1) := by decide +kernel
theorem dX6_forgetLatest_1 : decode cX6_forgetLatest 1 = .ok (.iconst 0, 1) := by decide +kernel
theorem dX6_forgetLatest_2 : decode cX6_forgetLatest 2 = .ok (.putfield 71, 3) := by decide +kernel
theorem dX6_forgetLatest_5 : decode cX6_forgetLatest 5 = .ok (.aload_n 0, 1) := by decide +kernel
theorem dX6_forgetLatest_6 : decode cX6_forgetLatest 6 = .ok (.iconst 0, 1) := by decide +kernel
theorem dX6_forgetLatest_7 : decode cX6_forgetLatest 7 = .ok (.putfield 74, 3) := by decide +kernel
theorem dX6_forgetLatest_10 : decode cX6_forgetLatest 10 = .ok (.return_, 1) := by decide +kernel
theorem dX6_change_0 : decode cX6_change 0 = .ok (.aload_n 0, 1) := by decide +kernel
theorem dX6_change_1 : decode cX6_change 1 = .ok (.getfield 16, 3) := by decide +kernel
theorem dX6_change_4 : decode cX6_change 4 = .ok (.iload_n 1, 1) := by decide +kernel
theorem dX6_change_5 : decode cX6_change 5 = .ok (.iload_n 2, 1) := by decide +kernel
theorem dX6_change_6 : decode cX6_change 6 = .ok (.iload_n 3, 1) := by decide +kernel
theorem dX6_change_7 : decode cX6_change 7 = .ok (.invokevirtual 77, 3) := by decide +kernel
theorem dX6_change_10 : decode cX6_change 10 = .ok (.aload_n 0, 1) := by decide +kernel
theorem dX6_change_11 : decode cX6_change 11 = .ok (.invokevirtual 62, 3) := by decide +kernel
theorem dX6_change_14 : decode cX6_change 14 = .ok (.return_, 1) := by decide +kernel
theorem dX6_goOn_0 : decode cX6_goOn 0 = .ok (.iconst 0, 1) := by decide +kernel
theorem dX6_goOn_1 : decode cX6_goOn 1 = .ok (.istore_n 2, 1) := by decide +kernel
theorem dX6_goOn_2 : decode cX6_goOn 2 = .ok (.iload_n 2, 1) := by decide +kernel
theorem dX6_goOn_3 : decode cX6_goOn 3 = .ok (.iload_n 1, 1) := by decide +kernel
theorem dX6_goOn_4 : decode cX6_goOn 4 = .ok (.if_icmp .ge 18, 3) := by decide +kernel
theorem dX6_goOn_7 : decode cX6_goOn 7 = .ok (.aload_n 0, 1) := by decide +kernel
theorem dX6_goOn_8 : decode cX6_goOn 8 = .ok (.invokevirtual 81, 3) := by decide +kernel
theorem dX6_goOn_11 : decode cX6_goOn 11 = .ok (.ifCond .ne 5, 3) := by decide +kernel
theorem dX6_goOn_14 : decode cX6_goOn 14 = .ok (.iload_n 2, 1) := by decide +kernel
theorem dX6_goOn_15 : decode cX6_goOn 15 = .ok (.ireturn, 1) := by decide +kernel
theorem dX6_goOn_16 : decode cX6_goOn 16 = .ok (.iinc 2 1, 3) := by decide +kernel
theorem dX6_goOn_19 : decode cX6_goOn 19 = .ok (.goto (-17), 3) := by decide +kernel
theorem dX6_goOn_22 : decode cX6_goOn 22 = .ok (.iload_n 1, 1) := by decide +kernel
theorem dX6_goOn_23 : decode cX6_goOn 23 = .ok (.ireturn, 1) := by decide +kernel
theorem dX6_step_0 : decode cX6_step 0 = .ok (.aload_n 0, 1) := by decide +kernel
theorem dX6_step_1 : decode cX6_step 1 = .ok (.getfield 16, 3) := by decide +kernel
theorem dX6_step_4 : decode cX6_step 4 = .ok (.getfield 85, 3) := by decide +kernel
theorem dX6_step_7 : decode cX6_step 7 = .ok (.bipush 63, 2) := by decide +kernel
theorem dX6_step_9 : decode cX6_step 9 = .ok (.iand, 1) := by decide +kernel
theorem dX6_step_10 : decode cX6_step 10 = .ok (.istore_n 1, 1) := by decide +kernel
theorem dX6_step_11 : decode cX6_step 11 = .ok (.aload_n 0, 1) := by decide +kernel
theorem dX6_step_12 : decode cX6_step 12 = .ok (.getfield 32, 3) := by decide +kernel
theorem dX6_step_15 : decode cX6_step 15 = .ok (.aload_n 0, 1) := by decide +kernel
theorem dX6_step_16 : decode cX6_step 16 = .ok (.getfield 36, 3) := by decide +kernel
theorem dX6_step_19 : decode cX6_step 19 = .ok (.iload_n 1, 1) := by decide +kernel
theorem dX6_step_20 : decode cX6_step 20 = .ok (.iaload, 1) := by decide +kernel
theorem dX6_step_21 : decode cX6_step 21 = .ok (.invokevirtual 88, 3) := by decide +kernel
theorem dX6_step_24 : decode cX6_step 24 = .ok (.astore_n 2, 1) := by decide +kernel
theorem dX6_step_25 : decode cX6_step 25 = .ok (.aload_n 2, 1) := by decide +kernel
theorem dX6_step_26 : decode cX6_step 26 = .ok (.ifnonnull 5, 3) := by decide +kernel
theorem dX6_step_29 : decode cX6_step 29 = .ok (.iconst 0, 1) := by decide +kernel
theorem dX6_step_30 : decode cX6_step 30 = .ok (.ireturn, 1) := by decide +kernel
theorem dX6_step_31 : decode cX6_step 31 = .ok (.aload_n 0, 1) := by decide +kernel
theorem dX6_step_32 : decode cX6_step 32 = .ok (.getfield 25, 3) := by decide +kernel
theorem dX6_step_35 : decode cX6_step 35 = .ok (.aload_n 0, 1) := by decide +kernel
theorem dX6_step_36 : decode cX6_step 36 = .ok (.getfield 94, 3) := by decide +kernel
theorem dX6_step_39 : decode cX6_step 39 = .ok (.aaload, 1) := by decide +kernel
theorem dX6_step_40 : decode cX6_step 40 = .ok (.astore_n 3, 1) := by decide +kernel
theorem dX6_step_41 : decode cX6_step 41 = .ok (.aload_n 0, 1) := by decide +kernel
theorem dX6_step_42 : decode cX6_step 42 = .ok (.aload_n 3, 1) := by decide +kernel
theorem dX6_step_43 : decode cX6_step 43 = .ok (.iload_n 1, 1) := by decide +kernel
theorem dX6_step_44 : decode cX6_step 44 = .ok (.invokevirtual 97, 3) := by decide +kernel
theorem dX6_step_47 : decode cX6_step 47 = .ok (.aload_n 0, 1) := by decide +kernel
theorem dX6_step_48 : decode cX6_step 48 = .ok (.getfield 16, 3) := by decide +kernel
theorem dX6_step_51 : decode cX6_step 51 = .ok (.aload_n 2, 1) := by decide +kernel
theorem dX6_step_52 : decode cX6_step 52 = .ok (.aload_n 0, 1) := by decide +kernel
theorem dX6_step_53 : decode cX6_step 53 = .ok (.getfield 36, 3) := by decide +kernel
theorem dX6_step_56 : decode cX6_step 56 = .ok (.iload_n 1, 1) := by decide +kernel
theorem dX6_step_57 : decode cX6_step 57 = .ok (.iaload, 1) := by decide +kernel
theorem dX6_step_58 : decode cX6_step 58 = .ok (.invokevirtual 101, 3) := by decide +kernel
theorem dX6_step_61 : decode cX6_step 61 = .ok (.aload_n 0, 1) := by decide +kernel
theorem dX6_step_62 : decode cX6_step 62 = .ok (.aload_n 3, 1) := by decide +kernel
theorem dX6_step_63 : decode cX6_step 63 = .ok (.invokevirtual 105, 3) := by decide +kernel
theorem dX6_step_66 : decode cX6_step 66 = .ok (.aload_n 0, 1) := by decide +kernel
theorem dX6_step_67 : decode cX6_step 67 = .ok (.aload_n 2, 1) := by decide +kernel
theorem dX6_step_68 : decode cX6_step 68 = .ok (.iload_n 1, 1) := by decide +kernel
theorem dX6_step_69 : decode cX6_step 69 = .ok (.invokevirtual 109, 3) := by decide +kernel
theorem dX6_step_72 : decode cX6_step 72 = .ok (.iconst 1, 1) := by decide +kernel
theorem dX6_step_73 : decode cX6_step 73 = .ok (.ireturn, 1) := by decide +kernel
theorem dX6_noteAhead_0 : decode cX6_noteAhead 0 = .ok (.aload_n 1, 1) := by decide +kernel
theorem dX6_noteAhead_1 : decode cX6_noteAhead 1 = .ok (.iconst 0, 1) := by decide +kernel
theorem dX6_noteAhead_2 : decode cX6_noteAhead 2 = .ok (.aload_n 0, 1) := by decide +kernel
theorem dX6_noteAhead_3 : decode cX6_noteAhead 3 = .ok (.getfield 16, 3) := by decide +kernel
theorem dX6_noteAhead_6 : decode cX6_noteAhead 6 = .ok (.getfield 85, 3) := by decide +kernel
theorem dX6_noteAhead_9 : decode cX6_noteAhead 9 = .ok (.iastore, 1) := by decide +kernel
theorem dX6_noteAhead_10 : decode cX6_noteAhead 10 = .ok (.aload_n 1, 1) := by decide +kernel
theorem dX6_noteAhead_11 : decode cX6_noteAhead 11 = .ok (.iconst 1, 1) := by decide +kernel
theorem dX6_noteAhead_12 : decode cX6_noteAhead 12 = .ok (.aload_n 0, 1) := by decide +kernel
theorem dX6_noteAhead_13 : decode cX6_noteAhead 13 = .ok (.getfield 16, 3) := by decide +kernel
theorem dX6_noteAhead_16 : decode cX6_noteAhead 16 = .ok (.getfield 112, 3) := by decide +kernel
theorem dX6_noteAhead_19 : decode cX6_noteAhead 19 = .ok (.iastore, 1) := by decide +kernel
theorem dX6_noteAhead_20 : decode cX6_noteAhead 20 = .ok (.aload_n 1, 1) := by decide +kernel
theorem dX6_noteAhead_21 : decode cX6_noteAhead 21 = .ok (.iconst 2, 1) := by decide +kernel
theorem dX6_noteAhead_22 : decode cX6_noteAhead 22 = .ok (.aload_n 0, 1) := by decide +kernel
theorem dX6_noteAhead_23 : decode cX6_noteAhead 23 = .ok (.getfield 28, 3) := by decide +kernel
theorem dX6_noteAhead_26 : decode cX6_noteAhead 26 = .ok (.iload_n 2, 1) := by decide +kernel
theorem dX6_noteAhead_27 : decode cX6_noteAhead 27 = .ok (.iaload, 1) := by decide +kernel
theorem dX6_noteAhead_28 : decode cX6_noteAhead 28 = .ok (.iastore, 1) := by decide +kernel
theorem dX6_noteAhead_29 : decode cX6_noteAhead 29 = .ok (.aload_n 1, 1) := by decide +kernel
theorem dX6_noteAhead_30 : decode cX6_noteAhead 30 = .ok (.iconst 3, 1) := by decide +kernel
theorem dX6_noteAhead_31 : decode cX6_noteAhead 31 = .ok (.aload_n 0, 1) := by decide +kernel
theorem dX6_noteAhead_32 : decode cX6_noteAhead 32 = .ok (.getfield 53, 3) := by decide +kernel
theorem dX6_noteAhead_35 : decode cX6_noteAhead 35 = .ok (.iastore, 1) := by decide +kernel
theorem dX6_noteAhead_36 : decode cX6_noteAhead 36 = .ok (.aload_n 1, 1) := by decide +kernel
theorem dX6_noteAhead_37 : decode cX6_noteAhead 37 = .ok (.iconst 4, 1) := by decide +kernel
theorem dX6_noteAhead_38 : decode cX6_noteAhead 38 = .ok (.aload_n 0, 1) := by decide +kernel
theorem dX6_noteAhead_39 : decode cX6_noteAhead 39 = .ok (.getfield 56, 3) := by decide +kernel
theorem dX6_noteAhead_42 : decode cX6_noteAhead 42 = .ok (.iastore, 1) := by decide +kernel
theorem dX6_noteAhead_43 : decode cX6_noteAhead 43 = .ok (.aload_n 1, 1) := by decide +kernel
theorem dX6_noteAhead_44 : decode cX6_noteAhead 44 = .ok (.iconst 5, 1) := by decide +kernel
theorem dX6_noteAhead_45 : decode cX6_noteAhead 45 = .ok (.aload_n 0, 1) := by decide +kernel
theorem dX6_noteAhead_46 : decode cX6_noteAhead 46 = .ok (.getfield 59, 3) := by decide +kernel
theorem dX6_noteAhead_49 : decode cX6_noteAhead 49 = .ok (.iastore, 1) := by decide +kernel
theorem dX6_noteAhead_50 : decode cX6_noteAhead 50 = .ok (.return_, 1) := by decide +kernel
theorem dX6_noteChanges_0 : decode cX6_noteChanges 0 = .ok (.aload_n 1, 1) := by decide +kernel
theorem dX6_noteChanges_1 : decode cX6_noteChanges 1 = .ok (.bipush 6, 2) := by decide +kernel
theorem dX6_noteChanges_3 : decode cX6_noteChanges 3 = .ok (.aload_n 0, 1) := by decide +kernel
theorem dX6_noteChanges_4 : decode cX6_noteChanges 4 = .ok (.getfield 16, 3) := by decide +kernel
theorem dX6_noteChanges_7 : decode cX6_noteChanges 7 = .ok (.getfield 115, 3) := by decide +kernel
theorem dX6_noteChanges_10 : decode cX6_noteChanges 10 = .ok (.iastore, 1) := by decide +kernel
theorem dX6_noteChanges_11 : decode cX6_noteChanges 11 = .ok (.iconst 0, 1) := by decide +kernel
theorem dX6_noteChanges_12 : decode cX6_noteChanges 12 = .ok (.istore_n 2, 1) := by decide +kernel
theorem dX6_noteChanges_13 : decode cX6_noteChanges 13 = .ok (.iload_n 2, 1) := by decide +kernel
theorem dX6_noteChanges_14 : decode cX6_noteChanges 14 = .ok (.aload_n 0, 1) := by decide +kernel
theorem dX6_noteChanges_15 : decode cX6_noteChanges 15 = .ok (.getfield 16, 3) := by decide +kernel
theorem dX6_noteChanges_18 : decode cX6_noteChanges 18 = .ok (.getfield 115, 3) := by decide +kernel
theorem dX6_noteChanges_21 : decode cX6_noteChanges 21 = .ok (.if_icmp .ge 45, 3) := by decide +kernel
theorem dX6_noteChanges_24 : decode cX6_noteChanges 24 = .ok (.aload_n 1, 1) := by decide +kernel
theorem dX6_noteChanges_25 : decode cX6_noteChanges 25 = .ok (.bipush 7, 2) := by decide +kernel
theorem dX6_noteChanges_27 : decode cX6_noteChanges 27 = .ok (.iconst 2, 1) := by decide +kernel
theorem dX6_noteChanges_28 : decode cX6_noteChanges 28 = .ok (.iload_n 2, 1) := by decide +kernel
theorem dX6_noteChanges_29 : decode cX6_noteChanges 29 = .ok (.imul, 1) := by decide +kernel
theorem dX6_noteChanges_30 : decode cX6_noteChanges 30 = .ok (.iadd, 1) := by decide +kernel
theorem dX6_noteChanges_31 : decode cX6_noteChanges 31 = .ok (.aload_n 0, 1) := by decide +kernel
theorem dX6_noteChanges_32 : decode cX6_noteChanges 32 = .ok (.getfield 16, 3) := by decide +kernel
theorem dX6_noteChanges_35 : decode cX6_noteChanges 35 = .ok (.getfield 118, 3) := by decide +kernel
theorem dX6_noteChanges_38 : decode cX6_noteChanges 38 = .ok (.iload_n 2, 1) := by decide +kernel
theorem dX6_noteChanges_39 : decode cX6_noteChanges 39 = .ok (.iaload, 1) := by decide +kernel
theorem dX6_noteChanges_40 : decode cX6_noteChanges 40 = .ok (.iastore, 1) := by decide +kernel
theorem dX6_noteChanges_41 : decode cX6_noteChanges 41 = .ok (.aload_n 1, 1) := by decide +kernel
theorem dX6_noteChanges_42 : decode cX6_noteChanges 42 = .ok (.bipush 7, 2) := by decide +kernel
theorem dX6_noteChanges_44 : decode cX6_noteChanges 44 = .ok (.iconst 2, 1) := by decide +kernel
theorem dX6_noteChanges_45 : decode cX6_noteChanges 45 = .ok (.iload_n 2, 1) := by decide +kernel
theorem dX6_noteChanges_46 : decode cX6_noteChanges 46 = .ok (.imul, 1) := by decide +kernel
theorem dX6_noteChanges_47 : decode cX6_noteChanges 47 = .ok (.iadd, 1) := by decide +kernel
theorem dX6_noteChanges_48 : decode cX6_noteChanges 48 = .ok (.iconst 1, 1) := by decide +kernel
theorem dX6_noteChanges_49 : decode cX6_noteChanges 49 = .ok (.iadd, 1) := by decide +kernel
theorem dX6_noteChanges_50 : decode cX6_noteChanges 50 = .ok (.aload_n 0, 1) := by decide +kernel
theorem dX6_noteChanges_51 : decode cX6_noteChanges 51 = .ok (.getfield 16, 3) := by decide +kernel
theorem dX6_noteChanges_54 : decode cX6_noteChanges 54 = .ok (.getfield 121, 3) := by decide +kernel
theorem dX6_noteChanges_57 : decode cX6_noteChanges 57 = .ok (.iload_n 2, 1) := by decide +kernel
theorem dX6_noteChanges_58 : decode cX6_noteChanges 58 = .ok (.iaload, 1) := by decide +kernel
theorem dX6_noteChanges_59 : decode cX6_noteChanges 59 = .ok (.iastore, 1) := by decide +kernel
theorem dX6_noteChanges_60 : decode cX6_noteChanges 60 = .ok (.iinc 2 1, 3) := by decide +kernel
theorem dX6_noteChanges_63 : decode cX6_noteChanges 63 = .ok (.goto (-50), 3) := by decide +kernel
theorem dX6_noteChanges_66 : decode cX6_noteChanges 66 = .ok (.aload_n 0, 1) := by decide +kernel
theorem dX6_noteChanges_67 : decode cX6_noteChanges 67 = .ok (.aload_n 0, 1) := by decide +kernel
theorem dX6_noteChanges_68 : decode cX6_noteChanges 68 = .ok (.getfield 94, 3) := by decide +kernel
theorem dX6_noteChanges_71 : decode cX6_noteChanges 71 = .ok (.iconst 1, 1) := by decide +kernel
theorem dX6_noteChanges_72 : decode cX6_noteChanges 72 = .ok (.iadd, 1) := by decide +kernel
theorem dX6_noteChanges_73 : decode cX6_noteChanges 73 = .ok (.bipush 100, 2) := by decide +kernel
theorem dX6_noteChanges_75 : decode cX6_noteChanges 75 = .ok (.irem, 1) := by decide +kernel
theorem dX6_noteChanges_76 : decode cX6_noteChanges 76 = .ok (.putfield 94, 3) := by decide +kernel
theorem dX6_noteChanges_79 : decode cX6_noteChanges 79 = .ok (.aload_n 0, 1) := by decide +kernel
theorem dX6_noteChanges_80 : decode cX6_noteChanges 80 = .ok (.aload_n 0, 1) := by decide +kernel
theorem dX6_noteChanges_81 : decode cX6_noteChanges 81 = .ok (.getfield 65, 3) := by decide +kernel
theorem dX6_noteChanges_84 : decode cX6_noteChanges 84 = .ok (.iconst 1, 1) := by decide +kernel
theorem dX6_noteChanges_85 : decode cX6_noteChanges 85 = .ok (.iadd, 1) := by decide +kernel
theorem dX6_noteChanges_86 : decode cX6_noteChanges 86 = .ok (.bipush 100, 2) := by decide +kernel
theorem dX6_noteChanges_88 : decode cX6_noteChanges 88 = .ok (.invokestatic 124, 3) := by decide +kernel
theorem dX6_noteChanges_91 : decode cX6_noteChanges 91 = .ok (.putfield 65, 3) := by decide +kernel
theorem dX6_noteChanges_94 : decode cX6_noteChanges 94 = .ok (.return_, 1) := by decide +kernel
theorem dX6_countStep_0 : decode cX6_countStep 0 = .ok (.aload_n 0, 1) := by decide +kernel
theorem dX6_countStep_1 : decode cX6_countStep 1 = .ok (.dup, 1) := by decide +kernel
theorem dX6_countStep_2 : decode cX6_countStep 2 = .ok (.getfield 50, 3) := by decide +kernel
theorem dX6_countStep_5 : decode cX6_countStep 5 = .ok (.iconst 1, 1) := by decide +kernel
theorem dX6_countStep_6 : decode cX6_countStep 6 = .ok (.iadd, 1) := by decide +kernel
theorem dX6_countStep_7 : decode cX6_countStep 7 = .ok (.putfield 50, 3) := by decide +kernel
theorem dX6_countStep_10 : decode cX6_countStep 10 = .ok (.aload_n 0, 1) := by decide +kernel
theorem dX6_countStep_11 : decode cX6_countStep 11 = .ok (.dup, 1) := by decide +kernel
theorem dX6_countStep_12 : decode cX6_countStep 12 = .ok (.getfield 53, 3) := by decide +kernel
theorem dX6_countStep_15 : decode cX6_countStep 15 = .ok (.aload_n 1, 1) := by decide +kernel
theorem dX6_countStep_16 : decode cX6_countStep 16 = .ok (.getfield 130, 3) := by decide +kernel
theorem dX6_countStep_19 : decode cX6_countStep 19 = .ok (.iadd, 1) := by decide +kernel
theorem dX6_countStep_20 : decode cX6_countStep 20 = .ok (.putfield 53, 3) := by decide +kernel
theorem dX6_countStep_23 : decode cX6_countStep 23 = .ok (.aload_n 0, 1) := by decide +kernel
theorem dX6_countStep_24 : decode cX6_countStep 24 = .ok (.getfield 71, 3) := by decide +kernel
theorem dX6_countStep_27 : decode cX6_countStep 27 = .ok (.iconst 1, 1) := by decide +kernel
theorem dX6_countStep_28 : decode cX6_countStep 28 = .ok (.if_icmp .le 52, 3) := by decide +kernel
theorem dX6_countStep_31 : decode cX6_countStep 31 = .ok (.aload_n 0, 1) := by decide +kernel
theorem dX6_countStep_32 : decode cX6_countStep 32 = .ok (.getfield 74, 3) := by decide +kernel
theorem dX6_countStep_35 : decode cX6_countStep 35 = .ok (.aload_n 0, 1) := by decide +kernel
theorem dX6_countStep_36 : decode cX6_countStep 36 = .ok (.getfield 16, 3) := by decide +kernel
theorem dX6_countStep_39 : decode cX6_countStep 39 = .ok (.aload_n 1, 1) := by decide +kernel
theorem dX6_countStep_40 : decode cX6_countStep 40 = .ok (.getfield 131, 3) := by decide +kernel
theorem dX6_countStep_43 : decode cX6_countStep 43 = .ok (.invokevirtual 134, 3) := by decide +kernel
theorem dX6_countStep_46 : decode cX6_countStep 46 = .ok (.iand, 1) := by decide +kernel
theorem dX6_countStep_47 : decode cX6_countStep 47 = .ok (.ifCond .eq 33, 3) := by decide +kernel
theorem dX6_countStep_50 : decode cX6_countStep 50 = .ok (.aload_n 0, 1) := by decide +kernel
theorem dX6_countStep_51 : decode cX6_countStep 51 = .ok (.dup, 1) := by decide +kernel
theorem dX6_countStep_52 : decode cX6_countStep 52 = .ok (.getfield 56, 3) := by decide +kernel
theorem dX6_countStep_55 : decode cX6_countStep 55 = .ok (.aload_n 0, 1) := by decide +kernel
theorem dX6_countStep_56 : decode cX6_countStep 56 = .ok (.getfield 71, 3) := by decide +kernel
theorem dX6_countStep_59 : decode cX6_countStep 59 = .ok (.iconst 1, 1) := by decide +kernel
theorem dX6_countStep_60 : decode cX6_countStep 60 = .ok (.isub, 1) := by decide +kernel
theorem dX6_countStep_61 : decode cX6_countStep 61 = .ok (.iadd, 1) := by decide +kernel
theorem dX6_countStep_62 : decode cX6_countStep 62 = .ok (.putfield 56, 3) := by decide +kernel
theorem dX6_countStep_65 : decode cX6_countStep 65 = .ok (.aload_n 0, 1) := by decide +kernel
theorem dX6_countStep_66 : decode cX6_countStep 66 = .ok (.dup, 1) := by decide +kernel
theorem dX6_countStep_67 : decode cX6_countStep 67 = .ok (.getfield 53, 3) := by decide +kernel
theorem dX6_countStep_70 : decode cX6_countStep 70 = .ok (.aload_n 0, 1) := by decide +kernel
theorem dX6_countStep_71 : decode cX6_countStep 71 = .ok (.getfield 71, 3) := by decide +kernel
theorem dX6_countStep_74 : decode cX6_countStep 74 = .ok (.iconst 1, 1) := by decide +kernel
theorem dX6_countStep_75 : decode cX6_countStep 75 = .ok (.isub, 1) := by decide +kernel
theorem dX6_countStep_76 : decode cX6_countStep 76 = .ok (.iadd, 1) := by decide +kernel
theorem dX6_countStep_77 : decode cX6_countStep 77 = .ok (.putfield 53, 3) := by decide +kernel
theorem dX6_countStep_80 : decode cX6_countStep 80 = .ok (.aload_n 0, 1) := by decide +kernel
theorem dX6_countStep_81 : decode cX6_countStep 81 = .ok (.aload_n 1, 1) := by decide +kernel
theorem dX6_countStep_82 : decode cX6_countStep 82 = .ok (.getfield 130, 3) := by decide +kernel
theorem dX6_countStep_85 : decode cX6_countStep 85 = .ok (.putfield 71, 3) := by decide +kernel
theorem dX6_countStep_88 : decode cX6_countStep 88 = .ok (.aload_n 0, 1) := by decide +kernel
theorem dX6_countStep_89 : decode cX6_countStep 89 = .ok (.aload_n 0, 1) := by decide +kernel
theorem dX6_countStep_90 : decode cX6_countStep 90 = .ok (.getfield 16, 3) := by decide +kernel
theorem dX6_countStep_93 : decode cX6_countStep 93 = .ok (.aload_n 1, 1) := by decide +kernel
theorem dX6_countStep_94 : decode cX6_countStep 94 = .ok (.getfield 138, 3) := by decide +kernel
theorem dX6_countStep_97 : decode cX6_countStep 97 = .ok (.invokevirtual 134, 3) := by decide +kernel
theorem dX6_countStep_100 : decode cX6_countStep 100 = .ok (.putfield 74, 3) := by decide +kernel
theorem dX6_countStep_103 : decode cX6_countStep 103 = .ok (.aload_n 0, 1) := by decide +kernel
theorem dX6_countStep_104 : decode cX6_countStep 104 = .ok (.getfield 28, 3) := by decide +kernel
theorem dX6_countStep_107 : decode cX6_countStep 107 = .ok (.iload_n 2, 1) := by decide +kernel
theorem dX6_countStep_108 : decode cX6_countStep 108 = .ok (.iaload, 1) := by decide +kernel
theorem dX6_countStep_109 : decode cX6_countStep 109 = .ok (.aload_n 0, 1) := by decide +kernel
theorem dX6_countStep_110 : decode cX6_countStep 110 = .ok (.getfield 16, 3) := by decide +kernel
theorem dX6_countStep_113 : decode cX6_countStep 113 = .ok (.getfield 85, 3) := by decide +kernel
theorem dX6_countStep_116 : decode cX6_countStep 116 = .ok (.if_icmp .eq 39, 3) := by decide +kernel
theorem dX6_countStep_119 : decode cX6_countStep 119 = .ok (.aload_n 0, 1) := by decide +kernel
theorem dX6_countStep_120 : decode cX6_countStep 120 = .ok (.getfield 28, 3) := by decide +kernel
theorem dX6_countStep_123 : decode cX6_countStep 123 = .ok (.iload_n 2, 1) := by decide +kernel
theorem dX6_countStep_124 : decode cX6_countStep 124 = .ok (.aload_n 0, 1) := by decide +kernel
theorem dX6_countStep_125 : decode cX6_countStep 125 = .ok (.getfield 16, 3) := by decide +kernel
theorem dX6_countStep_128 : decode cX6_countStep 128 = .ok (.getfield 85, 3) := by decide +kernel
theorem dX6_countStep_131 : decode cX6_countStep 131 = .ok (.iastore, 1) := by decide +kernel
theorem dX6_countStep_132 : decode cX6_countStep 132 = .ok (.aload_n 0, 1) := by decide +kernel
theorem dX6_countStep_133 : decode cX6_countStep 133 = .ok (.dup, 1) := by decide +kernel
theorem dX6_countStep_134 : decode cX6_countStep 134 = .ok (.getfield 59, 3) := by decide +kernel
theorem dX6_countStep_137 : decode cX6_countStep 137 = .ok (.iconst 1, 1) := by decide +kernel
theorem dX6_countStep_138 : decode cX6_countStep 138 = .ok (.iadd, 1) := by decide +kernel
theorem dX6_countStep_139 : decode cX6_countStep 139 = .ok (.putfield 59, 3) := by decide +kernel
theorem dX6_countStep_142 : decode cX6_countStep 142 = .ok (.aload_n 0, 1) := by decide +kernel
theorem dX6_countStep_143 : decode cX6_countStep 143 = .ok (.dup, 1) := by decide +kernel
theorem dX6_countStep_144 : decode cX6_countStep 144 = .ok (.getfield 53, 3) := by decide +kernel
theorem dX6_countStep_147 : decode cX6_countStep 147 = .ok (.aload_n 0, 1) := by decide +kernel
theorem dX6_countStep_148 : decode cX6_countStep 148 = .ok (.getfield 43, 3) := by decide +kernel
theorem dX6_countStep_151 : decode cX6_countStep 151 = .ok (.iadd, 1) := by decide +kernel
theorem dX6_countStep_152 : decode cX6_countStep 152 = .ok (.putfield 53, 3) := by decide +kernel
theorem dX6_countStep_155 : decode cX6_countStep 155 = .ok (.return_, 1) := by decide +kernel
theorem dX6_goBack_0 : decode cX6_goBack 0 = .ok (.iload_n 1, 1) := by decide +kernel
theorem dX6_goBack_1 : decode cX6_goBack 1 = .ok (.aload_n 0, 1) := by decide +kernel
theorem dX6_goBack_2 : decode cX6_goBack 2 = .ok (.getfield 65, 3) := by decide +kernel
theorem dX6_goBack_5 : decode cX6_goBack 5 = .ok (.if_icmp .le 6, 3) := by decide +kernel
theorem dX6_goBack_8 : decode cX6_goBack 8 = .ok (.bipush (-2), 2) := by decide +kernel
theorem dX6_goBack_10 : decode cX6_goBack 10 = .ok (.ireturn, 1) := by decide +kernel
theorem dX6_goBack_11 : decode cX6_goBack 11 = .ok (.iconst 0, 1) := by decide +kernel
theorem dX6_goBack_12 : decode cX6_goBack 12 = .ok (.istore_n 2, 1) := by decide +kernel
theorem dX6_goBack_13 : decode cX6_goBack 13 = .ok (.iload_n 2, 1) := by decide +kernel
theorem dX6_goBack_14 : decode cX6_goBack 14 = .ok (.iload_n 1, 1) := by decide +kernel
theorem dX6_goBack_15 : decode cX6_goBack 15 = .ok (.if_icmp .ge 48, 3) := by decide +kernel
theorem dX6_goBack_18 : decode cX6_goBack 18 = .ok (.aload_n 0, 1) := by decide +kernel
theorem dX6_goBack_19 : decode cX6_goBack 19 = .ok (.aload_n 0, 1) := by decide +kernel
theorem dX6_goBack_20 : decode cX6_goBack 20 = .ok (.getfield 94, 3) := by decide +kernel
theorem dX6_goBack_23 : decode cX6_goBack 23 = .ok (.bipush 100, 2) := by decide +kernel
theorem dX6_goBack_25 : decode cX6_goBack 25 = .ok (.iadd, 1) := by decide +kernel
theorem dX6_goBack_26 : decode cX6_goBack 26 = .ok (.iconst 1, 1) := by decide +kernel
theorem dX6_goBack_27 : decode cX6_goBack 27 = .ok (.isub, 1) := by decide +kernel
theorem dX6_goBack_28 : decode cX6_goBack 28 = .ok (.bipush 100, 2) := by decide +kernel
theorem dX6_goBack_30 : decode cX6_goBack 30 = .ok (.irem, 1) := by decide +kernel
theorem dX6_goBack_31 : decode cX6_goBack 31 = .ok (.putfield 94, 3) := by decide +kernel
theorem dX6_goBack_34 : decode cX6_goBack 34 = .ok (.aload_n 0, 1) := by decide +kernel
theorem dX6_goBack_35 : decode cX6_goBack 35 = .ok (.dup, 1) := by decide +kernel
theorem dX6_goBack_36 : decode cX6_goBack 36 = .ok (.getfield 65, 3) := by decide +kernel
theorem dX6_goBack_39 : decode cX6_goBack 39 = .ok (.iconst 1, 1) := by decide +kernel
theorem dX6_goBack_40 : decode cX6_goBack 40 = .ok (.isub, 1) := by decide +kernel
theorem dX6_goBack_41 : decode cX6_goBack 41 = .ok (.putfield 65, 3) := by decide +kernel
theorem dX6_goBack_44 : decode cX6_goBack 44 = .ok (.aload_n 0, 1) := by decide +kernel
theorem dX6_goBack_45 : decode cX6_goBack 45 = .ok (.aload_n 0, 1) := by decide +kernel
theorem dX6_goBack_46 : decode cX6_goBack 46 = .ok (.getfield 25, 3) := by decide +kernel
theorem dX6_goBack_49 : decode cX6_goBack 49 = .ok (.aload_n 0, 1) := by decide +kernel
theorem dX6_goBack_50 : decode cX6_goBack 50 = .ok (.getfield 94, 3) := by decide +kernel
theorem dX6_goBack_53 : decode cX6_goBack 53 = .ok (.aaload, 1) := by decide +kernel
theorem dX6_goBack_54 : decode cX6_goBack 54 = .ok (.invokevirtual 141, 3) := by decide +kernel
theorem dX6_goBack_57 : decode cX6_goBack 57 = .ok (.iinc 2 1, 3) := by decide +kernel
theorem dX6_goBack_60 : decode cX6_goBack 60 = .ok (.goto (-47), 3) := by decide +kernel
theorem dX6_goBack_63 : decode cX6_goBack 63 = .ok (.aload_n 0, 1) := by decide +kernel
theorem dX6_goBack_64 : decode cX6_goBack 64 = .ok (.invokevirtual 68, 3) := by decide +kernel
theorem dX6_goBack_67 : decode cX6_goBack 67 = .ok (.aload_n 0, 1) := by decide +kernel
theorem dX6_goBack_68 : decode cX6_goBack 68 = .ok (.getfield 65, 3) := by decide +kernel
theorem dX6_goBack_71 : decode cX6_goBack 71 = .ok (.ireturn, 1) := by decide +kernel
theorem dX6_undoStep_0 : decode cX6_undoStep 0 = .ok (.aload_n 1, 1) := by decide +kernel
theorem dX6_undoStep_1 : decode cX6_undoStep 1 = .ok (.bipush 6, 2) := by decide +kernel
theorem dX6_undoStep_3 : decode cX6_undoStep 3 = .ok (.iaload, 1) := by decide +kernel
theorem dX6_undoStep_4 : decode cX6_undoStep 4 = .ok (.iconst 1, 1) := by decide +kernel
theorem dX6_undoStep_5 : decode cX6_undoStep 5 = .ok (.isub, 1) := by decide +kernel
theorem dX6_undoStep_6 : decode cX6_undoStep 6 = .ok (.istore_n 2, 1) := by decide +kernel
theorem dX6_undoStep_7 : decode cX6_undoStep 7 = .ok (.iload_n 2, 1) := by decide +kernel
theorem dX6_undoStep_8 : decode cX6_undoStep 8 = .ok (.ifCond .lt 34, 3) := by decide +kernel
theorem dX6_undoStep_11 : decode cX6_undoStep 11 = .ok (.aload_n 0, 1) := by decide +kernel
theorem dX6_undoStep_12 : decode cX6_undoStep 12 = .ok (.getfield 16, 3) := by decide +kernel
theorem dX6_undoStep_15 : decode cX6_undoStep 15 = .ok (.aload_n 1, 1) := by decide +kernel
theorem dX6_undoStep_16 : decode cX6_undoStep 16 = .ok (.bipush 7, 2) := by decide +kernel
theorem dX6_undoStep_18 : decode cX6_undoStep 18 = .ok (.iconst 2, 1) := by decide +kernel
theorem dX6_undoStep_19 : decode cX6_undoStep 19 = .ok (.iload_n 2, 1) := by decide +kernel
theorem dX6_undoStep_20 : decode cX6_undoStep 20 = .ok (.imul, 1) := by decide +kernel
theorem dX6_undoStep_21 : decode cX6_undoStep 21 = .ok (.iadd, 1) := by decide +kernel
theorem dX6_undoStep_22 : decode cX6_undoStep 22 = .ok (.iaload, 1) := by decide +kernel
theorem dX6_undoStep_23 : decode cX6_undoStep 23 = .ok (.aload_n 1, 1) := by decide +kernel
theorem dX6_undoStep_24 : decode cX6_undoStep 24 = .ok (.bipush 7, 2) := by decide +kernel
theorem dX6_undoStep_26 : decode cX6_undoStep 26 = .ok (.iconst 2, 1) := by decide +kernel
theorem dX6_undoStep_27 : decode cX6_undoStep 27 = .ok (.iload_n 2, 1) := by decide +kernel
theorem dX6_undoStep_28 : decode cX6_undoStep 28 = .ok (.imul, 1) := by decide +kernel
theorem dX6_undoStep_29 : decode cX6_undoStep 29 = .ok (.iadd, 1) := by decide +kernel
theorem dX6_undoStep_30 : decode cX6_undoStep 30 = .ok (.iconst 1, 1) := by decide +kernel
theorem dX6_undoStep_31 : decode cX6_undoStep 31 = .ok (.iadd, 1) := by decide +kernel
theorem dX6_undoStep_32 : decode cX6_undoStep 32 = .ok (.iaload, 1) := by decide +kernel
theorem dX6_undoStep_33 : decode cX6_undoStep 33 = .ok (.invokevirtual 144, 3) := by decide +kernel
theorem dX6_undoStep_36 : decode cX6_undoStep 36 = .ok (.iinc 2 (-1), 3) := by decide +kernel
theorem dX6_undoStep_39 : decode cX6_undoStep 39 = .ok (.goto (-32), 3) := by decide +kernel
theorem dX6_undoStep_42 : decode cX6_undoStep 42 = .ok (.aload_n 0, 1) := by decide +kernel
theorem dX6_undoStep_43 : decode cX6_undoStep 43 = .ok (.getfield 16, 3) := by decide +kernel
theorem dX6_undoStep_46 : decode cX6_undoStep 46 = .ok (.aload_n 1, 1) := by decide +kernel
theorem dX6_undoStep_47 : decode cX6_undoStep 47 = .ok (.iconst 0, 1) := by decide +kernel
theorem dX6_undoStep_48 : decode cX6_undoStep 48 = .ok (.iaload, 1) := by decide +kernel
theorem dX6_undoStep_49 : decode cX6_undoStep 49 = .ok (.putfield 85, 3) := by decide +kernel
theorem dX6_undoStep_52 : decode cX6_undoStep 52 = .ok (.aload_n 0, 1) := by decide +kernel
theorem dX6_undoStep_53 : decode cX6_undoStep 53 = .ok (.getfield 16, 3) := by decide +kernel
theorem dX6_undoStep_56 : decode cX6_undoStep 56 = .ok (.aload_n 1, 1) := by decide +kernel
theorem dX6_undoStep_57 : decode cX6_undoStep 57 = .ok (.iconst 1, 1) := by decide +kernel
theorem dX6_undoStep_58 : decode cX6_undoStep 58 = .ok (.iaload, 1) := by decide +kernel
theorem dX6_undoStep_59 : decode cX6_undoStep 59 = .ok (.putfield 112, 3) := by decide +kernel
theorem dX6_undoStep_62 : decode cX6_undoStep 62 = .ok (.aload_n 0, 1) := by decide +kernel
theorem dX6_undoStep_63 : decode cX6_undoStep 63 = .ok (.getfield 28, 3) := by decide +kernel
theorem dX6_undoStep_66 : decode cX6_undoStep 66 = .ok (.aload_n 0, 1) := by decide +kernel
theorem dX6_undoStep_67 : decode cX6_undoStep 67 = .ok (.getfield 16, 3) := by decide +kernel
theorem dX6_undoStep_70 : decode cX6_undoStep 70 = .ok (.getfield 85, 3) := by decide +kernel
theorem dX6_undoStep_73 : decode cX6_undoStep 73 = .ok (.bipush 63, 2) := by decide +kernel
theorem dX6_undoStep_75 : decode cX6_undoStep 75 = .ok (.iand, 1) := by decide +kernel
theorem dX6_undoStep_76 : decode cX6_undoStep 76 = .ok (.aload_n 1, 1) := by decide +kernel
theorem dX6_undoStep_77 : decode cX6_undoStep 77 = .ok (.iconst 2, 1) := by decide +kernel
theorem dX6_undoStep_78 : decode cX6_undoStep 78 = .ok (.iaload, 1) := by decide +kernel
theorem dX6_undoStep_79 : decode cX6_undoStep 79 = .ok (.iastore, 1) := by decide +kernel
theorem dX6_undoStep_80 : decode cX6_undoStep 80 = .ok (.aload_n 0, 1) := by decide +kernel
theorem dX6_undoStep_81 : decode cX6_undoStep 81 = .ok (.aload_n 1, 1) := by decide +kernel
theorem dX6_undoStep_82 : decode cX6_undoStep 82 = .ok (.iconst 3, 1) := by decide +kernel
theorem dX6_undoStep_83 : decode cX6_undoStep 83 = .ok (.iaload, 1) := by decide +kernel
theorem dX6_undoStep_84 : decode cX6_undoStep 84 = .ok (.putfield 53, 3) := by decide +kernel
theorem dX6_undoStep_87 : decode cX6_undoStep 87 = .ok (.aload_n 0, 1) := by decide +kernel
theorem dX6_undoStep_88 : decode cX6_undoStep 88 = .ok (.aload_n 1, 1) := by decide +kernel
theorem dX6_undoStep_89 : decode cX6_undoStep 89 = .ok (.iconst 4, 1) := by decide +kernel
theorem dX6_undoStep_90 : decode cX6_undoStep 90 = .ok (.iaload, 1) := by decide +kernel
theorem dX6_undoStep_91 : decode cX6_undoStep 91 = .ok (.putfield 56, 3) := by decide +kernel
theorem dX6_undoStep_94 : decode cX6_undoStep 94 = .ok (.aload_n 0, 1) := by decide +kernel
theorem dX6_undoStep_95 : decode cX6_undoStep 95 = .ok (.aload_n 1, 1) := by decide +kernel
theorem dX6_undoStep_96 : decode cX6_undoStep 96 = .ok (.iconst 5, 1) := by decide +kernel
theorem dX6_undoStep_97 : decode cX6_undoStep 97 = .ok (.iaload, 1) := by decide +kernel
theorem dX6_undoStep_98 : decode cX6_undoStep 98 = .ok (.putfield 59, 3) := by decide +kernel
theorem dX6_undoStep_101 : decode cX6_undoStep 101 = .ok (.aload_n 0, 1) := by decide +kernel
theorem dX6_undoStep_102 : decode cX6_undoStep 102 = .ok (.dup, 1) := by decide +kernel
theorem dX6_undoStep_103 : decode cX6_undoStep 103 = .ok (.getfield 50, 3) := by decide +kernel
theorem dX6_undoStep_106 : decode cX6_undoStep 106 = .ok (.iconst 1, 1) := by decide +kernel
theorem dX6_undoStep_107 : decode cX6_undoStep 107 = .ok (.isub, 1) := by decide +kernel
theorem dX6_undoStep_108 : decode cX6_undoStep 108 = .ok (.putfield 50, 3) := by decide +kernel
theorem dX6_undoStep_111 : decode cX6_undoStep 111 = .ok (.return_, 1) := by decide +kernel
theorem dX6_holdAgainst_0 : decode cX6_holdAgainst 0 = .ok (.aload_n 0, 1) := by decide +kernel
theorem dX6_holdAgainst_1 : decode cX6_holdAgainst 1 = .ok (.getfield 20, 3) := by decide +kernel
theorem dX6_holdAgainst_4 : decode cX6_holdAgainst 4 = .ok (.aload_n 0, 1) := by decide +kernel
theorem dX6_holdAgainst_5 : decode cX6_holdAgainst 5 = .ok (.getfield 16, 3) := by decide +kernel
theorem dX6_holdAgainst_8 : decode cX6_holdAgainst 8 = .ok (.invokevirtual 148, 3) := by decide +kernel
theorem dX6_holdAgainst_11 : decode cX6_holdAgainst 11 = .ok (.iconst 0, 1) := by decide +kernel
theorem dX6_holdAgainst_12 : decode cX6_holdAgainst 12 = .ok (.istore 4, 2) := by decide +kernel
theorem dX6_holdAgainst_14 : decode cX6_holdAgainst 14 = .ok (.iload 4, 2) := by decide +kernel
theorem dX6_holdAgainst_16 : decode cX6_holdAgainst 16 = .ok (.iload_n 3, 1) := by decide +kernel
theorem dX6_holdAgainst_17 : decode cX6_holdAgainst 17 = .ok (.if_icmp .ge 41, 3) := by decide +kernel
theorem dX6_holdAgainst_20 : decode cX6_holdAgainst 20 = .ok (.iload 4, 2) := by decide +kernel
theorem dX6_holdAgainst_22 : decode cX6_holdAgainst 22 = .ok (.ifCond .le 13, 3) := by decide +kernel
theorem dX6_holdAgainst_25 : decode cX6_holdAgainst 25 = .ok (.aload_n 0, 1) := by decide +kernel
theorem dX6_holdAgainst_26 : decode cX6_holdAgainst 26 = .ok (.invokevirtual 152, 3) := by decide +kernel
theorem dX6_holdAgainst_29 : decode cX6_holdAgainst 29 = .ok (.ifCond .ne 6, 3) := by decide +kernel
theorem dX6_holdAgainst_32 : decode cX6_holdAgainst 32 = .ok (.iload 4, 2) := by decide +kernel
theorem dX6_holdAgainst_34 : decode cX6_holdAgainst 34 = .ok (.ireturn, 1) := by decide +kernel
theorem dX6_holdAgainst_35 : decode cX6_holdAgainst 35 = .ok (.aload_n 0, 1) := by decide +kernel
theorem dX6_holdAgainst_36 : decode cX6_holdAgainst 36 = .ok (.aload_n 1, 1) := by decide +kernel
theorem dX6_holdAgainst_37 : decode cX6_holdAgainst 37 = .ok (.iload_n 2, 1) := by decide +kernel
theorem dX6_holdAgainst_38 : decode cX6_holdAgainst 38 = .ok (.iconst 3, 1) := by decide +kernel
theorem dX6_holdAgainst_39 : decode cX6_holdAgainst 39 = .ok (.iload 4, 2) := by decide +kernel
theorem dX6_holdAgainst_41 : decode cX6_holdAgainst 41 = .ok (.imul, 1) := by decide +kernel
theorem dX6_holdAgainst_42 : decode cX6_holdAgainst 42 = .ok (.iadd, 1) := by decide +kernel
theorem dX6_holdAgainst_43 : decode cX6_holdAgainst 43 = .ok (.invokevirtual 155, 3) := by decide +kernel
theorem dX6_holdAgainst_46 : decode cX6_holdAgainst 46 = .ok (.ifCond .ne 6, 3) := by decide +kernel
theorem dX6_holdAgainst_49 : decode cX6_holdAgainst 49 = .ok (.iload 4, 2) := by decide +kernel
theorem dX6_holdAgainst_51 : decode cX6_holdAgainst 51 = .ok (.ireturn, 1) := by decide +kernel
theorem dX6_holdAgainst_52 : decode cX6_holdAgainst 52 = .ok (.iinc 4 1, 3) := by decide +kernel
theorem dX6_holdAgainst_55 : decode cX6_holdAgainst 55 = .ok (.goto (-41), 3) := by decide +kernel
theorem dX6_holdAgainst_58 : decode cX6_holdAgainst 58 = .ok (.iload_n 3, 1) := by decide +kernel
theorem dX6_holdAgainst_59 : decode cX6_holdAgainst 59 = .ok (.ireturn, 1) := by decide +kernel
theorem dX6_tryStep_0 : decode cX6_tryStep 0 = .ok (.aload_n 0, 1) := by decide +kernel
theorem dX6_tryStep_1 : decode cX6_tryStep 1 = .ok (.getfield 36, 3) := by decide +kernel
theorem dX6_tryStep_4 : decode cX6_tryStep 4 = .ok (.aload_n 0, 1) := by decide +kernel
theorem dX6_tryStep_5 : decode cX6_tryStep 5 = .ok (.getfield 20, 3) := by decide +kernel
theorem dX6_tryStep_8 : decode cX6_tryStep 8 = .ok (.getfield 85, 3) := by decide +kernel
theorem dX6_tryStep_11 : decode cX6_tryStep 11 = .ok (.bipush 63, 2) := by decide +kernel
theorem dX6_tryStep_13 : decode cX6_tryStep 13 = .ok (.iand, 1) := by decide +kernel
theorem dX6_tryStep_14 : decode cX6_tryStep 14 = .ok (.iaload, 1) := by decide +kernel
theorem dX6_tryStep_15 : decode cX6_tryStep 15 = .ok (.istore_n 1, 1) := by decide +kernel
theorem dX6_tryStep_16 : decode cX6_tryStep 16 = .ok (.aload_n 0, 1) := by decide +kernel
theorem dX6_tryStep_17 : decode cX6_tryStep 17 = .ok (.getfield 32, 3) := by decide +kernel
theorem dX6_tryStep_20 : decode cX6_tryStep 20 = .ok (.iload_n 1, 1) := by decide +kernel
theorem dX6_tryStep_21 : decode cX6_tryStep 21 = .ok (.invokevirtual 88, 3) := by decide +kernel
theorem dX6_tryStep_24 : decode cX6_tryStep 24 = .ok (.astore_n 2, 1) := by decide +kernel
theorem dX6_tryStep_25 : decode cX6_tryStep 25 = .ok (.aload_n 2, 1) := by decide +kernel
theorem dX6_tryStep_26 : decode cX6_tryStep 26 = .ok (.ifnonnull 5, 3) := by decide +kernel
theorem dX6_tryStep_29 : decode cX6_tryStep 29 = .ok (.iconst 0, 1) := by decide +kernel
theorem dX6_tryStep_30 : decode cX6_tryStep 30 = .ok (.ireturn, 1) := by decide +kernel
theorem dX6_tryStep_31 : decode cX6_tryStep 31 = .ok (.aload_n 0, 1) := by decide +kernel
theorem dX6_tryStep_32 : decode cX6_tryStep 32 = .ok (.getfield 20, 3) := by decide +kernel
theorem dX6_tryStep_35 : decode cX6_tryStep 35 = .ok (.aload_n 2, 1) := by decide +kernel
theorem dX6_tryStep_36 : decode cX6_tryStep 36 = .ok (.iload_n 1, 1) := by decide +kernel
theorem dX6_tryStep_37 : decode cX6_tryStep 37 = .ok (.invokevirtual 101, 3) := by decide +kernel
theorem dX6_tryStep_40 : decode cX6_tryStep 40 = .ok (.iconst 1, 1) := by decide +kernel
theorem dX6_tryStep_41 : decode cX6_tryStep 41 = .ok (.ireturn, 1) := by decide +kernel
theorem dX6_isSo_0 : decode cX6_isSo 0 = .ok (.aload_n 1, 1) := by decide +kernel
theorem dX6_isSo_1 : decode cX6_isSo 1 = .ok (.iload_n 2, 1) := by decide +kernel
theorem dX6_isSo_2 : decode cX6_isSo 2 = .ok (.iconst 1, 1) := by decide +kernel
theorem dX6_isSo_3 : decode cX6_isSo 3 = .ok (.iadd, 1) := by decide +kernel
theorem dX6_isSo_4 : decode cX6_isSo 4 = .ok (.iaload, 1) := by decide +kernel
theorem dX6_isSo_5 : decode cX6_isSo 5 = .ok (.istore_n 3, 1) := by decide +kernel
theorem dX6_isSo_6 : decode cX6_isSo 6 = .ok (.aload_n 1, 1) := by decide +kernel
theorem dX6_isSo_7 : decode cX6_isSo 7 = .ok (.iload_n 2, 1) := by decide +kernel
theorem dX6_isSo_8 : decode cX6_isSo 8 = .ok (.iaload, 1) := by decide +kernel
theorem dX6_isSo_9 : decode cX6_isSo 9 = .ok (.aload_n 0, 1) := by decide +kernel
theorem dX6_isSo_10 : decode cX6_isSo 10 = .ok (.getfield 20, 3) := by decide +kernel
theorem dX6_isSo_13 : decode cX6_isSo 13 = .ok (.getfield 85, 3) := by decide +kernel
theorem dX6_isSo_16 : decode cX6_isSo 16 = .ok (.if_icmp .ne 39, 3) := by decide +kernel
theorem dX6_isSo_19 : decode cX6_isSo 19 = .ok (.iload_n 3, 1) := by decide +kernel
theorem dX6_isSo_20 : decode cX6_isSo 20 = .ok (.ifCond .lt 35, 3) := by decide +kernel
theorem dX6_isSo_23 : decode cX6_isSo 23 = .ok (.iload_n 3, 1) := by decide +kernel
theorem dX6_isSo_24 : decode cX6_isSo 24 = .ok (.aload_n 0, 1) := by decide +kernel
theorem dX6_isSo_25 : decode cX6_isSo 25 = .ok (.getfield 32, 3) := by decide +kernel
theorem dX6_isSo_28 : decode cX6_isSo 28 = .ok (.invokevirtual 159, 3) := by decide +kernel
theorem dX6_isSo_31 : decode cX6_isSo 31 = .ok (.if_icmp .ge 24, 3) := by decide +kernel
theorem dX6_isSo_34 : decode cX6_isSo 34 = .ok (.aload_n 1, 1) := by decide +kernel
theorem dX6_isSo_35 : decode cX6_isSo 35 = .ok (.iload_n 2, 1) := by decide +kernel
theorem dX6_isSo_36 : decode cX6_isSo 36 = .ok (.iconst 2, 1) := by decide +kernel
theorem dX6_isSo_37 : decode cX6_isSo 37 = .ok (.iadd, 1) := by decide +kernel
theorem dX6_isSo_38 : decode cX6_isSo 38 = .ok (.iaload, 1) := by decide +kernel
theorem dX6_isSo_39 : decode cX6_isSo 39 = .ok (.aload_n 0, 1) := by decide +kernel
theorem dX6_isSo_40 : decode cX6_isSo 40 = .ok (.getfield 20, 3) := by decide +kernel
theorem dX6_isSo_43 : decode cX6_isSo 43 = .ok (.getfield 163, 3) := by decide +kernel
theorem dX6_isSo_46 : decode cX6_isSo 46 = .ok (.iload_n 3, 1) := by decide +kernel
theorem dX6_isSo_47 : decode cX6_isSo 47 = .ok (.iaload, 1) := by decide +kernel
theorem dX6_isSo_48 : decode cX6_isSo 48 = .ok (.if_icmp .ne 7, 3) := by decide +kernel
theorem dX6_isSo_51 : decode cX6_isSo 51 = .ok (.iconst 1, 1) := by decide +kernel
theorem dX6_isSo_52 : decode cX6_isSo 52 = .ok (.goto 4, 3) := by decide +kernel
theorem dX6_isSo_55 : decode cX6_isSo 55 = .ok (.iconst 0, 1) := by decide +kernel
theorem dX6_isSo_56 : decode cX6_isSo 56 = .ok (.ireturn, 1) := by decide +kernel
theorem dX7_init_0 : decode cX7_init 0 = .ok (.aload_n 0, 1) := by decide +kernel
theorem dX7_init_1 : decode cX7_init 1 = .ok (.invokespecial 3, 3) := by decide +kernel
theorem dX7_init_4 : decode cX7_init 4 = .ok (.aload_n 0, 1) := by decide +kernel
theorem dX7_init_5 : decode cX7_init 5 = .ok (.bipush 39, 2) := by decide +kernel
theorem dX7_init_7 : decode cX7_init 7 = .ok (.newarray .int, 2) := by decide +kernel
theorem dX7_init_9 : decode cX7_init 9 = .ok (.putfield 9, 3) := by decide +kernel
theorem dX7_init_12 : decode cX7_init 12 = .ok (.aload_n 0, 1) := by decide +kernel
theorem dX7_init_13 : decode cX7_init 13 = .ok (.bipush 39, 2) := by decide +kernel
theorem dX7_init_15 : decode cX7_init 15 = .ok (.newarray .int, 2) := by decide +kernel
theorem dX7_init_17 : decode cX7_init 17 = .ok (.putfield 13, 3) := by decide +kernel
theorem dX7_init_20 : decode cX7_init 20 = .ok (.aload_n 0, 1) := by decide +kernel
theorem dX7_init_21 : decode cX7_init 21 = .ok (.bipush 39, 2) := by decide +kernel
theorem dX7_init_23 : decode cX7_init 23 = .ok (.newarray .int, 2) := by decide +kernel
theorem dX7_init_25 : decode cX7_init 25 = .ok (.putfield 16, 3) := by decide +kernel
theorem dX7_init_28 : decode cX7_init 28 = .ok (.aload_n 0, 1) := by decide +kernel
theorem dX7_init_29 : decode cX7_init 29 = .ok (.bipush 39, 2) := by decide +kernel
theorem dX7_init_31 : decode cX7_init 31 = .ok (.newarray .int, 2) := by decide +kernel
theorem dX7_init_33 : decode cX7_init 33 = .ok (.putfield 19, 3) := by decide +kernel
theorem dX7_init_36 : decode cX7_init 36 = .ok (.aload_n 0, 1) := by decide +kernel
theorem dX7_init_37 : decode cX7_init 37 = .ok (.bipush 39, 2) := by decide +kernel
theorem dX7_init_39 : decode cX7_init 39 = .ok (.newarray .int, 2) := by decide +kernel
theorem dX7_init_41 : decode cX7_init 41 = .ok (.putfield 22, 3) := by decide +kernel
theorem dX7_init_44 : decode cX7_init 44 = .ok (.aload_n 0, 1) := by decide +kernel
theorem dX7_init_45 : decode cX7_init 45 = .ok (.bipush 7, 2) := by decide +kernel
theorem dX7_init_47 : decode cX7_init 47 = .ok (.newarray .int, 2) := by decide +kernel
theorem dX7_init_49 : decode cX7_init 49 = .ok (.putfield 25, 3) := by decide +kernel
theorem dX7_init_52 : decode cX7_init 52 = .ok (.aload_n 0, 1) := by decide +kernel
theorem dX7_init_53 : decode cX7_init 53 = .ok (.bipush 7, 2) := by decide +kernel
theorem dX7_init_55 : decode cX7_init 55 = .ok (.newarray .int, 2) := by decide +kernel
theorem dX7_init_57 : decode cX7_init 57 = .ok (.putfield 28, 3) := by decide +kernel
theorem dX7_init_60 : decode cX7_init 60 = .ok (.return_, 1) := by decide +kernel
theorem dX7_root_0 : decode cX7_root 0 = .ok (.aload_n 0, 1) := by decide +kernel
theorem dX7_root_1 : decode cX7_root 1 = .ok (.getfield 31, 3) := by decide +kernel
theorem dX7_root_4 : decode cX7_root 4 = .ok (.iconst 1, 1) := by decide +kernel
theorem dX7_root_5 : decode cX7_root 5 = .ok (.isub, 1) := by decide +kernel
theorem dX7_root_6 : decode cX7_root 6 = .ok (.ireturn, 1) := by decide +kernel
theorem dX7_isVariable_0 : decode cX7_isVariable 0 = .ok (.aload_n 0, 1) := by decide +kernel
theorem dX7_isVariable_1 : decode cX7_isVariable 1 = .ok (.getfield 9, 3) := by decide +kernel
theorem dX7_isVariable_4 : decode cX7_isVariable 4 = .ok (.iload_n 1, 1) := by decide +kernel
theorem dX7_isVariable_5 : decode cX7_isVariable 5 = .ok (.iaload, 1) := by decide +kernel
theorem dX7_isVariable_6 : decode cX7_isVariable 6 = .ok (.iconst 1, 1) := by decide +kernel
theorem dX7_isVariable_7 : decode cX7_isVariable 7 = .ok (.if_icmp .ne 7, 3) := by decide +kernel
theorem dX7_isVariable_10 : decode cX7_isVariable 10 = .ok (.iconst 1, 1) := by decide +kernel
theorem dX7_isVariable_11 : decode cX7_isVariable 11 = .ok (.goto 4, 3) := by decide +kernel
theorem dX7_isVariable_14 : decode cX7_isVariable 14 = .ok (.iconst 0, 1) := by decide +kernel
theorem dX7_isVariable_15 : decode cX7_isVariable 15 = .ok (.ireturn, 1) := by decide +kernel
theorem dX7_isLiteral_0 : decode cX7_isLiteral 0 = .ok (.aload_n 0, 1) := by decide +kernel
theorem dX7_isLiteral_1 : decode cX7_isLiteral 1 = .ok (.getfield 9, 3) := by decide +kernel
theorem dX7_isLiteral_4 : decode cX7_isLiteral 4 = .ok (.iload_n 1, 1) := by decide +kernel
theorem dX7_isLiteral_5 : decode cX7_isLiteral 5 = .ok (.iaload, 1) := by decide +kernel
theorem dX7_isLiteral_6 : decode cX7_isLiteral 6 = .ok (.iconst 2, 1) := by decide +kernel
theorem dX7_isLiteral_7 : decode cX7_isLiteral 7 = .ok (.if_icmp .ne 7, 3) := by decide +kernel
theorem dX7_isLiteral_10 : decode cX7_isLiteral 10 = .ok (.iconst 1, 1) := by decide +kernel
theorem dX7_isLiteral_11 : decode cX7_isLiteral 11 = .ok (.goto 4, 3) := by decide +kernel
theorem dX7_isLiteral_14 : decode cX7_isLiteral 14 = .ok (.iconst 0, 1) := by decide +kernel
theorem dX7_isLiteral_15 : decode cX7_isLiteral 15 = .ok (.ireturn, 1) := by decide +kernel
theorem dX7_readFrom_0 : decode cX7_readFrom 0 = .ok (.aload_n 0, 1) := by decide +kernel
theorem dX7_readFrom_1 : decode cX7_readFrom 1 = .ok (.iconst 0, 1) := by decide +kernel
theorem dX7_readFrom_2 : decode cX7_readFrom 2 = .ok (.putfield 31, 3) := by decide +kernel
theorem dX7_readFrom_5 : decode cX7_readFrom 5 = .ok (.aload_n 0, 1) := by decide +kernel
theorem dX7_readFrom_6 : decode cX7_readFrom 6 = .ok (.iconst 0, 1) := by decide +kernel
theorem dX7_readFrom_7 : decode cX7_readFrom 7 = .ok (.putfield 35, 3) := by decide +kernel
theorem dX7_readFrom_10 : decode cX7_readFrom 10 = .ok (.aload_n 0, 1) := by decide +kernel
theorem dX7_readFrom_11 : decode cX7_readFrom 11 = .ok (.iconst 0, 1) := by decide +kernel
theorem dX7_readFrom_12 : decode cX7_readFrom 12 = .ok (.putfield 38, 3) := by decide +kernel
theorem dX7_readFrom_15 : decode cX7_readFrom 15 = .ok (.aload_n 0, 1) := by decide +kernel
theorem dX7_readFrom_16 : decode cX7_readFrom 16 = .ok (.getfield 28, 3) := by decide +kernel
theorem dX7_readFrom_19 : decode cX7_readFrom 19 = .ok (.iconst 0, 1) := by decide +kernel
theorem dX7_readFrom_20 : decode cX7_readFrom 20 = .ok (.iconst 0, 1) := by decide +kernel
theorem dX7_readFrom_21 : decode cX7_readFrom 21 = .ok (.iastore, 1) := by decide +kernel
theorem dX7_readFrom_22 : decode cX7_readFrom 22 = .ok (.aload_n 1, 1) := by decide +kernel
theorem dX7_readFrom_23 : decode cX7_readFrom 23 = .ok (.invokevirtual 41, 3) := by decide +kernel
theorem dX7_readFrom_26 : decode cX7_readFrom 26 = .ok (.iconst 0, 1) := by decide +kernel
theorem dX7_readFrom_27 : decode cX7_readFrom 27 = .ok (.istore 4, 2) := by decide +kernel
theorem dX7_readFrom_29 : decode cX7_readFrom 29 = .ok (.iload 4, 2) := by decide +kernel
theorem dX7_readFrom_31 : decode cX7_readFrom 31 = .ok (.bipush 80, 2) := by decide +kernel
theorem dX7_readFrom_33 : decode cX7_readFrom 33 = .ok (.if_icmp .ge 96, 3) := by decide +kernel
theorem dX7_readFrom_36 : decode cX7_readFrom 36 = .ok (.aload_n 0, 1) := by decide +kernel
theorem dX7_readFrom_37 : decode cX7_readFrom 37 = .ok (.aload_n 1, 1) := by decide +kernel
theorem dX7_readFrom_38 : decode cX7_readFrom 38 = .ok (.invokevirtual 46, 3) := by decide +kernel
theorem dX7_readFrom_41 : decode cX7_readFrom 41 = .ok (.ifCond .ne 5, 3) := by decide +kernel
theorem dX7_readFrom_44 : decode cX7_readFrom 44 = .ok (.iconst 0, 1) := by decide +kernel
theorem dX7_readFrom_45 : decode cX7_readFrom 45 = .ok (.ireturn, 1) := by decide +kernel
theorem dX7_readFrom_46 : decode cX7_readFrom 46 = .ok (.aload_n 0, 1) := by decide +kernel
theorem dX7_readFrom_47 : decode cX7_readFrom 47 = .ok (.aload_n 1, 1) := by decide +kernel
theorem dX7_readFrom_48 : decode cX7_readFrom 48 = .ok (.iload_n 2, 1) := by decide +kernel
theorem dX7_readFrom_49 : decode cX7_readFrom 49 = .ok (.iload_n 3, 1) := by decide +kernel
theorem dX7_readFrom_50 : decode cX7_readFrom 50 = .ok (.invokevirtual 50, 3) := by decide +kernel
theorem dX7_readFrom_53 : decode cX7_readFrom 53 = .ok (.istore 5, 2) := by decide +kernel
theorem dX7_readFrom_55 : decode cX7_readFrom 55 = .ok (.iload 5, 2) := by decide +kernel
theorem dX7_readFrom_57 : decode cX7_readFrom 57 = .ok (.ifCond .ge 5, 3) := by decide +kernel
theorem dX7_readFrom_60 : decode cX7_readFrom 60 = .ok (.iconst 0, 1) := by decide +kernel
theorem dX7_readFrom_61 : decode cX7_readFrom 61 = .ok (.ireturn, 1) := by decide +kernel
theorem dX7_readFrom_62 : decode cX7_readFrom 62 = .ok (.aload_n 0, 1) := by decide +kernel
theorem dX7_readFrom_63 : decode cX7_readFrom 63 = .ok (.iload 5, 2) := by decide +kernel
theorem dX7_readFrom_65 : decode cX7_readFrom 65 = .ok (.invokevirtual 54, 3) := by decide +kernel
theorem dX7_readFrom_68 : decode cX7_readFrom 68 = .ok (.aload_n 0, 1) := by decide +kernel
theorem dX7_readFrom_69 : decode cX7_readFrom 69 = .ok (.aload_n 1, 1) := by decide +kernel
theorem dX7_readFrom_70 : decode cX7_readFrom 70 = .ok (.invokevirtual 58, 3) := by decide +kernel
theorem dX7_readFrom_73 : decode cX7_readFrom 73 = .ok (.aload_n 1, 1) := by decide +kernel
theorem dX7_readFrom_74 : decode cX7_readFrom 74 = .ok (.invokevirtual 62, 3) := by decide +kernel
theorem dX7_readFrom_77 : decode cX7_readFrom 77 = .ok (.istore 6, 2) := by decide +kernel
theorem dX7_readFrom_79 : decode cX7_readFrom 79 = .ok (.iload 6, 2) := by decide +kernel
theorem dX7_readFrom_81 : decode cX7_readFrom 81 = .ok (.iconst (-1), 1) := by decide +kernel
theorem dX7_readFrom_82 : decode cX7_readFrom 82 = .ok (.if_icmp .ne 16, 3) := by decide +kernel
theorem dX7_readFrom_85 : decode cX7_readFrom 85 = .ok (.aload_n 0, 1) := by decide +kernel
theorem dX7_readFrom_86 : decode cX7_readFrom 86 = .ok (.getfield 38, 3) := by decide +kernel
theorem dX7_readFrom_89 : decode cX7_readFrom 89 = .ok (.ifCond .ne 7, 3) := by decide +kernel
theorem dX7_readFrom_92 : decode cX7_readFrom 92 = .ok (.iconst 1, 1) := by decide +kernel
theorem dX7_readFrom_93 : decode cX7_readFrom 93 = .ok (.goto 4, 3) := by decide +kernel
theorem dX7_readFrom_96 : decode cX7_readFrom 96 = .ok (.iconst 0, 1) := by decide +kernel
theorem dX7_readFrom_97 : decode cX7_readFrom 97 = .ok (.ireturn, 1) := by decide +kernel
theorem dX7_readFrom_98 : decode cX7_readFrom 98 = .ok (.iload 6, 2) := by decide +kernel
theorem dX7_readFrom_100 : decode cX7_readFrom 100 = .ok (.invokestatic 66, 3) := by decide +kernel
theorem dX7_readFrom_103 : decode cX7_readFrom 103 = .ok (.ifCond .ne 5, 3) := by decide +kernel
theorem dX7_readFrom_106 : decode cX7_readFrom 106 = .ok (.iconst 0, 1) := by decide +kernel
theorem dX7_readFrom_107 : decode cX7_readFrom 107 = .ok (.ireturn, 1) := by decide +kernel
theorem dX7_readFrom_108 : decode cX7_readFrom 108 = .ok (.aload_n 0, 1) := by decide +kernel
theorem dX7_readFrom_109 : decode cX7_readFrom 109 = .ok (.getfield 28, 3) := by decide +kernel
theorem dX7_readFrom_112 : decode cX7_readFrom 112 = .ok (.aload_n 0, 1) := by decide +kernel
theorem dX7_readFrom_113 : decode cX7_readFrom 113 = .ok (.getfield 38, 3) := by decide +kernel
theorem dX7_readFrom_116 : decode cX7_readFrom 116 = .ok (.iload 6, 2) := by decide +kernel
theorem dX7_readFrom_118 : decode cX7_readFrom 118 = .ok (.iastore, 1) := by decide +kernel
theorem dX7_readFrom_119 : decode cX7_readFrom 119 = .ok (.aload_n 1, 1) := by decide +kernel
theorem dX7_readFrom_120 : decode cX7_readFrom 120 = .ok (.invokevirtual 70, 3) := by decide +kernel
theorem dX7_readFrom_123 : decode cX7_readFrom 123 = .ok (.iinc 4 1, 3) := by decide +kernel
theorem dX7_readFrom_126 : decode cX7_readFrom 126 = .ok (.goto (-97), 3) := by decide +kernel
theorem dX7_readFrom_129 : decode cX7_readFrom 129 = .ok (.iconst 0, 1) := by decide +kernel
theorem dX7_readFrom_130 : decode cX7_readFrom 130 = .ok (.ireturn, 1) := by decide +kernel
theorem dX7_openAll_0 : decode cX7_openAll 0 = .ok (.aload_n 0, 1) := by decide +kernel
theorem dX7_openAll_1 : decode cX7_openAll 1 = .ok (.getfield 38, 3) := by decide +kernel
theorem dX7_openAll_4 : decode cX7_openAll 4 = .ok (.bipush 6, 2) := by decide +kernel
theorem dX7_openAll_6 : decode cX7_openAll 6 = .ok (.if_icmp .ge 35, 3) := by decide +kernel
theorem dX7_openAll_9 : decode cX7_openAll 9 = .ok (.aload_n 1, 1) := by decide +kernel
theorem dX7_openAll_10 : decode cX7_openAll 10 = .ok (.bipush 40, 2) := by decide +kernel
theorem dX7_openAll_12 : decode cX7_openAll 12 = .ok (.invokevirtual 73, 3) := by decide +kernel
theorem dX7_openAll_15 : decode cX7_openAll 15 = .ok (.ifCond .eq 26, 3) := by decide +kernel
theorem dX7_openAll_18 : decode cX7_openAll 18 = .ok (.aload_n 0, 1) := by decide +kernel
theorem dX7_openAll_19 : decode cX7_openAll 19 = .ok (.dup, 1) := by decide +kernel
theorem dX7_openAll_20 : decode cX7_openAll 20 = .ok (.getfield 38, 3) := by decide +kernel
theorem dX7_openAll_23 : decode cX7_openAll 23 = .ok (.iconst 1, 1) := by decide +kernel
theorem dX7_openAll_24 : decode cX7_openAll 24 = .ok (.iadd, 1) := by decide +kernel
theorem dX7_openAll_25 : decode cX7_openAll 25 = .ok (.putfield 38, 3) := by decide +kernel
theorem dX7_openAll_28 : decode cX7_openAll 28 = .ok (.aload_n 0, 1) := by decide +kernel
theorem dX7_openAll_29 : decode cX7_openAll 29 = .ok (.getfield 28, 3) := by decide +kernel
theorem dX7_openAll_32 : decode cX7_openAll 32 = .ok (.aload_n 0, 1) := by decide +kernel
theorem dX7_openAll_33 : decode cX7_openAll 33 = .ok (.getfield 38, 3) := by decide +kernel
theorem dX7_openAll_36 : decode cX7_openAll 36 = .ok (.iconst 0, 1) := by decide +kernel
theorem dX7_openAll_37 : decode cX7_openAll 37 = .ok (.iastore, 1) := by decide +kernel
theorem dX7_openAll_38 : decode cX7_openAll 38 = .ok (.goto (-38), 3) := by decide +kernel
theorem dX7_openAll_41 : decode cX7_openAll 41 = .ok (.aload_n 1, 1) := by decide +kernel
theorem dX7_openAll_42 : decode cX7_openAll 42 = .ok (.invokevirtual 62, 3) := by decide +kernel
theorem dX7_openAll_45 : decode cX7_openAll 45 = .ok (.bipush 40, 2) := by decide +kernel
theorem dX7_openAll_47 : decode cX7_openAll 47 = .ok (.if_icmp .eq 7, 3) := by decide +kernel
theorem dX7_openAll_50 : decode cX7_openAll 50 = .ok (.iconst 1, 1) := by decide +kernel
theorem dX7_openAll_51 : decode cX7_openAll 51 = .ok (.goto 4, 3) := by decide +kernel
theorem dX7_openAll_54 : decode cX7_openAll 54 = .ok (.iconst 0, 1) := by decide +kernel
theorem dX7_openAll_55 : decode cX7_openAll 55 = .ok (.ireturn, 1) := by decide +kernel
theorem dX7_closeAll_0 : decode cX7_closeAll 0 = .ok (.aload_n 0, 1) := by decide +kernel
theorem dX7_closeAll_1 : decode cX7_closeAll 1 = .ok (.getfield 38, 3) := by decide +kernel
theorem dX7_closeAll_4 : decode cX7_closeAll 4 = .ok (.ifCond .le 40, 3) := by decide +kernel
theorem dX7_closeAll_7 : decode cX7_closeAll 7 = .ok (.aload_n 1, 1) := by decide +kernel
theorem dX7_closeAll_8 : decode cX7_closeAll 8 = .ok (.bipush 41, 2) := by decide +kernel
theorem dX7_closeAll_10 : decode cX7_closeAll 10 = .ok (.invokevirtual 73, 3) := by decide +kernel
theorem dX7_closeAll_13 : decode cX7_closeAll 13 = .ok (.ifCond .eq 31, 3) := by decide +kernel
theorem dX7_closeAll_16 : decode cX7_closeAll 16 = .ok (.aload_n 0, 1) := by decide +kernel
theorem dX7_closeAll_17 : decode cX7_closeAll 17 = .ok (.dup, 1) := by decide +kernel
theorem dX7_closeAll_18 : decode cX7_closeAll 18 = .ok (.getfield 38, 3) := by decide +kernel
theorem dX7_closeAll_21 : decode cX7_closeAll 21 = .ok (.iconst 1, 1) := by decide +kernel
theorem dX7_closeAll_22 : decode cX7_closeAll 22 = .ok (.isub, 1) := by decide +kernel
theorem dX7_closeAll_23 : decode cX7_closeAll 23 = .ok (.putfield 38, 3) := by decide +kernel
theorem dX7_closeAll_26 : decode cX7_closeAll 26 = .ok (.aload_n 0, 1) := by decide +kernel
theorem dX7_closeAll_27 : decode cX7_closeAll 27 = .ok (.aload_n 0, 1) := by decide +kernel
theorem dX7_closeAll_28 : decode cX7_closeAll 28 = .ok (.getfield 25, 3) := by decide +kernel
theorem dX7_closeAll_31 : decode cX7_closeAll 31 = .ok (.aload_n 0, 1) := by decide +kernel
theorem dX7_closeAll_32 : decode cX7_closeAll 32 = .ok (.getfield 38, 3) := by decide +kernel
theorem dX7_closeAll_35 : decode cX7_closeAll 35 = .ok (.iconst 1, 1) := by decide +kernel
theorem dX7_closeAll_36 : decode cX7_closeAll 36 = .ok (.iadd, 1) := by decide +kernel
theorem dX7_closeAll_37 : decode cX7_closeAll 37 = .ok (.iaload, 1) := by decide +kernel
theorem dX7_closeAll_38 : decode cX7_closeAll 38 = .ok (.invokevirtual 54, 3) := by decide +kernel
theorem dX7_closeAll_41 : decode cX7_closeAll 41 = .ok (.goto (-41), 3) := by decide +kernel
theorem dX7_closeAll_44 : decode cX7_closeAll 44 = .ok (.return_, 1) := by decide +kernel
theorem dX7_hang_0 : decode cX7_hang 0 = .ok (.aload_n 0, 1) := by decide +kernel
theorem dX7_hang_1 : decode cX7_hang 1 = .ok (.getfield 28, 3) := by decide +kernel
theorem dX7_hang_4 : decode cX7_hang 4 = .ok (.aload_n 0, 1) := by decide +kernel
theorem dX7_hang_5 : decode cX7_hang 5 = .ok (.getfield 38, 3) := by decide +kernel
theorem dX7_hang_8 : decode cX7_hang 8 = .ok (.iaload, 1) := by decide +kernel
theorem dX7_hang_9 : decode cX7_hang 9 = .ok (.ifCond .ne 14, 3) := by decide +kernel
theorem dX7_hang_12 : decode cX7_hang 12 = .ok (.aload_n 0, 1) := by decide +kernel
theorem dX7_hang_13 : decode cX7_hang 13 = .ok (.getfield 25, 3) := by decide +kernel
theorem dX7_hang_16 : decode cX7_hang 16 = .ok (.aload_n 0, 1) := by decide +kernel
theorem dX7_hang_17 : decode cX7_hang 17 = .ok (.getfield 38, 3) := by decide +kernel
theorem dX7_hang_20 : decode cX7_hang 20 = .ok (.iload_n 1, 1) := by decide +kernel
theorem dX7_hang_21 : decode cX7_hang 21 = .ok (.iastore, 1) := by decide +kernel
theorem dX7_hang_22 : decode cX7_hang 22 = .ok (.return_, 1) := by decide +kernel
theorem dX7_hang_23 : decode cX7_hang 23 = .ok (.aload_n 0, 1) := by decide +kernel
theorem dX7_hang_24 : decode cX7_hang 24 = .ok (.getfield 25, 3) := by decide +kernel
theorem dX7_hang_27 : decode cX7_hang 27 = .ok (.aload_n 0, 1) := by decide +kernel
theorem dX7_hang_28 : decode cX7_hang 28 = .ok (.getfield 38, 3) := by decide +kernel
theorem dX7_hang_31 : decode cX7_hang 31 = .ok (.aload_n 0, 1) := by decide +kernel
theorem dX7_hang_32 : decode cX7_hang 32 = .ok (.aload_n 0, 1) := by decide +kernel
theorem dX7_hang_33 : decode cX7_hang 33 = .ok (.getfield 28, 3) := by decide +kernel
theorem dX7_hang_36 : decode cX7_hang 36 = .ok (.aload_n 0, 1) := by decide +kernel
theorem dX7_hang_37 : decode cX7_hang 37 = .ok (.getfield 38, 3) := by decide +kernel
theorem dX7_hang_40 : decode cX7_hang 40 = .ok (.iaload, 1) := by decide +kernel
theorem dX7_hang_41 : decode cX7_hang 41 = .ok (.iconst 0, 1) := by decide +kernel
theorem dX7_hang_42 : decode cX7_hang 42 = .ok (.aload_n 0, 1) := by decide +kernel
theorem dX7_hang_43 : decode cX7_hang 43 = .ok (.getfield 25, 3) := by decide +kernel
theorem dX7_hang_46 : decode cX7_hang 46 = .ok (.aload_n 0, 1) := by decide +kernel
theorem dX7_hang_47 : decode cX7_hang 47 = .ok (.getfield 38, 3) := by decide +kernel
theorem dX7_hang_50 : decode cX7_hang 50 = .ok (.iaload, 1) := by decide +kernel
theorem dX7_hang_51 : decode cX7_hang 51 = .ok (.iload_n 1, 1) := by decide +kernel
theorem dX7_hang_52 : decode cX7_hang 52 = .ok (.invokevirtual 76, 3) := by decide +kernel
theorem dX7_hang_55 : decode cX7_hang 55 = .ok (.iastore, 1) := by decide +kernel
theorem dX7_hang_56 : decode cX7_hang 56 = .ok (.return_, 1) := by decide +kernel
theorem dX7_readLeaf_0 : decode cX7_readLeaf 0 = .ok (.aload_n 1, 1) := by decide +kernel
theorem dX7_readLeaf_1 : decode cX7_readLeaf 1 = .ok (.invokevirtual 62, 3) := by decide +kernel
theorem dX7_readLeaf_4 : decode cX7_readLeaf 4 = .ok (.istore 4, 2) := by decide +kernel
theorem dX7_readLeaf_6 : decode cX7_readLeaf 6 = .ok (.aload_n 0, 1) := by decide +kernel
theorem dX7_readLeaf_7 : decode cX7_readLeaf 7 = .ok (.getfield 35, 3) := by decide +kernel
theorem dX7_readLeaf_10 : decode cX7_readLeaf 10 = .ok (.bipush 20, 2) := by decide +kernel
theorem dX7_readLeaf_12 : decode cX7_readLeaf 12 = .ok (.if_icmp .lt 5, 3) := by decide +kernel
theorem dX7_readLeaf_15 : decode cX7_readLeaf 15 = .ok (.iconst (-1), 1) := by decide +kernel
theorem dX7_readLeaf_16 : decode cX7_readLeaf 16 = .ok (.ireturn, 1) := by decide +kernel
theorem dX7_readLeaf_17 : decode cX7_readLeaf 17 = .ok (.iload 4, 2) := by decide +kernel
theorem dX7_readLeaf_19 : decode cX7_readLeaf 19 = .ok (.bipush 97, 2) := by decide +kernel
theorem dX7_readLeaf_21 : decode cX7_readLeaf 21 = .ok (.if_icmp .lt 39, 3) := by decide +kernel
theorem dX7_readLeaf_24 : decode cX7_readLeaf 24 = .ok (.iload 4, 2) := by decide +kernel
theorem dX7_readLeaf_26 : decode cX7_readLeaf 26 = .ok (.bipush 97, 2) := by decide +kernel
theorem dX7_readLeaf_28 : decode cX7_readLeaf 28 = .ok (.isub, 1) := by decide +kernel
theorem dX7_readLeaf_29 : decode cX7_readLeaf 29 = .ok (.iload_n 2, 1) := by decide +kernel
theorem dX7_readLeaf_30 : decode cX7_readLeaf 30 = .ok (.if_icmp .ge 30, 3) := by decide +kernel
theorem dX7_readLeaf_33 : decode cX7_readLeaf 33 = .ok (.aload_n 1, 1) := by decide +kernel
theorem dX7_readLeaf_34 : decode cX7_readLeaf 34 = .ok (.invokevirtual 70, 3) := by decide +kernel
theorem dX7_readLeaf_37 : decode cX7_readLeaf 37 = .ok (.aload_n 0, 1) := by decide +kernel
theorem dX7_readLeaf_38 : decode cX7_readLeaf 38 = .ok (.dup, 1) := by decide +kernel
theorem dX7_readLeaf_39 : decode cX7_readLeaf 39 = .ok (.getfield 35, 3) := by decide +kernel
theorem dX7_readLeaf_42 : decode cX7_readLeaf 42 = .ok (.iconst 1, 1) := by decide +kernel
theorem dX7_readLeaf_43 : decode cX7_readLeaf 43 = .ok (.iadd, 1) := by decide +kernel
theorem dX7_readLeaf_44 : decode cX7_readLeaf 44 = .ok (.putfield 35, 3) := by decide +kernel
theorem dX7_readLeaf_47 : decode cX7_readLeaf 47 = .ok (.aload_n 0, 1) := by decide +kernel
theorem dX7_readLeaf_48 : decode cX7_readLeaf 48 = .ok (.iconst 1, 1) := by decide +kernel
theorem dX7_readLeaf_49 : decode cX7_readLeaf 49 = .ok (.iload 4, 2) := by decide +kernel
theorem dX7_readLeaf_51 : decode cX7_readLeaf 51 = .ok (.bipush 97, 2) := by decide +kernel
theorem dX7_readLeaf_53 : decode cX7_readLeaf 53 = .ok (.isub, 1) := by decide +kernel
theorem dX7_readLeaf_54 : decode cX7_readLeaf 54 = .ok (.iconst 0, 1) := by decide +kernel
theorem dX7_readLeaf_55 : decode cX7_readLeaf 55 = .ok (.iconst 0, 1) := by decide +kernel
theorem dX7_readLeaf_56 : decode cX7_readLeaf 56 = .ok (.invokevirtual 76, 3) := by decide +kernel
theorem dX7_readLeaf_59 : decode cX7_readLeaf 59 = .ok (.ireturn, 1) := by decide +kernel
theorem dX7_readLeaf_60 : decode cX7_readLeaf 60 = .ok (.aload_n 1, 1) := by decide +kernel
theorem dX7_readLeaf_61 : decode cX7_readLeaf 61 = .ok (.sipush 255, 3) := by decide +kernel
theorem dX7_readLeaf_64 : decode cX7_readLeaf 64 = .ok (.invokevirtual 80, 3) := by decide +kernel
theorem dX7_readLeaf_67 : decode cX7_readLeaf 67 = .ok (.istore 5, 2) := by decide +kernel
theorem dX7_readLeaf_69 : decode cX7_readLeaf 69 = .ok (.iload 5, 2) := by decide +kernel
theorem dX7_readLeaf_71 : decode cX7_readLeaf 71 = .ok (.ifCond .ge 5, 3) := by decide +kernel
theorem dX7_readLeaf_74 : decode cX7_readLeaf 74 = .ok (.iconst (-1), 1) := by decide +kernel
theorem dX7_readLeaf_75 : decode cX7_readLeaf 75 = .ok (.ireturn, 1) := by decide +kernel
theorem dX7_readLeaf_76 : decode cX7_readLeaf 76 = .ok (.aload_n 0, 1) := by decide +kernel
theorem dX7_readLeaf_77 : decode cX7_readLeaf 77 = .ok (.dup, 1) := by decide +kernel
theorem dX7_readLeaf_78 : decode cX7_readLeaf 78 = .ok (.getfield 35, 3) := by decide +kernel
theorem dX7_readLeaf_81 : decode cX7_readLeaf 81 = .ok (.iconst 1, 1) := by decide +kernel
theorem dX7_readLeaf_82 : decode cX7_readLeaf 82 = .ok (.iadd, 1) := by decide +kernel
theorem dX7_readLeaf_83 : decode cX7_readLeaf 83 = .ok (.putfield 35, 3) := by decide +kernel
theorem dX7_readLeaf_86 : decode cX7_readLeaf 86 = .ok (.aload_n 0, 1) := by decide +kernel
theorem dX7_readLeaf_87 : decode cX7_readLeaf 87 = .ok (.iconst 2, 1) := by decide +kernel
theorem dX7_readLeaf_88 : decode cX7_readLeaf 88 = .ok (.iload 5, 2) := by decide +kernel
theorem dX7_readLeaf_90 : decode cX7_readLeaf 90 = .ok (.iload_n 3, 1) := by decide +kernel
theorem dX7_readLeaf_91 : decode cX7_readLeaf 91 = .ok (.iand, 1) := by decide +kernel
theorem dX7_readLeaf_92 : decode cX7_readLeaf 92 = .ok (.iconst 0, 1) := by decide +kernel
theorem dX7_readLeaf_93 : decode cX7_readLeaf 93 = .ok (.iconst 0, 1) := by decide +kernel
theorem dX7_readLeaf_94 : decode cX7_readLeaf 94 = .ok (.invokevirtual 76, 3) := by decide +kernel
theorem dX7_readLeaf_97 : decode cX7_readLeaf 97 = .ok (.ireturn, 1) := by decide +kernel
theorem dX7_addNode_0 : decode cX7_addNode 0 = .ok (.aload_n 0, 1) := by decide +kernel
theorem dX7_addNode_1 : decode cX7_addNode 1 = .ok (.getfield 31, 3) := by decide +kernel
theorem dX7_addNode_4 : decode cX7_addNode 4 = .ok (.bipush 39, 2) := by decide +kernel
theorem dX7_addNode_6 : decode cX7_addNode 6 = .ok (.if_icmp .lt 10, 3) := by decide +kernel
theorem dX7_addNode_9 : decode cX7_addNode 9 = .ok (.aload_n 0, 1) := by decide +kernel
theorem dX7_addNode_10 : decode cX7_addNode 10 = .ok (.getfield 31, 3) := by decide +kernel
theorem dX7_addNode_13 : decode cX7_addNode 13 = .ok (.iconst 1, 1) := by decide +kernel
theorem dX7_addNode_14 : decode cX7_addNode 14 = .ok (.isub, 1) := by decide +kernel
theorem dX7_addNode_15 : decode cX7_addNode 15 = .ok (.ireturn, 1) := by decide +kernel
theorem dX7_addNode_16 : decode cX7_addNode 16 = .ok (.aload_n 0, 1) := by decide +kernel
theorem dX7_addNode_17 : decode cX7_addNode 17 = .ok (.getfield 9, 3) := by decide +kernel
theorem dX7_addNode_20 : decode cX7_addNode 20 = .ok (.aload_n 0, 1) := by decide +kernel
theorem dX7_addNode_21 : decode cX7_addNode 21 = .ok (.getfield 31, 3) := by decide +kernel
theorem dX7_addNode_24 : decode cX7_addNode 24 = .ok (.iload_n 1, 1) := by decide +kernel
theorem dX7_addNode_25 : decode cX7_addNode 25 = .ok (.iastore, 1) := by decide +kernel
theorem dX7_addNode_26 : decode cX7_addNode 26 = .ok (.aload_n 0, 1) := by decide +kernel
theorem dX7_addNode_27 : decode cX7_addNode 27 = .ok (.getfield 13, 3) := by decide +kernel
theorem dX7_addNode_30 : decode cX7_addNode 30 = .ok (.aload_n 0, 1) := by decide +kernel
theorem dX7_addNode_31 : decode cX7_addNode 31 = .ok (.getfield 31, 3) := by decide +kernel
theorem dX7_addNode_34 : decode cX7_addNode 34 = .ok (.iload_n 2, 1) := by decide +kernel
theorem dX7_addNode_35 : decode cX7_addNode 35 = .ok (.iastore, 1) := by decide +kernel
theorem dX7_addNode_36 : decode cX7_addNode 36 = .ok (.aload_n 0, 1) := by decide +kernel
theorem dX7_addNode_37 : decode cX7_addNode 37 = .ok (.getfield 16, 3) := by decide +kernel
theorem dX7_addNode_40 : decode cX7_addNode 40 = .ok (.aload_n 0, 1) := by decide +kernel
theorem dX7_addNode_41 : decode cX7_addNode 41 = .ok (.getfield 31, 3) := by decide +kernel
theorem dX7_addNode_44 : decode cX7_addNode 44 = .ok (.iload_n 3, 1) := by decide +kernel
theorem dX7_addNode_45 : decode cX7_addNode 45 = .ok (.iastore, 1) := by decide +kernel
theorem dX7_addNode_46 : decode cX7_addNode 46 = .ok (.aload_n 0, 1) := by decide +kernel
theorem dX7_addNode_47 : decode cX7_addNode 47 = .ok (.getfield 19, 3) := by decide +kernel
theorem dX7_addNode_50 : decode cX7_addNode 50 = .ok (.aload_n 0, 1) := by decide +kernel
theorem dX7_addNode_51 : decode cX7_addNode 51 = .ok (.getfield 31, 3) := by decide +kernel
theorem dX7_addNode_54 : decode cX7_addNode 54 = .ok (.iload 4, 2) := by decide +kernel
theorem dX7_addNode_56 : decode cX7_addNode 56 = .ok (.iastore, 1) := by decide +kernel
theorem dX7_addNode_57 : decode cX7_addNode 57 = .ok (.aload_n 0, 1) := by decide +kernel
theorem dX7_addNode_58 : decode cX7_addNode 58 = .ok (.dup, 1) := by decide +kernel
theorem dX7_addNode_59 : decode cX7_addNode 59 = .ok (.getfield 31, 3) := by decide +kernel
theorem dX7_addNode_62 : decode cX7_addNode 62 = .ok (.iconst 1, 1) := by decide +kernel
theorem dX7_addNode_63 : decode cX7_addNode 63 = .ok (.iadd, 1) := by decide +kernel
theorem dX7_addNode_64 : decode cX7_addNode 64 = .ok (.putfield 31, 3) := by decide +kernel
theorem dX7_addNode_67 : decode cX7_addNode 67 = .ok (.aload_n 0, 1) := by decide +kernel
theorem dX7_addNode_68 : decode cX7_addNode 68 = .ok (.getfield 31, 3) := by decide +kernel
theorem dX7_addNode_71 : decode cX7_addNode 71 = .ok (.iconst 1, 1) := by decide +kernel
theorem dX7_addNode_72 : decode cX7_addNode 72 = .ok (.isub, 1) := by decide +kernel
theorem dX7_addNode_73 : decode cX7_addNode 73 = .ok (.ireturn, 1) := by decide +kernel
theorem dX7_worth_0 : decode cX7_worth 0 = .ok (.iconst 0, 1) := by decide +kernel
theorem dX7_worth_1 : decode cX7_worth 1 = .ok (.istore_n 3, 1) := by decide +kernel
theorem dX7_worth_2 : decode cX7_worth 2 = .ok (.iload_n 3, 1) := by decide +kernel
theorem dX7_worth_3 : decode cX7_worth 3 = .ok (.aload_n 0, 1) := by decide +kernel
theorem dX7_worth_4 : decode cX7_worth 4 = .ok (.getfield 31, 3) := by decide +kernel
theorem dX7_worth_7 : decode cX7_worth 7 = .ok (.if_icmp .ge 98, 3) := by decide +kernel
theorem dX7_worth_10 : decode cX7_worth 10 = .ok (.aload_n 0, 1) := by decide +kernel
theorem dX7_worth_11 : decode cX7_worth 11 = .ok (.iload_n 3, 1) := by decide +kernel
theorem dX7_worth_12 : decode cX7_worth 12 = .ok (.invokevirtual 84, 3) := by decide +kernel
theorem dX7_worth_15 : decode cX7_worth 15 = .ok (.ifCond .eq 23, 3) := by decide +kernel
theorem dX7_worth_18 : decode cX7_worth 18 = .ok (.aload_n 0, 1) := by decide +kernel
theorem dX7_worth_19 : decode cX7_worth 19 = .ok (.getfield 22, 3) := by decide +kernel
theorem dX7_worth_22 : decode cX7_worth 22 = .ok (.iload_n 3, 1) := by decide +kernel
theorem dX7_worth_23 : decode cX7_worth 23 = .ok (.aload_n 1, 1) := by decide +kernel
theorem dX7_worth_24 : decode cX7_worth 24 = .ok (.aload_n 0, 1) := by decide +kernel
theorem dX7_worth_25 : decode cX7_worth 25 = .ok (.getfield 13, 3) := by decide +kernel
theorem dX7_worth_28 : decode cX7_worth 28 = .ok (.iload_n 3, 1) := by decide +kernel
theorem dX7_worth_29 : decode cX7_worth 29 = .ok (.iaload, 1) := by decide +kernel
theorem dX7_worth_30 : decode cX7_worth 30 = .ok (.bipush 7, 2) := by decide +kernel
theorem dX7_worth_32 : decode cX7_worth 32 = .ok (.iand, 1) := by decide +kernel
theorem dX7_worth_33 : decode cX7_worth 33 = .ok (.iaload, 1) := by decide +kernel
theorem dX7_worth_34 : decode cX7_worth 34 = .ok (.iastore, 1) := by decide +kernel
theorem dX7_worth_35 : decode cX7_worth 35 = .ok (.goto 64, 3) := by decide +kernel
theorem dX7_worth_38 : decode cX7_worth 38 = .ok (.aload_n 0, 1) := by decide +kernel
theorem dX7_worth_39 : decode cX7_worth 39 = .ok (.iload_n 3, 1) := by decide +kernel
theorem dX7_worth_40 : decode cX7_worth 40 = .ok (.invokevirtual 87, 3) := by decide +kernel
theorem dX7_worth_43 : decode cX7_worth 43 = .ok (.ifCond .eq 18, 3) := by decide +kernel
theorem dX7_worth_46 : decode cX7_worth 46 = .ok (.aload_n 0, 1) := by decide +kernel
theorem dX7_worth_47 : decode cX7_worth 47 = .ok (.getfield 22, 3) := by decide +kernel
theorem dX7_worth_50 : decode cX7_worth 50 = .ok (.iload_n 3, 1) := by decide +kernel
theorem dX7_worth_51 : decode cX7_worth 51 = .ok (.aload_n 0, 1) := by decide +kernel
theorem dX7_worth_52 : decode cX7_worth 52 = .ok (.getfield 13, 3) := by decide +kernel
theorem dX7_worth_55 : decode cX7_worth 55 = .ok (.iload_n 3, 1) := by decide +kernel
theorem dX7_worth_56 : decode cX7_worth 56 = .ok (.iaload, 1) := by decide +kernel
theorem dX7_worth_57 : decode cX7_worth 57 = .ok (.iastore, 1) := by decide +kernel
theorem dX7_worth_58 : decode cX7_worth 58 = .ok (.goto 41, 3) := by decide +kernel
theorem dX7_worth_61 : decode cX7_worth 61 = .ok (.aload_n 0, 1) := by decide +kernel
theorem dX7_worth_62 : decode cX7_worth 62 = .ok (.getfield 22, 3) := by decide +kernel
theorem dX7_worth_65 : decode cX7_worth 65 = .ok (.iload_n 3, 1) := by decide +kernel
theorem dX7_worth_66 : decode cX7_worth 66 = .ok (.aload_n 0, 1) := by decide +kernel
theorem dX7_worth_67 : decode cX7_worth 67 = .ok (.getfield 9, 3) := by decide +kernel
theorem dX7_worth_70 : decode cX7_worth 70 = .ok (.iload_n 3, 1) := by decide +kernel
theorem dX7_worth_71 : decode cX7_worth 71 = .ok (.iaload, 1) := by decide +kernel
theorem dX7_worth_72 : decode cX7_worth 72 = .ok (.aload_n 0, 1) := by decide +kernel
theorem dX7_worth_73 : decode cX7_worth 73 = .ok (.getfield 22, 3) := by decide +kernel
theorem dX7_worth_76 : decode cX7_worth 76 = .ok (.aload_n 0, 1) := by decide +kernel
theorem dX7_worth_77 : decode cX7_worth 77 = .ok (.getfield 16, 3) := by decide +kernel
theorem dX7_worth_80 : decode cX7_worth 80 = .ok (.iload_n 3, 1) := by decide +kernel
theorem dX7_worth_81 : decode cX7_worth 81 = .ok (.iaload, 1) := by decide +kernel
theorem dX7_worth_82 : decode cX7_worth 82 = .ok (.iaload, 1) := by decide +kernel
theorem dX7_worth_83 : decode cX7_worth 83 = .ok (.aload_n 0, 1) := by decide +kernel
theorem dX7_worth_84 : decode cX7_worth 84 = .ok (.getfield 22, 3) := by decide +kernel
theorem dX7_worth_87 : decode cX7_worth 87 = .ok (.aload_n 0, 1) := by decide +kernel
theorem dX7_worth_88 : decode cX7_worth 88 = .ok (.getfield 19, 3) := by decide +kernel
theorem dX7_worth_91 : decode cX7_worth 91 = .ok (.iload_n 3, 1) := by decide +kernel
theorem dX7_worth_92 : decode cX7_worth 92 = .ok (.iaload, 1) := by decide +kernel
theorem dX7_worth_93 : decode cX7_worth 93 = .ok (.iaload, 1) := by decide +kernel
theorem dX7_worth_94 : decode cX7_worth 94 = .ok (.iload_n 2, 1) := by decide +kernel
theorem dX7_worth_95 : decode cX7_worth 95 = .ok (.invokestatic 90, 3) := by decide +kernel
theorem dX7_worth_98 : decode cX7_worth 98 = .ok (.iastore, 1) := by decide +kernel
theorem dX7_worth_99 : decode cX7_worth 99 = .ok (.iinc 3 1, 3) := by decide +kernel
theorem dX7_worth_102 : decode cX7_worth 102 = .ok (.goto (-100), 3) := by decide +kernel
theorem dX7_worth_105 : decode cX7_worth 105 = .ok (.aload_n 0, 1) := by decide +kernel
theorem dX7_worth_106 : decode cX7_worth 106 = .ok (.getfield 31, 3) := by decide +kernel
theorem dX7_worth_109 : decode cX7_worth 109 = .ok (.ifCond .le 15, 3) := by decide +kernel
theorem dX7_worth_112 : decode cX7_worth 112 = .ok (.aload_n 0, 1) := by decide +kernel
theorem dX7_worth_113 : decode cX7_worth 113 = .ok (.getfield 22, 3) := by decide +kernel
theorem dX7_worth_116 : decode cX7_worth 116 = .ok (.aload_n 0, 1) := by decide +kernel
theorem dX7_worth_117 : decode cX7_worth 117 = .ok (.invokevirtual 95, 3) := by decide +kernel
theorem dX7_worth_120 : decode cX7_worth 120 = .ok (.iaload, 1) := by decide +kernel
theorem dX7_worth_121 : decode cX7_worth 121 = .ok (.goto 4, 3) := by decide +kernel
theorem dX7_worth_124 : decode cX7_worth 124 = .ok (.iconst 0, 1) := by decide +kernel
theorem dX7_worth_125 : decode cX7_worth 125 = .ok (.ireturn, 1) := by decide +kernel
theorem dX8_init_0 : decode cX8_init 0 = .ok (.aload_n 0, 1) := by decide +kernel
theorem dX8_init_1 : decode cX8_init 1 = .ok (.invokespecial 3, 3) := by decide +kernel
theorem dX8_init_4 : decode cX8_init 4 = .ok (.aload_n 0, 1) := by decide +kernel
theorem dX8_init_5 : decode cX8_init 5 = .ok (.bipush 80, 2) := by decide +kernel
theorem dX8_init_7 : decode cX8_init 7 = .ok (.newarray .int, 2) := by decide +kernel
theorem dX8_init_9 : decode cX8_init 9 = .ok (.putfield 11, 3) := by decide +kernel
theorem dX8_init_12 : decode cX8_init 12 = .ok (.return_, 1) := by decide +kernel
theorem dX8_append_0 : decode cX8_append 0 = .ok (.iload_n 3, 1) := by decide +kernel
theorem dX8_append_1 : decode cX8_append 1 = .ok (.iconst 1, 1) := by decide +kernel
theorem dX8_append_2 : decode cX8_append 2 = .ok (.if_icmp .lt 9, 3) := by decide +kernel
theorem dX8_append_5 : decode cX8_append 5 = .ok (.iload_n 3, 1) := by decide +kernel
theorem dX8_append_6 : decode cX8_append 6 = .ok (.bipush 8, 2) := by decide +kernel
theorem dX8_append_8 : decode cX8_append 8 = .ok (.if_icmp .le 5, 3) := by decide +kernel
theorem dX8_append_11 : decode cX8_append 11 = .ok (.iconst (-1), 1) := by decide +kernel
theorem dX8_append_12 : decode cX8_append 12 = .ok (.ireturn, 1) := by decide +kernel
theorem dX8_append_13 : decode cX8_append 13 = .ok (.iconst 0, 1) := by decide +kernel
theorem dX8_append_14 : decode cX8_append 14 = .ok (.istore 4, 2) := by decide +kernel
theorem dX8_append_16 : decode cX8_append 16 = .ok (.iload 4, 2) := by decide +kernel
theorem dX8_append_18 : decode cX8_append 18 = .ok (.iload_n 3, 1) := by decide +kernel
theorem dX8_append_19 : decode cX8_append 19 = .ok (.if_icmp .ge 39, 3) := by decide +kernel
theorem dX8_append_22 : decode cX8_append 22 = .ok (.lload_n 1, 1) := by decide +kernel
theorem dX8_append_23 : decode cX8_append 23 = .ok (.bipush 8, 2) := by decide +kernel
theorem dX8_append_25 : decode cX8_append 25 = .ok (.iload 4, 2) := by decide +kernel
theorem dX8_append_27 : decode cX8_append 27 = .ok (.imul, 1) := by decide +kernel
theorem dX8_append_28 : decode cX8_append 28 = .ok (.lushr, 1) := by decide +kernel
theorem dX8_append_29 : decode cX8_append 29 = .ok (.l2i, 1) := by decide +kernel
theorem dX8_append_30 : decode cX8_append 30 = .ok (.sipush 255, 3) := by decide +kernel
theorem dX8_append_33 : decode cX8_append 33 = .ok (.iand, 1) := by decide +kernel
theorem dX8_append_34 : decode cX8_append 34 = .ok (.istore 5, 2) := by decide +kernel
theorem dX8_append_36 : decode cX8_append 36 = .ok (.iload 5, 2) := by decide +kernel
theorem dX8_append_38 : decode cX8_append 38 = .ok (.bipush 32, 2) := by decide +kernel
theorem dX8_append_40 : decode cX8_append 40 = .ok (.if_icmp .lt 10, 3) := by decide +kernel
theorem dX8_append_43 : decode cX8_append 43 = .ok (.iload 5, 2) := by decide +kernel
theorem dX8_append_45 : decode cX8_append 45 = .ok (.bipush 126, 2) := by decide +kernel
theorem dX8_append_47 : decode cX8_append 47 = .ok (.if_icmp .le 5, 3) := by decide +kernel
theorem dX8_append_50 : decode cX8_append 50 = .ok (.iconst (-1), 1) := by decide +kernel
theorem dX8_append_51 : decode cX8_append 51 = .ok (.ireturn, 1) := by decide +kernel
theorem dX8_append_52 : decode cX8_append 52 = .ok (.iinc 4 1, 3) := by decide +kernel
theorem dX8_append_55 : decode cX8_append 55 = .ok (.goto (-39), 3) := by decide +kernel
theorem dX8_append_58 : decode cX8_append 58 = .ok (.aload_n 0, 1) := by decide +kernel
theorem dX8_append_59 : decode cX8_append 59 = .ok (.getfield 15, 3) := by decide +kernel
theorem dX8_append_62 : decode cX8_append 62 = .ok (.iload_n 3, 1) := by decide +kernel
theorem dX8_append_63 : decode cX8_append 63 = .ok (.iadd, 1) := by decide +kernel
theorem dX8_append_64 : decode cX8_append 64 = .ok (.bipush 80, 2) := by decide +kernel
theorem dX8_append_66 : decode cX8_append 66 = .ok (.if_icmp .le 6, 3) := by decide +kernel
theorem dX8_append_69 : decode cX8_append 69 = .ok (.bipush (-3), 2) := by decide +kernel
theorem dX8_append_71 : decode cX8_append 71 = .ok (.ireturn, 1) := by decide +kernel
theorem dX8_append_72 : decode cX8_append 72 = .ok (.iload_n 3, 1) := by decide +kernel
theorem dX8_append_73 : decode cX8_append 73 = .ok (.iconst 1, 1) := by decide +kernel
theorem dX8_append_74 : decode cX8_append 74 = .ok (.isub, 1) := by decide +kernel
theorem dX8_append_75 : decode cX8_append 75 = .ok (.istore 4, 2) := by decide +kernel
theorem dX8_append_77 : decode cX8_append 77 = .ok (.iload 4, 2) := by decide +kernel
theorem dX8_append_79 : decode cX8_append 79 = .ok (.ifCond .lt 37, 3) := by decide +kernel
theorem dX8_append_82 : decode cX8_append 82 = .ok (.aload_n 0, 1) := by decide +kernel
theorem dX8_append_83 : decode cX8_append 83 = .ok (.getfield 11, 3) := by decide +kernel
theorem dX8_append_86 : decode cX8_append 86 = .ok (.aload_n 0, 1) := by decide +kernel
theorem dX8_append_87 : decode cX8_append 87 = .ok (.dup, 1) := by decide +kernel
theorem dX8_append_88 : decode cX8_append 88 = .ok (.getfield 15, 3) := by decide +kernel
theorem dX8_append_91 : decode cX8_append 91 = .ok (.dup_x1, 1) := by decide +kernel
theorem dX8_append_92 : decode cX8_append 92 = .ok (.iconst 1, 1) := by decide +kernel
theorem dX8_append_93 : decode cX8_append 93 = .ok (.iadd, 1) := by decide +kernel
theorem dX8_append_94 : decode cX8_append 94 = .ok (.putfield 15, 3) := by decide +kernel
theorem dX8_append_97 : decode cX8_append 97 = .ok (.lload_n 1, 1) := by decide +kernel
theorem dX8_append_98 : decode cX8_append 98 = .ok (.bipush 8, 2) := by decide +kernel
theorem dX8_append_100 : decode cX8_append 100 = .ok (.iload 4, 2) := by decide +kernel
theorem dX8_append_102 : decode cX8_append 102 = .ok (.imul, 1) := by decide +kernel
theorem dX8_append_103 : decode cX8_append 103 = .ok (.lushr, 1) := by decide +kernel
theorem dX8_append_104 : decode cX8_append 104 = .ok (.l2i, 1) := by decide +kernel
theorem dX8_append_105 : decode cX8_append 105 = .ok (.sipush 255, 3) := by decide +kernel
theorem dX8_append_108 : decode cX8_append 108 = .ok (.iand, 1) := by decide +kernel
theorem dX8_append_109 : decode cX8_append 109 = .ok (.iastore, 1) := by decide +kernel
theorem dX8_append_110 : decode cX8_append 110 = .ok (.iinc 4 (-1), 3) := by decide +kernel
theorem dX8_append_113 : decode cX8_append 113 = .ok (.goto (-36), 3) := by decide +kernel
theorem dX8_append_116 : decode cX8_append 116 = .ok (.aload_n 0, 1) := by decide +kernel
theorem dX8_append_117 : decode cX8_append 117 = .ok (.getfield 15, 3) := by decide +kernel
theorem dX8_append_120 : decode cX8_append 120 = .ok (.ireturn, 1) := by decide +kernel
theorem dX8_empty_0 : decode cX8_empty 0 = .ok (.aload_n 0, 1) := by decide +kernel
theorem dX8_empty_1 : decode cX8_empty 1 = .ok (.iconst 0, 1) := by decide +kernel
theorem dX8_empty_2 : decode cX8_empty 2 = .ok (.putfield 15, 3) := by decide +kernel
theorem dX8_empty_5 : decode cX8_empty 5 = .ok (.aload_n 0, 1) := by decide +kernel
theorem dX8_empty_6 : decode cX8_empty 6 = .ok (.iconst 0, 1) := by decide +kernel
theorem dX8_empty_7 : decode cX8_empty 7 = .ok (.putfield 19, 3) := by decide +kernel
theorem dX8_empty_10 : decode cX8_empty 10 = .ok (.return_, 1) := by decide +kernel
theorem dX8_rewind_0 : decode cX8_rewind 0 = .ok (.aload_n 0, 1) := by decide +kernel
theorem dX8_rewind_1 : decode cX8_rewind 1 = .ok (.iconst 0, 1) := by decide +kernel
theorem dX8_rewind_2 : decode cX8_rewind 2 = .ok (.putfield 19, 3) := by decide +kernel
theorem dX8_rewind_5 : decode cX8_rewind 5 = .ok (.return_, 1) := by decide +kernel
theorem dX8_fault_0 : decode cX8_fault 0 = .ok (.bipush (-20), 2) := by decide +kernel
theorem dX8_fault_2 : decode cX8_fault 2 = .ok (.aload_n 0, 1) := by decide +kernel
theorem dX8_fault_3 : decode cX8_fault 3 = .ok (.getfield 19, 3) := by decide +kernel
theorem dX8_fault_6 : decode cX8_fault 6 = .ok (.isub, 1) := by decide +kernel
theorem dX8_fault_7 : decode cX8_fault 7 = .ok (.ireturn, 1) := by decide +kernel
theorem dX8_next_0 : decode cX8_next 0 = .ok (.aload_n 0, 1) := by decide +kernel
theorem dX8_next_1 : decode cX8_next 1 = .ok (.getfield 19, 3) := by decide +kernel
theorem dX8_next_4 : decode cX8_next 4 = .ok (.aload_n 0, 1) := by decide +kernel
theorem dX8_next_5 : decode cX8_next 5 = .ok (.getfield 15, 3) := by decide +kernel
theorem dX8_next_8 : decode cX8_next 8 = .ok (.if_icmp .ge 30, 3) := by decide +kernel
theorem dX8_next_11 : decode cX8_next 11 = .ok (.aload_n 0, 1) := by decide +kernel
theorem dX8_next_12 : decode cX8_next 12 = .ok (.getfield 11, 3) := by decide +kernel
theorem dX8_next_15 : decode cX8_next 15 = .ok (.aload_n 0, 1) := by decide +kernel
theorem dX8_next_16 : decode cX8_next 16 = .ok (.getfield 19, 3) := by decide +kernel
theorem dX8_next_19 : decode cX8_next 19 = .ok (.iaload, 1) := by decide +kernel
theorem dX8_next_20 : decode cX8_next 20 = .ok (.bipush 32, 2) := by decide +kernel
theorem dX8_next_22 : decode cX8_next 22 = .ok (.if_icmp .ne 16, 3) := by decide +kernel
theorem dX8_next_25 : decode cX8_next 25 = .ok (.aload_n 0, 1) := by decide +kernel
theorem dX8_next_26 : decode cX8_next 26 = .ok (.dup, 1) := by decide +kernel
theorem dX8_next_27 : decode cX8_next 27 = .ok (.getfield 19, 3) := by decide +kernel
theorem dX8_next_30 : decode cX8_next 30 = .ok (.iconst 1, 1) := by decide +kernel
theorem dX8_next_31 : decode cX8_next 31 = .ok (.iadd, 1) := by decide +kernel
theorem dX8_next_32 : decode cX8_next 32 = .ok (.putfield 19, 3) := by decide +kernel
theorem dX8_next_35 : decode cX8_next 35 = .ok (.goto (-35), 3) := by decide +kernel
theorem dX8_next_38 : decode cX8_next 38 = .ok (.aload_n 0, 1) := by decide +kernel
theorem dX8_next_39 : decode cX8_next 39 = .ok (.getfield 19, 3) := by decide +kernel
theorem dX8_next_42 : decode cX8_next 42 = .ok (.aload_n 0, 1) := by decide +kernel
theorem dX8_next_43 : decode cX8_next 43 = .ok (.getfield 15, 3) := by decide +kernel
theorem dX8_next_46 : decode cX8_next 46 = .ok (.if_icmp .ge 15, 3) := by decide +kernel
theorem dX8_next_49 : decode cX8_next 49 = .ok (.aload_n 0, 1) := by decide +kernel
theorem dX8_next_50 : decode cX8_next 50 = .ok (.getfield 11, 3) := by decide +kernel
theorem dX8_next_53 : decode cX8_next 53 = .ok (.aload_n 0, 1) := by decide +kernel
theorem dX8_next_54 : decode cX8_next 54 = .ok (.getfield 19, 3) := by decide +kernel
theorem dX8_next_57 : decode cX8_next 57 = .ok (.iaload, 1) := by decide +kernel
theorem dX8_next_58 : decode cX8_next 58 = .ok (.goto 4, 3) := by decide +kernel
theorem dX8_next_61 : decode cX8_next 61 = .ok (.iconst (-1), 1) := by decide +kernel
theorem dX8_next_62 : decode cX8_next 62 = .ok (.ireturn, 1) := by decide +kernel
theorem dX8_pass_0 : decode cX8_pass 0 = .ok (.aload_n 0, 1) := by decide +kernel
theorem dX8_pass_1 : decode cX8_pass 1 = .ok (.getfield 19, 3) := by decide +kernel
theorem dX8_pass_4 : decode cX8_pass 4 = .ok (.aload_n 0, 1) := by decide +kernel
theorem dX8_pass_5 : decode cX8_pass 5 = .ok (.getfield 15, 3) := by decide +kernel
theorem dX8_pass_8 : decode cX8_pass 8 = .ok (.if_icmp .ge 13, 3) := by decide +kernel
theorem dX8_pass_11 : decode cX8_pass 11 = .ok (.aload_n 0, 1) := by decide +kernel
theorem dX8_pass_12 : decode cX8_pass 12 = .ok (.dup, 1) := by decide +kernel
theorem dX8_pass_13 : decode cX8_pass 13 = .ok (.getfield 19, 3) := by decide +kernel
theorem dX8_pass_16 : decode cX8_pass 16 = .ok (.iconst 1, 1) := by decide +kernel
theorem dX8_pass_17 : decode cX8_pass 17 = .ok (.iadd, 1) := by decide +kernel
theorem dX8_pass_18 : decode cX8_pass 18 = .ok (.putfield 19, 3) := by decide +kernel
theorem dX8_pass_21 : decode cX8_pass 21 = .ok (.return_, 1) := by decide +kernel
theorem dX8_takes_0 : decode cX8_takes 0 = .ok (.aload_n 0, 1) := by decide +kernel
theorem dX8_takes_1 : decode cX8_takes 1 = .ok (.invokevirtual 22, 3) := by decide +kernel
theorem dX8_takes_4 : decode cX8_takes 4 = .ok (.iload_n 1, 1) := by decide +kernel
theorem dX8_takes_5 : decode cX8_takes 5 = .ok (.if_icmp .eq 5, 3) := by decide +kernel
theorem dX8_takes_8 : decode cX8_takes 8 = .ok (.iconst 0, 1) := by decide +kernel
theorem dX8_takes_9 : decode cX8_takes 9 = .ok (.ireturn, 1) := by decide +kernel
theorem dX8_takes_10 : decode cX8_takes 10 = .ok (.aload_n 0, 1) := by decide +kernel
theorem dX8_takes_11 : decode cX8_takes 11 = .ok (.invokevirtual 26, 3) := by decide +kernel
theorem dX8_takes_14 : decode cX8_takes 14 = .ok (.iconst 1, 1) := by decide +kernel
theorem dX8_takes_15 : decode cX8_takes 15 = .ok (.ireturn, 1) := by decide +kernel
theorem dX8_takeName_0 : decode cX8_takeName 0 = .ok (.aload_n 0, 1) := by decide +kernel
theorem dX8_takeName_1 : decode cX8_takeName 1 = .ok (.invokevirtual 22, 3) := by decide +kernel
theorem dX8_takeName_4 : decode cX8_takeName 4 = .ok (.pop, 1) := by decide +kernel
theorem dX8_takeName_5 : decode cX8_takeName 5 = .ok (.aload_n 0, 1) := by decide +kernel
theorem dX8_takeName_6 : decode cX8_takeName 6 = .ok (.aload_n 0, 1) := by decide +kernel
theorem dX8_takeName_7 : decode cX8_takeName 7 = .ok (.getfield 19, 3) := by decide +kernel
theorem dX8_takeName_10 : decode cX8_takeName 10 = .ok (.putfield 29, 3) := by decide +kernel
theorem dX8_takeName_13 : decode cX8_takeName 13 = .ok (.iconst 0, 1) := by decide +kernel
theorem dX8_takeName_14 : decode cX8_takeName 14 = .ok (.istore_n 1, 1) := by decide +kernel
theorem dX8_takeName_15 : decode cX8_takeName 15 = .ok (.aload_n 0, 1) := by decide +kernel
theorem dX8_takeName_16 : decode cX8_takeName 16 = .ok (.getfield 19, 3) := by decide +kernel
theorem dX8_takeName_19 : decode cX8_takeName 19 = .ok (.aload_n 0, 1) := by decide +kernel
theorem dX8_takeName_20 : decode cX8_takeName 20 = .ok (.getfield 15, 3) := by decide +kernel
theorem dX8_takeName_23 : decode cX8_takeName 23 = .ok (.if_icmp .ge 73, 3) := by decide +kernel
theorem dX8_takeName_26 : decode cX8_takeName 26 = .ok (.aload_n 0, 1) := by decide +kernel
theorem dX8_takeName_27 : decode cX8_takeName 27 = .ok (.getfield 19, 3) := by decide +kernel
theorem dX8_takeName_30 : decode cX8_takeName 30 = .ok (.aload_n 0, 1) := by decide +kernel
theorem dX8_takeName_31 : decode cX8_takeName 31 = .ok (.getfield 29, 3) := by decide +kernel
theorem dX8_takeName_34 : decode cX8_takeName 34 = .ok (.iconst 3, 1) := by decide +kernel
theorem dX8_takeName_35 : decode cX8_takeName 35 = .ok (.iadd, 1) := by decide +kernel
theorem dX8_takeName_36 : decode cX8_takeName 36 = .ok (.if_icmp .ge 60, 3) := by decide +kernel
theorem dX8_takeName_39 : decode cX8_takeName 39 = .ok (.aload_n 0, 1) := by decide +kernel
theorem dX8_takeName_40 : decode cX8_takeName 40 = .ok (.getfield 11, 3) := by decide +kernel
theorem dX8_takeName_43 : decode cX8_takeName 43 = .ok (.aload_n 0, 1) := by decide +kernel
theorem dX8_takeName_44 : decode cX8_takeName 44 = .ok (.getfield 19, 3) := by decide +kernel
theorem dX8_takeName_47 : decode cX8_takeName 47 = .ok (.iaload, 1) := by decide +kernel
theorem dX8_takeName_48 : decode cX8_takeName 48 = .ok (.bipush 97, 2) := by decide +kernel
theorem dX8_takeName_50 : decode cX8_takeName 50 = .ok (.if_icmp .lt 46, 3) := by decide +kernel
theorem dX8_takeName_53 : decode cX8_takeName 53 = .ok (.aload_n 0, 1) := by decide +kernel
theorem dX8_takeName_54 : decode cX8_takeName 54 = .ok (.getfield 11, 3) := by decide +kernel
theorem dX8_takeName_57 : decode cX8_takeName 57 = .ok (.aload_n 0, 1) := by decide +kernel
theorem dX8_takeName_58 : decode cX8_takeName 58 = .ok (.getfield 19, 3) := by decide +kernel
theorem dX8_takeName_61 : decode cX8_takeName 61 = .ok (.iaload, 1) := by decide +kernel
theorem dX8_takeName_62 : decode cX8_takeName 62 = .ok (.bipush 122, 2) := by decide +kernel
theorem dX8_takeName_64 : decode cX8_takeName 64 = .ok (.if_icmp .gt 32, 3) := by decide +kernel
theorem dX8_takeName_67 : decode cX8_takeName 67 = .ok (.iload_n 1, 1) := by decide +kernel
theorem dX8_takeName_68 : decode cX8_takeName 68 = .ok (.sipush 256, 3) := by decide +kernel
theorem dX8_takeName_71 : decode cX8_takeName 71 = .ok (.imul, 1) := by decide +kernel
theorem dX8_takeName_72 : decode cX8_takeName 72 = .ok (.aload_n 0, 1) := by decide +kernel
theorem dX8_takeName_73 : decode cX8_takeName 73 = .ok (.getfield 11, 3) := by decide +kernel
theorem dX8_takeName_76 : decode cX8_takeName 76 = .ok (.aload_n 0, 1) := by decide +kernel
theorem dX8_takeName_77 : decode cX8_takeName 77 = .ok (.getfield 19, 3) := by decide +kernel
theorem dX8_takeName_80 : decode cX8_takeName 80 = .ok (.iaload, 1) := by decide +kernel
theorem dX8_takeName_81 : decode cX8_takeName 81 = .ok (.iadd, 1) := by decide +kernel
theorem dX8_takeName_82 : decode cX8_takeName 82 = .ok (.istore_n 1, 1) := by decide +kernel
theorem dX8_takeName_83 : decode cX8_takeName 83 = .ok (.aload_n 0, 1) := by decide +kernel
theorem dX8_takeName_84 : decode cX8_takeName 84 = .ok (.dup, 1) := by decide +kernel
theorem dX8_takeName_85 : decode cX8_takeName 85 = .ok (.getfield 19, 3) := by decide +kernel
theorem dX8_takeName_88 : decode cX8_takeName 88 = .ok (.iconst 1, 1) := by decide +kernel
theorem dX8_takeName_89 : decode cX8_takeName 89 = .ok (.iadd, 1) := by decide +kernel
theorem dX8_takeName_90 : decode cX8_takeName 90 = .ok (.putfield 19, 3) := by decide +kernel
theorem dX8_takeName_93 : decode cX8_takeName 93 = .ok (.goto (-78), 3) := by decide +kernel
theorem dX8_takeName_96 : decode cX8_takeName 96 = .ok (.iload_n 1, 1) := by decide +kernel
theorem dX8_takeName_97 : decode cX8_takeName 97 = .ok (.ireturn, 1) := by decide +kernel
theorem dX8_takeNumber_0 : decode cX8_takeNumber 0 = .ok (.aload_n 0, 1) := by decide +kernel
theorem dX8_takeNumber_1 : decode cX8_takeNumber 1 = .ok (.invokevirtual 22, 3) := by decide +kernel
theorem dX8_takeNumber_4 : decode cX8_takeNumber 4 = .ok (.invokestatic 32, 3) := by decide +kernel
theorem dX8_takeNumber_7 : decode cX8_takeNumber 7 = .ok (.ifCond .ne 5, 3) := by decide +kernel
theorem dX8_takeNumber_10 : decode cX8_takeNumber 10 = .ok (.iconst (-1), 1) := by decide +kernel
theorem dX8_takeNumber_11 : decode cX8_takeNumber 11 = .ok (.ireturn, 1) := by decide +kernel
theorem dX8_takeNumber_12 : decode cX8_takeNumber 12 = .ok (.aload_n 0, 1) := by decide +kernel
theorem dX8_takeNumber_13 : decode cX8_takeNumber 13 = .ok (.aload_n 0, 1) := by decide +kernel
theorem dX8_takeNumber_14 : decode cX8_takeNumber 14 = .ok (.getfield 19, 3) := by decide +kernel
theorem dX8_takeNumber_17 : decode cX8_takeNumber 17 = .ok (.putfield 29, 3) := by decide +kernel
theorem dX8_takeNumber_20 : decode cX8_takeNumber 20 = .ok (.iconst 0, 1) := by decide +kernel
theorem dX8_takeNumber_21 : decode cX8_takeNumber 21 = .ok (.istore_n 2, 1) := by decide +kernel
theorem dX8_takeNumber_22 : decode cX8_takeNumber 22 = .ok (.aload_n 0, 1) := by decide +kernel
theorem dX8_takeNumber_23 : decode cX8_takeNumber 23 = .ok (.getfield 19, 3) := by decide +kernel
theorem dX8_takeNumber_26 : decode cX8_takeNumber 26 = .ok (.aload_n 0, 1) := by decide +kernel
theorem dX8_takeNumber_27 : decode cX8_takeNumber 27 = .ok (.getfield 15, 3) := by decide +kernel
theorem dX8_takeNumber_30 : decode cX8_takeNumber 30 = .ok (.if_icmp .ge 55, 3) := by decide +kernel
theorem dX8_takeNumber_33 : decode cX8_takeNumber 33 = .ok (.aload_n 0, 1) := by decide +kernel
theorem dX8_takeNumber_34 : decode cX8_takeNumber 34 = .ok (.getfield 11, 3) := by decide +kernel
theorem dX8_takeNumber_37 : decode cX8_takeNumber 37 = .ok (.aload_n 0, 1) := by decide +kernel
theorem dX8_takeNumber_38 : decode cX8_takeNumber 38 = .ok (.getfield 19, 3) := by decide +kernel
theorem dX8_takeNumber_41 : decode cX8_takeNumber 41 = .ok (.iaload, 1) := by decide +kernel
theorem dX8_takeNumber_42 : decode cX8_takeNumber 42 = .ok (.invokestatic 32, 3) := by decide +kernel
theorem dX8_takeNumber_45 : decode cX8_takeNumber 45 = .ok (.ifCond .eq 40, 3) := by decide +kernel
theorem dX8_takeNumber_48 : decode cX8_takeNumber 48 = .ok (.iload_n 2, 1) := by decide +kernel
theorem dX8_takeNumber_49 : decode cX8_takeNumber 49 = .ok (.bipush 10, 2) := by decide +kernel
theorem dX8_takeNumber_51 : decode cX8_takeNumber 51 = .ok (.imul, 1) := by decide +kernel
theorem dX8_takeNumber_52 : decode cX8_takeNumber 52 = .ok (.aload_n 0, 1) := by decide +kernel
theorem dX8_takeNumber_53 : decode cX8_takeNumber 53 = .ok (.getfield 11, 3) := by decide +kernel
theorem dX8_takeNumber_56 : decode cX8_takeNumber 56 = .ok (.aload_n 0, 1) := by decide +kernel
theorem dX8_takeNumber_57 : decode cX8_takeNumber 57 = .ok (.getfield 19, 3) := by decide +kernel
theorem dX8_takeNumber_60 : decode cX8_takeNumber 60 = .ok (.iaload, 1) := by decide +kernel
theorem dX8_takeNumber_61 : decode cX8_takeNumber 61 = .ok (.iadd, 1) := by decide +kernel
theorem dX8_takeNumber_62 : decode cX8_takeNumber 62 = .ok (.bipush 48, 2) := by decide +kernel
theorem dX8_takeNumber_64 : decode cX8_takeNumber 64 = .ok (.isub, 1) := by decide +kernel
theorem dX8_takeNumber_65 : decode cX8_takeNumber 65 = .ok (.sipush 1000, 3) := by decide +kernel
theorem dX8_takeNumber_68 : decode cX8_takeNumber 68 = .ok (.invokestatic 36, 3) := by decide +kernel
theorem dX8_takeNumber_71 : decode cX8_takeNumber 71 = .ok (.istore_n 2, 1) := by decide +kernel
theorem dX8_takeNumber_72 : decode cX8_takeNumber 72 = .ok (.aload_n 0, 1) := by decide +kernel
theorem dX8_takeNumber_73 : decode cX8_takeNumber 73 = .ok (.dup, 1) := by decide +kernel
theorem dX8_takeNumber_74 : decode cX8_takeNumber 74 = .ok (.getfield 19, 3) := by decide +kernel
theorem dX8_takeNumber_77 : decode cX8_takeNumber 77 = .ok (.iconst 1, 1) := by decide +kernel
theorem dX8_takeNumber_78 : decode cX8_takeNumber 78 = .ok (.iadd, 1) := by decide +kernel
theorem dX8_takeNumber_79 : decode cX8_takeNumber 79 = .ok (.putfield 19, 3) := by decide +kernel
theorem dX8_takeNumber_82 : decode cX8_takeNumber 82 = .ok (.goto (-60), 3) := by decide +kernel
theorem dX8_takeNumber_85 : decode cX8_takeNumber 85 = .ok (.iload_n 2, 1) := by decide +kernel
theorem dX8_takeNumber_86 : decode cX8_takeNumber 86 = .ok (.iload_n 1, 1) := by decide +kernel
theorem dX8_takeNumber_87 : decode cX8_takeNumber 87 = .ok (.if_icmp .le 9, 3) := by decide +kernel
theorem dX8_takeNumber_90 : decode cX8_takeNumber 90 = .ok (.aload_n 0, 1) := by decide +kernel
theorem dX8_takeNumber_91 : decode cX8_takeNumber 91 = .ok (.invokevirtual 42, 3) := by decide +kernel
theorem dX8_takeNumber_94 : decode cX8_takeNumber 94 = .ok (.iconst (-1), 1) := by decide +kernel
theorem dX8_takeNumber_95 : decode cX8_takeNumber 95 = .ok (.ireturn, 1) := by decide +kernel
theorem dX8_takeNumber_96 : decode cX8_takeNumber 96 = .ok (.iload_n 2, 1) := by decide +kernel
theorem dX8_takeNumber_97 : decode cX8_takeNumber 97 = .ok (.ireturn, 1) := by decide +kernel
theorem dX8_blameWord_0 : decode cX8_blameWord 0 = .ok (.aload_n 0, 1) := by decide +kernel
theorem dX8_blameWord_1 : decode cX8_blameWord 1 = .ok (.aload_n 0, 1) := by decide +kernel
theorem dX8_blameWord_2 : decode cX8_blameWord 2 = .ok (.getfield 29, 3) := by decide +kernel
theorem dX8_blameWord_5 : decode cX8_blameWord 5 = .ok (.putfield 19, 3) := by decide +kernel
theorem dX8_blameWord_8 : decode cX8_blameWord 8 = .ok (.return_, 1) := by decide +kernel
theorem dX8_isDigit_0 : decode cX8_isDigit 0 = .ok (.iload_n 0, 1) := by decide +kernel
theorem dX8_isDigit_1 : decode cX8_isDigit 1 = .ok (.bipush 48, 2) := by decide +kernel
theorem dX8_isDigit_3 : decode cX8_isDigit 3 = .ok (.if_icmp .lt 13, 3) := by decide +kernel
theorem dX8_isDigit_6 : decode cX8_isDigit 6 = .ok (.iload_n 0, 1) := by decide +kernel
theorem dX8_isDigit_7 : decode cX8_isDigit 7 = .ok (.bipush 57, 2) := by decide +kernel
theorem dX8_isDigit_9 : decode cX8_isDigit 9 = .ok (.if_icmp .gt 7, 3) := by decide +kernel
theorem dX8_isDigit_12 : decode cX8_isDigit 12 = .ok (.iconst 1, 1) := by decide +kernel
theorem dX8_isDigit_13 : decode cX8_isDigit 13 = .ok (.goto 4, 3) := by decide +kernel
theorem dX8_isDigit_16 : decode cX8_isDigit 16 = .ok (.iconst 0, 1) := by decide +kernel
theorem dX8_isDigit_17 : decode cX8_isDigit 17 = .ok (.ireturn, 1) := by decide +kernel
theorem dX8_isSign_0 : decode cX8_isSign 0 = .ok (.iload_n 0, 1) := by decide +kernel
theorem dX8_isSign_1 : decode cX8_isSign 1 = .ok (.bipush 43, 2) := by decide +kernel
theorem dX8_isSign_3 : decode cX8_isSign 3 = .ok (.if_icmp .eq 33, 3) := by decide +kernel
theorem dX8_isSign_6 : decode cX8_isSign 6 = .ok (.iload_n 0, 1) := by decide +kernel
theorem dX8_isSign_7 : decode cX8_isSign 7 = .ok (.bipush 45, 2) := by decide +kernel
theorem dX8_isSign_9 : decode cX8_isSign 9 = .ok (.if_icmp .eq 27, 3) := by decide +kernel
theorem dX8_isSign_12 : decode cX8_isSign 12 = .ok (.iload_n 0, 1) := by decide +kernel
theorem dX8_isSign_13 : decode cX8_isSign 13 = .ok (.bipush 38, 2) := by decide +kernel
theorem dX8_isSign_15 : decode cX8_isSign 15 = .ok (.if_icmp .eq 21, 3) := by decide +kernel
theorem dX8_isSign_18 : decode cX8_isSign 18 = .ok (.iload_n 0, 1) := by decide +kernel
theorem dX8_isSign_19 : decode cX8_isSign 19 = .ok (.bipush 124, 2) := by decide +kernel
theorem dX8_isSign_21 : decode cX8_isSign 21 = .ok (.if_icmp .eq 15, 3) := by decide +kernel
theorem dX8_isSign_24 : decode cX8_isSign 24 = .ok (.iload_n 0, 1) := by decide +kernel
theorem dX8_isSign_25 : decode cX8_isSign 25 = .ok (.bipush 94, 2) := by decide +kernel
theorem dX8_isSign_27 : decode cX8_isSign 27 = .ok (.if_icmp .eq 9, 3) := by decide +kernel
theorem dX8_isSign_30 : decode cX8_isSign 30 = .ok (.iload_n 0, 1) := by decide +kernel
theorem dX8_isSign_31 : decode cX8_isSign 31 = .ok (.bipush 60, 2) := by decide +kernel
theorem dX8_isSign_33 : decode cX8_isSign 33 = .ok (.if_icmp .ne 7, 3) := by decide +kernel
theorem dX8_isSign_36 : decode cX8_isSign 36 = .ok (.iconst 1, 1) := by decide +kernel
theorem dX8_isSign_37 : decode cX8_isSign 37 = .ok (.goto 4, 3) := by decide +kernel
theorem dX8_isSign_40 : decode cX8_isSign 40 = .ok (.iconst 0, 1) := by decide +kernel
theorem dX8_isSign_41 : decode cX8_isSign 41 = .ok (.ireturn, 1) := by decide +kernel
theorem dX9_init_0 : decode cX9_init 0 = .ok (.aload_n 0, 1) := by decide +kernel
theorem dX9_init_1 : decode cX9_init 1 = .ok (.invokespecial 3, 3) := by decide +kernel
theorem dX9_init_4 : decode cX9_init 4 = .ok (.aload_n 0, 1) := by decide +kernel
theorem dX9_init_5 : decode cX9_init 5 = .ok (.new 9, 3) := by decide +kernel
theorem dX9_init_8 : decode cX9_init 8 = .ok (.dup, 1) := by decide +kernel
theorem dX9_init_9 : decode cX9_init 9 = .ok (.invokespecial 11, 3) := by decide +kernel
theorem dX9_init_12 : decode cX9_init 12 = .ok (.putfield 12, 3) := by decide +kernel
theorem dX9_init_15 : decode cX9_init 15 = .ok (.aload_n 0, 1) := by decide +kernel
theorem dX9_init_16 : decode cX9_init 16 = .ok (.bipush 20, 2) := by decide +kernel
theorem dX9_init_18 : decode cX9_init 18 = .ok (.anewarray 9, 3) := by decide +kernel
theorem dX9_init_21 : decode cX9_init 21 = .ok (.putfield 18, 3) := by decide +kernel
theorem dX9_init_24 : decode cX9_init 24 = .ok (.aload_n 0, 1) := by decide +kernel
theorem dX9_init_25 : decode cX9_init 25 = .ok (.sipush 4096, 3) := by decide +kernel
theorem dX9_init_28 : decode cX9_init 28 = .ok (.newarray .int, 2) := by decide +kernel
theorem dX9_init_30 : decode cX9_init 30 = .ok (.putfield 22, 3) := by decide +kernel
theorem dX9_init_33 : decode cX9_init 33 = .ok (.iconst 0, 1) := by decide +kernel
theorem dX9_init_34 : decode cX9_init 34 = .ok (.istore_n 1, 1) := by decide +kernel
theorem dX9_init_35 : decode cX9_init 35 = .ok (.iload_n 1, 1) := by decide +kernel
theorem dX9_init_36 : decode cX9_init 36 = .ok (.bipush 20, 2) := by decide +kernel
theorem dX9_init_38 : decode cX9_init 38 = .ok (.if_icmp .ge 22, 3) := by decide +kernel
theorem dX9_init_41 : decode cX9_init 41 = .ok (.aload_n 0, 1) := by decide +kernel
theorem dX9_init_42 : decode cX9_init 42 = .ok (.getfield 18, 3) := by decide +kernel
theorem dX9_init_45 : decode cX9_init 45 = .ok (.iload_n 1, 1) := by decide +kernel
theorem dX9_init_46 : decode cX9_init 46 = .ok (.new 9, 3) := by decide +kernel
theorem dX9_init_49 : decode cX9_init 49 = .ok (.dup, 1) := by decide +kernel
theorem dX9_init_50 : decode cX9_init 50 = .ok (.invokespecial 11, 3) := by decide +kernel
theorem dX9_init_53 : decode cX9_init 53 = .ok (.aastore, 1) := by decide +kernel
theorem dX9_init_54 : decode cX9_init 54 = .ok (.iinc 1 1, 3) := by decide +kernel
theorem dX9_init_57 : decode cX9_init 57 = .ok (.goto (-22), 3) := by decide +kernel
theorem dX9_init_60 : decode cX9_init 60 = .ok (.return_, 1) := by decide +kernel
theorem dX9_startAnew_0 : decode cX9_startAnew 0 = .ok (.aload_n 0, 1) := by decide +kernel
theorem dX9_startAnew_1 : decode cX9_startAnew 1 = .ok (.iload_n 1, 1) := by decide +kernel
theorem dX9_startAnew_2 : decode cX9_startAnew 2 = .ok (.putfield 26, 3) := by decide +kernel
theorem dX9_startAnew_5 : decode cX9_startAnew 5 = .ok (.aload_n 0, 1) := by decide +kernel
theorem dX9_startAnew_6 : decode cX9_startAnew 6 = .ok (.iload_n 2, 1) := by decide +kernel
theorem dX9_startAnew_7 : decode cX9_startAnew 7 = .ok (.putfield 30, 3) := by decide +kernel
theorem dX9_startAnew_10 : decode cX9_startAnew 10 = .ok (.aload_n 0, 1) := by decide +kernel
theorem dX9_startAnew_11 : decode cX9_startAnew 11 = .ok (.iload_n 3, 1) := by decide +kernel
theorem dX9_startAnew_12 : decode cX9_startAnew 12 = .ok (.putfield 33, 3) := by decide +kernel
theorem dX9_startAnew_15 : decode cX9_startAnew 15 = .ok (.aload_n 0, 1) := by decide +kernel
theorem dX9_startAnew_16 : decode cX9_startAnew 16 = .ok (.iconst 0, 1) := by decide +kernel
theorem dX9_startAnew_17 : decode cX9_startAnew 17 = .ok (.putfield 36, 3) := by decide +kernel
theorem dX9_startAnew_20 : decode cX9_startAnew 20 = .ok (.aload_n 0, 1) := by decide +kernel
theorem dX9_startAnew_21 : decode cX9_startAnew 21 = .ok (.bipush (-4), 2) := by decide +kernel
theorem dX9_startAnew_23 : decode cX9_startAnew 23 = .ok (.putfield 39, 3) := by decide +kernel
theorem dX9_startAnew_26 : decode cX9_startAnew 26 = .ok (.aload_n 0, 1) := by decide +kernel
theorem dX9_startAnew_27 : decode cX9_startAnew 27 = .ok (.getfield 22, 3) := by decide +kernel
theorem dX9_startAnew_30 : decode cX9_startAnew 30 = .ok (.iconst (-1), 1) := by decide +kernel
theorem dX9_startAnew_31 : decode cX9_startAnew 31 = .ok (.invokestatic 42, 3) := by decide +kernel
theorem dX9_startAnew_34 : decode cX9_startAnew 34 = .ok (.return_, 1) := by decide +kernel
theorem dX9_wordMask_0 : decode cX9_wordMask 0 = .ok (.iconst 1, 1) := by decide +kernel
theorem dX9_wordMask_1 : decode cX9_wordMask 1 = .ok (.aload_n 0, 1) := by decide +kernel
theorem dX9_wordMask_2 : decode cX9_wordMask 2 = .ok (.getfield 26, 3) := by decide +kernel
theorem dX9_wordMask_5 : decode cX9_wordMask 5 = .ok (.ishl, 1) := by decide +kernel
theorem dX9_wordMask_6 : decode cX9_wordMask 6 = .ok (.iconst 1, 1) := by decide +kernel
theorem dX9_wordMask_7 : decode cX9_wordMask 7 = .ok (.isub, 1) := by decide +kernel
theorem dX9_wordMask_8 : decode cX9_wordMask 8 = .ok (.ireturn, 1) := by decide +kernel
theorem dX9_registers_0 : decode cX9_registers 0 = .ok (.iconst 1, 1) := by decide +kernel
theorem dX9_registers_1 : decode cX9_registers 1 = .ok (.aload_n 0, 1) := by decide +kernel
theorem dX9_registers_2 : decode cX9_registers 2 = .ok (.getfield 30, 3) := by decide +kernel
theorem dX9_registers_5 : decode cX9_registers 5 = .ok (.ishl, 1) := by decide +kernel
theorem dX9_registers_6 : decode cX9_registers 6 = .ok (.ireturn, 1) := by decide +kernel
theorem dX9_bitsInAll_0 : decode cX9_bitsInAll 0 = .ok (.iconst 1, 1) := by decide +kernel
theorem dX9_bitsInAll_1 : decode cX9_bitsInAll 1 = .ok (.aload_n 0, 1) := by decide +kernel
theorem dX9_bitsInAll_2 : decode cX9_bitsInAll 2 = .ok (.getfield 33, 3) := by decide +kernel
theorem dX9_bitsInAll_5 : decode cX9_bitsInAll 5 = .ok (.ishl, 1) := by decide +kernel
theorem dX9_bitsInAll_6 : decode cX9_bitsInAll 6 = .ok (.ireturn, 1) := by decide +kernel
theorem dX9_isBits_0 : decode cX9_isBits 0 = .ok (.iload_n 1, 1) := by decide +kernel
theorem dX9_isBits_1 : decode cX9_isBits 1 = .ok (.ifCond .lt 15, 3) := by decide +kernel
theorem dX9_isBits_4 : decode cX9_isBits 4 = .ok (.iload_n 1, 1) := by decide +kernel
theorem dX9_isBits_5 : decode cX9_isBits 5 = .ok (.aload_n 0, 1) := by decide +kernel
theorem dX9_isBits_6 : decode cX9_isBits 6 = .ok (.invokevirtual 48, 3) := by decide +kernel
theorem dX9_isBits_9 : decode cX9_isBits 9 = .ok (.if_icmp .ge 7, 3) := by decide +kernel
theorem dX9_isBits_12 : decode cX9_isBits 12 = .ok (.iconst 1, 1) := by decide +kernel
theorem dX9_isBits_13 : decode cX9_isBits 13 = .ok (.goto 4, 3) := by decide +kernel
theorem dX9_isBits_16 : decode cX9_isBits 16 = .ok (.iconst 0, 1) := by decide +kernel
theorem dX9_isBits_17 : decode cX9_isBits 17 = .ok (.ireturn, 1) := by decide +kernel
theorem dX9_numberOf_0 : decode cX9_numberOf 0 = .ok (.iload_n 1, 1) := by decide +kernel
theorem dX9_numberOf_1 : decode cX9_numberOf 1 = .ok (.ifCond .lt 19, 3) := by decide +kernel
theorem dX9_numberOf_4 : decode cX9_numberOf 4 = .ok (.iload_n 1, 1) := by decide +kernel
theorem dX9_numberOf_5 : decode cX9_numberOf 5 = .ok (.sipush 4096, 3) := by decide +kernel
theorem dX9_numberOf_8 : decode cX9_numberOf 8 = .ok (.if_icmp .ge 12, 3) := by decide +kernel
theorem dX9_numberOf_11 : decode cX9_numberOf 11 = .ok (.aload_n 0, 1) := by decide +kernel
theorem dX9_numberOf_12 : decode cX9_numberOf 12 = .ok (.getfield 22, 3) := by decide +kernel
theorem dX9_numberOf_15 : decode cX9_numberOf 15 = .ok (.iload_n 1, 1) := by decide +kernel
theorem dX9_numberOf_16 : decode cX9_numberOf 16 = .ok (.iaload, 1) := by decide +kernel
theorem dX9_numberOf_17 : decode cX9_numberOf 17 = .ok (.goto 4, 3) := by decide +kernel
theorem dX9_numberOf_20 : decode cX9_numberOf 20 = .ok (.iconst (-1), 1) := by decide +kernel
theorem dX9_numberOf_21 : decode cX9_numberOf 21 = .ok (.ireturn, 1) := by decide +kernel
theorem dX9_orderOf_0 : decode cX9_orderOf 0 = .ok (.aload_n 0, 1) := by decide +kernel
theorem dX9_orderOf_1 : decode cX9_orderOf 1 = .ok (.aload_n 0, 1) := by decide +kernel
theorem dX9_orderOf_2 : decode cX9_orderOf 2 = .ok (.iload_n 1, 1) := by decide +kernel
theorem dX9_orderOf_3 : decode cX9_orderOf 3 = .ok (.invokevirtual 52, 3) := by decide +kernel
theorem dX9_orderOf_6 : decode cX9_orderOf 6 = .ok (.invokevirtual 56, 3) := by decide +kernel
theorem dX9_orderOf_9 : decode cX9_orderOf 9 = .ok (.areturn, 1) := by decide +kernel
theorem dX9_numbered_0 : decode cX9_numbered 0 = .ok (.iload_n 1, 1) := by decide +kernel
theorem dX9_numbered_1 : decode cX9_numbered 1 = .ok (.ifCond .lt 20, 3) := by decide +kernel
theorem dX9_numbered_4 : decode cX9_numbered 4 = .ok (.iload_n 1, 1) := by decide +kernel
theorem dX9_numbered_5 : decode cX9_numbered 5 = .ok (.aload_n 0, 1) := by decide +kernel
theorem dX9_numbered_6 : decode cX9_numbered 6 = .ok (.getfield 36, 3) := by decide +kernel
theorem dX9_numbered_9 : decode cX9_numbered 9 = .ok (.if_icmp .ge 12, 3) := by decide +kernel
theorem dX9_numbered_12 : decode cX9_numbered 12 = .ok (.aload_n 0, 1) := by decide +kernel
theorem dX9_numbered_13 : decode cX9_numbered 13 = .ok (.getfield 18, 3) := by decide +kernel
theorem dX9_numbered_16 : decode cX9_numbered 16 = .ok (.iload_n 1, 1) := by decide +kernel
theorem dX9_numbered_17 : decode cX9_numbered 17 = .ok (.aaload, 1) := by decide +kernel
theorem dX9_numbered_18 : decode cX9_numbered 18 = .ok (.goto 4, 3) := by decide +kernel
theorem dX9_numbered_21 : decode cX9_numbered 21 = .ok (.aconst_null, 1) := by decide +kernel
theorem dX9_numbered_22 : decode cX9_numbered 22 = .ok (.areturn, 1) := by decide +kernel
theorem dX9_nameNumber_0 : decode cX9_nameNumber 0 = .ok (.iconst 0, 1) := by decide +kernel
theorem dX9_nameNumber_1 : decode cX9_nameNumber 1 = .ok (.istore_n 2, 1) := by decide +kernel
theorem dX9_nameNumber_2 : decode cX9_nameNumber 2 = .ok (.iload_n 2, 1) := by decide +kernel
theorem dX9_nameNumber_3 : decode cX9_nameNumber 3 = .ok (.aload_n 0, 1) := by decide +kernel
theorem dX9_nameNumber_4 : decode cX9_nameNumber 4 = .ok (.getfield 36, 3) := by decide +kernel
theorem dX9_nameNumber_7 : decode cX9_nameNumber 7 = .ok (.if_icmp .ge 24, 3) := by decide +kernel
theorem dX9_nameNumber_10 : decode cX9_nameNumber 10 = .ok (.aload_n 0, 1) := by decide +kernel
theorem dX9_nameNumber_11 : decode cX9_nameNumber 11 = .ok (.getfield 18, 3) := by decide +kernel
theorem dX9_nameNumber_14 : decode cX9_nameNumber 14 = .ok (.iload_n 2, 1) := by decide +kernel
theorem dX9_nameNumber_15 : decode cX9_nameNumber 15 = .ok (.aaload, 1) := by decide +kernel
theorem dX9_nameNumber_16 : decode cX9_nameNumber 16 = .ok (.getfield 60, 3) := by decide +kernel
theorem dX9_nameNumber_19 : decode cX9_nameNumber 19 = .ok (.iload_n 1, 1) := by decide +kernel
theorem dX9_nameNumber_20 : decode cX9_nameNumber 20 = .ok (.if_icmp .ne 5, 3) := by decide +kernel
theorem dX9_nameNumber_23 : decode cX9_nameNumber 23 = .ok (.iload_n 2, 1) := by decide +kernel
theorem dX9_nameNumber_24 : decode cX9_nameNumber 24 = .ok (.ireturn, 1) := by decide +kernel
theorem dX9_nameNumber_25 : decode cX9_nameNumber 25 = .ok (.iinc 2 1, 3) := by decide +kernel
theorem dX9_nameNumber_28 : decode cX9_nameNumber 28 = .ok (.goto (-26), 3) := by decide +kernel
theorem dX9_nameNumber_31 : decode cX9_nameNumber 31 = .ok (.iconst (-1), 1) := by decide +kernel
theorem dX9_nameNumber_32 : decode cX9_nameNumber 32 = .ok (.ireturn, 1) := by decide +kernel
theorem dX9_acceptSpare_0 : decode cX9_acceptSpare 0 = .ok (.aload_n 0, 1) := by decide +kernel
theorem dX9_acceptSpare_1 : decode cX9_acceptSpare 1 = .ok (.invokevirtual 63, 3) := by decide +kernel
theorem dX9_acceptSpare_4 : decode cX9_acceptSpare 4 = .ok (.istore_n 1, 1) := by decide +kernel
theorem dX9_acceptSpare_5 : decode cX9_acceptSpare 5 = .ok (.iload_n 1, 1) := by decide +kernel
theorem dX9_acceptSpare_6 : decode cX9_acceptSpare 6 = .ok (.aload_n 0, 1) := by decide +kernel
theorem dX9_acceptSpare_7 : decode cX9_acceptSpare 7 = .ok (.invokevirtual 48, 3) := by decide +kernel
theorem dX9_acceptSpare_10 : decode cX9_acceptSpare 10 = .ok (.if_icmp .ge 21, 3) := by decide +kernel
theorem dX9_acceptSpare_13 : decode cX9_acceptSpare 13 = .ok (.aload_n 0, 1) := by decide +kernel
theorem dX9_acceptSpare_14 : decode cX9_acceptSpare 14 = .ok (.iload_n 1, 1) := by decide +kernel
theorem dX9_acceptSpare_15 : decode cX9_acceptSpare 15 = .ok (.bipush 32, 2) := by decide +kernel
theorem dX9_acceptSpare_17 : decode cX9_acceptSpare 17 = .ok (.imul, 1) := by decide +kernel
theorem dX9_acceptSpare_18 : decode cX9_acceptSpare 18 = .ok (.aload_n 0, 1) := by decide +kernel
theorem dX9_acceptSpare_19 : decode cX9_acceptSpare 19 = .ok (.getfield 22, 3) := by decide +kernel
theorem dX9_acceptSpare_22 : decode cX9_acceptSpare 22 = .ok (.iload_n 1, 1) := by decide +kernel
theorem dX9_acceptSpare_23 : decode cX9_acceptSpare 23 = .ok (.iaload, 1) := by decide +kernel
theorem dX9_acceptSpare_24 : decode cX9_acceptSpare 24 = .ok (.iadd, 1) := by decide +kernel
theorem dX9_acceptSpare_25 : decode cX9_acceptSpare 25 = .ok (.putfield 39, 3) := by decide +kernel
theorem dX9_acceptSpare_28 : decode cX9_acceptSpare 28 = .ok (.bipush (-2), 2) := by decide +kernel
theorem dX9_acceptSpare_30 : decode cX9_acceptSpare 30 = .ok (.ireturn, 1) := by decide +kernel
theorem dX9_acceptSpare_31 : decode cX9_acceptSpare 31 = .ok (.aload_n 0, 1) := by decide +kernel
theorem dX9_acceptSpare_32 : decode cX9_acceptSpare 32 = .ok (.invokevirtual 66, 3) := by decide +kernel
theorem dX9_acceptSpare_35 : decode cX9_acceptSpare 35 = .ok (.ireturn, 1) := by decide +kernel
theorem dX9_leastSharedBits_0 : decode cX9_leastSharedBits 0 = .ok (.aload_n 0, 1) := by decide +kernel
theorem dX9_leastSharedBits_1 : decode cX9_leastSharedBits 1 = .ok (.invokevirtual 48, 3) := by decide +kernel
theorem dX9_leastSharedBits_4 : decode cX9_leastSharedBits 4 = .ok (.istore_n 1, 1) := by decide +kernel
theorem dX9_leastSharedBits_5 : decode cX9_leastSharedBits 5 = .ok (.iconst 0, 1) := by decide +kernel
theorem dX9_leastSharedBits_6 : decode cX9_leastSharedBits 6 = .ok (.istore_n 2, 1) := by decide +kernel
theorem dX9_leastSharedBits_7 : decode cX9_leastSharedBits 7 = .ok (.iload_n 2, 1) := by decide +kernel
theorem dX9_leastSharedBits_8 : decode cX9_leastSharedBits 8 = .ok (.aload_n 0, 1) := by decide +kernel
theorem dX9_leastSharedBits_9 : decode cX9_leastSharedBits 9 = .ok (.getfield 36, 3) := by decide +kernel
theorem dX9_leastSharedBits_12 : decode cX9_leastSharedBits 12 = .ok (.if_icmp .ge 65, 3) := by decide +kernel
theorem dX9_leastSharedBits_15 : decode cX9_leastSharedBits 15 = .ok (.aload_n 0, 1) := by decide +kernel
theorem dX9_leastSharedBits_16 : decode cX9_leastSharedBits 16 = .ok (.getfield 18, 3) := by decide +kernel
theorem dX9_leastSharedBits_19 : decode cX9_leastSharedBits 19 = .ok (.iload_n 2, 1) := by decide +kernel
theorem dX9_leastSharedBits_20 : decode cX9_leastSharedBits 20 = .ok (.aaload, 1) := by decide +kernel
theorem dX9_leastSharedBits_21 : decode cX9_leastSharedBits 21 = .ok (.astore_n 3, 1) := by decide +kernel
theorem dX9_leastSharedBits_22 : decode cX9_leastSharedBits 22 = .ok (.aload_n 3, 1) := by decide +kernel
theorem dX9_leastSharedBits_23 : decode cX9_leastSharedBits 23 = .ok (.getfield 69, 3) := by decide +kernel
theorem dX9_leastSharedBits_26 : decode cX9_leastSharedBits 26 = .ok (.aload_n 0, 1) := by decide +kernel
theorem dX9_leastSharedBits_27 : decode cX9_leastSharedBits 27 = .ok (.getfield 12, 3) := by decide +kernel
theorem dX9_leastSharedBits_30 : decode cX9_leastSharedBits 30 = .ok (.getfield 69, 3) := by decide +kernel
theorem dX9_leastSharedBits_33 : decode cX9_leastSharedBits 33 = .ok (.ixor, 1) := by decide +kernel
theorem dX9_leastSharedBits_34 : decode cX9_leastSharedBits 34 = .ok (.aload_n 3, 1) := by decide +kernel
theorem dX9_leastSharedBits_35 : decode cX9_leastSharedBits 35 = .ok (.getfield 72, 3) := by decide +kernel
theorem dX9_leastSharedBits_38 : decode cX9_leastSharedBits 38 = .ok (.iand, 1) := by decide +kernel
theorem dX9_leastSharedBits_39 : decode cX9_leastSharedBits 39 = .ok (.aload_n 0, 1) := by decide +kernel
theorem dX9_leastSharedBits_40 : decode cX9_leastSharedBits 40 = .ok (.getfield 12, 3) := by decide +kernel
theorem dX9_leastSharedBits_43 : decode cX9_leastSharedBits 43 = .ok (.getfield 72, 3) := by decide +kernel
theorem dX9_leastSharedBits_46 : decode cX9_leastSharedBits 46 = .ok (.iand, 1) := by decide +kernel
theorem dX9_leastSharedBits_47 : decode cX9_leastSharedBits 47 = .ok (.istore 4, 2) := by decide +kernel
theorem dX9_leastSharedBits_49 : decode cX9_leastSharedBits 49 = .ok (.iload 4, 2) := by decide +kernel
theorem dX9_leastSharedBits_51 : decode cX9_leastSharedBits 51 = .ok (.ifCond .ne 20, 3) := by decide +kernel
theorem dX9_leastSharedBits_54 : decode cX9_leastSharedBits 54 = .ok (.iload_n 1, 1) := by decide +kernel
theorem dX9_leastSharedBits_55 : decode cX9_leastSharedBits 55 = .ok (.aload_n 3, 1) := by decide +kernel
theorem dX9_leastSharedBits_56 : decode cX9_leastSharedBits 56 = .ok (.getfield 69, 3) := by decide +kernel
theorem dX9_leastSharedBits_59 : decode cX9_leastSharedBits 59 = .ok (.aload_n 0, 1) := by decide +kernel
theorem dX9_leastSharedBits_60 : decode cX9_leastSharedBits 60 = .ok (.getfield 12, 3) := by decide +kernel
theorem dX9_leastSharedBits_63 : decode cX9_leastSharedBits 63 = .ok (.getfield 69, 3) := by decide +kernel
theorem dX9_leastSharedBits_66 : decode cX9_leastSharedBits 66 = .ok (.ior, 1) := by decide +kernel
theorem dX9_leastSharedBits_67 : decode cX9_leastSharedBits 67 = .ok (.invokestatic 75, 3) := by decide +kernel
theorem dX9_leastSharedBits_70 : decode cX9_leastSharedBits 70 = .ok (.istore_n 1, 1) := by decide +kernel
theorem dX9_leastSharedBits_71 : decode cX9_leastSharedBits 71 = .ok (.iinc 2 1, 3) := by decide +kernel
theorem dX9_leastSharedBits_74 : decode cX9_leastSharedBits 74 = .ok (.goto (-67), 3) := by decide +kernel
theorem dX9_leastSharedBits_77 : decode cX9_leastSharedBits 77 = .ok (.iload_n 1, 1) := by decide +kernel
theorem dX9_leastSharedBits_78 : decode cX9_leastSharedBits 78 = .ok (.ireturn, 1) := by decide +kernel
theorem dX9_keepSpare_0 : decode cX9_keepSpare 0 = .ok (.aload_n 0, 1) := by decide +kernel
theorem dX9_keepSpare_1 : decode cX9_keepSpare 1 = .ok (.getfield 36, 3) := by decide +kernel
theorem dX9_keepSpare_4 : decode cX9_keepSpare 4 = .ok (.bipush 20, 2) := by decide +kernel
theorem dX9_keepSpare_6 : decode cX9_keepSpare 6 = .ok (.if_icmp .lt 6, 3) := by decide +kernel
theorem dX9_keepSpare_9 : decode cX9_keepSpare 9 = .ok (.bipush (-3), 2) := by decide +kernel
theorem dX9_keepSpare_11 : decode cX9_keepSpare 11 = .ok (.ireturn, 1) := by decide +kernel
theorem dX9_keepSpare_12 : decode cX9_keepSpare 12 = .ok (.aload_n 0, 1) := by decide +kernel
theorem dX9_keepSpare_13 : decode cX9_keepSpare 13 = .ok (.getfield 12, 3) := by decide +kernel
theorem dX9_keepSpare_16 : decode cX9_keepSpare 16 = .ok (.astore_n 1, 1) := by decide +kernel
theorem dX9_keepSpare_17 : decode cX9_keepSpare 17 = .ok (.aload_n 0, 1) := by decide +kernel
theorem dX9_keepSpare_18 : decode cX9_keepSpare 18 = .ok (.aload_n 0, 1) := by decide +kernel
theorem dX9_keepSpare_19 : decode cX9_keepSpare 19 = .ok (.getfield 18, 3) := by decide +kernel
theorem dX9_keepSpare_22 : decode cX9_keepSpare 22 = .ok (.aload_n 0, 1) := by decide +kernel
theorem dX9_keepSpare_23 : decode cX9_keepSpare 23 = .ok (.getfield 36, 3) := by decide +kernel
theorem dX9_keepSpare_26 : decode cX9_keepSpare 26 = .ok (.aaload, 1) := by decide +kernel
theorem dX9_keepSpare_27 : decode cX9_keepSpare 27 = .ok (.putfield 12, 3) := by decide +kernel
theorem dX9_keepSpare_30 : decode cX9_keepSpare 30 = .ok (.aload_n 0, 1) := by decide +kernel
theorem dX9_keepSpare_31 : decode cX9_keepSpare 31 = .ok (.getfield 18, 3) := by decide +kernel
theorem dX9_keepSpare_34 : decode cX9_keepSpare 34 = .ok (.aload_n 0, 1) := by decide +kernel
theorem dX9_keepSpare_35 : decode cX9_keepSpare 35 = .ok (.getfield 36, 3) := by decide +kernel
theorem dX9_keepSpare_38 : decode cX9_keepSpare 38 = .ok (.aload_n 1, 1) := by decide +kernel
theorem dX9_keepSpare_39 : decode cX9_keepSpare 39 = .ok (.aastore, 1) := by decide +kernel
theorem dX9_keepSpare_40 : decode cX9_keepSpare 40 = .ok (.aload_n 1, 1) := by decide +kernel
theorem dX9_keepSpare_41 : decode cX9_keepSpare 41 = .ok (.invokevirtual 81, 3) := by decide +kernel
theorem dX9_keepSpare_44 : decode cX9_keepSpare 44 = .ok (.aload_n 0, 1) := by decide +kernel
theorem dX9_keepSpare_45 : decode cX9_keepSpare 45 = .ok (.aload_n 1, 1) := by decide +kernel
theorem dX9_keepSpare_46 : decode cX9_keepSpare 46 = .ok (.aload_n 0, 1) := by decide +kernel
theorem dX9_keepSpare_47 : decode cX9_keepSpare 47 = .ok (.getfield 36, 3) := by decide +kernel
theorem dX9_keepSpare_50 : decode cX9_keepSpare 50 = .ok (.invokevirtual 84, 3) := by decide +kernel
theorem dX9_keepSpare_53 : decode cX9_keepSpare 53 = .ok (.aload_n 0, 1) := by decide +kernel
theorem dX9_keepSpare_54 : decode cX9_keepSpare 54 = .ok (.dup, 1) := by decide +kernel
theorem dX9_keepSpare_55 : decode cX9_keepSpare 55 = .ok (.getfield 36, 3) := by decide +kernel
theorem dX9_keepSpare_58 : decode cX9_keepSpare 58 = .ok (.iconst 1, 1) := by decide +kernel
theorem dX9_keepSpare_59 : decode cX9_keepSpare 59 = .ok (.iadd, 1) := by decide +kernel
theorem dX9_keepSpare_60 : decode cX9_keepSpare 60 = .ok (.putfield 36, 3) := by decide +kernel
theorem dX9_keepSpare_63 : decode cX9_keepSpare 63 = .ok (.aload_n 0, 1) := by decide +kernel
theorem dX9_keepSpare_64 : decode cX9_keepSpare 64 = .ok (.getfield 36, 3) := by decide +kernel
theorem dX9_keepSpare_67 : decode cX9_keepSpare 67 = .ok (.iconst 1, 1) := by decide +kernel
theorem dX9_keepSpare_68 : decode cX9_keepSpare 68 = .ok (.isub, 1) := by decide +kernel
theorem dX9_keepSpare_69 : decode cX9_keepSpare 69 = .ok (.ireturn, 1) := by decide +kernel
theorem dX9_removeLatest_0 : decode cX9_removeLatest 0 = .ok (.aload_n 0, 1) := by decide +kernel
theorem dX9_removeLatest_1 : decode cX9_removeLatest 1 = .ok (.getfield 36, 3) := by decide +kernel
theorem dX9_removeLatest_4 : decode cX9_removeLatest 4 = .ok (.ifCond .ne 6, 3) := by decide +kernel
theorem dX9_removeLatest_7 : decode cX9_removeLatest 7 = .ok (.bipush (-2), 2) := by decide +kernel
theorem dX9_removeLatest_9 : decode cX9_removeLatest 9 = .ok (.ireturn, 1) := by decide +kernel
theorem dX9_removeLatest_10 : decode cX9_removeLatest 10 = .ok (.aload_n 0, 1) := by decide +kernel
theorem dX9_removeLatest_11 : decode cX9_removeLatest 11 = .ok (.dup, 1) := by decide +kernel
theorem dX9_removeLatest_12 : decode cX9_removeLatest 12 = .ok (.getfield 36, 3) := by decide +kernel
theorem dX9_removeLatest_15 : decode cX9_removeLatest 15 = .ok (.iconst 1, 1) := by decide +kernel
theorem dX9_removeLatest_16 : decode cX9_removeLatest 16 = .ok (.isub, 1) := by decide +kernel
theorem dX9_removeLatest_17 : decode cX9_removeLatest 17 = .ok (.putfield 36, 3) := by decide +kernel
theorem dX9_removeLatest_20 : decode cX9_removeLatest 20 = .ok (.aload_n 0, 1) := by decide +kernel
theorem dX9_removeLatest_21 : decode cX9_removeLatest 21 = .ok (.aload_n 0, 1) := by decide +kernel
theorem dX9_removeLatest_22 : decode cX9_removeLatest 22 = .ok (.getfield 18, 3) := by decide +kernel
theorem dX9_removeLatest_25 : decode cX9_removeLatest 25 = .ok (.aload_n 0, 1) := by decide +kernel
theorem dX9_removeLatest_26 : decode cX9_removeLatest 26 = .ok (.getfield 36, 3) := by decide +kernel
theorem dX9_removeLatest_29 : decode cX9_removeLatest 29 = .ok (.aaload, 1) := by decide +kernel
theorem dX9_removeLatest_30 : decode cX9_removeLatest 30 = .ok (.iconst (-1), 1) := by decide +kernel
theorem dX9_removeLatest_31 : decode cX9_removeLatest 31 = .ok (.invokevirtual 84, 3) := by decide +kernel
theorem dX9_removeLatest_34 : decode cX9_removeLatest 34 = .ok (.aload_n 0, 1) := by decide +kernel
theorem dX9_removeLatest_35 : decode cX9_removeLatest 35 = .ok (.getfield 36, 3) := by decide +kernel
theorem dX9_removeLatest_38 : decode cX9_removeLatest 38 = .ok (.ireturn, 1) := by decide +kernel
theorem dX9_markBits_0 : decode cX9_markBits 0 = .ok (.iconst 0, 1) := by decide +kernel
theorem dX9_markBits_1 : decode cX9_markBits 1 = .ok (.istore_n 3, 1) := by decide +kernel
theorem dX9_markBits_2 : decode cX9_markBits 2 = .ok (.iload_n 3, 1) := by decide +kernel
theorem dX9_markBits_3 : decode cX9_markBits 3 = .ok (.aload_n 0, 1) := by decide +kernel
theorem dX9_markBits_4 : decode cX9_markBits 4 = .ok (.invokevirtual 48, 3) := by decide +kernel
theorem dX9_markBits_7 : decode cX9_markBits 7 = .ok (.if_icmp .ge 24, 3) := by decide +kernel
theorem dX9_markBits_10 : decode cX9_markBits 10 = .ok (.aload_n 1, 1) := by decide +kernel
theorem dX9_markBits_11 : decode cX9_markBits 11 = .ok (.iload_n 3, 1) := by decide +kernel
theorem dX9_markBits_12 : decode cX9_markBits 12 = .ok (.invokevirtual 88, 3) := by decide +kernel
theorem dX9_markBits_15 : decode cX9_markBits 15 = .ok (.ifCond .eq 10, 3) := by decide +kernel
theorem dX9_markBits_18 : decode cX9_markBits 18 = .ok (.aload_n 0, 1) := by decide +kernel
theorem dX9_markBits_19 : decode cX9_markBits 19 = .ok (.getfield 22, 3) := by decide +kernel
theorem dX9_markBits_22 : decode cX9_markBits 22 = .ok (.iload_n 3, 1) := by decide +kernel
theorem dX9_markBits_23 : decode cX9_markBits 23 = .ok (.iload_n 2, 1) := by decide +kernel
theorem dX9_markBits_24 : decode cX9_markBits 24 = .ok (.iastore, 1) := by decide +kernel
theorem dX9_markBits_25 : decode cX9_markBits 25 = .ok (.iinc 3 1, 3) := by decide +kernel
theorem dX9_markBits_28 : decode cX9_markBits 28 = .ok (.goto (-26), 3) := by decide +kernel
theorem dX9_markBits_31 : decode cX9_markBits 31 = .ok (.return_, 1) := by decide +kernel
theorem dX9_countHoles_0 : decode cX9_countHoles 0 = .ok (.aload_n 0, 1) := by decide +kernel
theorem dX9_countHoles_1 : decode cX9_countHoles 1 = .ok (.invokevirtual 48, 3) := by decide +kernel
theorem dX9_countHoles_4 : decode cX9_countHoles 4 = .ok (.istore_n 1, 1) := by decide +kernel
theorem dX9_countHoles_5 : decode cX9_countHoles 5 = .ok (.iconst 0, 1) := by decide +kernel
theorem dX9_countHoles_6 : decode cX9_countHoles 6 = .ok (.istore_n 2, 1) := by decide +kernel
theorem dX9_countHoles_7 : decode cX9_countHoles 7 = .ok (.iload_n 2, 1) := by decide +kernel
theorem dX9_countHoles_8 : decode cX9_countHoles 8 = .ok (.aload_n 0, 1) := by decide +kernel
theorem dX9_countHoles_9 : decode cX9_countHoles 9 = .ok (.getfield 36, 3) := by decide +kernel
theorem dX9_countHoles_12 : decode cX9_countHoles 12 = .ok (.if_icmp .ge 31, 3) := by decide +kernel
theorem dX9_countHoles_15 : decode cX9_countHoles 15 = .ok (.iload_n 1, 1) := by decide +kernel
theorem dX9_countHoles_16 : decode cX9_countHoles 16 = .ok (.iconst 1, 1) := by decide +kernel
theorem dX9_countHoles_17 : decode cX9_countHoles 17 = .ok (.aload_n 0, 1) := by decide +kernel
theorem dX9_countHoles_18 : decode cX9_countHoles 18 = .ok (.getfield 33, 3) := by decide +kernel
theorem dX9_countHoles_21 : decode cX9_countHoles 21 = .ok (.aload_n 0, 1) := by decide +kernel
theorem dX9_countHoles_22 : decode cX9_countHoles 22 = .ok (.getfield 18, 3) := by decide +kernel
theorem dX9_countHoles_25 : decode cX9_countHoles 25 = .ok (.iload_n 2, 1) := by decide +kernel
theorem dX9_countHoles_26 : decode cX9_countHoles 26 = .ok (.aaload, 1) := by decide +kernel
theorem dX9_countHoles_27 : decode cX9_countHoles 27 = .ok (.getfield 72, 3) := by decide +kernel
theorem dX9_countHoles_30 : decode cX9_countHoles 30 = .ok (.invokestatic 92, 3) := by decide +kernel
theorem dX9_countHoles_33 : decode cX9_countHoles 33 = .ok (.isub, 1) := by decide +kernel
theorem dX9_countHoles_34 : decode cX9_countHoles 34 = .ok (.ishl, 1) := by decide +kernel
theorem dX9_countHoles_35 : decode cX9_countHoles 35 = .ok (.isub, 1) := by decide +kernel
theorem dX9_countHoles_36 : decode cX9_countHoles 36 = .ok (.istore_n 1, 1) := by decide +kernel
theorem dX9_countHoles_37 : decode cX9_countHoles 37 = .ok (.iinc 2 1, 3) := by decide +kernel
theorem dX9_countHoles_40 : decode cX9_countHoles 40 = .ok (.goto (-33), 3) := by decide +kernel
theorem dX9_countHoles_43 : decode cX9_countHoles 43 = .ok (.iload_n 1, 1) := by decide +kernel
theorem dX9_countHoles_44 : decode cX9_countHoles 44 = .ok (.ireturn, 1) := by decide +kernel
theorem dX9_firstHole_0 : decode cX9_firstHole 0 = .ok (.iload_n 1, 1) := by decide +kernel
theorem dX9_firstHole_1 : decode cX9_firstHole 1 = .ok (.istore_n 2, 1) := by decide +kernel
theorem dX9_firstHole_2 : decode cX9_firstHole 2 = .ok (.iload_n 2, 1) := by decide +kernel
theorem dX9_firstHole_3 : decode cX9_firstHole 3 = .ok (.aload_n 0, 1) := by decide +kernel
theorem dX9_firstHole_4 : decode cX9_firstHole 4 = .ok (.invokevirtual 48, 3) := by decide +kernel
theorem dX9_firstHole_7 : decode cX9_firstHole 7 = .ok (.if_icmp .ge 21, 3) := by decide +kernel
theorem dX9_firstHole_10 : decode cX9_firstHole 10 = .ok (.aload_n 0, 1) := by decide +kernel
theorem dX9_firstHole_11 : decode cX9_firstHole 11 = .ok (.getfield 22, 3) := by decide +kernel
theorem dX9_firstHole_14 : decode cX9_firstHole 14 = .ok (.iload_n 2, 1) := by decide +kernel
theorem dX9_firstHole_15 : decode cX9_firstHole 15 = .ok (.iaload, 1) := by decide +kernel
theorem dX9_firstHole_16 : decode cX9_firstHole 16 = .ok (.iconst (-1), 1) := by decide +kernel
theorem dX9_firstHole_17 : decode cX9_firstHole 17 = .ok (.if_icmp .ne 5, 3) := by decide +kernel
theorem dX9_firstHole_20 : decode cX9_firstHole 20 = .ok (.iload_n 2, 1) := by decide +kernel
theorem dX9_firstHole_21 : decode cX9_firstHole 21 = .ok (.ireturn, 1) := by decide +kernel
theorem dX9_firstHole_22 : decode cX9_firstHole 22 = .ok (.iinc 2 1, 3) := by decide +kernel
theorem dX9_firstHole_25 : decode cX9_firstHole 25 = .ok (.goto (-23), 3) := by decide +kernel
theorem dX9_firstHole_28 : decode cX9_firstHole 28 = .ok (.bipush (-4), 2) := by decide +kernel
theorem dX9_firstHole_30 : decode cX9_firstHole 30 = .ok (.ireturn, 1) := by decide +kernel
theorem dX9_countPairs_0 : decode cX9_countPairs 0 = .ok (.iconst 0, 1) := by decide +kernel
theorem dX9_countPairs_1 : decode cX9_countPairs 1 = .ok (.istore 5, 2) := by decide +kernel
theorem dX9_countPairs_3 : decode cX9_countPairs 3 = .ok (.iconst 0, 1) := by decide +kernel
theorem dX9_countPairs_4 : decode cX9_countPairs 4 = .ok (.istore 6, 2) := by decide +kernel
theorem dX9_countPairs_6 : decode cX9_countPairs 6 = .ok (.iload 6, 2) := by decide +kernel
theorem dX9_countPairs_8 : decode cX9_countPairs 8 = .ok (.iconst 1, 1) := by decide +kernel
theorem dX9_countPairs_9 : decode cX9_countPairs 9 = .ok (.iadd, 1) := by decide +kernel
theorem dX9_countPairs_10 : decode cX9_countPairs 10 = .ok (.iload 4, 2) := by decide +kernel
theorem dX9_countPairs_12 : decode cX9_countPairs 12 = .ok (.if_icmp .ge 58, 3) := by decide +kernel
theorem dX9_countPairs_15 : decode cX9_countPairs 15 = .ok (.aload_n 0, 1) := by decide +kernel
theorem dX9_countPairs_16 : decode cX9_countPairs 16 = .ok (.aload_n 1, 1) := by decide +kernel
theorem dX9_countPairs_17 : decode cX9_countPairs 17 = .ok (.iload 6, 2) := by decide +kernel
theorem dX9_countPairs_19 : decode cX9_countPairs 19 = .ok (.iaload, 1) := by decide +kernel
theorem dX9_countPairs_20 : decode cX9_countPairs 20 = .ok (.invokevirtual 52, 3) := by decide +kernel
theorem dX9_countPairs_23 : decode cX9_countPairs 23 = .ok (.iload_n 2, 1) := by decide +kernel
theorem dX9_countPairs_24 : decode cX9_countPairs 24 = .ok (.if_icmp .ne 40, 3) := by decide +kernel
theorem dX9_countPairs_27 : decode cX9_countPairs 27 = .ok (.aload_n 0, 1) := by decide +kernel
theorem dX9_countPairs_28 : decode cX9_countPairs 28 = .ok (.aload_n 1, 1) := by decide +kernel
theorem dX9_countPairs_29 : decode cX9_countPairs 29 = .ok (.iload 6, 2) := by decide +kernel
theorem dX9_countPairs_31 : decode cX9_countPairs 31 = .ok (.iconst 1, 1) := by decide +kernel
theorem dX9_countPairs_32 : decode cX9_countPairs 32 = .ok (.iadd, 1) := by decide +kernel
theorem dX9_countPairs_33 : decode cX9_countPairs 33 = .ok (.iaload, 1) := by decide +kernel
theorem dX9_countPairs_34 : decode cX9_countPairs 34 = .ok (.invokevirtual 52, 3) := by decide +kernel
theorem dX9_countPairs_37 : decode cX9_countPairs 37 = .ok (.iload_n 3, 1) := by decide +kernel
theorem dX9_countPairs_38 : decode cX9_countPairs 38 = .ok (.if_icmp .ne 26, 3) := by decide +kernel
theorem dX9_countPairs_41 : decode cX9_countPairs 41 = .ok (.aload_n 0, 1) := by decide +kernel
theorem dX9_countPairs_42 : decode cX9_countPairs 42 = .ok (.aload_n 1, 1) := by decide +kernel
theorem dX9_countPairs_43 : decode cX9_countPairs 43 = .ok (.iload 6, 2) := by decide +kernel
theorem dX9_countPairs_45 : decode cX9_countPairs 45 = .ok (.iaload, 1) := by decide +kernel
theorem dX9_countPairs_46 : decode cX9_countPairs 46 = .ok (.aload_n 1, 1) := by decide +kernel
theorem dX9_countPairs_47 : decode cX9_countPairs 47 = .ok (.iload 6, 2) := by decide +kernel
theorem dX9_countPairs_49 : decode cX9_countPairs 49 = .ok (.iconst 1, 1) := by decide +kernel
theorem dX9_countPairs_50 : decode cX9_countPairs 50 = .ok (.iadd, 1) := by decide +kernel
theorem dX9_countPairs_51 : decode cX9_countPairs 51 = .ok (.iaload, 1) := by decide +kernel
theorem dX9_countPairs_52 : decode cX9_countPairs 52 = .ok (.invokevirtual 97, 3) := by decide +kernel
theorem dX9_countPairs_55 : decode cX9_countPairs 55 = .ok (.ifCond .eq 9, 3) := by decide +kernel
theorem dX9_countPairs_58 : decode cX9_countPairs 58 = .ok (.iinc 5 1, 3) := by decide +kernel
theorem dX9_countPairs_61 : decode cX9_countPairs 61 = .ok (.iinc 6 1, 3) := by decide +kernel
theorem dX9_countPairs_64 : decode cX9_countPairs 64 = .ok (.iinc 6 1, 3) := by decide +kernel
theorem dX9_countPairs_67 : decode cX9_countPairs 67 = .ok (.goto (-61), 3) := by decide +kernel
theorem dX9_countPairs_70 : decode cX9_countPairs 70 = .ok (.iload 5, 2) := by decide +kernel
theorem dX9_countPairs_72 : decode cX9_countPairs 72 = .ok (.ireturn, 1) := by decide +kernel
theorem dX9_tellAlike_0 : decode cX9_tellAlike 0 = .ok (.aload_n 0, 1) := by decide +kernel
theorem dX9_tellAlike_1 : decode cX9_tellAlike 1 = .ok (.iload_n 1, 1) := by decide +kernel
theorem dX9_tellAlike_2 : decode cX9_tellAlike 2 = .ok (.invokevirtual 101, 3) := by decide +kernel
theorem dX9_tellAlike_5 : decode cX9_tellAlike 5 = .ok (.astore_n 3, 1) := by decide +kernel
theorem dX9_tellAlike_6 : decode cX9_tellAlike 6 = .ok (.aload_n 0, 1) := by decide +kernel
theorem dX9_tellAlike_7 : decode cX9_tellAlike 7 = .ok (.iload_n 2, 1) := by decide +kernel
theorem dX9_tellAlike_8 : decode cX9_tellAlike 8 = .ok (.invokevirtual 101, 3) := by decide +kernel
theorem dX9_tellAlike_11 : decode cX9_tellAlike 11 = .ok (.astore 4, 2) := by decide +kernel
theorem dX9_tellAlike_13 : decode cX9_tellAlike 13 = .ok (.aload_n 3, 1) := by decide +kernel
theorem dX9_tellAlike_14 : decode cX9_tellAlike 14 = .ok (.ifnull 8, 3) := by decide +kernel
theorem dX9_tellAlike_17 : decode cX9_tellAlike 17 = .ok (.aload 4, 2) := by decide +kernel
theorem dX9_tellAlike_19 : decode cX9_tellAlike 19 = .ok (.ifnonnull 5, 3) := by decide +kernel
theorem dX9_tellAlike_22 : decode cX9_tellAlike 22 = .ok (.iconst 0, 1) := by decide +kernel
theorem dX9_tellAlike_23 : decode cX9_tellAlike 23 = .ok (.ireturn, 1) := by decide +kernel
theorem dX9_tellAlike_24 : decode cX9_tellAlike 24 = .ok (.iconst 0, 1) := by decide +kernel
theorem dX9_tellAlike_25 : decode cX9_tellAlike 25 = .ok (.istore 5, 2) := by decide +kernel
theorem dX9_tellAlike_27 : decode cX9_tellAlike 27 = .ok (.iload 5, 2) := by decide +kernel
theorem dX9_tellAlike_29 : decode cX9_tellAlike 29 = .ok (.iconst 3, 1) := by decide +kernel
theorem dX9_tellAlike_30 : decode cX9_tellAlike 30 = .ok (.if_icmp .gt 48, 3) := by decide +kernel
theorem dX9_tellAlike_33 : decode cX9_tellAlike 33 = .ok (.aload_n 3, 1) := by decide +kernel
theorem dX9_tellAlike_34 : decode cX9_tellAlike 34 = .ok (.iload 5, 2) := by decide +kernel
theorem dX9_tellAlike_36 : decode cX9_tellAlike 36 = .ok (.invokevirtual 104, 3) := by decide +kernel
theorem dX9_tellAlike_39 : decode cX9_tellAlike 39 = .ok (.ifCond .eq 33, 3) := by decide +kernel
theorem dX9_tellAlike_42 : decode cX9_tellAlike 42 = .ok (.aload 4, 2) := by decide +kernel
theorem dX9_tellAlike_44 : decode cX9_tellAlike 44 = .ok (.iload 5, 2) := by decide +kernel
theorem dX9_tellAlike_46 : decode cX9_tellAlike 46 = .ok (.invokevirtual 104, 3) := by decide +kernel
theorem dX9_tellAlike_49 : decode cX9_tellAlike 49 = .ok (.ifCond .eq 23, 3) := by decide +kernel
theorem dX9_tellAlike_52 : decode cX9_tellAlike 52 = .ok (.aload_n 3, 1) := by decide +kernel
theorem dX9_tellAlike_53 : decode cX9_tellAlike 53 = .ok (.iload_n 1, 1) := by decide +kernel
theorem dX9_tellAlike_54 : decode cX9_tellAlike 54 = .ok (.iload 5, 2) := by decide +kernel
theorem dX9_tellAlike_56 : decode cX9_tellAlike 56 = .ok (.invokevirtual 107, 3) := by decide +kernel
theorem dX9_tellAlike_59 : decode cX9_tellAlike 59 = .ok (.aload 4, 2) := by decide +kernel
theorem dX9_tellAlike_61 : decode cX9_tellAlike 61 = .ok (.iload_n 2, 1) := by decide +kernel
theorem dX9_tellAlike_62 : decode cX9_tellAlike 62 = .ok (.iload 5, 2) := by decide +kernel
theorem dX9_tellAlike_64 : decode cX9_tellAlike 64 = .ok (.invokevirtual 107, 3) := by decide +kernel
theorem dX9_tellAlike_67 : decode cX9_tellAlike 67 = .ok (.if_icmp .eq 5, 3) := by decide +kernel
theorem dX9_tellAlike_70 : decode cX9_tellAlike 70 = .ok (.iconst 0, 1) := by decide +kernel
theorem dX9_tellAlike_71 : decode cX9_tellAlike 71 = .ok (.ireturn, 1) := by decide +kernel
theorem dX9_tellAlike_72 : decode cX9_tellAlike 72 = .ok (.iinc 5 1, 3) := by decide +kernel
theorem dX9_tellAlike_75 : decode cX9_tellAlike 75 = .ok (.goto (-48), 3) := by decide +kernel
theorem dX9_tellAlike_78 : decode cX9_tellAlike 78 = .ok (.iconst 1, 1) := by decide +kernel
theorem dX9_tellAlike_79 : decode cX9_tellAlike 79 = .ok (.ireturn, 1) := by decide +kernel
theorem dX9_bestPair_0 : decode cX9_bestPair 0 = .ok (.bipush (-4), 2) := by decide +kernel
theorem dX9_bestPair_2 : decode cX9_bestPair 2 = .ok (.istore_n 3, 1) := by decide +kernel
theorem dX9_bestPair_3 : decode cX9_bestPair 3 = .ok (.iconst 0, 1) := by decide +kernel
theorem dX9_bestPair_4 : decode cX9_bestPair 4 = .ok (.istore 4, 2) := by decide +kernel
theorem dX9_bestPair_6 : decode cX9_bestPair 6 = .ok (.iconst 0, 1) := by decide +kernel
theorem dX9_bestPair_7 : decode cX9_bestPair 7 = .ok (.istore 5, 2) := by decide +kernel
theorem dX9_bestPair_9 : decode cX9_bestPair 9 = .ok (.iload 5, 2) := by decide +kernel
theorem dX9_bestPair_11 : decode cX9_bestPair 11 = .ok (.aload_n 0, 1) := by decide +kernel
theorem dX9_bestPair_12 : decode cX9_bestPair 12 = .ok (.getfield 36, 3) := by decide +kernel
theorem dX9_bestPair_15 : decode cX9_bestPair 15 = .ok (.if_icmp .ge 80, 3) := by decide +kernel
theorem dX9_bestPair_18 : decode cX9_bestPair 18 = .ok (.iconst 0, 1) := by decide +kernel
theorem dX9_bestPair_19 : decode cX9_bestPair 19 = .ok (.istore 6, 2) := by decide +kernel
theorem dX9_bestPair_21 : decode cX9_bestPair 21 = .ok (.iload 6, 2) := by decide +kernel
theorem dX9_bestPair_23 : decode cX9_bestPair 23 = .ok (.aload_n 0, 1) := by decide +kernel
theorem dX9_bestPair_24 : decode cX9_bestPair 24 = .ok (.getfield 36, 3) := by decide +kernel
theorem dX9_bestPair_27 : decode cX9_bestPair 27 = .ok (.if_icmp .ge 62, 3) := by decide +kernel
theorem dX9_bestPair_30 : decode cX9_bestPair 30 = .ok (.aload_n 0, 1) := by decide +kernel
theorem dX9_bestPair_31 : decode cX9_bestPair 31 = .ok (.aload_n 1, 1) := by decide +kernel
theorem dX9_bestPair_32 : decode cX9_bestPair 32 = .ok (.iload 5, 2) := by decide +kernel
theorem dX9_bestPair_34 : decode cX9_bestPair 34 = .ok (.iload 6, 2) := by decide +kernel
theorem dX9_bestPair_36 : decode cX9_bestPair 36 = .ok (.iload_n 2, 1) := by decide +kernel
theorem dX9_bestPair_37 : decode cX9_bestPair 37 = .ok (.invokevirtual 110, 3) := by decide +kernel
theorem dX9_bestPair_40 : decode cX9_bestPair 40 = .ok (.istore 7, 2) := by decide +kernel
theorem dX9_bestPair_42 : decode cX9_bestPair 42 = .ok (.iload 7, 2) := by decide +kernel
theorem dX9_bestPair_44 : decode cX9_bestPair 44 = .ok (.iload 4, 2) := by decide +kernel
theorem dX9_bestPair_46 : decode cX9_bestPair 46 = .ok (.if_icmp .le 37, 3) := by decide +kernel
theorem dX9_bestPair_49 : decode cX9_bestPair 49 = .ok (.aload_n 0, 1) := by decide +kernel
theorem dX9_bestPair_50 : decode cX9_bestPair 50 = .ok (.aload_n 0, 1) := by decide +kernel
theorem dX9_bestPair_51 : decode cX9_bestPair 51 = .ok (.getfield 18, 3) := by decide +kernel
theorem dX9_bestPair_54 : decode cX9_bestPair 54 = .ok (.iload 5, 2) := by decide +kernel
theorem dX9_bestPair_56 : decode cX9_bestPair 56 = .ok (.aaload, 1) := by decide +kernel
theorem dX9_bestPair_57 : decode cX9_bestPair 57 = .ok (.aload_n 0, 1) := by decide +kernel
theorem dX9_bestPair_58 : decode cX9_bestPair 58 = .ok (.getfield 18, 3) := by decide +kernel
theorem dX9_bestPair_61 : decode cX9_bestPair 61 = .ok (.iload 6, 2) := by decide +kernel
theorem dX9_bestPair_63 : decode cX9_bestPair 63 = .ok (.aaload, 1) := by decide +kernel
theorem dX9_bestPair_64 : decode cX9_bestPair 64 = .ok (.invokevirtual 114, 3) := by decide +kernel
theorem dX9_bestPair_67 : decode cX9_bestPair 67 = .ok (.ifCond .lt 16, 3) := by decide +kernel
theorem dX9_bestPair_70 : decode cX9_bestPair 70 = .ok (.iload 7, 2) := by decide +kernel
theorem dX9_bestPair_72 : decode cX9_bestPair 72 = .ok (.istore 4, 2) := by decide +kernel
theorem dX9_bestPair_74 : decode cX9_bestPair 74 = .ok (.bipush 20, 2) := by decide +kernel
theorem dX9_bestPair_76 : decode cX9_bestPair 76 = .ok (.iload 5, 2) := by decide +kernel
theorem dX9_bestPair_78 : decode cX9_bestPair 78 = .ok (.imul, 1) := by decide +kernel
theorem dX9_bestPair_79 : decode cX9_bestPair 79 = .ok (.iload 6, 2) := by decide +kernel
theorem dX9_bestPair_81 : decode cX9_bestPair 81 = .ok (.iadd, 1) := by decide +kernel
theorem dX9_bestPair_82 : decode cX9_bestPair 82 = .ok (.istore_n 3, 1) := by decide +kernel
theorem dX9_bestPair_83 : decode cX9_bestPair 83 = .ok (.iinc 6 1, 3) := by decide +kernel
theorem dX9_bestPair_86 : decode cX9_bestPair 86 = .ok (.goto (-65), 3) := by decide +kernel
theorem dX9_bestPair_89 : decode cX9_bestPair 89 = .ok (.iinc 5 1, 3) := by decide +kernel
theorem dX9_bestPair_92 : decode cX9_bestPair 92 = .ok (.goto (-83), 3) := by decide +kernel
theorem dX9_bestPair_95 : decode cX9_bestPair 95 = .ok (.iload_n 3, 1) := by decide +kernel
theorem dX9_bestPair_96 : decode cX9_bestPair 96 = .ok (.ireturn, 1) := by decide +kernel
theorem dX9_roomFor_0 : decode cX9_roomFor 0 = .ok (.aload_n 1, 1) := by decide +kernel
theorem dX9_roomFor_1 : decode cX9_roomFor 1 = .ok (.aload_n 2, 1) := by decide +kernel
theorem dX9_roomFor_2 : decode cX9_roomFor 2 = .ok (.invokestatic 118, 3) := by decide +kernel
theorem dX9_roomFor_5 : decode cX9_roomFor 5 = .ok (.istore_n 3, 1) := by decide +kernel
theorem dX9_roomFor_6 : decode cX9_roomFor 6 = .ok (.iload_n 3, 1) := by decide +kernel
theorem dX9_roomFor_7 : decode cX9_roomFor 7 = .ok (.aload_n 0, 1) := by decide +kernel
theorem dX9_roomFor_8 : decode cX9_roomFor 8 = .ok (.getfield 33, 3) := by decide +kernel
theorem dX9_roomFor_11 : decode cX9_roomFor 11 = .ok (.if_icmp .ge 11, 3) := by decide +kernel
theorem dX9_roomFor_14 : decode cX9_roomFor 14 = .ok (.aload_n 1, 1) := by decide +kernel
theorem dX9_roomFor_15 : decode cX9_roomFor 15 = .ok (.aload_n 2, 1) := by decide +kernel
theorem dX9_roomFor_16 : decode cX9_roomFor 16 = .ok (.invokestatic 121, 3) := by decide +kernel
theorem dX9_roomFor_19 : decode cX9_roomFor 19 = .ok (.ifCond .ne 6, 3) := by decide +kernel
theorem dX9_roomFor_22 : decode cX9_roomFor 22 = .ok (.bipush (-2), 2) := by decide +kernel
theorem dX9_roomFor_24 : decode cX9_roomFor 24 = .ok (.ireturn, 1) := by decide +kernel
theorem dX9_roomFor_25 : decode cX9_roomFor 25 = .ok (.iconst 1, 1) := by decide +kernel
theorem dX9_roomFor_26 : decode cX9_roomFor 26 = .ok (.iload_n 3, 1) := by decide +kernel
theorem dX9_roomFor_27 : decode cX9_roomFor 27 = .ok (.ishl, 1) := by decide +kernel
theorem dX9_roomFor_28 : decode cX9_roomFor 28 = .ok (.istore 4, 2) := by decide +kernel
theorem dX9_roomFor_30 : decode cX9_roomFor 30 = .ok (.iconst 0, 1) := by decide +kernel
theorem dX9_roomFor_31 : decode cX9_roomFor 31 = .ok (.istore 5, 2) := by decide +kernel
theorem dX9_roomFor_33 : decode cX9_roomFor 33 = .ok (.iload 5, 2) := by decide +kernel
theorem dX9_roomFor_35 : decode cX9_roomFor 35 = .ok (.aload_n 0, 1) := by decide +kernel
theorem dX9_roomFor_36 : decode cX9_roomFor 36 = .ok (.invokevirtual 48, 3) := by decide +kernel
theorem dX9_roomFor_39 : decode cX9_roomFor 39 = .ok (.if_icmp .ge 27, 3) := by decide +kernel
theorem dX9_roomFor_42 : decode cX9_roomFor 42 = .ok (.aload_n 0, 1) := by decide +kernel
theorem dX9_roomFor_43 : decode cX9_roomFor 43 = .ok (.iload 5, 2) := by decide +kernel
theorem dX9_roomFor_45 : decode cX9_roomFor 45 = .ok (.iload 4, 2) := by decide +kernel
theorem dX9_roomFor_47 : decode cX9_roomFor 47 = .ok (.invokevirtual 125, 3) := by decide +kernel
theorem dX9_roomFor_50 : decode cX9_roomFor 50 = .ok (.ifCond .eq 6, 3) := by decide +kernel
theorem dX9_roomFor_53 : decode cX9_roomFor 53 = .ok (.iload 5, 2) := by decide +kernel
theorem dX9_roomFor_55 : decode cX9_roomFor 55 = .ok (.ireturn, 1) := by decide +kernel
theorem dX9_roomFor_56 : decode cX9_roomFor 56 = .ok (.iload 5, 2) := by decide +kernel
theorem dX9_roomFor_58 : decode cX9_roomFor 58 = .ok (.iload 4, 2) := by decide +kernel
theorem dX9_roomFor_60 : decode cX9_roomFor 60 = .ok (.iadd, 1) := by decide +kernel
theorem dX9_roomFor_61 : decode cX9_roomFor 61 = .ok (.istore 5, 2) := by decide +kernel
theorem dX9_roomFor_63 : decode cX9_roomFor 63 = .ok (.goto (-30), 3) := by decide +kernel
theorem dX9_roomFor_66 : decode cX9_roomFor 66 = .ok (.bipush (-2), 2) := by decide +kernel
theorem dX9_roomFor_68 : decode cX9_roomFor 68 = .ok (.ireturn, 1) := by decide +kernel
theorem dX9_canFollow_0 : decode cX9_canFollow 0 = .ok (.aload_n 0, 1) := by decide +kernel
theorem dX9_canFollow_1 : decode cX9_canFollow 1 = .ok (.getfield 128, 3) := by decide +kernel
theorem dX9_canFollow_4 : decode cX9_canFollow 4 = .ok (.ifCond .ne 35, 3) := by decide +kernel
theorem dX9_canFollow_7 : decode cX9_canFollow 7 = .ok (.aload_n 1, 1) := by decide +kernel
theorem dX9_canFollow_8 : decode cX9_canFollow 8 = .ok (.getfield 128, 3) := by decide +kernel
theorem dX9_canFollow_11 : decode cX9_canFollow 11 = .ok (.ifCond .ne 28, 3) := by decide +kernel
theorem dX9_canFollow_14 : decode cX9_canFollow 14 = .ok (.aload_n 0, 1) := by decide +kernel
theorem dX9_canFollow_15 : decode cX9_canFollow 15 = .ok (.getfield 131, 3) := by decide +kernel
theorem dX9_canFollow_18 : decode cX9_canFollow 18 = .ok (.aload_n 0, 1) := by decide +kernel
theorem dX9_canFollow_19 : decode cX9_canFollow 19 = .ok (.getfield 134, 3) := by decide +kernel
theorem dX9_canFollow_22 : decode cX9_canFollow 22 = .ok (.ior, 1) := by decide +kernel
theorem dX9_canFollow_23 : decode cX9_canFollow 23 = .ok (.aload_n 1, 1) := by decide +kernel
theorem dX9_canFollow_24 : decode cX9_canFollow 24 = .ok (.getfield 131, 3) := by decide +kernel
theorem dX9_canFollow_27 : decode cX9_canFollow 27 = .ok (.ior, 1) := by decide +kernel
theorem dX9_canFollow_28 : decode cX9_canFollow 28 = .ok (.aload_n 1, 1) := by decide +kernel
theorem dX9_canFollow_29 : decode cX9_canFollow 29 = .ok (.getfield 134, 3) := by decide +kernel
theorem dX9_canFollow_32 : decode cX9_canFollow 32 = .ok (.ior, 1) := by decide +kernel
theorem dX9_canFollow_33 : decode cX9_canFollow 33 = .ok (.bipush 16, 2) := by decide +kernel
theorem dX9_canFollow_35 : decode cX9_canFollow 35 = .ok (.iand, 1) := by decide +kernel
theorem dX9_canFollow_36 : decode cX9_canFollow 36 = .ok (.ifCond .eq 5, 3) := by decide +kernel
theorem dX9_canFollow_39 : decode cX9_canFollow 39 = .ok (.iconst 0, 1) := by decide +kernel
theorem dX9_canFollow_40 : decode cX9_canFollow 40 = .ok (.ireturn, 1) := by decide +kernel
theorem dX9_canFollow_41 : decode cX9_canFollow 41 = .ok (.aload_n 0, 1) := by decide +kernel
theorem dX9_canFollow_42 : decode cX9_canFollow 42 = .ok (.getfield 137, 3) := by decide +kernel
theorem dX9_canFollow_45 : decode cX9_canFollow 45 = .ok (.aload_n 1, 1) := by decide +kernel
theorem dX9_canFollow_46 : decode cX9_canFollow 46 = .ok (.getfield 137, 3) := by decide +kernel
theorem dX9_canFollow_49 : decode cX9_canFollow 49 = .ok (.iadd, 1) := by decide +kernel
theorem dX9_canFollow_50 : decode cX9_canFollow 50 = .ok (.iconst 3, 1) := by decide +kernel
theorem dX9_canFollow_51 : decode cX9_canFollow 51 = .ok (.if_icmp .gt 17, 3) := by decide +kernel
theorem dX9_canFollow_54 : decode cX9_canFollow 54 = .ok (.aload_n 0, 1) := by decide +kernel
theorem dX9_canFollow_55 : decode cX9_canFollow 55 = .ok (.getfield 140, 3) := by decide +kernel
theorem dX9_canFollow_58 : decode cX9_canFollow 58 = .ok (.aload_n 1, 1) := by decide +kernel
theorem dX9_canFollow_59 : decode cX9_canFollow 59 = .ok (.getfield 140, 3) := by decide +kernel
theorem dX9_canFollow_62 : decode cX9_canFollow 62 = .ok (.iadd, 1) := by decide +kernel
theorem dX9_canFollow_63 : decode cX9_canFollow 63 = .ok (.bipush 10, 2) := by decide +kernel
theorem dX9_canFollow_65 : decode cX9_canFollow 65 = .ok (.if_icmp .le 5, 3) := by decide +kernel
theorem dX9_canFollow_68 : decode cX9_canFollow 68 = .ok (.iconst 0, 1) := by decide +kernel
theorem dX9_canFollow_69 : decode cX9_canFollow 69 = .ok (.ireturn, 1) := by decide +kernel
theorem dX9_canFollow_70 : decode cX9_canFollow 70 = .ok (.aload_n 0, 1) := by decide +kernel
theorem dX9_canFollow_71 : decode cX9_canFollow 71 = .ok (.iconst 3, 1) := by decide +kernel
theorem dX9_canFollow_72 : decode cX9_canFollow 72 = .ok (.invokevirtual 104, 3) := by decide +kernel
theorem dX9_canFollow_75 : decode cX9_canFollow 75 = .ok (.ifCond .eq 24, 3) := by decide +kernel
theorem dX9_canFollow_78 : decode cX9_canFollow 78 = .ok (.aload_n 1, 1) := by decide +kernel
theorem dX9_canFollow_79 : decode cX9_canFollow 79 = .ok (.iconst 3, 1) := by decide +kernel
theorem dX9_canFollow_80 : decode cX9_canFollow 80 = .ok (.invokevirtual 104, 3) := by decide +kernel
theorem dX9_canFollow_83 : decode cX9_canFollow 83 = .ok (.ifCond .eq 16, 3) := by decide +kernel
theorem dX9_canFollow_86 : decode cX9_canFollow 86 = .ok (.aload_n 0, 1) := by decide +kernel
theorem dX9_canFollow_87 : decode cX9_canFollow 87 = .ok (.iconst 3, 1) := by decide +kernel
theorem dX9_canFollow_88 : decode cX9_canFollow 88 = .ok (.invokevirtual 143, 3) := by decide +kernel
theorem dX9_canFollow_91 : decode cX9_canFollow 91 = .ok (.aload_n 1, 1) := by decide +kernel
theorem dX9_canFollow_92 : decode cX9_canFollow 92 = .ok (.iconst 3, 1) := by decide +kernel
theorem dX9_canFollow_93 : decode cX9_canFollow 93 = .ok (.invokevirtual 143, 3) := by decide +kernel
theorem dX9_canFollow_96 : decode cX9_canFollow 96 = .ok (.if_icmp .ne 7, 3) := by decide +kernel
theorem dX9_canFollow_99 : decode cX9_canFollow 99 = .ok (.iconst 1, 1) := by decide +kernel
theorem dX9_canFollow_100 : decode cX9_canFollow 100 = .ok (.goto 4, 3) := by decide +kernel
theorem dX9_canFollow_103 : decode cX9_canFollow 103 = .ok (.iconst 0, 1) := by decide +kernel
theorem dX9_canFollow_104 : decode cX9_canFollow 104 = .ok (.ireturn, 1) := by decide +kernel
theorem dX9_widthOf_0 : decode cX9_widthOf 0 = .ok (.aload_n 0, 1) := by decide +kernel
theorem dX9_widthOf_1 : decode cX9_widthOf 1 = .ok (.iload_n 2, 1) := by decide +kernel
theorem dX9_widthOf_2 : decode cX9_widthOf 2 = .ok (.invokevirtual 143, 3) := by decide +kernel
theorem dX9_widthOf_5 : decode cX9_widthOf 5 = .ok (.aload_n 1, 1) := by decide +kernel
theorem dX9_widthOf_6 : decode cX9_widthOf 6 = .ok (.iload_n 2, 1) := by decide +kernel
theorem dX9_widthOf_7 : decode cX9_widthOf 7 = .ok (.invokevirtual 143, 3) := by decide +kernel
theorem dX9_widthOf_10 : decode cX9_widthOf 10 = .ok (.invokestatic 146, 3) := by decide +kernel
theorem dX9_widthOf_13 : decode cX9_widthOf 13 = .ok (.ireturn, 1) := by decide +kernel
theorem dX9_freeBits_0 : decode cX9_freeBits 0 = .ok (.iconst 0, 1) := by decide +kernel
theorem dX9_freeBits_1 : decode cX9_freeBits 1 = .ok (.istore_n 2, 1) := by decide +kernel
theorem dX9_freeBits_2 : decode cX9_freeBits 2 = .ok (.iconst 0, 1) := by decide +kernel
theorem dX9_freeBits_3 : decode cX9_freeBits 3 = .ok (.istore_n 3, 1) := by decide +kernel
theorem dX9_freeBits_4 : decode cX9_freeBits 4 = .ok (.iload_n 3, 1) := by decide +kernel
theorem dX9_freeBits_5 : decode cX9_freeBits 5 = .ok (.iconst 3, 1) := by decide +kernel
theorem dX9_freeBits_6 : decode cX9_freeBits 6 = .ok (.if_icmp .gt 18, 3) := by decide +kernel
theorem dX9_freeBits_9 : decode cX9_freeBits 9 = .ok (.iload_n 2, 1) := by decide +kernel
theorem dX9_freeBits_10 : decode cX9_freeBits 10 = .ok (.aload_n 0, 1) := by decide +kernel
theorem dX9_freeBits_11 : decode cX9_freeBits 11 = .ok (.aload_n 1, 1) := by decide +kernel
theorem dX9_freeBits_12 : decode cX9_freeBits 12 = .ok (.iload_n 3, 1) := by decide +kernel
theorem dX9_freeBits_13 : decode cX9_freeBits 13 = .ok (.invokestatic 149, 3) := by decide +kernel
theorem dX9_freeBits_16 : decode cX9_freeBits 16 = .ok (.iadd, 1) := by decide +kernel
theorem dX9_freeBits_17 : decode cX9_freeBits 17 = .ok (.istore_n 2, 1) := by decide +kernel
theorem dX9_freeBits_18 : decode cX9_freeBits 18 = .ok (.iinc 3 1, 3) := by decide +kernel
theorem dX9_freeBits_21 : decode cX9_freeBits 21 = .ok (.goto (-17), 3) := by decide +kernel
theorem dX9_freeBits_24 : decode cX9_freeBits 24 = .ok (.iload_n 2, 1) := by decide +kernel
theorem dX9_freeBits_25 : decode cX9_freeBits 25 = .ok (.ireturn, 1) := by decide +kernel
theorem dX9_areHoles_0 : decode cX9_areHoles 0 = .ok (.iload_n 1, 1) := by decide +kernel
theorem dX9_areHoles_1 : decode cX9_areHoles 1 = .ok (.istore_n 3, 1) := by decide +kernel
theorem dX9_areHoles_2 : decode cX9_areHoles 2 = .ok (.iload_n 3, 1) := by decide +kernel
theorem dX9_areHoles_3 : decode cX9_areHoles 3 = .ok (.iload_n 1, 1) := by decide +kernel
theorem dX9_areHoles_4 : decode cX9_areHoles 4 = .ok (.iload_n 2, 1) := by decide +kernel
theorem dX9_areHoles_5 : decode cX9_areHoles 5 = .ok (.iadd, 1) := by decide +kernel
theorem dX9_areHoles_6 : decode cX9_areHoles 6 = .ok (.if_icmp .ge 20, 3) := by decide +kernel
theorem dX9_areHoles_9 : decode cX9_areHoles 9 = .ok (.aload_n 0, 1) := by decide +kernel
theorem dX9_areHoles_10 : decode cX9_areHoles 10 = .ok (.iload_n 3, 1) := by decide +kernel
theorem dX9_areHoles_11 : decode cX9_areHoles 11 = .ok (.invokevirtual 52, 3) := by decide +kernel
theorem dX9_areHoles_14 : decode cX9_areHoles 14 = .ok (.iconst (-1), 1) := by decide +kernel
theorem dX9_areHoles_15 : decode cX9_areHoles 15 = .ok (.if_icmp .eq 5, 3) := by decide +kernel
theorem dX9_areHoles_18 : decode cX9_areHoles 18 = .ok (.iconst 0, 1) := by decide +kernel
theorem dX9_areHoles_19 : decode cX9_areHoles 19 = .ok (.ireturn, 1) := by decide +kernel
theorem dX9_areHoles_20 : decode cX9_areHoles 20 = .ok (.iinc 3 1, 3) := by decide +kernel
theorem dX9_areHoles_23 : decode cX9_areHoles 23 = .ok (.goto (-21), 3) := by decide +kernel
theorem dX9_areHoles_26 : decode cX9_areHoles 26 = .ok (.iconst 1, 1) := by decide +kernel
theorem dX9_areHoles_27 : decode cX9_areHoles 27 = .ok (.ireturn, 1) := by decide +kernel
theorem dX9_joinBoth_0 : decode cX9_joinBoth 0 = .ok (.aload_n 0, 1) := by decide +kernel
theorem dX9_joinBoth_1 : decode cX9_joinBoth 1 = .ok (.aload_n 1, 1) := by decide +kernel
theorem dX9_joinBoth_2 : decode cX9_joinBoth 2 = .ok (.aload_n 2, 1) := by decide +kernel
theorem dX9_joinBoth_3 : decode cX9_joinBoth 3 = .ok (.invokevirtual 114, 3) := by decide +kernel
theorem dX9_joinBoth_6 : decode cX9_joinBoth 6 = .ok (.istore_n 3, 1) := by decide +kernel
theorem dX9_joinBoth_7 : decode cX9_joinBoth 7 = .ok (.iload_n 3, 1) := by decide +kernel
theorem dX9_joinBoth_8 : decode cX9_joinBoth 8 = .ok (.ifCond .ge 6, 3) := by decide +kernel
theorem dX9_joinBoth_11 : decode cX9_joinBoth 11 = .ok (.bipush (-2), 2) := by decide +kernel
theorem dX9_joinBoth_13 : decode cX9_joinBoth 13 = .ok (.ireturn, 1) := by decide +kernel
theorem dX9_joinBoth_14 : decode cX9_joinBoth 14 = .ok (.aload_n 1, 1) := by decide +kernel
theorem dX9_joinBoth_15 : decode cX9_joinBoth 15 = .ok (.aload_n 2, 1) := by decide +kernel
theorem dX9_joinBoth_16 : decode cX9_joinBoth 16 = .ok (.invokestatic 118, 3) := by decide +kernel
theorem dX9_joinBoth_19 : decode cX9_joinBoth 19 = .ok (.istore 4, 2) := by decide +kernel
theorem dX9_joinBoth_21 : decode cX9_joinBoth 21 = .ok (.aload_n 0, 1) := by decide +kernel
theorem dX9_joinBoth_22 : decode cX9_joinBoth 22 = .ok (.getfield 12, 3) := by decide +kernel
theorem dX9_joinBoth_25 : decode cX9_joinBoth 25 = .ok (.aload_n 0, 1) := by decide +kernel
theorem dX9_joinBoth_26 : decode cX9_joinBoth 26 = .ok (.invokevirtual 48, 3) := by decide +kernel
theorem dX9_joinBoth_29 : decode cX9_joinBoth 29 = .ok (.iconst 1, 1) := by decide +kernel
theorem dX9_joinBoth_30 : decode cX9_joinBoth 30 = .ok (.iload 4, 2) := by decide +kernel
theorem dX9_joinBoth_32 : decode cX9_joinBoth 32 = .ok (.ishl, 1) := by decide +kernel
theorem dX9_joinBoth_33 : decode cX9_joinBoth 33 = .ok (.isub, 1) := by decide +kernel
theorem dX9_joinBoth_34 : decode cX9_joinBoth 34 = .ok (.putfield 72, 3) := by decide +kernel
theorem dX9_joinBoth_37 : decode cX9_joinBoth 37 = .ok (.aload_n 0, 1) := by decide +kernel
theorem dX9_joinBoth_38 : decode cX9_joinBoth 38 = .ok (.getfield 12, 3) := by decide +kernel
theorem dX9_joinBoth_41 : decode cX9_joinBoth 41 = .ok (.iload_n 3, 1) := by decide +kernel
theorem dX9_joinBoth_42 : decode cX9_joinBoth 42 = .ok (.putfield 69, 3) := by decide +kernel
theorem dX9_joinBoth_45 : decode cX9_joinBoth 45 = .ok (.iconst 0, 1) := by decide +kernel
theorem dX9_joinBoth_46 : decode cX9_joinBoth 46 = .ok (.istore 5, 2) := by decide +kernel
theorem dX9_joinBoth_48 : decode cX9_joinBoth 48 = .ok (.iload 5, 2) := by decide +kernel
theorem dX9_joinBoth_50 : decode cX9_joinBoth 50 = .ok (.iconst 3, 1) := by decide +kernel
theorem dX9_joinBoth_51 : decode cX9_joinBoth 51 = .ok (.if_icmp .gt 44, 3) := by decide +kernel
theorem dX9_joinBoth_54 : decode cX9_joinBoth 54 = .ok (.aload_n 1, 1) := by decide +kernel
theorem dX9_joinBoth_55 : decode cX9_joinBoth 55 = .ok (.aload_n 2, 1) := by decide +kernel
theorem dX9_joinBoth_56 : decode cX9_joinBoth 56 = .ok (.iload 5, 2) := by decide +kernel
theorem dX9_joinBoth_58 : decode cX9_joinBoth 58 = .ok (.invokestatic 149, 3) := by decide +kernel
theorem dX9_joinBoth_61 : decode cX9_joinBoth 61 = .ok (.istore 6, 2) := by decide +kernel
theorem dX9_joinBoth_63 : decode cX9_joinBoth 63 = .ok (.iload 4, 2) := by decide +kernel
theorem dX9_joinBoth_65 : decode cX9_joinBoth 65 = .ok (.iload 6, 2) := by decide +kernel
theorem dX9_joinBoth_67 : decode cX9_joinBoth 67 = .ok (.isub, 1) := by decide +kernel
theorem dX9_joinBoth_68 : decode cX9_joinBoth 68 = .ok (.istore 4, 2) := by decide +kernel
theorem dX9_joinBoth_70 : decode cX9_joinBoth 70 = .ok (.aload_n 0, 1) := by decide +kernel
theorem dX9_joinBoth_71 : decode cX9_joinBoth 71 = .ok (.getfield 12, 3) := by decide +kernel
theorem dX9_joinBoth_74 : decode cX9_joinBoth 74 = .ok (.getfield 153, 3) := by decide +kernel
theorem dX9_joinBoth_77 : decode cX9_joinBoth 77 = .ok (.iload 5, 2) := by decide +kernel
theorem dX9_joinBoth_79 : decode cX9_joinBoth 79 = .ok (.iconst 1, 1) := by decide +kernel
theorem dX9_joinBoth_80 : decode cX9_joinBoth 80 = .ok (.iload 6, 2) := by decide +kernel
theorem dX9_joinBoth_82 : decode cX9_joinBoth 82 = .ok (.ishl, 1) := by decide +kernel
theorem dX9_joinBoth_83 : decode cX9_joinBoth 83 = .ok (.iconst 1, 1) := by decide +kernel
theorem dX9_joinBoth_84 : decode cX9_joinBoth 84 = .ok (.isub, 1) := by decide +kernel
theorem dX9_joinBoth_85 : decode cX9_joinBoth 85 = .ok (.iload 4, 2) := by decide +kernel
theorem dX9_joinBoth_87 : decode cX9_joinBoth 87 = .ok (.ishl, 1) := by decide +kernel
theorem dX9_joinBoth_88 : decode cX9_joinBoth 88 = .ok (.iastore, 1) := by decide +kernel
theorem dX9_joinBoth_89 : decode cX9_joinBoth 89 = .ok (.iinc 5 1, 3) := by decide +kernel
theorem dX9_joinBoth_92 : decode cX9_joinBoth 92 = .ok (.goto (-44), 3) := by decide +kernel
theorem dX9_joinBoth_95 : decode cX9_joinBoth 95 = .ok (.aload_n 0, 1) := by decide +kernel
theorem dX9_joinBoth_96 : decode cX9_joinBoth 96 = .ok (.getfield 12, 3) := by decide +kernel
theorem dX9_joinBoth_99 : decode cX9_joinBoth 99 = .ok (.aload_n 1, 1) := by decide +kernel
theorem dX9_joinBoth_100 : decode cX9_joinBoth 100 = .ok (.invokevirtual 156, 3) := by decide +kernel
theorem dX9_joinBoth_103 : decode cX9_joinBoth 103 = .ok (.aload_n 0, 1) := by decide +kernel
theorem dX9_joinBoth_104 : decode cX9_joinBoth 104 = .ok (.getfield 12, 3) := by decide +kernel
theorem dX9_joinBoth_107 : decode cX9_joinBoth 107 = .ok (.aload_n 2, 1) := by decide +kernel
theorem dX9_joinBoth_108 : decode cX9_joinBoth 108 = .ok (.invokevirtual 156, 3) := by decide +kernel
theorem dX9_joinBoth_111 : decode cX9_joinBoth 111 = .ok (.aload_n 0, 1) := by decide +kernel
theorem dX9_joinBoth_112 : decode cX9_joinBoth 112 = .ok (.getfield 12, 3) := by decide +kernel
theorem dX9_joinBoth_115 : decode cX9_joinBoth 115 = .ok (.aload_n 1, 1) := by decide +kernel
theorem dX9_joinBoth_116 : decode cX9_joinBoth 116 = .ok (.getfield 140, 3) := by decide +kernel
theorem dX9_joinBoth_119 : decode cX9_joinBoth 119 = .ok (.aload_n 2, 1) := by decide +kernel
theorem dX9_joinBoth_120 : decode cX9_joinBoth 120 = .ok (.getfield 140, 3) := by decide +kernel
theorem dX9_joinBoth_123 : decode cX9_joinBoth 123 = .ok (.iadd, 1) := by decide +kernel
theorem dX9_joinBoth_124 : decode cX9_joinBoth 124 = .ok (.iconst 1, 1) := by decide +kernel
theorem dX9_joinBoth_125 : decode cX9_joinBoth 125 = .ok (.isub, 1) := by decide +kernel
theorem dX9_joinBoth_126 : decode cX9_joinBoth 126 = .ok (.putfield 140, 3) := by decide +kernel
theorem dX9_joinBoth_129 : decode cX9_joinBoth 129 = .ok (.aload_n 0, 1) := by decide +kernel
theorem dX9_joinBoth_130 : decode cX9_joinBoth 130 = .ok (.invokevirtual 66, 3) := by decide +kernel
theorem dX9_joinBoth_133 : decode cX9_joinBoth 133 = .ok (.ireturn, 1) := by decide +kernel
theorem dX10_init_0 : decode cX10_init 0 = .ok (.aload_n 0, 1) := by decide +kernel
theorem dX10_init_1 : decode cX10_init 1 = .ok (.invokespecial 5, 3) := by decide +kernel
theorem dX10_init_4 : decode cX10_init 4 = .ok (.aload_n 0, 1) := by decide +kernel
theorem dX10_init_5 : decode cX10_init 5 = .ok (.bipush 8, 2) := by decide +kernel
theorem dX10_init_7 : decode cX10_init 7 = .ok (.newarray .int, 2) := by decide +kernel
theorem dX10_init_9 : decode cX10_init 9 = .ok (.putfield 11, 3) := by decide +kernel
theorem dX10_init_12 : decode cX10_init 12 = .ok (.aload_n 0, 1) := by decide +kernel
theorem dX10_init_13 : decode cX10_init 13 = .ok (.sipush 256, 3) := by decide +kernel
theorem dX10_init_16 : decode cX10_init 16 = .ok (.newarray .int, 2) := by decide +kernel
theorem dX10_init_18 : decode cX10_init 18 = .ok (.putfield 15, 3) := by decide +kernel
theorem dX10_init_21 : decode cX10_init 21 = .ok (.aload_n 0, 1) := by decide +kernel
theorem dX10_init_22 : decode cX10_init 22 = .ok (.iconst 4, 1) := by decide +kernel
theorem dX10_init_23 : decode cX10_init 23 = .ok (.newarray .int, 2) := by decide +kernel
theorem dX10_init_25 : decode cX10_init 25 = .ok (.putfield 18, 3) := by decide +kernel
theorem dX10_init_28 : decode cX10_init 28 = .ok (.aload_n 0, 1) := by decide +kernel
theorem dX10_init_29 : decode cX10_init 29 = .ok (.iconst 3, 1) := by decide +kernel
theorem dX10_init_30 : decode cX10_init 30 = .ok (.newarray .int, 2) := by decide +kernel
theorem dX10_init_32 : decode cX10_init 32 = .ok (.putfield 23, 3) := by decide +kernel
theorem dX10_init_35 : decode cX10_init 35 = .ok (.aload_n 0, 1) := by decide +kernel
theorem dX10_init_36 : decode cX10_init 36 = .ok (.iconst 3, 1) := by decide +kernel
theorem dX10_init_37 : decode cX10_init 37 = .ok (.newarray .int, 2) := by decide +kernel
theorem dX10_init_39 : decode cX10_init 39 = .ok (.putfield 26, 3) := by decide +kernel
theorem dX10_init_42 : decode cX10_init 42 = .ok (.return_, 1) := by decide +kernel
theorem dX10_clear_0 : decode cX10_clear 0 = .ok (.aload_n 0, 1) := by decide +kernel
theorem dX10_clear_1 : decode cX10_clear 1 = .ok (.getfield 11, 3) := by decide +kernel
theorem dX10_clear_4 : decode cX10_clear 4 = .ok (.iconst 0, 1) := by decide +kernel
theorem dX10_clear_5 : decode cX10_clear 5 = .ok (.invokestatic 29, 3) := by decide +kernel
theorem dX10_clear_8 : decode cX10_clear 8 = .ok (.aload_n 0, 1) := by decide +kernel
theorem dX10_clear_9 : decode cX10_clear 9 = .ok (.getfield 15, 3) := by decide +kernel
theorem dX10_clear_12 : decode cX10_clear 12 = .ok (.iconst 0, 1) := by decide +kernel
theorem dX10_clear_13 : decode cX10_clear 13 = .ok (.invokestatic 29, 3) := by decide +kernel
theorem dX10_clear_16 : decode cX10_clear 16 = .ok (.aload_n 0, 1) := by decide +kernel
theorem dX10_clear_17 : decode cX10_clear 17 = .ok (.iconst 0, 1) := by decide +kernel
theorem dX10_clear_18 : decode cX10_clear 18 = .ok (.putfield 35, 3) := by decide +kernel
theorem dX10_clear_21 : decode cX10_clear 21 = .ok (.aload_n 0, 1) := by decide +kernel
theorem dX10_clear_22 : decode cX10_clear 22 = .ok (.iconst 0, 1) := by decide +kernel
theorem dX10_clear_23 : decode cX10_clear 23 = .ok (.putfield 39, 3) := by decide +kernel
theorem dX10_clear_26 : decode cX10_clear 26 = .ok (.return_, 1) := by decide +kernel
theorem dX10_copyOf_0 : decode cX10_copyOf 0 = .ok (.aload_n 1, 1) := by decide +kernel
theorem dX10_copyOf_1 : decode cX10_copyOf 1 = .ok (.getfield 11, 3) := by decide +kernel
theorem dX10_copyOf_4 : decode cX10_copyOf 4 = .ok (.iconst 0, 1) := by decide +kernel
theorem dX10_copyOf_5 : decode cX10_copyOf 5 = .ok (.aload_n 0, 1) := by decide +kernel
theorem dX10_copyOf_6 : decode cX10_copyOf 6 = .ok (.getfield 11, 3) := by decide +kernel
theorem dX10_copyOf_9 : decode cX10_copyOf 9 = .ok (.iconst 0, 1) := by decide +kernel
theorem dX10_copyOf_10 : decode cX10_copyOf 10 = .ok (.bipush 8, 2) := by decide +kernel
theorem dX10_copyOf_12 : decode cX10_copyOf 12 = .ok (.invokestatic 42, 3) := by decide +kernel
theorem dX10_copyOf_15 : decode cX10_copyOf 15 = .ok (.aload_n 1, 1) := by decide +kernel
theorem dX10_copyOf_16 : decode cX10_copyOf 16 = .ok (.getfield 15, 3) := by decide +kernel
theorem dX10_copyOf_19 : decode cX10_copyOf 19 = .ok (.iconst 0, 1) := by decide +kernel
theorem dX10_copyOf_20 : decode cX10_copyOf 20 = .ok (.aload_n 0, 1) := by decide +kernel
theorem dX10_copyOf_21 : decode cX10_copyOf 21 = .ok (.getfield 15, 3) := by decide +kernel
theorem dX10_copyOf_24 : decode cX10_copyOf 24 = .ok (.iconst 0, 1) := by decide +kernel
theorem dX10_copyOf_25 : decode cX10_copyOf 25 = .ok (.sipush 256, 3) := by decide +kernel
theorem dX10_copyOf_28 : decode cX10_copyOf 28 = .ok (.invokestatic 42, 3) := by decide +kernel
theorem dX10_copyOf_31 : decode cX10_copyOf 31 = .ok (.aload_n 0, 1) := by decide +kernel
theorem dX10_copyOf_32 : decode cX10_copyOf 32 = .ok (.aload_n 1, 1) := by decide +kernel
theorem dX10_copyOf_33 : decode cX10_copyOf 33 = .ok (.getfield 35, 3) := by decide +kernel
theorem dX10_copyOf_36 : decode cX10_copyOf 36 = .ok (.putfield 35, 3) := by decide +kernel
theorem dX10_copyOf_39 : decode cX10_copyOf 39 = .ok (.aload_n 0, 1) := by decide +kernel
theorem dX10_copyOf_40 : decode cX10_copyOf 40 = .ok (.aload_n 1, 1) := by decide +kernel
theorem dX10_copyOf_41 : decode cX10_copyOf 41 = .ok (.getfield 39, 3) := by decide +kernel
theorem dX10_copyOf_44 : decode cX10_copyOf 44 = .ok (.putfield 39, 3) := by decide +kernel
theorem dX10_copyOf_47 : decode cX10_copyOf 47 = .ok (.aload_n 0, 1) := by decide +kernel
theorem dX10_copyOf_48 : decode cX10_copyOf 48 = .ok (.aload_n 1, 1) := by decide +kernel
theorem dX10_copyOf_49 : decode cX10_copyOf 49 = .ok (.getfield 48, 3) := by decide +kernel
theorem dX10_copyOf_52 : decode cX10_copyOf 52 = .ok (.putfield 48, 3) := by decide +kernel
theorem dX10_copyOf_55 : decode cX10_copyOf 55 = .ok (.return_, 1) := by decide +kernel
theorem dX10_mostOf_0 : decode cX10_mostOf 0 = .ok (.iload_n 1, 1) := by decide +kernel
theorem dX10_mostOf_1 : decode cX10_mostOf 1 = .ok (.iconst 2, 1) := by decide +kernel
theorem dX10_mostOf_2 : decode cX10_mostOf 2 = .ok (.if_icmp .ne 7, 3) := by decide +kernel
theorem dX10_mostOf_5 : decode cX10_mostOf 5 = .ok (.iconst 1, 1) := by decide +kernel
theorem dX10_mostOf_6 : decode cX10_mostOf 6 = .ok (.goto 17, 3) := by decide +kernel
theorem dX10_mostOf_9 : decode cX10_mostOf 9 = .ok (.iload_n 1, 1) := by decide +kernel
theorem dX10_mostOf_10 : decode cX10_mostOf 10 = .ok (.iconst 3, 1) := by decide +kernel
theorem dX10_mostOf_11 : decode cX10_mostOf 11 = .ok (.if_icmp .ne 8, 3) := by decide +kernel
theorem dX10_mostOf_14 : decode cX10_mostOf 14 = .ok (.bipush 63, 2) := by decide +kernel
theorem dX10_mostOf_16 : decode cX10_mostOf 16 = .ok (.goto 7, 3) := by decide +kernel
theorem dX10_mostOf_19 : decode cX10_mostOf 19 = .ok (.aload_n 0, 1) := by decide +kernel
theorem dX10_mostOf_20 : decode cX10_mostOf 20 = .ok (.getfield 48, 3) := by decide +kernel
theorem dX10_mostOf_23 : decode cX10_mostOf 23 = .ok (.ireturn, 1) := by decide +kernel
theorem dX10_held_0 : decode cX10_held 0 = .ok (.iload_n 1, 1) := by decide +kernel
theorem dX10_held_1 : decode cX10_held 1 = .ok (.tableswitch 53 0 2 #[27, 37, 48], 27) := by decide +kernel
theorem dX10_held_28 : decode cX10_held 28 = .ok (.aload_n 0, 1) := by decide +kernel
theorem dX10_held_29 : decode cX10_held 29 = .ok (.getfield 11, 3) := by decide +kernel
theorem dX10_held_32 : decode cX10_held 32 = .ok (.iload_n 2, 1) := by decide +kernel
theorem dX10_held_33 : decode cX10_held 33 = .ok (.bipush 7, 2) := by decide +kernel
theorem dX10_held_35 : decode cX10_held 35 = .ok (.iand, 1) := by decide +kernel
theorem dX10_held_36 : decode cX10_held 36 = .ok (.iaload, 1) := by decide +kernel
theorem dX10_held_37 : decode cX10_held 37 = .ok (.ireturn, 1) := by decide +kernel
theorem dX10_held_38 : decode cX10_held 38 = .ok (.aload_n 0, 1) := by decide +kernel
theorem dX10_held_39 : decode cX10_held 39 = .ok (.getfield 15, 3) := by decide +kernel
theorem dX10_held_42 : decode cX10_held 42 = .ok (.iload_n 2, 1) := by decide +kernel
theorem dX10_held_43 : decode cX10_held 43 = .ok (.sipush 255, 3) := by decide +kernel
theorem dX10_held_46 : decode cX10_held 46 = .ok (.iand, 1) := by decide +kernel
theorem dX10_held_47 : decode cX10_held 47 = .ok (.iaload, 1) := by decide +kernel
theorem dX10_held_48 : decode cX10_held 48 = .ok (.ireturn, 1) := by decide +kernel
theorem dX10_held_49 : decode cX10_held 49 = .ok (.aload_n 0, 1) := by decide +kernel
theorem dX10_held_50 : decode cX10_held 50 = .ok (.getfield 35, 3) := by decide +kernel
theorem dX10_held_53 : decode cX10_held 53 = .ok (.ireturn, 1) := by decide +kernel
theorem dX10_held_54 : decode cX10_held 54 = .ok (.aload_n 0, 1) := by decide +kernel
theorem dX10_held_55 : decode cX10_held 55 = .ok (.getfield 39, 3) := by decide +kernel
theorem dX10_held_58 : decode cX10_held 58 = .ok (.ireturn, 1) := by decide +kernel
theorem dX10_hold_0 : decode cX10_hold 0 = .ok (.iload_n 1, 1) := by decide +kernel
theorem dX10_hold_1 : decode cX10_hold 1 = .ok (.tableswitch 62 0 2 #[27, 40, 54], 27) := by decide +kernel
theorem dX10_hold_28 : decode cX10_hold 28 = .ok (.aload_n 0, 1) := by decide +kernel
theorem dX10_hold_29 : decode cX10_hold 29 = .ok (.getfield 11, 3) := by decide +kernel
theorem dX10_hold_32 : decode cX10_hold 32 = .ok (.iload_n 2, 1) := by decide +kernel
theorem dX10_hold_33 : decode cX10_hold 33 = .ok (.bipush 7, 2) := by decide +kernel
theorem dX10_hold_35 : decode cX10_hold 35 = .ok (.iand, 1) := by decide +kernel
theorem dX10_hold_36 : decode cX10_hold 36 = .ok (.iload_n 3, 1) := by decide +kernel
theorem dX10_hold_37 : decode cX10_hold 37 = .ok (.iastore, 1) := by decide +kernel
theorem dX10_hold_38 : decode cX10_hold 38 = .ok (.goto 30, 3) := by decide +kernel
theorem dX10_hold_41 : decode cX10_hold 41 = .ok (.aload_n 0, 1) := by decide +kernel
theorem dX10_hold_42 : decode cX10_hold 42 = .ok (.getfield 15, 3) := by decide +kernel
theorem dX10_hold_45 : decode cX10_hold 45 = .ok (.iload_n 2, 1) := by decide +kernel
theorem dX10_hold_46 : decode cX10_hold 46 = .ok (.sipush 255, 3) := by decide +kernel
theorem dX10_hold_49 : decode cX10_hold 49 = .ok (.iand, 1) := by decide +kernel
theorem dX10_hold_50 : decode cX10_hold 50 = .ok (.iload_n 3, 1) := by decide +kernel
theorem dX10_hold_51 : decode cX10_hold 51 = .ok (.iastore, 1) := by decide +kernel
theorem dX10_hold_52 : decode cX10_hold 52 = .ok (.goto 16, 3) := by decide +kernel
theorem dX10_hold_55 : decode cX10_hold 55 = .ok (.aload_n 0, 1) := by decide +kernel
theorem dX10_hold_56 : decode cX10_hold 56 = .ok (.iload_n 3, 1) := by decide +kernel
theorem dX10_hold_57 : decode cX10_hold 57 = .ok (.putfield 35, 3) := by decide +kernel
theorem dX10_hold_60 : decode cX10_hold 60 = .ok (.goto 8, 3) := by decide +kernel
theorem dX10_hold_63 : decode cX10_hold 63 = .ok (.aload_n 0, 1) := by decide +kernel
theorem dX10_hold_64 : decode cX10_hold 64 = .ok (.iload_n 3, 1) := by decide +kernel
theorem dX10_hold_65 : decode cX10_hold 65 = .ok (.putfield 39, 3) := by decide +kernel
theorem dX10_hold_68 : decode cX10_hold 68 = .ok (.return_, 1) := by decide +kernel
theorem dX10_wordIn_0 : decode cX10_wordIn 0 = .ok (.iload_n 1, 1) := by decide +kernel
theorem dX10_wordIn_1 : decode cX10_wordIn 1 = .ok (.iconst 3, 1) := by decide +kernel
theorem dX10_wordIn_2 : decode cX10_wordIn 2 = .ok (.if_icmp .ne 12, 3) := by decide +kernel
theorem dX10_wordIn_5 : decode cX10_wordIn 5 = .ok (.aload_n 0, 1) := by decide +kernel
theorem dX10_wordIn_6 : decode cX10_wordIn 6 = .ok (.getfield 18, 3) := by decide +kernel
theorem dX10_wordIn_9 : decode cX10_wordIn 9 = .ok (.iconst 3, 1) := by decide +kernel
theorem dX10_wordIn_10 : decode cX10_wordIn 10 = .ok (.iaload, 1) := by decide +kernel
theorem dX10_wordIn_11 : decode cX10_wordIn 11 = .ok (.goto 17, 3) := by decide +kernel
theorem dX10_wordIn_14 : decode cX10_wordIn 14 = .ok (.aload_n 0, 1) := by decide +kernel
theorem dX10_wordIn_15 : decode cX10_wordIn 15 = .ok (.getfield 11, 3) := by decide +kernel
theorem dX10_wordIn_18 : decode cX10_wordIn 18 = .ok (.aload_n 0, 1) := by decide +kernel
theorem dX10_wordIn_19 : decode cX10_wordIn 19 = .ok (.getfield 18, 3) := by decide +kernel
theorem dX10_wordIn_22 : decode cX10_wordIn 22 = .ok (.iload_n 1, 1) := by decide +kernel
theorem dX10_wordIn_23 : decode cX10_wordIn 23 = .ok (.iaload, 1) := by decide +kernel
theorem dX10_wordIn_24 : decode cX10_wordIn 24 = .ok (.bipush 7, 2) := by decide +kernel
theorem dX10_wordIn_26 : decode cX10_wordIn 26 = .ok (.iand, 1) := by decide +kernel
theorem dX10_wordIn_27 : decode cX10_wordIn 27 = .ok (.iaload, 1) := by decide +kernel
theorem dX10_wordIn_28 : decode cX10_wordIn 28 = .ok (.ireturn, 1) := by decide +kernel
theorem dX10_wordOf_0 : decode cX10_wordOf 0 = .ok (.iload_n 1, 1) := by decide +kernel
theorem dX10_wordOf_1 : decode cX10_wordOf 1 = .ok (.bipush 16, 2) := by decide +kernel
theorem dX10_wordOf_3 : decode cX10_wordOf 3 = .ok (.if_icmp .lt 13, 3) := by decide +kernel
theorem dX10_wordOf_6 : decode cX10_wordOf 6 = .ok (.iload_n 1, 1) := by decide +kernel
theorem dX10_wordOf_7 : decode cX10_wordOf 7 = .ok (.bipush 16, 2) := by decide +kernel
theorem dX10_wordOf_9 : decode cX10_wordOf 9 = .ok (.isub, 1) := by decide +kernel
theorem dX10_wordOf_10 : decode cX10_wordOf 10 = .ok (.aload_n 0, 1) := by decide +kernel
theorem dX10_wordOf_11 : decode cX10_wordOf 11 = .ok (.getfield 48, 3) := by decide +kernel
theorem dX10_wordOf_14 : decode cX10_wordOf 14 = .ok (.iand, 1) := by decide +kernel
theorem dX10_wordOf_15 : decode cX10_wordOf 15 = .ok (.ireturn, 1) := by decide +kernel
theorem dX10_wordOf_16 : decode cX10_wordOf 16 = .ok (.iload_n 1, 1) := by decide +kernel
theorem dX10_wordOf_17 : decode cX10_wordOf 17 = .ok (.bipush 6, 2) := by decide +kernel
theorem dX10_wordOf_19 : decode cX10_wordOf 19 = .ok (.if_icmp .lt 21, 3) := by decide +kernel
theorem dX10_wordOf_22 : decode cX10_wordOf 22 = .ok (.aload_n 0, 1) := by decide +kernel
theorem dX10_wordOf_23 : decode cX10_wordOf 23 = .ok (.getfield 15, 3) := by decide +kernel
theorem dX10_wordOf_26 : decode cX10_wordOf 26 = .ok (.aload_n 0, 1) := by decide +kernel
theorem dX10_wordOf_27 : decode cX10_wordOf 27 = .ok (.iload_n 1, 1) := by decide +kernel
theorem dX10_wordOf_28 : decode cX10_wordOf 28 = .ok (.bipush 6, 2) := by decide +kernel
theorem dX10_wordOf_30 : decode cX10_wordOf 30 = .ok (.isub, 1) := by decide +kernel
theorem dX10_wordOf_31 : decode cX10_wordOf 31 = .ok (.invokevirtual 51, 3) := by decide +kernel
theorem dX10_wordOf_34 : decode cX10_wordOf 34 = .ok (.sipush 255, 3) := by decide +kernel
theorem dX10_wordOf_37 : decode cX10_wordOf 37 = .ok (.iand, 1) := by decide +kernel
theorem dX10_wordOf_38 : decode cX10_wordOf 38 = .ok (.iaload, 1) := by decide +kernel
theorem dX10_wordOf_39 : decode cX10_wordOf 39 = .ok (.ireturn, 1) := by decide +kernel
theorem dX10_wordOf_40 : decode cX10_wordOf 40 = .ok (.iload_n 1, 1) := by decide +kernel
theorem dX10_wordOf_41 : decode cX10_wordOf 41 = .ok (.lookupswitch 42 #[(4, 27), (5, 32)], 27) := by decide +kernel
theorem dX10_wordOf_68 : decode cX10_wordOf 68 = .ok (.aload_n 0, 1) := by decide +kernel
theorem dX10_wordOf_69 : decode cX10_wordOf 69 = .ok (.getfield 35, 3) := by decide +kernel
theorem dX10_wordOf_72 : decode cX10_wordOf 72 = .ok (.ireturn, 1) := by decide +kernel
theorem dX10_wordOf_73 : decode cX10_wordOf 73 = .ok (.aload_n 0, 1) := by decide +kernel
theorem dX10_wordOf_74 : decode cX10_wordOf 74 = .ok (.getfield 39, 3) := by decide +kernel
theorem dX10_wordOf_77 : decode cX10_wordOf 77 = .ok (.aload_n 0, 1) := by decide +kernel
theorem dX10_wordOf_78 : decode cX10_wordOf 78 = .ok (.getfield 48, 3) := by decide +kernel
theorem dX10_wordOf_81 : decode cX10_wordOf 81 = .ok (.iand, 1) := by decide +kernel
theorem dX10_wordOf_82 : decode cX10_wordOf 82 = .ok (.ireturn, 1) := by decide +kernel
theorem dX10_wordOf_83 : decode cX10_wordOf 83 = .ok (.aload_n 0, 1) := by decide +kernel
theorem dX10_wordOf_84 : decode cX10_wordOf 84 = .ok (.iload_n 1, 1) := by decide +kernel
theorem dX10_wordOf_85 : decode cX10_wordOf 85 = .ok (.invokevirtual 51, 3) := by decide +kernel
theorem dX10_wordOf_88 : decode cX10_wordOf 88 = .ok (.ireturn, 1) := by decide +kernel
theorem dX10_become_0 : decode cX10_become 0 = .ok (.iload_n 1, 1) := by decide +kernel
theorem dX10_become_1 : decode cX10_become 1 = .ok (.iconst 4, 1) := by decide +kernel
theorem dX10_become_2 : decode cX10_become 2 = .ok (.if_icmp .ne 19, 3) := by decide +kernel
theorem dX10_become_5 : decode cX10_become 5 = .ok (.aload_n 0, 1) := by decide +kernel
theorem dX10_become_6 : decode cX10_become 6 = .ok (.iload_n 2, 1) := by decide +kernel
theorem dX10_become_7 : decode cX10_become 7 = .ok (.ifCond .ne 7, 3) := by decide +kernel
theorem dX10_become_10 : decode cX10_become 10 = .ok (.iconst 0, 1) := by decide +kernel
theorem dX10_become_11 : decode cX10_become 11 = .ok (.goto 4, 3) := by decide +kernel
theorem dX10_become_14 : decode cX10_become 14 = .ok (.iconst 1, 1) := by decide +kernel
theorem dX10_become_15 : decode cX10_become 15 = .ok (.putfield 35, 3) := by decide +kernel
theorem dX10_become_18 : decode cX10_become 18 = .ok (.goto 90, 3) := by decide +kernel
theorem dX10_become_21 : decode cX10_become 21 = .ok (.iload_n 1, 1) := by decide +kernel
theorem dX10_become_22 : decode cX10_become 22 = .ok (.iconst 5, 1) := by decide +kernel
theorem dX10_become_23 : decode cX10_become 23 = .ok (.if_icmp .ne 14, 3) := by decide +kernel
theorem dX10_become_26 : decode cX10_become 26 = .ok (.aload_n 0, 1) := by decide +kernel
theorem dX10_become_27 : decode cX10_become 27 = .ok (.iload_n 2, 1) := by decide +kernel
theorem dX10_become_28 : decode cX10_become 28 = .ok (.bipush 63, 2) := by decide +kernel
theorem dX10_become_30 : decode cX10_become 30 = .ok (.iand, 1) := by decide +kernel
theorem dX10_become_31 : decode cX10_become 31 = .ok (.putfield 39, 3) := by decide +kernel
theorem dX10_become_34 : decode cX10_become 34 = .ok (.goto 74, 3) := by decide +kernel
theorem dX10_become_37 : decode cX10_become 37 = .ok (.iload_n 1, 1) := by decide +kernel
theorem dX10_become_38 : decode cX10_become 38 = .ok (.bipush 6, 2) := by decide +kernel
theorem dX10_become_40 : decode cX10_become 40 = .ok (.if_icmp .lt 40, 3) := by decide +kernel
theorem dX10_become_43 : decode cX10_become 43 = .ok (.aload_n 0, 1) := by decide +kernel
theorem dX10_become_44 : decode cX10_become 44 = .ok (.iload_n 1, 1) := by decide +kernel
theorem dX10_become_45 : decode cX10_become 45 = .ok (.bipush 6, 2) := by decide +kernel
theorem dX10_become_47 : decode cX10_become 47 = .ok (.isub, 1) := by decide +kernel
theorem dX10_become_48 : decode cX10_become 48 = .ok (.invokevirtual 51, 3) := by decide +kernel
theorem dX10_become_51 : decode cX10_become 51 = .ok (.sipush 255, 3) := by decide +kernel
theorem dX10_become_54 : decode cX10_become 54 = .ok (.iand, 1) := by decide +kernel
theorem dX10_become_55 : decode cX10_become 55 = .ok (.istore_n 3, 1) := by decide +kernel
theorem dX10_become_56 : decode cX10_become 56 = .ok (.aload_n 0, 1) := by decide +kernel
theorem dX10_become_57 : decode cX10_become 57 = .ok (.bipush 8, 2) := by decide +kernel
theorem dX10_become_59 : decode cX10_become 59 = .ok (.iload_n 3, 1) := by decide +kernel
theorem dX10_become_60 : decode cX10_become 60 = .ok (.iadd, 1) := by decide +kernel
theorem dX10_become_61 : decode cX10_become 61 = .ok (.aload_n 0, 1) := by decide +kernel
theorem dX10_become_62 : decode cX10_become 62 = .ok (.getfield 15, 3) := by decide +kernel
theorem dX10_become_65 : decode cX10_become 65 = .ok (.iload_n 3, 1) := by decide +kernel
theorem dX10_become_66 : decode cX10_become 66 = .ok (.iaload, 1) := by decide +kernel
theorem dX10_become_67 : decode cX10_become 67 = .ok (.invokevirtual 55, 3) := by decide +kernel
theorem dX10_become_70 : decode cX10_become 70 = .ok (.aload_n 0, 1) := by decide +kernel
theorem dX10_become_71 : decode cX10_become 71 = .ok (.getfield 15, 3) := by decide +kernel
theorem dX10_become_74 : decode cX10_become 74 = .ok (.iload_n 3, 1) := by decide +kernel
theorem dX10_become_75 : decode cX10_become 75 = .ok (.iload_n 2, 1) := by decide +kernel
theorem dX10_become_76 : decode cX10_become 76 = .ok (.iastore, 1) := by decide +kernel
theorem dX10_become_77 : decode cX10_become 77 = .ok (.goto 31, 3) := by decide +kernel
theorem dX10_become_80 : decode cX10_become 80 = .ok (.aload_n 0, 1) := by decide +kernel
theorem dX10_become_81 : decode cX10_become 81 = .ok (.getfield 18, 3) := by decide +kernel
theorem dX10_become_84 : decode cX10_become 84 = .ok (.iload_n 1, 1) := by decide +kernel
theorem dX10_become_85 : decode cX10_become 85 = .ok (.iaload, 1) := by decide +kernel
theorem dX10_become_86 : decode cX10_become 86 = .ok (.bipush 7, 2) := by decide +kernel
theorem dX10_become_88 : decode cX10_become 88 = .ok (.iand, 1) := by decide +kernel
theorem dX10_become_89 : decode cX10_become 89 = .ok (.istore_n 3, 1) := by decide +kernel
theorem dX10_become_90 : decode cX10_become 90 = .ok (.aload_n 0, 1) := by decide +kernel
theorem dX10_become_91 : decode cX10_become 91 = .ok (.iload_n 3, 1) := by decide +kernel
theorem dX10_become_92 : decode cX10_become 92 = .ok (.aload_n 0, 1) := by decide +kernel
theorem dX10_become_93 : decode cX10_become 93 = .ok (.getfield 11, 3) := by decide +kernel
theorem dX10_become_96 : decode cX10_become 96 = .ok (.iload_n 3, 1) := by decide +kernel
theorem dX10_become_97 : decode cX10_become 97 = .ok (.iaload, 1) := by decide +kernel
theorem dX10_become_98 : decode cX10_become 98 = .ok (.invokevirtual 55, 3) := by decide +kernel
theorem dX10_become_101 : decode cX10_become 101 = .ok (.aload_n 0, 1) := by decide +kernel
theorem dX10_become_102 : decode cX10_become 102 = .ok (.getfield 11, 3) := by decide +kernel
theorem dX10_become_105 : decode cX10_become 105 = .ok (.iload_n 3, 1) := by decide +kernel
theorem dX10_become_106 : decode cX10_become 106 = .ok (.iload_n 2, 1) := by decide +kernel
theorem dX10_become_107 : decode cX10_become 107 = .ok (.iastore, 1) := by decide +kernel
theorem dX10_become_108 : decode cX10_become 108 = .ok (.return_, 1) := by decide +kernel
theorem dX10_noteChange_0 : decode cX10_noteChange 0 = .ok (.aload_n 0, 1) := by decide +kernel
theorem dX10_noteChange_1 : decode cX10_noteChange 1 = .ok (.getfield 59, 3) := by decide +kernel
theorem dX10_noteChange_4 : decode cX10_noteChange 4 = .ok (.iconst 3, 1) := by decide +kernel
theorem dX10_noteChange_5 : decode cX10_noteChange 5 = .ok (.if_icmp .ge 33, 3) := by decide +kernel
theorem dX10_noteChange_8 : decode cX10_noteChange 8 = .ok (.aload_n 0, 1) := by decide +kernel
theorem dX10_noteChange_9 : decode cX10_noteChange 9 = .ok (.getfield 23, 3) := by decide +kernel
theorem dX10_noteChange_12 : decode cX10_noteChange 12 = .ok (.aload_n 0, 1) := by decide +kernel
theorem dX10_noteChange_13 : decode cX10_noteChange 13 = .ok (.getfield 59, 3) := by decide +kernel
theorem dX10_noteChange_16 : decode cX10_noteChange 16 = .ok (.iload_n 1, 1) := by decide +kernel
theorem dX10_noteChange_17 : decode cX10_noteChange 17 = .ok (.iastore, 1) := by decide +kernel
theorem dX10_noteChange_18 : decode cX10_noteChange 18 = .ok (.aload_n 0, 1) := by decide +kernel
theorem dX10_noteChange_19 : decode cX10_noteChange 19 = .ok (.getfield 26, 3) := by decide +kernel
theorem dX10_noteChange_22 : decode cX10_noteChange 22 = .ok (.aload_n 0, 1) := by decide +kernel
theorem dX10_noteChange_23 : decode cX10_noteChange 23 = .ok (.getfield 59, 3) := by decide +kernel
theorem dX10_noteChange_26 : decode cX10_noteChange 26 = .ok (.iload_n 2, 1) := by decide +kernel
theorem dX10_noteChange_27 : decode cX10_noteChange 27 = .ok (.iastore, 1) := by decide +kernel
theorem dX10_noteChange_28 : decode cX10_noteChange 28 = .ok (.aload_n 0, 1) := by decide +kernel
theorem dX10_noteChange_29 : decode cX10_noteChange 29 = .ok (.dup, 1) := by decide +kernel
theorem dX10_noteChange_30 : decode cX10_noteChange 30 = .ok (.getfield 59, 3) := by decide +kernel
theorem dX10_noteChange_33 : decode cX10_noteChange 33 = .ok (.iconst 1, 1) := by decide +kernel
theorem dX10_noteChange_34 : decode cX10_noteChange 34 = .ok (.iadd, 1) := by decide +kernel
theorem dX10_noteChange_35 : decode cX10_noteChange 35 = .ok (.putfield 59, 3) := by decide +kernel
theorem dX10_noteChange_38 : decode cX10_noteChange 38 = .ok (.return_, 1) := by decide +kernel
theorem dX10_undoChange_0 : decode cX10_undoChange 0 = .ok (.iload_n 1, 1) := by decide +kernel
theorem dX10_undoChange_1 : decode cX10_undoChange 1 = .ok (.bipush 8, 2) := by decide +kernel
theorem dX10_undoChange_3 : decode cX10_undoChange 3 = .ok (.if_icmp .ge 16, 3) := by decide +kernel
theorem dX10_undoChange_6 : decode cX10_undoChange 6 = .ok (.aload_n 0, 1) := by decide +kernel
theorem dX10_undoChange_7 : decode cX10_undoChange 7 = .ok (.getfield 11, 3) := by decide +kernel
theorem dX10_undoChange_10 : decode cX10_undoChange 10 = .ok (.iload_n 1, 1) := by decide +kernel
theorem dX10_undoChange_11 : decode cX10_undoChange 11 = .ok (.bipush 7, 2) := by decide +kernel
theorem dX10_undoChange_13 : decode cX10_undoChange 13 = .ok (.iand, 1) := by decide +kernel
theorem dX10_undoChange_14 : decode cX10_undoChange 14 = .ok (.iload_n 2, 1) := by decide +kernel
theorem dX10_undoChange_15 : decode cX10_undoChange 15 = .ok (.iastore, 1) := by decide +kernel
theorem dX10_undoChange_16 : decode cX10_undoChange 16 = .ok (.goto 17, 3) := by decide +kernel
theorem dX10_undoChange_19 : decode cX10_undoChange 19 = .ok (.aload_n 0, 1) := by decide +kernel
theorem dX10_undoChange_20 : decode cX10_undoChange 20 = .ok (.getfield 15, 3) := by decide +kernel
theorem dX10_undoChange_23 : decode cX10_undoChange 23 = .ok (.iload_n 1, 1) := by decide +kernel
theorem dX10_undoChange_24 : decode cX10_undoChange 24 = .ok (.bipush 8, 2) := by decide +kernel
theorem dX10_undoChange_26 : decode cX10_undoChange 26 = .ok (.isub, 1) := by decide +kernel
theorem dX10_undoChange_27 : decode cX10_undoChange 27 = .ok (.sipush 255, 3) := by decide +kernel
theorem dX10_undoChange_30 : decode cX10_undoChange 30 = .ok (.iand, 1) := by decide +kernel
theorem dX10_undoChange_31 : decode cX10_undoChange 31 = .ok (.iload_n 2, 1) := by decide +kernel
theorem dX10_undoChange_32 : decode cX10_undoChange 32 = .ok (.iastore, 1) := by decide +kernel
theorem dX10_undoChange_33 : decode cX10_undoChange 33 = .ok (.return_, 1) := by decide +kernel
theorem dX10_perform_0 : decode cX10_perform 0 = .ok (.iconst 0, 1) := by decide +kernel
theorem dX10_perform_1 : decode cX10_perform 1 = .ok (.istore_n 3, 1) := by decide +kernel
theorem dX10_perform_2 : decode cX10_perform 2 = .ok (.iload_n 3, 1) := by decide +kernel
theorem dX10_perform_3 : decode cX10_perform 3 = .ok (.iconst 3, 1) := by decide +kernel
theorem dX10_perform_4 : decode cX10_perform 4 = .ok (.if_icmp .gt 21, 3) := by decide +kernel
theorem dX10_perform_7 : decode cX10_perform 7 = .ok (.aload_n 0, 1) := by decide +kernel
theorem dX10_perform_8 : decode cX10_perform 8 = .ok (.getfield 18, 3) := by decide +kernel
theorem dX10_perform_11 : decode cX10_perform 11 = .ok (.iload_n 3, 1) := by decide +kernel
theorem dX10_perform_12 : decode cX10_perform 12 = .ok (.aload_n 1, 1) := by decide +kernel
theorem dX10_perform_13 : decode cX10_perform 13 = .ok (.iload_n 2, 1) := by decide +kernel
theorem dX10_perform_14 : decode cX10_perform 14 = .ok (.iload_n 3, 1) := by decide +kernel
theorem dX10_perform_15 : decode cX10_perform 15 = .ok (.invokevirtual 62, 3) := by decide +kernel
theorem dX10_perform_18 : decode cX10_perform 18 = .ok (.iastore, 1) := by decide +kernel
theorem dX10_perform_19 : decode cX10_perform 19 = .ok (.iinc 3 1, 3) := by decide +kernel
theorem dX10_perform_22 : decode cX10_perform 22 = .ok (.goto (-20), 3) := by decide +kernel
theorem dX10_perform_25 : decode cX10_perform 25 = .ok (.aload_n 0, 1) := by decide +kernel
theorem dX10_perform_26 : decode cX10_perform 26 = .ok (.iconst 0, 1) := by decide +kernel
theorem dX10_perform_27 : decode cX10_perform 27 = .ok (.putfield 59, 3) := by decide +kernel
theorem dX10_perform_30 : decode cX10_perform 30 = .ok (.aload_n 0, 1) := by decide +kernel
theorem dX10_perform_31 : decode cX10_perform 31 = .ok (.aload_n 0, 1) := by decide +kernel
theorem dX10_perform_32 : decode cX10_perform 32 = .ok (.getfield 39, 3) := by decide +kernel
theorem dX10_perform_35 : decode cX10_perform 35 = .ok (.iconst 1, 1) := by decide +kernel
theorem dX10_perform_36 : decode cX10_perform 36 = .ok (.iadd, 1) := by decide +kernel
theorem dX10_perform_37 : decode cX10_perform 37 = .ok (.bipush 63, 2) := by decide +kernel
theorem dX10_perform_39 : decode cX10_perform 39 = .ok (.iand, 1) := by decide +kernel
theorem dX10_perform_40 : decode cX10_perform 40 = .ok (.putfield 39, 3) := by decide +kernel
theorem dX10_perform_43 : decode cX10_perform 43 = .ok (.aload_n 1, 1) := by decide +kernel
theorem dX10_perform_44 : decode cX10_perform 44 = .ok (.aload_n 0, 1) := by decide +kernel
theorem dX10_perform_45 : decode cX10_perform 45 = .ok (.invokevirtual 66, 3) := by decide +kernel
theorem dX10_perform_48 : decode cX10_perform 48 = .ok (.return_, 1) := by decide +kernel
theorem dX10_storesOf_0 : decode cX10_storesOf 0 = .ok (.iconst 0, 1) := by decide +kernel
theorem dX10_storesOf_1 : decode cX10_storesOf 1 = .ok (.istore_n 2, 1) := by decide +kernel
theorem dX10_storesOf_2 : decode cX10_storesOf 2 = .ok (.iconst 0, 1) := by decide +kernel
theorem dX10_storesOf_3 : decode cX10_storesOf 3 = .ok (.istore_n 3, 1) := by decide +kernel
theorem dX10_storesOf_4 : decode cX10_storesOf 4 = .ok (.iload_n 3, 1) := by decide +kernel
theorem dX10_storesOf_5 : decode cX10_storesOf 5 = .ok (.iconst 2, 1) := by decide +kernel
theorem dX10_storesOf_6 : decode cX10_storesOf 6 = .ok (.if_icmp .gt 31, 3) := by decide +kernel
theorem dX10_storesOf_9 : decode cX10_storesOf 9 = .ok (.iload_n 1, 1) := by decide +kernel
theorem dX10_storesOf_10 : decode cX10_storesOf 10 = .ok (.iconst 1, 1) := by decide +kernel
theorem dX10_storesOf_11 : decode cX10_storesOf 11 = .ok (.iload_n 3, 1) := by decide +kernel
theorem dX10_storesOf_12 : decode cX10_storesOf 12 = .ok (.ishl, 1) := by decide +kernel
theorem dX10_storesOf_13 : decode cX10_storesOf 13 = .ok (.iand, 1) := by decide +kernel
theorem dX10_storesOf_14 : decode cX10_storesOf 14 = .ok (.ifCond .eq 17, 3) := by decide +kernel
theorem dX10_storesOf_17 : decode cX10_storesOf 17 = .ok (.iload_n 2, 1) := by decide +kernel
theorem dX10_storesOf_18 : decode cX10_storesOf 18 = .ok (.iconst 1, 1) := by decide +kernel
theorem dX10_storesOf_19 : decode cX10_storesOf 19 = .ok (.aload_n 0, 1) := by decide +kernel
theorem dX10_storesOf_20 : decode cX10_storesOf 20 = .ok (.getfield 18, 3) := by decide +kernel
theorem dX10_storesOf_23 : decode cX10_storesOf 23 = .ok (.iload_n 3, 1) := by decide +kernel
theorem dX10_storesOf_24 : decode cX10_storesOf 24 = .ok (.iaload, 1) := by decide +kernel
theorem dX10_storesOf_25 : decode cX10_storesOf 25 = .ok (.bipush 7, 2) := by decide +kernel
theorem dX10_storesOf_27 : decode cX10_storesOf 27 = .ok (.iand, 1) := by decide +kernel
theorem dX10_storesOf_28 : decode cX10_storesOf 28 = .ok (.ishl, 1) := by decide +kernel
theorem dX10_storesOf_29 : decode cX10_storesOf 29 = .ok (.ior, 1) := by decide +kernel
theorem dX10_storesOf_30 : decode cX10_storesOf 30 = .ok (.istore_n 2, 1) := by decide +kernel
theorem dX10_storesOf_31 : decode cX10_storesOf 31 = .ok (.iinc 3 1, 3) := by decide +kernel
theorem dX10_storesOf_34 : decode cX10_storesOf 34 = .ok (.goto (-30), 3) := by decide +kernel
theorem dX10_storesOf_37 : decode cX10_storesOf 37 = .ok (.iload_n 2, 1) := by decide +kernel
theorem dX10_storesOf_38 : decode cX10_storesOf 38 = .ok (.iload_n 1, 1) := by decide +kernel
theorem dX10_storesOf_39 : decode cX10_storesOf 39 = .ok (.bipush 8, 2) := by decide +kernel
theorem dX10_storesOf_41 : decode cX10_storesOf 41 = .ok (.iand, 1) := by decide +kernel
theorem dX10_storesOf_42 : decode cX10_storesOf 42 = .ok (.ifCond .ne 7, 3) := by decide +kernel
theorem dX10_storesOf_45 : decode cX10_storesOf 45 = .ok (.iconst 0, 1) := by decide +kernel
theorem dX10_storesOf_46 : decode cX10_storesOf 46 = .ok (.goto 6, 3) := by decide +kernel
theorem dX10_storesOf_49 : decode cX10_storesOf 49 = .ok (.sipush 256, 3) := by decide +kernel
theorem dX10_storesOf_52 : decode cX10_storesOf 52 = .ok (.ior, 1) := by decide +kernel
theorem dX10_storesOf_53 : decode cX10_storesOf 53 = .ok (.istore_n 2, 1) := by decide +kernel
theorem dX10_storesOf_54 : decode cX10_storesOf 54 = .ok (.iload_n 2, 1) := by decide +kernel
theorem dX10_storesOf_55 : decode cX10_storesOf 55 = .ok (.iload_n 1, 1) := by decide +kernel
theorem dX10_storesOf_56 : decode cX10_storesOf 56 = .ok (.bipush 32, 2) := by decide +kernel
theorem dX10_storesOf_58 : decode cX10_storesOf 58 = .ok (.iand, 1) := by decide +kernel
theorem dX10_storesOf_59 : decode cX10_storesOf 59 = .ok (.ifCond .ne 7, 3) := by decide +kernel
theorem dX10_storesOf_62 : decode cX10_storesOf 62 = .ok (.iconst 0, 1) := by decide +kernel
theorem dX10_storesOf_63 : decode cX10_storesOf 63 = .ok (.goto 6, 3) := by decide +kernel
theorem dX10_storesOf_66 : decode cX10_storesOf 66 = .ok (.sipush 512, 3) := by decide +kernel
theorem dX10_storesOf_69 : decode cX10_storesOf 69 = .ok (.ior, 1) := by decide +kernel
theorem dX10_storesOf_70 : decode cX10_storesOf 70 = .ok (.ireturn, 1) := by decide +kernel
theorem dX11_init_0 : decode cX11_init 0 = .ok (.aload_n 0, 1) := by decide +kernel
theorem dX11_init_1 : decode cX11_init 1 = .ok (.invokespecial 1, 3) := by decide +kernel
theorem dX11_init_4 : decode cX11_init 4 = .ok (.aload_n 0, 1) := by decide +kernel
theorem dX11_init_5 : decode cX11_init 5 = .ok (.new 7, 3) := by decide +kernel
theorem dX11_init_8 : decode cX11_init 8 = .ok (.dup, 1) := by decide +kernel
theorem dX11_init_9 : decode cX11_init 9 = .ok (.invokespecial 9, 3) := by decide +kernel
theorem dX11_init_12 : decode cX11_init 12 = .ok (.putfield 10, 3) := by decide +kernel
theorem dX11_init_15 : decode cX11_init 15 = .ok (.aload_n 0, 1) := by decide +kernel
theorem dX11_init_16 : decode cX11_init 16 = .ok (.new 16, 3) := by decide +kernel
theorem dX11_init_19 : decode cX11_init 19 = .ok (.dup, 1) := by decide +kernel
theorem dX11_init_20 : decode cX11_init 20 = .ok (.invokespecial 18, 3) := by decide +kernel
theorem dX11_init_23 : decode cX11_init 23 = .ok (.putfield 19, 3) := by decide +kernel
theorem dX11_init_26 : decode cX11_init 26 = .ok (.aload_n 0, 1) := by decide +kernel
theorem dX11_init_27 : decode cX11_init 27 = .ok (.new 23, 3) := by decide +kernel
theorem dX11_init_30 : decode cX11_init 30 = .ok (.dup, 1) := by decide +kernel
theorem dX11_init_31 : decode cX11_init 31 = .ok (.aload_n 0, 1) := by decide +kernel
theorem dX11_init_32 : decode cX11_init 32 = .ok (.getfield 10, 3) := by decide +kernel
theorem dX11_init_35 : decode cX11_init 35 = .ok (.aload_n 0, 1) := by decide +kernel
theorem dX11_init_36 : decode cX11_init 36 = .ok (.getfield 19, 3) := by decide +kernel
theorem dX11_init_39 : decode cX11_init 39 = .ok (.invokespecial 25, 3) := by decide +kernel
theorem dX11_init_42 : decode cX11_init 42 = .ok (.putfield 28, 3) := by decide +kernel
theorem dX11_init_45 : decode cX11_init 45 = .ok (.aload_n 0, 1) := by decide +kernel
theorem dX11_init_46 : decode cX11_init 46 = .ok (.new 32, 3) := by decide +kernel
theorem dX11_init_49 : decode cX11_init 49 = .ok (.dup, 1) := by decide +kernel
theorem dX11_init_50 : decode cX11_init 50 = .ok (.invokespecial 34, 3) := by decide +kernel
theorem dX11_init_53 : decode cX11_init 53 = .ok (.putfield 35, 3) := by decide +kernel
theorem dX11_init_56 : decode cX11_init 56 = .ok (.aload_n 0, 1) := by decide +kernel
theorem dX11_init_57 : decode cX11_init 57 = .ok (.bipush 64, 2) := by decide +kernel
theorem dX11_init_59 : decode cX11_init 59 = .ok (.newarray .int, 2) := by decide +kernel
theorem dX11_init_61 : decode cX11_init 61 = .ok (.putfield 39, 3) := by decide +kernel
theorem dX11_init_64 : decode cX11_init 64 = .ok (.aload_n 0, 1) := by decide +kernel
theorem dX11_init_65 : decode cX11_init 65 = .ok (.new 43, 3) := by decide +kernel
theorem dX11_init_68 : decode cX11_init 68 = .ok (.dup, 1) := by decide +kernel
theorem dX11_init_69 : decode cX11_init 69 = .ok (.aload_n 0, 1) := by decide +kernel
theorem dX11_init_70 : decode cX11_init 70 = .ok (.getfield 19, 3) := by decide +kernel
theorem dX11_init_73 : decode cX11_init 73 = .ok (.aload_n 0, 1) := by decide +kernel
theorem dX11_init_74 : decode cX11_init 74 = .ok (.getfield 39, 3) := by decide +kernel
theorem dX11_init_77 : decode cX11_init 77 = .ok (.invokespecial 45, 3) := by decide +kernel
theorem dX11_init_80 : decode cX11_init 80 = .ok (.putfield 48, 3) := by decide +kernel
theorem dX11_init_83 : decode cX11_init 83 = .ok (.aload_n 0, 1) := by decide +kernel
theorem dX11_init_84 : decode cX11_init 84 = .ok (.new 52, 3) := by decide +kernel
theorem dX11_init_87 : decode cX11_init 87 = .ok (.dup, 1) := by decide +kernel
theorem dX11_init_88 : decode cX11_init 88 = .ok (.aload_n 0, 1) := by decide +kernel
theorem dX11_init_89 : decode cX11_init 89 = .ok (.getfield 19, 3) := by decide +kernel
theorem dX11_init_92 : decode cX11_init 92 = .ok (.invokespecial 54, 3) := by decide +kernel
theorem dX11_init_95 : decode cX11_init 95 = .ok (.putfield 57, 3) := by decide +kernel
theorem dX11_init_98 : decode cX11_init 98 = .ok (.aload_n 0, 1) := by decide +kernel
theorem dX11_init_99 : decode cX11_init 99 = .ok (.new 61, 3) := by decide +kernel
theorem dX11_init_102 : decode cX11_init 102 = .ok (.dup, 1) := by decide +kernel
theorem dX11_init_103 : decode cX11_init 103 = .ok (.invokespecial 63, 3) := by decide +kernel
theorem dX11_init_106 : decode cX11_init 106 = .ok (.putfield 64, 3) := by decide +kernel
theorem dX11_init_109 : decode cX11_init 109 = .ok (.aload_n 0, 1) := by decide +kernel
theorem dX11_init_110 : decode cX11_init 110 = .ok (.bipush 8, 2) := by decide +kernel
theorem dX11_init_112 : decode cX11_init 112 = .ok (.iconst 2, 1) := by decide +kernel
theorem dX11_init_113 : decode cX11_init 113 = .ok (.bipush 8, 2) := by decide +kernel
theorem dX11_init_115 : decode cX11_init 115 = .ok (.invokevirtual 68, 3) := by decide +kernel
theorem dX11_init_118 : decode cX11_init 118 = .ok (.return_, 1) := by decide +kernel
theorem dX11_startAnew_0 : decode cX11_startAnew 0 = .ok (.aload_n 0, 1) := by decide +kernel
theorem dX11_startAnew_1 : decode cX11_startAnew 1 = .ok (.getfield 19, 3) := by decide +kernel
theorem dX11_startAnew_4 : decode cX11_startAnew 4 = .ok (.iload_n 1, 1) := by decide +kernel
theorem dX11_startAnew_5 : decode cX11_startAnew 5 = .ok (.iload_n 2, 1) := by decide +kernel
theorem dX11_startAnew_6 : decode cX11_startAnew 6 = .ok (.iload_n 3, 1) := by decide +kernel
theorem dX11_startAnew_7 : decode cX11_startAnew 7 = .ok (.invokevirtual 72, 3) := by decide +kernel
theorem dX11_startAnew_10 : decode cX11_startAnew 10 = .ok (.aload_n 0, 1) := by decide +kernel
theorem dX11_startAnew_11 : decode cX11_startAnew 11 = .ok (.getfield 39, 3) := by decide +kernel
theorem dX11_startAnew_14 : decode cX11_startAnew 14 = .ok (.iconst 0, 1) := by decide +kernel
theorem dX11_startAnew_15 : decode cX11_startAnew 15 = .ok (.invokestatic 73, 3) := by decide +kernel
theorem dX11_startAnew_18 : decode cX11_startAnew 18 = .ok (.aload_n 0, 1) := by decide +kernel
theorem dX11_startAnew_19 : decode cX11_startAnew 19 = .ok (.getfield 48, 3) := by decide +kernel
theorem dX11_startAnew_22 : decode cX11_startAnew 22 = .ok (.aload_n 0, 1) := by decide +kernel
theorem dX11_startAnew_23 : decode cX11_startAnew 23 = .ok (.getfield 19, 3) := by decide +kernel
theorem dX11_startAnew_26 : decode cX11_startAnew 26 = .ok (.invokevirtual 79, 3) := by decide +kernel
theorem dX11_startAnew_29 : decode cX11_startAnew 29 = .ok (.invokevirtual 83, 3) := by decide +kernel
theorem dX11_startAnew_32 : decode cX11_startAnew 32 = .ok (.aload_n 0, 1) := by decide +kernel
theorem dX11_startAnew_33 : decode cX11_startAnew 33 = .ok (.getfield 57, 3) := by decide +kernel
theorem dX11_startAnew_36 : decode cX11_startAnew 36 = .ok (.iconst 1, 1) := by decide +kernel
theorem dX11_startAnew_37 : decode cX11_startAnew 37 = .ok (.invokevirtual 86, 3) := by decide +kernel
theorem dX11_startAnew_40 : decode cX11_startAnew 40 = .ok (.return_, 1) := by decide +kernel
theorem dX11_isPlace_0 : decode cX11_isPlace 0 = .ok (.iload_n 0, 1) := by decide +kernel
theorem dX11_isPlace_1 : decode cX11_isPlace 1 = .ok (.ifCond .lt 13, 3) := by decide +kernel
theorem dX11_isPlace_4 : decode cX11_isPlace 4 = .ok (.iload_n 0, 1) := by decide +kernel
theorem dX11_isPlace_5 : decode cX11_isPlace 5 = .ok (.bipush 64, 2) := by decide +kernel
theorem dX11_isPlace_7 : decode cX11_isPlace 7 = .ok (.if_icmp .ge 7, 3) := by decide +kernel
theorem dX11_isPlace_10 : decode cX11_isPlace 10 = .ok (.iconst 1, 1) := by decide +kernel
theorem dX11_isPlace_11 : decode cX11_isPlace 11 = .ok (.goto 4, 3) := by decide +kernel
theorem dX11_isPlace_14 : decode cX11_isPlace 14 = .ok (.iconst 0, 1) := by decide +kernel
theorem dX11_isPlace_15 : decode cX11_isPlace 15 = .ok (.ireturn, 1) := by decide +kernel
theorem dX11_within_0 : decode cX11_within 0 = .ok (.iload_n 0, 1) := by decide +kernel
theorem dX11_within_1 : decode cX11_within 1 = .ok (.iload_n 1, 1) := by decide +kernel
theorem dX11_within_2 : decode cX11_within 2 = .ok (.if_icmp .lt 12, 3) := by decide +kernel
theorem dX11_within_5 : decode cX11_within 5 = .ok (.iload_n 0, 1) := by decide +kernel
theorem dX11_within_6 : decode cX11_within 6 = .ok (.iload_n 2, 1) := by decide +kernel
theorem dX11_within_7 : decode cX11_within 7 = .ok (.if_icmp .gt 7, 3) := by decide +kernel
theorem dX11_within_10 : decode cX11_within 10 = .ok (.iconst 1, 1) := by decide +kernel
theorem dX11_within_11 : decode cX11_within 11 = .ok (.goto 4, 3) := by decide +kernel
theorem dX11_within_14 : decode cX11_within 14 = .ok (.iconst 0, 1) := by decide +kernel
theorem dX11_within_15 : decode cX11_within 15 = .ok (.ireturn, 1) := by decide +kernel
theorem dX11_begin_0 : decode cX11_begin 0 = .ok (.iload_n 1, 1) := by decide +kernel
theorem dX11_begin_1 : decode cX11_begin 1 = .ok (.iconst 2, 1) := by decide +kernel
theorem dX11_begin_2 : decode cX11_begin 2 = .ok (.bipush 8, 2) := by decide +kernel
theorem dX11_begin_4 : decode cX11_begin 4 = .ok (.invokestatic 89, 3) := by decide +kernel
theorem dX11_begin_7 : decode cX11_begin 7 = .ok (.ifCond .eq 23, 3) := by decide +kernel
theorem dX11_begin_10 : decode cX11_begin 10 = .ok (.iload_n 2, 1) := by decide +kernel
theorem dX11_begin_11 : decode cX11_begin 11 = .ok (.iconst 1, 1) := by decide +kernel
theorem dX11_begin_12 : decode cX11_begin 12 = .ok (.iconst 3, 1) := by decide +kernel
theorem dX11_begin_13 : decode cX11_begin 13 = .ok (.invokestatic 89, 3) := by decide +kernel
theorem dX11_begin_16 : decode cX11_begin 16 = .ok (.ifCond .eq 14, 3) := by decide +kernel
theorem dX11_begin_19 : decode cX11_begin 19 = .ok (.iload_n 3, 1) := by decide +kernel
theorem dX11_begin_20 : decode cX11_begin 20 = .ok (.bipush 6, 2) := by decide +kernel
theorem dX11_begin_22 : decode cX11_begin 22 = .ok (.bipush 12, 2) := by decide +kernel
theorem dX11_begin_24 : decode cX11_begin 24 = .ok (.invokestatic 89, 3) := by decide +kernel
theorem dX11_begin_27 : decode cX11_begin 27 = .ok (.ifCond .ne 5, 3) := by decide +kernel
theorem dX11_begin_30 : decode cX11_begin 30 = .ok (.iconst (-1), 1) := by decide +kernel
theorem dX11_begin_31 : decode cX11_begin 31 = .ok (.ireturn, 1) := by decide +kernel
theorem dX11_begin_32 : decode cX11_begin 32 = .ok (.aload_n 0, 1) := by decide +kernel
theorem dX11_begin_33 : decode cX11_begin 33 = .ok (.iload_n 1, 1) := by decide +kernel
theorem dX11_begin_34 : decode cX11_begin 34 = .ok (.iload_n 2, 1) := by decide +kernel
theorem dX11_begin_35 : decode cX11_begin 35 = .ok (.iload_n 3, 1) := by decide +kernel
theorem dX11_begin_36 : decode cX11_begin 36 = .ok (.invokevirtual 68, 3) := by decide +kernel
theorem dX11_begin_39 : decode cX11_begin 39 = .ok (.iconst 1, 1) := by decide +kernel
theorem dX11_begin_40 : decode cX11_begin 40 = .ok (.ireturn, 1) := by decide +kernel
theorem dX11_type_0 : decode cX11_type 0 = .ok (.aload_n 0, 1) := by decide +kernel
theorem dX11_type_1 : decode cX11_type 1 = .ok (.getfield 10, 3) := by decide +kernel
theorem dX11_type_4 : decode cX11_type 4 = .ok (.lload_n 1, 1) := by decide +kernel
theorem dX11_type_5 : decode cX11_type 5 = .ok (.iload_n 3, 1) := by decide +kernel
theorem dX11_type_6 : decode cX11_type 6 = .ok (.invokevirtual 93, 3) := by decide +kernel
theorem dX11_type_9 : decode cX11_type 9 = .ok (.ireturn, 1) := by decide +kernel
theorem dX11_order_0 : decode cX11_order 0 = .ok (.aload_n 0, 1) := by decide +kernel
theorem dX11_order_1 : decode cX11_order 1 = .ok (.getfield 28, 3) := by decide +kernel
theorem dX11_order_4 : decode cX11_order 4 = .ok (.invokevirtual 97, 3) := by decide +kernel
theorem dX11_order_7 : decode cX11_order 7 = .ok (.istore_n 1, 1) := by decide +kernel
theorem dX11_order_8 : decode cX11_order 8 = .ok (.aload_n 0, 1) := by decide +kernel
theorem dX11_order_9 : decode cX11_order 9 = .ok (.getfield 10, 3) := by decide +kernel
theorem dX11_order_12 : decode cX11_order 12 = .ok (.invokevirtual 101, 3) := by decide +kernel
theorem dX11_order_15 : decode cX11_order 15 = .ok (.istore_n 2, 1) := by decide +kernel
theorem dX11_order_16 : decode cX11_order 16 = .ok (.aload_n 0, 1) := by decide +kernel
theorem dX11_order_17 : decode cX11_order 17 = .ok (.getfield 10, 3) := by decide +kernel
theorem dX11_order_20 : decode cX11_order 20 = .ok (.invokevirtual 104, 3) := by decide +kernel
theorem dX11_order_23 : decode cX11_order 23 = .ok (.iload_n 1, 1) := by decide +kernel
theorem dX11_order_24 : decode cX11_order 24 = .ok (.ifCond .eq 13, 3) := by decide +kernel
theorem dX11_order_27 : decode cX11_order 27 = .ok (.aload_n 0, 1) := by decide +kernel
theorem dX11_order_28 : decode cX11_order 28 = .ok (.getfield 19, 3) := by decide +kernel
theorem dX11_order_31 : decode cX11_order 31 = .ok (.invokevirtual 107, 3) := by decide +kernel
theorem dX11_order_34 : decode cX11_order 34 = .ok (.goto 4, 3) := by decide +kernel
theorem dX11_order_37 : decode cX11_order 37 = .ok (.iload_n 2, 1) := by decide +kernel
theorem dX11_order_38 : decode cX11_order 38 = .ok (.ireturn, 1) := by decide +kernel
theorem dX11_shared_0 : decode cX11_shared 0 = .ok (.aload_n 0, 1) := by decide +kernel
theorem dX11_shared_1 : decode cX11_shared 1 = .ok (.getfield 19, 3) := by decide +kernel
theorem dX11_shared_4 : decode cX11_shared 4 = .ok (.getfield 110, 3) := by decide +kernel
theorem dX11_shared_7 : decode cX11_shared 7 = .ok (.ireturn, 1) := by decide +kernel
theorem dX11_unorder_0 : decode cX11_unorder 0 = .ok (.aload_n 0, 1) := by decide +kernel
theorem dX11_unorder_1 : decode cX11_unorder 1 = .ok (.getfield 19, 3) := by decide +kernel
theorem dX11_unorder_4 : decode cX11_unorder 4 = .ok (.invokevirtual 114, 3) := by decide +kernel
theorem dX11_unorder_7 : decode cX11_unorder 7 = .ok (.ireturn, 1) := by decide +kernel
theorem dX11_about_0 : decode cX11_about 0 = .ok (.aload_n 0, 1) := by decide +kernel
theorem dX11_about_1 : decode cX11_about 1 = .ok (.getfield 19, 3) := by decide +kernel
theorem dX11_about_4 : decode cX11_about 4 = .ok (.iload_n 1, 1) := by decide +kernel
theorem dX11_about_5 : decode cX11_about 5 = .ok (.invokevirtual 117, 3) := by decide +kernel
theorem dX11_about_8 : decode cX11_about 8 = .ok (.astore_n 3, 1) := by decide +kernel
theorem dX11_about_9 : decode cX11_about 9 = .ok (.aload_n 3, 1) := by decide +kernel
theorem dX11_about_10 : decode cX11_about 10 = .ok (.ifnonnull 7, 3) := by decide +kernel
theorem dX11_about_13 : decode cX11_about 13 = .ok (.iconst (-1), 1) := by decide +kernel
theorem dX11_about_14 : decode cX11_about 14 = .ok (.goto 8, 3) := by decide +kernel
theorem dX11_about_17 : decode cX11_about 17 = .ok (.aload_n 3, 1) := by decide +kernel
theorem dX11_about_18 : decode cX11_about 18 = .ok (.iload_n 2, 1) := by decide +kernel
theorem dX11_about_19 : decode cX11_about 19 = .ok (.invokevirtual 121, 3) := by decide +kernel
theorem dX11_about_22 : decode cX11_about 22 = .ok (.ireturn, 1) := by decide +kernel
theorem dX11_look_0 : decode cX11_look 0 = .ok (.aload_n 0, 1) := by decide +kernel
theorem dX11_look_1 : decode cX11_look 1 = .ok (.getfield 19, 3) := by decide +kernel
theorem dX11_look_4 : decode cX11_look 4 = .ok (.iload_n 1, 1) := by decide +kernel
theorem dX11_look_5 : decode cX11_look 5 = .ok (.invokevirtual 127, 3) := by decide +kernel
theorem dX11_look_8 : decode cX11_look 8 = .ok (.ifCond .ne 5, 3) := by decide +kernel
theorem dX11_look_11 : decode cX11_look 11 = .ok (.iconst (-1), 1) := by decide +kernel
theorem dX11_look_12 : decode cX11_look 12 = .ok (.ireturn, 1) := by decide +kernel
theorem dX11_look_13 : decode cX11_look 13 = .ok (.aload_n 0, 1) := by decide +kernel
theorem dX11_look_14 : decode cX11_look 14 = .ok (.getfield 19, 3) := by decide +kernel
theorem dX11_look_17 : decode cX11_look 17 = .ok (.iload_n 1, 1) := by decide +kernel
theorem dX11_look_18 : decode cX11_look 18 = .ok (.invokevirtual 131, 3) := by decide +kernel
theorem dX11_look_21 : decode cX11_look 21 = .ok (.istore_n 2, 1) := by decide +kernel
theorem dX11_look_22 : decode cX11_look 22 = .ok (.iload_n 2, 1) := by decide +kernel
theorem dX11_look_23 : decode cX11_look 23 = .ok (.ifCond .ge 8, 3) := by decide +kernel
theorem dX11_look_26 : decode cX11_look 26 = .ok (.bipush (-4), 2) := by decide +kernel
theorem dX11_look_28 : decode cX11_look 28 = .ok (.goto 4, 3) := by decide +kernel
theorem dX11_look_31 : decode cX11_look 31 = .ok (.iload_n 2, 1) := by decide +kernel
theorem dX11_look_32 : decode cX11_look 32 = .ok (.ireturn, 1) := by decide +kernel
theorem dX11_field_0 : decode cX11_field 0 = .ok (.aload_n 0, 1) := by decide +kernel
theorem dX11_field_1 : decode cX11_field 1 = .ok (.getfield 19, 3) := by decide +kernel
theorem dX11_field_4 : decode cX11_field 4 = .ok (.iload_n 1, 1) := by decide +kernel
theorem dX11_field_5 : decode cX11_field 5 = .ok (.invokevirtual 127, 3) := by decide +kernel
theorem dX11_field_8 : decode cX11_field 8 = .ok (.ifCond .eq 12, 3) := by decide +kernel
theorem dX11_field_11 : decode cX11_field 11 = .ok (.iload_n 2, 1) := by decide +kernel
theorem dX11_field_12 : decode cX11_field 12 = .ok (.iconst 0, 1) := by decide +kernel
theorem dX11_field_13 : decode cX11_field 13 = .ok (.iconst 3, 1) := by decide +kernel
theorem dX11_field_14 : decode cX11_field 14 = .ok (.invokestatic 89, 3) := by decide +kernel
theorem dX11_field_17 : decode cX11_field 17 = .ok (.ifCond .ne 5, 3) := by decide +kernel
theorem dX11_field_20 : decode cX11_field 20 = .ok (.iconst (-1), 1) := by decide +kernel
theorem dX11_field_21 : decode cX11_field 21 = .ok (.ireturn, 1) := by decide +kernel
theorem dX11_field_22 : decode cX11_field 22 = .ok (.aload_n 0, 1) := by decide +kernel
theorem dX11_field_23 : decode cX11_field 23 = .ok (.getfield 19, 3) := by decide +kernel
theorem dX11_field_26 : decode cX11_field 26 = .ok (.iload_n 1, 1) := by decide +kernel
theorem dX11_field_27 : decode cX11_field 27 = .ok (.invokevirtual 134, 3) := by decide +kernel
theorem dX11_field_30 : decode cX11_field 30 = .ok (.astore_n 3, 1) := by decide +kernel
theorem dX11_field_31 : decode cX11_field 31 = .ok (.aload_n 3, 1) := by decide +kernel
theorem dX11_field_32 : decode cX11_field 32 = .ok (.ifnull 11, 3) := by decide +kernel
theorem dX11_field_35 : decode cX11_field 35 = .ok (.aload_n 3, 1) := by decide +kernel
theorem dX11_field_36 : decode cX11_field 36 = .ok (.iload_n 2, 1) := by decide +kernel
theorem dX11_field_37 : decode cX11_field 37 = .ok (.invokevirtual 137, 3) := by decide +kernel
theorem dX11_field_40 : decode cX11_field 40 = .ok (.ifCond .ne 8, 3) := by decide +kernel
theorem dX11_field_43 : decode cX11_field 43 = .ok (.bipush (-4), 2) := by decide +kernel
theorem dX11_field_45 : decode cX11_field 45 = .ok (.goto 9, 3) := by decide +kernel
theorem dX11_field_48 : decode cX11_field 48 = .ok (.aload_n 3, 1) := by decide +kernel
theorem dX11_field_49 : decode cX11_field 49 = .ok (.iload_n 1, 1) := by decide +kernel
theorem dX11_field_50 : decode cX11_field 50 = .ok (.iload_n 2, 1) := by decide +kernel
theorem dX11_field_51 : decode cX11_field 51 = .ok (.invokevirtual 140, 3) := by decide +kernel
theorem dX11_field_54 : decode cX11_field 54 = .ok (.ireturn, 1) := by decide +kernel
theorem dX11_holes_0 : decode cX11_holes 0 = .ok (.aload_n 0, 1) := by decide +kernel
theorem dX11_holes_1 : decode cX11_holes 1 = .ok (.getfield 19, 3) := by decide +kernel
theorem dX11_holes_4 : decode cX11_holes 4 = .ok (.invokevirtual 144, 3) := by decide +kernel
theorem dX11_holes_7 : decode cX11_holes 7 = .ok (.ireturn, 1) := by decide +kernel
theorem dX11_hole_0 : decode cX11_hole 0 = .ok (.aload_n 0, 1) := by decide +kernel
theorem dX11_hole_1 : decode cX11_hole 1 = .ok (.getfield 19, 3) := by decide +kernel
theorem dX11_hole_4 : decode cX11_hole 4 = .ok (.iload_n 1, 1) := by decide +kernel
theorem dX11_hole_5 : decode cX11_hole 5 = .ok (.invokevirtual 127, 3) := by decide +kernel
theorem dX11_hole_8 : decode cX11_hole 8 = .ok (.ifCond .eq 14, 3) := by decide +kernel
theorem dX11_hole_11 : decode cX11_hole 11 = .ok (.aload_n 0, 1) := by decide +kernel
theorem dX11_hole_12 : decode cX11_hole 12 = .ok (.getfield 19, 3) := by decide +kernel
theorem dX11_hole_15 : decode cX11_hole 15 = .ok (.iload_n 1, 1) := by decide +kernel
theorem dX11_hole_16 : decode cX11_hole 16 = .ok (.invokevirtual 147, 3) := by decide +kernel
theorem dX11_hole_19 : decode cX11_hole 19 = .ok (.goto 4, 3) := by decide +kernel
theorem dX11_hole_22 : decode cX11_hole 22 = .ok (.iconst (-1), 1) := by decide +kernel
theorem dX11_hole_23 : decode cX11_hole 23 = .ok (.ireturn, 1) := by decide +kernel
theorem dX11_count_0 : decode cX11_count 0 = .ok (.iload_n 1, 1) := by decide +kernel
theorem dX11_count_1 : decode cX11_count 1 = .ok (.tableswitch 77 0 4 #[35, 43, 51, 61, 69], 35) := by decide +kernel
theorem dX11_count_36 : decode cX11_count 36 = .ok (.aload_n 0, 1) := by decide +kernel
theorem dX11_count_37 : decode cX11_count 37 = .ok (.getfield 19, 3) := by decide +kernel
theorem dX11_count_40 : decode cX11_count 40 = .ok (.getfield 150, 3) := by decide +kernel
theorem dX11_count_43 : decode cX11_count 43 = .ok (.ireturn, 1) := by decide +kernel
theorem dX11_count_44 : decode cX11_count 44 = .ok (.aload_n 0, 1) := by decide +kernel
theorem dX11_count_45 : decode cX11_count 45 = .ok (.getfield 19, 3) := by decide +kernel
theorem dX11_count_48 : decode cX11_count 48 = .ok (.invokevirtual 153, 3) := by decide +kernel
theorem dX11_count_51 : decode cX11_count 51 = .ok (.ireturn, 1) := by decide +kernel
theorem dX11_count_52 : decode cX11_count 52 = .ok (.aload_n 0, 1) := by decide +kernel
theorem dX11_count_53 : decode cX11_count 53 = .ok (.getfield 19, 3) := by decide +kernel
theorem dX11_count_56 : decode cX11_count 56 = .ok (.invokevirtual 79, 3) := by decide +kernel
theorem dX11_count_59 : decode cX11_count 59 = .ok (.iconst 1, 1) := by decide +kernel
theorem dX11_count_60 : decode cX11_count 60 = .ok (.iadd, 1) := by decide +kernel
theorem dX11_count_61 : decode cX11_count 61 = .ok (.ireturn, 1) := by decide +kernel
theorem dX11_count_62 : decode cX11_count 62 = .ok (.aload_n 0, 1) := by decide +kernel
theorem dX11_count_63 : decode cX11_count 63 = .ok (.getfield 57, 3) := by decide +kernel
theorem dX11_count_66 : decode cX11_count 66 = .ok (.getfield 156, 3) := by decide +kernel
theorem dX11_count_69 : decode cX11_count 69 = .ok (.ireturn, 1) := by decide +kernel
theorem dX11_count_70 : decode cX11_count 70 = .ok (.aload_n 0, 1) := by decide +kernel
theorem dX11_count_71 : decode cX11_count 71 = .ok (.getfield 48, 3) := by decide +kernel
theorem dX11_count_74 : decode cX11_count 74 = .ok (.getfield 159, 3) := by decide +kernel
theorem dX11_count_77 : decode cX11_count 77 = .ok (.ireturn, 1) := by decide +kernel
theorem dX11_count_78 : decode cX11_count 78 = .ok (.iconst (-1), 1) := by decide +kernel
theorem dX11_count_79 : decode cX11_count 79 = .ok (.ireturn, 1) := by decide +kernel
theorem dX11_reads_0 : decode cX11_reads 0 = .ok (.aload_n 0, 1) := by decide +kernel
theorem dX11_reads_1 : decode cX11_reads 1 = .ok (.getfield 19, 3) := by decide +kernel
theorem dX11_reads_4 : decode cX11_reads 4 = .ok (.iload_n 1, 1) := by decide +kernel
theorem dX11_reads_5 : decode cX11_reads 5 = .ok (.invokevirtual 117, 3) := by decide +kernel
theorem dX11_reads_8 : decode cX11_reads 8 = .ok (.astore_n 2, 1) := by decide +kernel
theorem dX11_reads_9 : decode cX11_reads 9 = .ok (.aload_n 2, 1) := by decide +kernel
theorem dX11_reads_10 : decode cX11_reads 10 = .ok (.ifnonnull 7, 3) := by decide +kernel
theorem dX11_reads_13 : decode cX11_reads 13 = .ok (.iconst (-1), 1) := by decide +kernel
theorem dX11_reads_14 : decode cX11_reads 14 = .ok (.goto 11, 3) := by decide +kernel
theorem dX11_reads_17 : decode cX11_reads 17 = .ok (.aload_n 0, 1) := by decide +kernel
theorem dX11_reads_18 : decode cX11_reads 18 = .ok (.getfield 35, 3) := by decide +kernel
theorem dX11_reads_21 : decode cX11_reads 21 = .ok (.aload_n 2, 1) := by decide +kernel
theorem dX11_reads_22 : decode cX11_reads 22 = .ok (.invokevirtual 162, 3) := by decide +kernel
theorem dX11_reads_25 : decode cX11_reads 25 = .ok (.ireturn, 1) := by decide +kernel
theorem dX11_writes_0 : decode cX11_writes 0 = .ok (.aload_n 0, 1) := by decide +kernel
theorem dX11_writes_1 : decode cX11_writes 1 = .ok (.getfield 19, 3) := by decide +kernel
theorem dX11_writes_4 : decode cX11_writes 4 = .ok (.iload_n 1, 1) := by decide +kernel
theorem dX11_writes_5 : decode cX11_writes 5 = .ok (.invokevirtual 117, 3) := by decide +kernel
theorem dX11_writes_8 : decode cX11_writes 8 = .ok (.astore_n 2, 1) := by decide +kernel
theorem dX11_writes_9 : decode cX11_writes 9 = .ok (.aload_n 2, 1) := by decide +kernel
theorem dX11_writes_10 : decode cX11_writes 10 = .ok (.ifnonnull 7, 3) := by decide +kernel
theorem dX11_writes_13 : decode cX11_writes 13 = .ok (.iconst (-1), 1) := by decide +kernel
theorem dX11_writes_14 : decode cX11_writes 14 = .ok (.goto 11, 3) := by decide +kernel
theorem dX11_writes_17 : decode cX11_writes 17 = .ok (.aload_n 0, 1) := by decide +kernel
theorem dX11_writes_18 : decode cX11_writes 18 = .ok (.getfield 35, 3) := by decide +kernel
theorem dX11_writes_21 : decode cX11_writes 21 = .ok (.aload_n 2, 1) := by decide +kernel
theorem dX11_writes_22 : decode cX11_writes 22 = .ok (.invokevirtual 166, 3) := by decide +kernel
theorem dX11_writes_25 : decode cX11_writes 25 = .ok (.ireturn, 1) := by decide +kernel
theorem dX11_like_0 : decode cX11_like 0 = .ok (.aload_n 0, 1) := by decide +kernel
theorem dX11_like_1 : decode cX11_like 1 = .ok (.getfield 19, 3) := by decide +kernel
theorem dX11_like_4 : decode cX11_like 4 = .ok (.iload_n 1, 1) := by decide +kernel
theorem dX11_like_5 : decode cX11_like 5 = .ok (.invokevirtual 117, 3) := by decide +kernel
theorem dX11_like_8 : decode cX11_like 8 = .ok (.astore_n 3, 1) := by decide +kernel
theorem dX11_like_9 : decode cX11_like 9 = .ok (.aload_n 0, 1) := by decide +kernel
theorem dX11_like_10 : decode cX11_like 10 = .ok (.getfield 19, 3) := by decide +kernel
theorem dX11_like_13 : decode cX11_like 13 = .ok (.iload_n 2, 1) := by decide +kernel
theorem dX11_like_14 : decode cX11_like 14 = .ok (.invokevirtual 117, 3) := by decide +kernel
theorem dX11_like_17 : decode cX11_like 17 = .ok (.astore 4, 2) := by decide +kernel
theorem dX11_like_19 : decode cX11_like 19 = .ok (.aload_n 3, 1) := by decide +kernel
theorem dX11_like_20 : decode cX11_like 20 = .ok (.ifnull 8, 3) := by decide +kernel
theorem dX11_like_23 : decode cX11_like 23 = .ok (.aload 4, 2) := by decide +kernel
theorem dX11_like_25 : decode cX11_like 25 = .ok (.ifnonnull 5, 3) := by decide +kernel
theorem dX11_like_28 : decode cX11_like 28 = .ok (.iconst (-1), 1) := by decide +kernel
theorem dX11_like_29 : decode cX11_like 29 = .ok (.ireturn, 1) := by decide +kernel
theorem dX11_like_30 : decode cX11_like 30 = .ok (.aload_n 0, 1) := by decide +kernel
theorem dX11_like_31 : decode cX11_like 31 = .ok (.getfield 35, 3) := by decide +kernel
theorem dX11_like_34 : decode cX11_like 34 = .ok (.aload_n 3, 1) := by decide +kernel
theorem dX11_like_35 : decode cX11_like 35 = .ok (.aload 4, 2) := by decide +kernel
theorem dX11_like_37 : decode cX11_like 37 = .ok (.invokevirtual 169, 3) := by decide +kernel
theorem dX11_like_40 : decode cX11_like 40 = .ok (.ifCond .eq 7, 3) := by decide +kernel
theorem dX11_like_43 : decode cX11_like 43 = .ok (.iconst 1, 1) := by decide +kernel
theorem dX11_like_44 : decode cX11_like 44 = .ok (.goto 4, 3) := by decide +kernel
theorem dX11_like_47 : decode cX11_like 47 = .ok (.iconst 0, 1) := by decide +kernel
theorem dX11_like_48 : decode cX11_like 48 = .ok (.ireturn, 1) := by decide +kernel
theorem dX11_put_0 : decode cX11_put 0 = .ok (.iload_n 1, 1) := by decide +kernel
theorem dX11_put_1 : decode cX11_put 1 = .ok (.invokestatic 173, 3) := by decide +kernel
theorem dX11_put_4 : decode cX11_put 4 = .ok (.ifCond .eq 14, 3) := by decide +kernel
theorem dX11_put_7 : decode cX11_put 7 = .ok (.aload_n 0, 1) := by decide +kernel
theorem dX11_put_8 : decode cX11_put 8 = .ok (.getfield 19, 3) := by decide +kernel
theorem dX11_put_11 : decode cX11_put 11 = .ok (.iload_n 2, 1) := by decide +kernel
theorem dX11_put_12 : decode cX11_put 12 = .ok (.invokevirtual 127, 3) := by decide +kernel
theorem dX11_put_15 : decode cX11_put 15 = .ok (.ifCond .ne 5, 3) := by decide +kernel
theorem dX11_put_18 : decode cX11_put 18 = .ok (.iconst (-1), 1) := by decide +kernel
theorem dX11_put_19 : decode cX11_put 19 = .ok (.ireturn, 1) := by decide +kernel
theorem dX11_put_20 : decode cX11_put 20 = .ok (.aload_n 0, 1) := by decide +kernel
theorem dX11_put_21 : decode cX11_put 21 = .ok (.getfield 39, 3) := by decide +kernel
theorem dX11_put_24 : decode cX11_put 24 = .ok (.iload_n 1, 1) := by decide +kernel
theorem dX11_put_25 : decode cX11_put 25 = .ok (.iaload, 1) := by decide +kernel
theorem dX11_put_26 : decode cX11_put 26 = .ok (.istore_n 3, 1) := by decide +kernel
theorem dX11_put_27 : decode cX11_put 27 = .ok (.aload_n 0, 1) := by decide +kernel
theorem dX11_put_28 : decode cX11_put 28 = .ok (.getfield 39, 3) := by decide +kernel
theorem dX11_put_31 : decode cX11_put 31 = .ok (.iload_n 1, 1) := by decide +kernel
theorem dX11_put_32 : decode cX11_put 32 = .ok (.iload_n 2, 1) := by decide +kernel
theorem dX11_put_33 : decode cX11_put 33 = .ok (.iastore, 1) := by decide +kernel
theorem dX11_put_34 : decode cX11_put 34 = .ok (.iload_n 3, 1) := by decide +kernel
theorem dX11_put_35 : decode cX11_put 35 = .ok (.ireturn, 1) := by decide +kernel
theorem dX11_code_0 : decode cX11_code 0 = .ok (.iload_n 1, 1) := by decide +kernel
theorem dX11_code_1 : decode cX11_code 1 = .ok (.invokestatic 173, 3) := by decide +kernel
theorem dX11_code_4 : decode cX11_code 4 = .ok (.ifCond .eq 12, 3) := by decide +kernel
theorem dX11_code_7 : decode cX11_code 7 = .ok (.aload_n 0, 1) := by decide +kernel
theorem dX11_code_8 : decode cX11_code 8 = .ok (.getfield 39, 3) := by decide +kernel
theorem dX11_code_11 : decode cX11_code 11 = .ok (.iload_n 1, 1) := by decide +kernel
theorem dX11_code_12 : decode cX11_code 12 = .ok (.iaload, 1) := by decide +kernel
theorem dX11_code_13 : decode cX11_code 13 = .ok (.goto 4, 3) := by decide +kernel
theorem dX11_code_16 : decode cX11_code 16 = .ok (.iconst (-1), 1) := by decide +kernel
theorem dX11_code_17 : decode cX11_code 17 = .ok (.ireturn, 1) := by decide +kernel
theorem dX11_set_0 : decode cX11_set 0 = .ok (.aload_n 0, 1) := by decide +kernel
theorem dX11_set_1 : decode cX11_set 1 = .ok (.iload_n 1, 1) := by decide +kernel
theorem dX11_set_2 : decode cX11_set 2 = .ok (.iload_n 2, 1) := by decide +kernel
theorem dX11_set_3 : decode cX11_set 3 = .ok (.invokevirtual 176, 3) := by decide +kernel
theorem dX11_set_6 : decode cX11_set 6 = .ok (.istore 4, 2) := by decide +kernel
theorem dX11_set_8 : decode cX11_set 8 = .ok (.iload 4, 2) := by decide +kernel
theorem dX11_set_10 : decode cX11_set 10 = .ok (.ifCond .lt 22, 3) := by decide +kernel
theorem dX11_set_13 : decode cX11_set 13 = .ok (.iload_n 3, 1) := by decide +kernel
theorem dX11_set_14 : decode cX11_set 14 = .ok (.ifCond .lt 18, 3) := by decide +kernel
theorem dX11_set_17 : decode cX11_set 17 = .ok (.iload_n 3, 1) := by decide +kernel
theorem dX11_set_18 : decode cX11_set 18 = .ok (.aload_n 0, 1) := by decide +kernel
theorem dX11_set_19 : decode cX11_set 19 = .ok (.getfield 48, 3) := by decide +kernel
theorem dX11_set_22 : decode cX11_set 22 = .ok (.getfield 179, 3) := by decide +kernel
theorem dX11_set_25 : decode cX11_set 25 = .ok (.iload_n 1, 1) := by decide +kernel
theorem dX11_set_26 : decode cX11_set 26 = .ok (.invokevirtual 183, 3) := by decide +kernel
theorem dX11_set_29 : decode cX11_set 29 = .ok (.if_icmp .le 5, 3) := by decide +kernel
theorem dX11_set_32 : decode cX11_set 32 = .ok (.iconst (-1), 1) := by decide +kernel
theorem dX11_set_33 : decode cX11_set 33 = .ok (.ireturn, 1) := by decide +kernel
theorem dX11_set_34 : decode cX11_set 34 = .ok (.aload_n 0, 1) := by decide +kernel
theorem dX11_set_35 : decode cX11_set 35 = .ok (.getfield 48, 3) := by decide +kernel
theorem dX11_set_38 : decode cX11_set 38 = .ok (.iload_n 1, 1) := by decide +kernel
theorem dX11_set_39 : decode cX11_set 39 = .ok (.iload_n 2, 1) := by decide +kernel
theorem dX11_set_40 : decode cX11_set 40 = .ok (.iload_n 3, 1) := by decide +kernel
theorem dX11_set_41 : decode cX11_set 41 = .ok (.invokevirtual 188, 3) := by decide +kernel
theorem dX11_set_44 : decode cX11_set 44 = .ok (.iload 4, 2) := by decide +kernel
theorem dX11_set_46 : decode cX11_set 46 = .ok (.ireturn, 1) := by decide +kernel
theorem dX11_get_0 : decode cX11_get 0 = .ok (.iload_n 1, 1) := by decide +kernel
theorem dX11_get_1 : decode cX11_get 1 = .ok (.ifCond .ne 22, 3) := by decide +kernel
theorem dX11_get_4 : decode cX11_get 4 = .ok (.iload_n 2, 1) := by decide +kernel
theorem dX11_get_5 : decode cX11_get 5 = .ok (.iconst 0, 1) := by decide +kernel
theorem dX11_get_6 : decode cX11_get 6 = .ok (.aload_n 0, 1) := by decide +kernel
theorem dX11_get_7 : decode cX11_get 7 = .ok (.getfield 19, 3) := by decide +kernel
theorem dX11_get_10 : decode cX11_get 10 = .ok (.invokevirtual 153, 3) := by decide +kernel
theorem dX11_get_13 : decode cX11_get 13 = .ok (.iconst 1, 1) := by decide +kernel
theorem dX11_get_14 : decode cX11_get 14 = .ok (.isub, 1) := by decide +kernel
theorem dX11_get_15 : decode cX11_get 15 = .ok (.invokestatic 89, 3) := by decide +kernel
theorem dX11_get_18 : decode cX11_get 18 = .ok (.ifCond .ne 5, 3) := by decide +kernel
theorem dX11_get_21 : decode cX11_get 21 = .ok (.iconst (-1), 1) := by decide +kernel
theorem dX11_get_22 : decode cX11_get 22 = .ok (.ireturn, 1) := by decide +kernel
theorem dX11_get_23 : decode cX11_get 23 = .ok (.iload_n 1, 1) := by decide +kernel
theorem dX11_get_24 : decode cX11_get 24 = .ok (.iconst 1, 1) := by decide +kernel
theorem dX11_get_25 : decode cX11_get 25 = .ok (.if_icmp .ne 20, 3) := by decide +kernel
theorem dX11_get_28 : decode cX11_get 28 = .ok (.iload_n 2, 1) := by decide +kernel
theorem dX11_get_29 : decode cX11_get 29 = .ok (.iconst 0, 1) := by decide +kernel
theorem dX11_get_30 : decode cX11_get 30 = .ok (.aload_n 0, 1) := by decide +kernel
theorem dX11_get_31 : decode cX11_get 31 = .ok (.getfield 19, 3) := by decide +kernel
theorem dX11_get_34 : decode cX11_get 34 = .ok (.invokevirtual 79, 3) := by decide +kernel
theorem dX11_get_37 : decode cX11_get 37 = .ok (.invokestatic 89, 3) := by decide +kernel
theorem dX11_get_40 : decode cX11_get 40 = .ok (.ifCond .ne 5, 3) := by decide +kernel
theorem dX11_get_43 : decode cX11_get 43 = .ok (.iconst (-1), 1) := by decide +kernel
theorem dX11_get_44 : decode cX11_get 44 = .ok (.ireturn, 1) := by decide +kernel
theorem dX11_get_45 : decode cX11_get 45 = .ok (.iload_n 1, 1) := by decide +kernel
theorem dX11_get_46 : decode cX11_get 46 = .ok (.iconst 0, 1) := by decide +kernel
theorem dX11_get_47 : decode cX11_get 47 = .ok (.iconst 3, 1) := by decide +kernel
theorem dX11_get_48 : decode cX11_get 48 = .ok (.invokestatic 89, 3) := by decide +kernel
theorem dX11_get_51 : decode cX11_get 51 = .ok (.ifCond .eq 18, 3) := by decide +kernel
theorem dX11_get_54 : decode cX11_get 54 = .ok (.aload_n 0, 1) := by decide +kernel
theorem dX11_get_55 : decode cX11_get 55 = .ok (.getfield 48, 3) := by decide +kernel
theorem dX11_get_58 : decode cX11_get 58 = .ok (.getfield 179, 3) := by decide +kernel
theorem dX11_get_61 : decode cX11_get 61 = .ok (.iload_n 1, 1) := by decide +kernel
theorem dX11_get_62 : decode cX11_get 62 = .ok (.iload_n 2, 1) := by decide +kernel
theorem dX11_get_63 : decode cX11_get 63 = .ok (.invokevirtual 191, 3) := by decide +kernel
theorem dX11_get_66 : decode cX11_get 66 = .ok (.goto 4, 3) := by decide +kernel
theorem dX11_get_69 : decode cX11_get 69 = .ok (.iconst (-1), 1) := by decide +kernel
theorem dX11_get_70 : decode cX11_get 70 = .ok (.ireturn, 1) := by decide +kernel
theorem dX11_reset_0 : decode cX11_reset 0 = .ok (.aload_n 0, 1) := by decide +kernel
theorem dX11_reset_1 : decode cX11_reset 1 = .ok (.getfield 48, 3) := by decide +kernel
theorem dX11_reset_4 : decode cX11_reset 4 = .ok (.invokevirtual 194, 3) := by decide +kernel
theorem dX11_reset_7 : decode cX11_reset 7 = .ok (.iconst 1, 1) := by decide +kernel
theorem dX11_reset_8 : decode cX11_reset 8 = .ok (.ireturn, 1) := by decide +kernel
theorem dX11_run_0 : decode cX11_run 0 = .ok (.iload_n 1, 1) := by decide +kernel
theorem dX11_run_1 : decode cX11_run 1 = .ok (.iconst 1, 1) := by decide +kernel
theorem dX11_run_2 : decode cX11_run 2 = .ok (.sipush 2000, 3) := by decide +kernel
theorem dX11_run_5 : decode cX11_run 5 = .ok (.invokestatic 89, 3) := by decide +kernel
theorem dX11_run_8 : decode cX11_run 8 = .ok (.ifCond .ne 5, 3) := by decide +kernel
theorem dX11_run_11 : decode cX11_run 11 = .ok (.iconst (-1), 1) := by decide +kernel
theorem dX11_run_12 : decode cX11_run 12 = .ok (.ireturn, 1) := by decide +kernel
theorem dX11_run_13 : decode cX11_run 13 = .ok (.aload_n 0, 1) := by decide +kernel
theorem dX11_run_14 : decode cX11_run 14 = .ok (.getfield 48, 3) := by decide +kernel
theorem dX11_run_17 : decode cX11_run 17 = .ok (.iload_n 1, 1) := by decide +kernel
theorem dX11_run_18 : decode cX11_run 18 = .ok (.invokevirtual 197, 3) := by decide +kernel
theorem dX11_run_21 : decode cX11_run 21 = .ok (.istore_n 2, 1) := by decide +kernel
theorem dX11_run_22 : decode cX11_run 22 = .ok (.iload_n 2, 1) := by decide +kernel
theorem dX11_run_23 : decode cX11_run 23 = .ok (.ifCond .ne 8, 3) := by decide +kernel
theorem dX11_run_26 : decode cX11_run 26 = .ok (.bipush (-5), 2) := by decide +kernel
theorem dX11_run_28 : decode cX11_run 28 = .ok (.goto 4, 3) := by decide +kernel
theorem dX11_run_31 : decode cX11_run 31 = .ok (.iload_n 2, 1) := by decide +kernel
theorem dX11_run_32 : decode cX11_run 32 = .ok (.ireturn, 1) := by decide +kernel
theorem dX11_back_0 : decode cX11_back 0 = .ok (.iload_n 1, 1) := by decide +kernel
theorem dX11_back_1 : decode cX11_back 1 = .ok (.iconst 1, 1) := by decide +kernel
theorem dX11_back_2 : decode cX11_back 2 = .ok (.bipush 100, 2) := by decide +kernel
theorem dX11_back_4 : decode cX11_back 4 = .ok (.invokestatic 89, 3) := by decide +kernel
theorem dX11_back_7 : decode cX11_back 7 = .ok (.ifCond .eq 14, 3) := by decide +kernel
theorem dX11_back_10 : decode cX11_back 10 = .ok (.aload_n 0, 1) := by decide +kernel
theorem dX11_back_11 : decode cX11_back 11 = .ok (.getfield 48, 3) := by decide +kernel
theorem dX11_back_14 : decode cX11_back 14 = .ok (.iload_n 1, 1) := by decide +kernel
theorem dX11_back_15 : decode cX11_back 15 = .ok (.invokevirtual 200, 3) := by decide +kernel
theorem dX11_back_18 : decode cX11_back 18 = .ok (.goto 4, 3) := by decide +kernel
theorem dX11_back_21 : decode cX11_back 21 = .ok (.iconst (-1), 1) := by decide +kernel
theorem dX11_back_22 : decode cX11_back 22 = .ok (.ireturn, 1) := by decide +kernel
theorem dX11_so_0 : decode cX11_so 0 = .ok (.iload_n 1, 1) := by decide +kernel
theorem dX11_so_1 : decode cX11_so 1 = .ok (.tableswitch 63 0 3 #[31, 39, 47, 55], 31) := by decide +kernel
theorem dX11_so_32 : decode cX11_so 32 = .ok (.aload_n 0, 1) := by decide +kernel
theorem dX11_so_33 : decode cX11_so 33 = .ok (.getfield 48, 3) := by decide +kernel
theorem dX11_so_36 : decode cX11_so 36 = .ok (.getfield 203, 3) := by decide +kernel
theorem dX11_so_39 : decode cX11_so 39 = .ok (.ireturn, 1) := by decide +kernel
theorem dX11_so_40 : decode cX11_so 40 = .ok (.aload_n 0, 1) := by decide +kernel
theorem dX11_so_41 : decode cX11_so 41 = .ok (.getfield 48, 3) := by decide +kernel
theorem dX11_so_44 : decode cX11_so 44 = .ok (.getfield 206, 3) := by decide +kernel
theorem dX11_so_47 : decode cX11_so 47 = .ok (.ireturn, 1) := by decide +kernel
theorem dX11_so_48 : decode cX11_so 48 = .ok (.aload_n 0, 1) := by decide +kernel
theorem dX11_so_49 : decode cX11_so 49 = .ok (.getfield 48, 3) := by decide +kernel
theorem dX11_so_52 : decode cX11_so 52 = .ok (.getfield 209, 3) := by decide +kernel
theorem dX11_so_55 : decode cX11_so 55 = .ok (.ireturn, 1) := by decide +kernel
theorem dX11_so_56 : decode cX11_so 56 = .ok (.aload_n 0, 1) := by decide +kernel
theorem dX11_so_57 : decode cX11_so 57 = .ok (.getfield 48, 3) := by decide +kernel
theorem dX11_so_60 : decode cX11_so 60 = .ok (.getfield 212, 3) := by decide +kernel
theorem dX11_so_63 : decode cX11_so 63 = .ok (.ireturn, 1) := by decide +kernel
theorem dX11_so_64 : decode cX11_so 64 = .ok (.iconst (-1), 1) := by decide +kernel
theorem dX11_so_65 : decode cX11_so 65 = .ok (.ireturn, 1) := by decide +kernel
theorem dX11_flush_0 : decode cX11_flush 0 = .ok (.iload_n 1, 1) := by decide +kernel
theorem dX11_flush_1 : decode cX11_flush 1 = .ok (.iconst 0, 1) := by decide +kernel
theorem dX11_flush_2 : decode cX11_flush 2 = .ok (.bipush 9, 2) := by decide +kernel
theorem dX11_flush_4 : decode cX11_flush 4 = .ok (.invokestatic 89, 3) := by decide +kernel
theorem dX11_flush_7 : decode cX11_flush 7 = .ok (.ifCond .ne 5, 3) := by decide +kernel
theorem dX11_flush_10 : decode cX11_flush 10 = .ok (.iconst (-1), 1) := by decide +kernel
theorem dX11_flush_11 : decode cX11_flush 11 = .ok (.ireturn, 1) := by decide +kernel
theorem dX11_flush_12 : decode cX11_flush 12 = .ok (.aload_n 0, 1) := by decide +kernel
theorem dX11_flush_13 : decode cX11_flush 13 = .ok (.getfield 48, 3) := by decide +kernel
theorem dX11_flush_16 : decode cX11_flush 16 = .ok (.getfield 159, 3) := by decide +kernel
theorem dX11_flush_19 : decode cX11_flush 19 = .ok (.istore_n 2, 1) := by decide +kernel
theorem dX11_flush_20 : decode cX11_flush 20 = .ok (.aload_n 0, 1) := by decide +kernel
theorem dX11_flush_21 : decode cX11_flush 21 = .ok (.getfield 48, 3) := by decide +kernel
theorem dX11_flush_24 : decode cX11_flush 24 = .ok (.iload_n 1, 1) := by decide +kernel
theorem dX11_flush_25 : decode cX11_flush 25 = .ok (.putfield 159, 3) := by decide +kernel
theorem dX11_flush_28 : decode cX11_flush 28 = .ok (.iload_n 2, 1) := by decide +kernel
theorem dX11_flush_29 : decode cX11_flush 29 = .ok (.ireturn, 1) := by decide +kernel
theorem dX11_line_0 : decode cX11_line 0 = .ok (.aload_n 0, 1) := by decide +kernel
theorem dX11_line_1 : decode cX11_line 1 = .ok (.getfield 28, 3) := by decide +kernel
theorem dX11_line_4 : decode cX11_line 4 = .ok (.invokevirtual 215, 3) := by decide +kernel
theorem dX11_line_7 : decode cX11_line 7 = .ok (.istore_n 1, 1) := by decide +kernel
theorem dX11_line_8 : decode cX11_line 8 = .ok (.aload_n 0, 1) := by decide +kernel
theorem dX11_line_9 : decode cX11_line 9 = .ok (.getfield 10, 3) := by decide +kernel
theorem dX11_line_12 : decode cX11_line 12 = .ok (.invokevirtual 101, 3) := by decide +kernel
theorem dX11_line_15 : decode cX11_line 15 = .ok (.istore_n 2, 1) := by decide +kernel
theorem dX11_line_16 : decode cX11_line 16 = .ok (.aload_n 0, 1) := by decide +kernel
theorem dX11_line_17 : decode cX11_line 17 = .ok (.getfield 10, 3) := by decide +kernel
theorem dX11_line_20 : decode cX11_line 20 = .ok (.invokevirtual 104, 3) := by decide +kernel
theorem dX11_line_23 : decode cX11_line 23 = .ok (.iload_n 1, 1) := by decide +kernel
theorem dX11_line_24 : decode cX11_line 24 = .ok (.ifCond .ge 7, 3) := by decide +kernel
theorem dX11_line_27 : decode cX11_line 27 = .ok (.iload_n 2, 1) := by decide +kernel
theorem dX11_line_28 : decode cX11_line 28 = .ok (.goto 4, 3) := by decide +kernel
theorem dX11_line_31 : decode cX11_line 31 = .ok (.iload_n 1, 1) := by decide +kernel
theorem dX11_line_32 : decode cX11_line 32 = .ok (.ireturn, 1) := by decide +kernel
theorem dX11_text_0 : decode cX11_text 0 = .ok (.aload_n 0, 1) := by decide +kernel
theorem dX11_text_1 : decode cX11_text 1 = .ok (.getfield 19, 3) := by decide +kernel
theorem dX11_text_4 : decode cX11_text 4 = .ok (.iload_n 1, 1) := by decide +kernel
theorem dX11_text_5 : decode cX11_text 5 = .ok (.invokevirtual 127, 3) := by decide +kernel
theorem dX11_text_8 : decode cX11_text 8 = .ok (.ifCond .eq 8, 3) := by decide +kernel
theorem dX11_text_11 : decode cX11_text 11 = .ok (.iload_n 2, 1) := by decide +kernel
theorem dX11_text_12 : decode cX11_text 12 = .ok (.iconst (-1), 1) := by decide +kernel
theorem dX11_text_13 : decode cX11_text 13 = .ok (.if_icmp .ge 5, 3) := by decide +kernel
theorem dX11_text_16 : decode cX11_text 16 = .ok (.iconst (-1), 1) := by decide +kernel
theorem dX11_text_17 : decode cX11_text 17 = .ok (.ireturn, 1) := by decide +kernel
theorem dX11_text_18 : decode cX11_text 18 = .ok (.aload_n 0, 1) := by decide +kernel
theorem dX11_text_19 : decode cX11_text 19 = .ok (.getfield 19, 3) := by decide +kernel
theorem dX11_text_22 : decode cX11_text 22 = .ok (.iload_n 1, 1) := by decide +kernel
theorem dX11_text_23 : decode cX11_text 23 = .ok (.invokevirtual 134, 3) := by decide +kernel
theorem dX11_text_26 : decode cX11_text 26 = .ok (.astore_n 3, 1) := by decide +kernel
theorem dX11_text_27 : decode cX11_text 27 = .ok (.aload_n 3, 1) := by decide +kernel
theorem dX11_text_28 : decode cX11_text 28 = .ok (.ifnonnull 6, 3) := by decide +kernel
theorem dX11_text_31 : decode cX11_text 31 = .ok (.bipush (-4), 2) := by decide +kernel
theorem dX11_text_33 : decode cX11_text 33 = .ok (.ireturn, 1) := by decide +kernel
theorem dX11_text_34 : decode cX11_text 34 = .ok (.aload_n 0, 1) := by decide +kernel
theorem dX11_text_35 : decode cX11_text 35 = .ok (.getfield 28, 3) := by decide +kernel
theorem dX11_text_38 : decode cX11_text 38 = .ok (.aload_n 3, 1) := by decide +kernel
theorem dX11_text_39 : decode cX11_text 39 = .ok (.iload_n 1, 1) := by decide +kernel
theorem dX11_text_40 : decode cX11_text 40 = .ok (.invokevirtual 218, 3) := by decide +kernel
theorem dX11_text_43 : decode cX11_text 43 = .ok (.iload_n 2, 1) := by decide +kernel
theorem dX11_text_44 : decode cX11_text 44 = .ok (.iconst (-1), 1) := by decide +kernel
theorem dX11_text_45 : decode cX11_text 45 = .ok (.if_icmp .ne 13, 3) := by decide +kernel
theorem dX11_text_48 : decode cX11_text 48 = .ok (.aload_n 0, 1) := by decide +kernel
theorem dX11_text_49 : decode cX11_text 49 = .ok (.getfield 28, 3) := by decide +kernel
theorem dX11_text_52 : decode cX11_text 52 = .ok (.getfield 222, 3) := by decide +kernel
theorem dX11_text_55 : decode cX11_text 55 = .ok (.goto 11, 3) := by decide +kernel
theorem dX11_text_58 : decode cX11_text 58 = .ok (.aload_n 0, 1) := by decide +kernel
theorem dX11_text_59 : decode cX11_text 59 = .ok (.getfield 28, 3) := by decide +kernel
theorem dX11_text_62 : decode cX11_text 62 = .ok (.iload_n 2, 1) := by decide +kernel
theorem dX11_text_63 : decode cX11_text 63 = .ok (.invokevirtual 225, 3) := by decide +kernel
theorem dX11_text_66 : decode cX11_text 66 = .ok (.ireturn, 1) := by decide +kernel
theorem dX11_variables_0 : decode cX11_variables 0 = .ok (.iload_n 1, 1) := by decide +kernel
theorem dX11_variables_1 : decode cX11_variables 1 = .ok (.iconst 1, 1) := by decide +kernel
theorem dX11_variables_2 : decode cX11_variables 2 = .ok (.aload_n 0, 1) := by decide +kernel
theorem dX11_variables_3 : decode cX11_variables 3 = .ok (.getfield 19, 3) := by decide +kernel
theorem dX11_variables_6 : decode cX11_variables 6 = .ok (.invokevirtual 153, 3) := by decide +kernel
theorem dX11_variables_9 : decode cX11_variables 9 = .ok (.invokestatic 89, 3) := by decide +kernel
theorem dX11_variables_12 : decode cX11_variables 12 = .ok (.ifCond .ne 5, 3) := by decide +kernel
theorem dX11_variables_15 : decode cX11_variables 15 = .ok (.iconst (-1), 1) := by decide +kernel
theorem dX11_variables_16 : decode cX11_variables 16 = .ok (.ireturn, 1) := by decide +kernel
theorem dX11_variables_17 : decode cX11_variables 17 = .ok (.aload_n 0, 1) := by decide +kernel
theorem dX11_variables_18 : decode cX11_variables 18 = .ok (.getfield 57, 3) := by decide +kernel
theorem dX11_variables_21 : decode cX11_variables 21 = .ok (.getfield 156, 3) := by decide +kernel
theorem dX11_variables_24 : decode cX11_variables 24 = .ok (.istore_n 2, 1) := by decide +kernel
theorem dX11_variables_25 : decode cX11_variables 25 = .ok (.aload_n 0, 1) := by decide +kernel
theorem dX11_variables_26 : decode cX11_variables 26 = .ok (.getfield 57, 3) := by decide +kernel
theorem dX11_variables_29 : decode cX11_variables 29 = .ok (.iload_n 1, 1) := by decide +kernel
theorem dX11_variables_30 : decode cX11_variables 30 = .ok (.invokevirtual 86, 3) := by decide +kernel
theorem dX11_variables_33 : decode cX11_variables 33 = .ok (.iload_n 2, 1) := by decide +kernel
theorem dX11_variables_34 : decode cX11_variables 34 = .ok (.ireturn, 1) := by decide +kernel
theorem dX11_sum_0 : decode cX11_sum 0 = .ok (.aload_n 0, 1) := by decide +kernel
theorem dX11_sum_1 : decode cX11_sum 1 = .ok (.getfield 57, 3) := by decide +kernel
theorem dX11_sum_4 : decode cX11_sum 4 = .ok (.aload_n 0, 1) := by decide +kernel
theorem dX11_sum_5 : decode cX11_sum 5 = .ok (.getfield 10, 3) := by decide +kernel
theorem dX11_sum_8 : decode cX11_sum 8 = .ok (.invokevirtual 228, 3) := by decide +kernel
theorem dX11_sum_11 : decode cX11_sum 11 = .ok (.istore_n 1, 1) := by decide +kernel
theorem dX11_sum_12 : decode cX11_sum 12 = .ok (.aload_n 0, 1) := by decide +kernel
theorem dX11_sum_13 : decode cX11_sum 13 = .ok (.getfield 10, 3) := by decide +kernel
theorem dX11_sum_16 : decode cX11_sum 16 = .ok (.invokevirtual 101, 3) := by decide +kernel
theorem dX11_sum_19 : decode cX11_sum 19 = .ok (.istore_n 2, 1) := by decide +kernel
theorem dX11_sum_20 : decode cX11_sum 20 = .ok (.aload_n 0, 1) := by decide +kernel
theorem dX11_sum_21 : decode cX11_sum 21 = .ok (.getfield 10, 3) := by decide +kernel
theorem dX11_sum_24 : decode cX11_sum 24 = .ok (.invokevirtual 104, 3) := by decide +kernel
theorem dX11_sum_27 : decode cX11_sum 27 = .ok (.iload_n 1, 1) := by decide +kernel
theorem dX11_sum_28 : decode cX11_sum 28 = .ok (.ifCond .eq 16, 3) := by decide +kernel
theorem dX11_sum_31 : decode cX11_sum 31 = .ok (.aload_n 0, 1) := by decide +kernel
theorem dX11_sum_32 : decode cX11_sum 32 = .ok (.getfield 57, 3) := by decide +kernel
theorem dX11_sum_35 : decode cX11_sum 35 = .ok (.getfield 232, 3) := by decide +kernel
theorem dX11_sum_38 : decode cX11_sum 38 = .ok (.getfield 235, 3) := by decide +kernel
theorem dX11_sum_41 : decode cX11_sum 41 = .ok (.goto 4, 3) := by decide +kernel
theorem dX11_sum_44 : decode cX11_sum 44 = .ok (.iload_n 2, 1) := by decide +kernel
theorem dX11_sum_45 : decode cX11_sum 45 = .ok (.ireturn, 1) := by decide +kernel
theorem dX11_price_0 : decode cX11_price 0 = .ok (.aload_n 0, 1) := by decide +kernel
theorem dX11_price_1 : decode cX11_price 1 = .ok (.getfield 57, 3) := by decide +kernel
theorem dX11_price_4 : decode cX11_price 4 = .ok (.getfield 240, 3) := by decide +kernel
theorem dX11_price_7 : decode cX11_price 7 = .ok (.ifCond .eq 13, 3) := by decide +kernel
theorem dX11_price_10 : decode cX11_price 10 = .ok (.aload_n 0, 1) := by decide +kernel
theorem dX11_price_11 : decode cX11_price 11 = .ok (.getfield 57, 3) := by decide +kernel
theorem dX11_price_14 : decode cX11_price 14 = .ok (.invokevirtual 244, 3) := by decide +kernel
theorem dX11_price_17 : decode cX11_price 17 = .ok (.goto 5, 3) := by decide +kernel
theorem dX11_price_20 : decode cX11_price 20 = .ok (.bipush (-2), 2) := by decide +kernel
theorem dX11_price_22 : decode cX11_price 22 = .ok (.ireturn, 1) := by decide +kernel
theorem dX11_make_0 : decode cX11_make 0 = .ok (.iload_n 1, 1) := by decide +kernel
theorem dX11_make_1 : decode cX11_make 1 = .ok (.invokestatic 173, 3) := by decide +kernel
theorem dX11_make_4 : decode cX11_make 4 = .ok (.ifCond .ne 5, 3) := by decide +kernel
theorem dX11_make_7 : decode cX11_make 7 = .ok (.iconst (-1), 1) := by decide +kernel
theorem dX11_make_8 : decode cX11_make 8 = .ok (.ireturn, 1) := by decide +kernel
theorem dX11_make_9 : decode cX11_make 9 = .ok (.aload_n 0, 1) := by decide +kernel
theorem dX11_make_10 : decode cX11_make 10 = .ok (.getfield 57, 3) := by decide +kernel
theorem dX11_make_13 : decode cX11_make 13 = .ok (.getfield 240, 3) := by decide +kernel
theorem dX11_make_16 : decode cX11_make 16 = .ok (.ifCond .eq 18, 3) := by decide +kernel
theorem dX11_make_19 : decode cX11_make 19 = .ok (.aload_n 0, 1) := by decide +kernel
theorem dX11_make_20 : decode cX11_make 20 = .ok (.getfield 57, 3) := by decide +kernel
theorem dX11_make_23 : decode cX11_make 23 = .ok (.aload_n 0, 1) := by decide +kernel
theorem dX11_make_24 : decode cX11_make 24 = .ok (.getfield 39, 3) := by decide +kernel
theorem dX11_make_27 : decode cX11_make 27 = .ok (.iload_n 1, 1) := by decide +kernel
theorem dX11_make_28 : decode cX11_make 28 = .ok (.invokevirtual 247, 3) := by decide +kernel
theorem dX11_make_31 : decode cX11_make 31 = .ok (.goto 5, 3) := by decide +kernel
theorem dX11_make_34 : decode cX11_make 34 = .ok (.bipush (-2), 2) := by decide +kernel
theorem dX11_make_36 : decode cX11_make 36 = .ok (.ireturn, 1) := by decide +kernel
theorem dX11_value_0 : decode cX11_value 0 = .ok (.aload_n 0, 1) := by decide +kernel
theorem dX11_value_1 : decode cX11_value 1 = .ok (.getfield 57, 3) := by decide +kernel
theorem dX11_value_4 : decode cX11_value 4 = .ok (.getfield 240, 3) := by decide +kernel
theorem dX11_value_7 : decode cX11_value 7 = .ok (.ifCond .eq 33, 3) := by decide +kernel
theorem dX11_value_10 : decode cX11_value 10 = .ok (.aload_n 0, 1) := by decide +kernel
theorem dX11_value_11 : decode cX11_value 11 = .ok (.getfield 57, 3) := by decide +kernel
theorem dX11_value_14 : decode cX11_value 14 = .ok (.getfield 232, 3) := by decide +kernel
theorem dX11_value_17 : decode cX11_value 17 = .ok (.aload_n 0, 1) := by decide +kernel
theorem dX11_value_18 : decode cX11_value 18 = .ok (.getfield 48, 3) := by decide +kernel
theorem dX11_value_21 : decode cX11_value 21 = .ok (.getfield 179, 3) := by decide +kernel
theorem dX11_value_24 : decode cX11_value 24 = .ok (.getfield 251, 3) := by decide +kernel
theorem dX11_value_27 : decode cX11_value 27 = .ok (.aload_n 0, 1) := by decide +kernel
theorem dX11_value_28 : decode cX11_value 28 = .ok (.getfield 19, 3) := by decide +kernel
theorem dX11_value_31 : decode cX11_value 31 = .ok (.invokevirtual 79, 3) := by decide +kernel
theorem dX11_value_34 : decode cX11_value 34 = .ok (.invokevirtual 253, 3) := by decide +kernel
theorem dX11_value_37 : decode cX11_value 37 = .ok (.goto 5, 3) := by decide +kernel
theorem dX11_value_40 : decode cX11_value 40 = .ok (.bipush (-2), 2) := by decide +kernel
theorem dX11_value_42 : decode cX11_value 42 = .ok (.ireturn, 1) := by decide +kernel
theorem dX11_pairs_0 : decode cX11_pairs 0 = .ok (.aload_n 0, 1) := by decide +kernel
theorem dX11_pairs_1 : decode cX11_pairs 1 = .ok (.getfield 19, 3) := by decide +kernel
theorem dX11_pairs_4 : decode cX11_pairs 4 = .ok (.iload_n 1, 1) := by decide +kernel
theorem dX11_pairs_5 : decode cX11_pairs 5 = .ok (.invokevirtual 117, 3) := by decide +kernel
theorem dX11_pairs_8 : decode cX11_pairs 8 = .ok (.ifnull 24, 3) := by decide +kernel
theorem dX11_pairs_11 : decode cX11_pairs 11 = .ok (.aload_n 0, 1) := by decide +kernel
theorem dX11_pairs_12 : decode cX11_pairs 12 = .ok (.getfield 19, 3) := by decide +kernel
theorem dX11_pairs_15 : decode cX11_pairs 15 = .ok (.iload_n 2, 1) := by decide +kernel
theorem dX11_pairs_16 : decode cX11_pairs 16 = .ok (.invokevirtual 117, 3) := by decide +kernel
theorem dX11_pairs_19 : decode cX11_pairs 19 = .ok (.ifnull 13, 3) := by decide +kernel
theorem dX11_pairs_22 : decode cX11_pairs 22 = .ok (.iload_n 3, 1) := by decide +kernel
theorem dX11_pairs_23 : decode cX11_pairs 23 = .ok (.iconst 0, 1) := by decide +kernel
theorem dX11_pairs_24 : decode cX11_pairs 24 = .ok (.bipush 64, 2) := by decide +kernel
theorem dX11_pairs_26 : decode cX11_pairs 26 = .ok (.invokestatic 89, 3) := by decide +kernel
theorem dX11_pairs_29 : decode cX11_pairs 29 = .ok (.ifCond .ne 5, 3) := by decide +kernel
theorem dX11_pairs_32 : decode cX11_pairs 32 = .ok (.iconst (-1), 1) := by decide +kernel
theorem dX11_pairs_33 : decode cX11_pairs 33 = .ok (.ireturn, 1) := by decide +kernel
theorem dX11_pairs_34 : decode cX11_pairs 34 = .ok (.aload_n 0, 1) := by decide +kernel
theorem dX11_pairs_35 : decode cX11_pairs 35 = .ok (.getfield 19, 3) := by decide +kernel
theorem dX11_pairs_38 : decode cX11_pairs 38 = .ok (.aload_n 0, 1) := by decide +kernel
theorem dX11_pairs_39 : decode cX11_pairs 39 = .ok (.getfield 39, 3) := by decide +kernel
theorem dX11_pairs_42 : decode cX11_pairs 42 = .ok (.iload_n 1, 1) := by decide +kernel
theorem dX11_pairs_43 : decode cX11_pairs 43 = .ok (.iload_n 2, 1) := by decide +kernel
theorem dX11_pairs_44 : decode cX11_pairs 44 = .ok (.iload_n 3, 1) := by decide +kernel
theorem dX11_pairs_45 : decode cX11_pairs 45 = .ok (.invokevirtual 256, 3) := by decide +kernel
theorem dX11_pairs_48 : decode cX11_pairs 48 = .ok (.ireturn, 1) := by decide +kernel
theorem dX11_room_0 : decode cX11_room 0 = .ok (.aload_n 0, 1) := by decide +kernel
theorem dX11_room_1 : decode cX11_room 1 = .ok (.getfield 19, 3) := by decide +kernel
theorem dX11_room_4 : decode cX11_room 4 = .ok (.iload_n 1, 1) := by decide +kernel
theorem dX11_room_5 : decode cX11_room 5 = .ok (.invokevirtual 117, 3) := by decide +kernel
theorem dX11_room_8 : decode cX11_room 8 = .ok (.astore_n 3, 1) := by decide +kernel
theorem dX11_room_9 : decode cX11_room 9 = .ok (.aload_n 0, 1) := by decide +kernel
theorem dX11_room_10 : decode cX11_room 10 = .ok (.getfield 19, 3) := by decide +kernel
theorem dX11_room_13 : decode cX11_room 13 = .ok (.iload_n 2, 1) := by decide +kernel
theorem dX11_room_14 : decode cX11_room 14 = .ok (.invokevirtual 117, 3) := by decide +kernel
theorem dX11_room_17 : decode cX11_room 17 = .ok (.astore 4, 2) := by decide +kernel
theorem dX11_room_19 : decode cX11_room 19 = .ok (.aload_n 3, 1) := by decide +kernel
theorem dX11_room_20 : decode cX11_room 20 = .ok (.ifnull 8, 3) := by decide +kernel
theorem dX11_room_23 : decode cX11_room 23 = .ok (.aload 4, 2) := by decide +kernel
theorem dX11_room_25 : decode cX11_room 25 = .ok (.ifnonnull 7, 3) := by decide +kernel
theorem dX11_room_28 : decode cX11_room 28 = .ok (.iconst (-1), 1) := by decide +kernel
theorem dX11_room_29 : decode cX11_room 29 = .ok (.goto 13, 3) := by decide +kernel
theorem dX11_room_32 : decode cX11_room 32 = .ok (.aload_n 0, 1) := by decide +kernel
theorem dX11_room_33 : decode cX11_room 33 = .ok (.getfield 19, 3) := by decide +kernel
theorem dX11_room_36 : decode cX11_room 36 = .ok (.aload_n 3, 1) := by decide +kernel
theorem dX11_room_37 : decode cX11_room 37 = .ok (.aload 4, 2) := by decide +kernel
theorem dX11_room_39 : decode cX11_room 39 = .ok (.invokevirtual 260, 3) := by decide +kernel
theorem dX11_room_42 : decode cX11_room 42 = .ok (.ireturn, 1) := by decide +kernel
theorem dX11_best_0 : decode cX11_best 0 = .ok (.iload_n 1, 1) := by decide +kernel
theorem dX11_best_1 : decode cX11_best 1 = .ok (.iconst 0, 1) := by decide +kernel
theorem dX11_best_2 : decode cX11_best 2 = .ok (.bipush 64, 2) := by decide +kernel
theorem dX11_best_4 : decode cX11_best 4 = .ok (.invokestatic 89, 3) := by decide +kernel
theorem dX11_best_7 : decode cX11_best 7 = .ok (.ifCond .eq 18, 3) := by decide +kernel
theorem dX11_best_10 : decode cX11_best 10 = .ok (.aload_n 0, 1) := by decide +kernel
theorem dX11_best_11 : decode cX11_best 11 = .ok (.getfield 19, 3) := by decide +kernel
theorem dX11_best_14 : decode cX11_best 14 = .ok (.aload_n 0, 1) := by decide +kernel
theorem dX11_best_15 : decode cX11_best 15 = .ok (.getfield 39, 3) := by decide +kernel
theorem dX11_best_18 : decode cX11_best 18 = .ok (.iload_n 1, 1) := by decide +kernel
theorem dX11_best_19 : decode cX11_best 19 = .ok (.invokevirtual 264, 3) := by decide +kernel
theorem dX11_best_22 : decode cX11_best 22 = .ok (.goto 4, 3) := by decide +kernel
theorem dX11_best_25 : decode cX11_best 25 = .ok (.iconst (-1), 1) := by decide +kernel
theorem dX11_best_26 : decode cX11_best 26 = .ok (.ireturn, 1) := by decide +kernel
theorem dX11_join_0 : decode cX11_join 0 = .ok (.aload_n 0, 1) := by decide +kernel
theorem dX11_join_1 : decode cX11_join 1 = .ok (.getfield 19, 3) := by decide +kernel
theorem dX11_join_4 : decode cX11_join 4 = .ok (.iload_n 1, 1) := by decide +kernel
theorem dX11_join_5 : decode cX11_join 5 = .ok (.invokevirtual 117, 3) := by decide +kernel
theorem dX11_join_8 : decode cX11_join 8 = .ok (.astore_n 3, 1) := by decide +kernel
theorem dX11_join_9 : decode cX11_join 9 = .ok (.aload_n 0, 1) := by decide +kernel
theorem dX11_join_10 : decode cX11_join 10 = .ok (.getfield 19, 3) := by decide +kernel
theorem dX11_join_13 : decode cX11_join 13 = .ok (.iload_n 2, 1) := by decide +kernel
theorem dX11_join_14 : decode cX11_join 14 = .ok (.invokevirtual 117, 3) := by decide +kernel
theorem dX11_join_17 : decode cX11_join 17 = .ok (.astore 4, 2) := by decide +kernel
theorem dX11_join_19 : decode cX11_join 19 = .ok (.aload_n 3, 1) := by decide +kernel
theorem dX11_join_20 : decode cX11_join 20 = .ok (.ifnull 8, 3) := by decide +kernel
theorem dX11_join_23 : decode cX11_join 23 = .ok (.aload 4, 2) := by decide +kernel
theorem dX11_join_25 : decode cX11_join 25 = .ok (.ifnonnull 5, 3) := by decide +kernel
theorem dX11_join_28 : decode cX11_join 28 = .ok (.iconst (-1), 1) := by decide +kernel
theorem dX11_join_29 : decode cX11_join 29 = .ok (.ireturn, 1) := by decide +kernel
theorem dX11_join_30 : decode cX11_join 30 = .ok (.aload_n 0, 1) := by decide +kernel
theorem dX11_join_31 : decode cX11_join 31 = .ok (.getfield 28, 3) := by decide +kernel
theorem dX11_join_34 : decode cX11_join 34 = .ok (.invokevirtual 267, 3) := by decide +kernel
theorem dX11_join_37 : decode cX11_join 37 = .ok (.istore 5, 2) := by decide +kernel
theorem dX11_join_39 : decode cX11_join 39 = .ok (.aload_n 0, 1) := by decide +kernel
theorem dX11_join_40 : decode cX11_join 40 = .ok (.getfield 10, 3) := by decide +kernel
theorem dX11_join_43 : decode cX11_join 43 = .ok (.invokevirtual 101, 3) := by decide +kernel
theorem dX11_join_46 : decode cX11_join 46 = .ok (.istore 6, 2) := by decide +kernel
theorem dX11_join_48 : decode cX11_join 48 = .ok (.aload_n 0, 1) := by decide +kernel
theorem dX11_join_49 : decode cX11_join 49 = .ok (.getfield 10, 3) := by decide +kernel
theorem dX11_join_52 : decode cX11_join 52 = .ok (.invokevirtual 104, 3) := by decide +kernel
theorem dX11_join_55 : decode cX11_join 55 = .ok (.iload 5, 2) := by decide +kernel
theorem dX11_join_57 : decode cX11_join 57 = .ok (.ifCond .eq 16, 3) := by decide +kernel
theorem dX11_join_60 : decode cX11_join 60 = .ok (.aload_n 0, 1) := by decide +kernel
theorem dX11_join_61 : decode cX11_join 61 = .ok (.getfield 19, 3) := by decide +kernel
theorem dX11_join_64 : decode cX11_join 64 = .ok (.aload_n 3, 1) := by decide +kernel
theorem dX11_join_65 : decode cX11_join 65 = .ok (.aload 4, 2) := by decide +kernel
theorem dX11_join_67 : decode cX11_join 67 = .ok (.invokevirtual 270, 3) := by decide +kernel
theorem dX11_join_70 : decode cX11_join 70 = .ok (.goto 5, 3) := by decide +kernel
theorem dX11_join_73 : decode cX11_join 73 = .ok (.iload 6, 2) := by decide +kernel
theorem dX11_join_75 : decode cX11_join 75 = .ok (.ireturn, 1) := by decide +kernel
theorem dX11_log_0 : decode cX11_log 0 = .ok (.iload_n 1, 1) := by decide +kernel
theorem dX11_log_1 : decode cX11_log 1 = .ok (.invokestatic 273, 3) := by decide +kernel
theorem dX11_log_4 : decode cX11_log 4 = .ok (.ifCond .eq 21, 3) := by decide +kernel
theorem dX11_log_7 : decode cX11_log 7 = .ok (.iload_n 2, 1) := by decide +kernel
theorem dX11_log_8 : decode cX11_log 8 = .ok (.invokestatic 276, 3) := by decide +kernel
theorem dX11_log_11 : decode cX11_log 11 = .ok (.ifCond .eq 14, 3) := by decide +kernel
theorem dX11_log_14 : decode cX11_log 14 = .ok (.iload 4, 2) := by decide +kernel
theorem dX11_log_16 : decode cX11_log 16 = .ok (.iconst 0, 1) := by decide +kernel
theorem dX11_log_17 : decode cX11_log 17 = .ok (.bipush 10, 2) := by decide +kernel
theorem dX11_log_19 : decode cX11_log 19 = .ok (.invokestatic 89, 3) := by decide +kernel
theorem dX11_log_22 : decode cX11_log 22 = .ok (.ifCond .ne 5, 3) := by decide +kernel
theorem dX11_log_25 : decode cX11_log 25 = .ok (.iconst (-1), 1) := by decide +kernel
theorem dX11_log_26 : decode cX11_log 26 = .ok (.ireturn, 1) := by decide +kernel
theorem dX11_log_27 : decode cX11_log 27 = .ok (.aload_n 0, 1) := by decide +kernel
theorem dX11_log_28 : decode cX11_log 28 = .ok (.getfield 64, 3) := by decide +kernel
theorem dX11_log_31 : decode cX11_log 31 = .ok (.iload_n 1, 1) := by decide +kernel
theorem dX11_log_32 : decode cX11_log 32 = .ok (.iload_n 2, 1) := by decide +kernel
theorem dX11_log_33 : decode cX11_log 33 = .ok (.iload_n 3, 1) := by decide +kernel
theorem dX11_log_34 : decode cX11_log 34 = .ok (.iconst 3, 1) := by decide +kernel
theorem dX11_log_35 : decode cX11_log 35 = .ok (.iload 4, 2) := by decide +kernel
theorem dX11_log_37 : decode cX11_log 37 = .ok (.imul, 1) := by decide +kernel
theorem dX11_log_38 : decode cX11_log 38 = .ok (.invokevirtual 279, 3) := by decide +kernel
theorem dX11_log_41 : decode cX11_log 41 = .ok (.istore 5, 2) := by decide +kernel
theorem dX11_log_43 : decode cX11_log 43 = .ok (.iload 5, 2) := by decide +kernel
theorem dX11_log_45 : decode cX11_log 45 = .ok (.ifCond .ge 8, 3) := by decide +kernel
theorem dX11_log_48 : decode cX11_log 48 = .ok (.iload 5, 2) := by decide +kernel
theorem dX11_log_50 : decode cX11_log 50 = .ok (.goto 22, 3) := by decide +kernel
theorem dX11_log_53 : decode cX11_log 53 = .ok (.aload_n 0, 1) := by decide +kernel
theorem dX11_log_54 : decode cX11_log 54 = .ok (.getfield 48, 3) := by decide +kernel
theorem dX11_log_57 : decode cX11_log 57 = .ok (.aload_n 0, 1) := by decide +kernel
theorem dX11_log_58 : decode cX11_log 58 = .ok (.getfield 64, 3) := by decide +kernel
theorem dX11_log_61 : decode cX11_log 61 = .ok (.getfield 283, 3) := by decide +kernel
theorem dX11_log_64 : decode cX11_log 64 = .ok (.iload_n 1, 1) := by decide +kernel
theorem dX11_log_65 : decode cX11_log 65 = .ok (.aaload, 1) := by decide +kernel
theorem dX11_log_66 : decode cX11_log 66 = .ok (.iload_n 3, 1) := by decide +kernel
theorem dX11_log_67 : decode cX11_log 67 = .ok (.iload 4, 2) := by decide +kernel
theorem dX11_log_69 : decode cX11_log 69 = .ok (.invokevirtual 287, 3) := by decide +kernel
theorem dX11_log_72 : decode cX11_log 72 = .ok (.ireturn, 1) := by decide +kernel
theorem dX11_load_0 : decode cX11_load 0 = .ok (.iload_n 1, 1) := by decide +kernel
theorem dX11_load_1 : decode cX11_load 1 = .ok (.invokestatic 273, 3) := by decide +kernel
theorem dX11_load_4 : decode cX11_load 4 = .ok (.ifCond .eq 39, 3) := by decide +kernel
theorem dX11_load_7 : decode cX11_load 7 = .ok (.iload_n 2, 1) := by decide +kernel
theorem dX11_load_8 : decode cX11_load 8 = .ok (.invokestatic 276, 3) := by decide +kernel
theorem dX11_load_11 : decode cX11_load 11 = .ok (.ifCond .eq 32, 3) := by decide +kernel
theorem dX11_load_14 : decode cX11_load 14 = .ok (.iload 5, 2) := by decide +kernel
theorem dX11_load_16 : decode cX11_load 16 = .ok (.iconst 0, 1) := by decide +kernel
theorem dX11_load_17 : decode cX11_load 17 = .ok (.bipush 30, 2) := by decide +kernel
theorem dX11_load_19 : decode cX11_load 19 = .ok (.invokestatic 89, 3) := by decide +kernel
theorem dX11_load_22 : decode cX11_load 22 = .ok (.ifCond .eq 21, 3) := by decide +kernel
theorem dX11_load_25 : decode cX11_load 25 = .ok (.iload 4, 2) := by decide +kernel
theorem dX11_load_27 : decode cX11_load 27 = .ok (.invokestatic 173, 3) := by decide +kernel
theorem dX11_load_30 : decode cX11_load 30 = .ok (.ifCond .eq 13, 3) := by decide +kernel
theorem dX11_load_33 : decode cX11_load 33 = .ok (.iload 4, 2) := by decide +kernel
theorem dX11_load_35 : decode cX11_load 35 = .ok (.iload 5, 2) := by decide +kernel
theorem dX11_load_37 : decode cX11_load 37 = .ok (.iadd, 1) := by decide +kernel
theorem dX11_load_38 : decode cX11_load 38 = .ok (.bipush 64, 2) := by decide +kernel
theorem dX11_load_40 : decode cX11_load 40 = .ok (.if_icmp .le 5, 3) := by decide +kernel
theorem dX11_load_43 : decode cX11_load 43 = .ok (.iconst (-1), 1) := by decide +kernel
theorem dX11_load_44 : decode cX11_load 44 = .ok (.ireturn, 1) := by decide +kernel
theorem dX11_load_45 : decode cX11_load 45 = .ok (.aload_n 0, 1) := by decide +kernel
theorem dX11_load_46 : decode cX11_load 46 = .ok (.getfield 64, 3) := by decide +kernel
theorem dX11_load_49 : decode cX11_load 49 = .ok (.iload_n 1, 1) := by decide +kernel
theorem dX11_load_50 : decode cX11_load 50 = .ok (.iload_n 2, 1) := by decide +kernel
theorem dX11_load_51 : decode cX11_load 51 = .ok (.iload_n 3, 1) := by decide +kernel
theorem dX11_load_52 : decode cX11_load 52 = .ok (.iload 5, 2) := by decide +kernel
theorem dX11_load_54 : decode cX11_load 54 = .ok (.invokevirtual 279, 3) := by decide +kernel
theorem dX11_load_57 : decode cX11_load 57 = .ok (.istore 6, 2) := by decide +kernel
theorem dX11_load_59 : decode cX11_load 59 = .ok (.iload 6, 2) := by decide +kernel
theorem dX11_load_61 : decode cX11_load 61 = .ok (.ifCond .ge 6, 3) := by decide +kernel
theorem dX11_load_64 : decode cX11_load 64 = .ok (.iload 6, 2) := by decide +kernel
theorem dX11_load_66 : decode cX11_load 66 = .ok (.ireturn, 1) := by decide +kernel
theorem dX11_load_67 : decode cX11_load 67 = .ok (.aload_n 0, 1) := by decide +kernel
theorem dX11_load_68 : decode cX11_load 68 = .ok (.aload_n 0, 1) := by decide +kernel
theorem dX11_load_69 : decode cX11_load 69 = .ok (.getfield 64, 3) := by decide +kernel
theorem dX11_load_72 : decode cX11_load 72 = .ok (.getfield 283, 3) := by decide +kernel
theorem dX11_load_75 : decode cX11_load 75 = .ok (.iload_n 1, 1) := by decide +kernel
theorem dX11_load_76 : decode cX11_load 76 = .ok (.aaload, 1) := by decide +kernel
theorem dX11_load_77 : decode cX11_load 77 = .ok (.iload_n 3, 1) := by decide +kernel
theorem dX11_load_78 : decode cX11_load 78 = .ok (.iload 4, 2) := by decide +kernel
theorem dX11_load_80 : decode cX11_load 80 = .ok (.iload 5, 2) := by decide +kernel
theorem dX11_load_82 : decode cX11_load 82 = .ok (.invokevirtual 291, 3) := by decide +kernel
theorem dX11_load_85 : decode cX11_load 85 = .ok (.ireturn, 1) := by decide +kernel
theorem dX11_takeBits_0 : decode cX11_takeBits 0 = .ok (.iconst 0, 1) := by decide +kernel
theorem dX11_takeBits_1 : decode cX11_takeBits 1 = .ok (.istore 5, 2) := by decide +kernel
theorem dX11_takeBits_3 : decode cX11_takeBits 3 = .ok (.iload 5, 2) := by decide +kernel
theorem dX11_takeBits_5 : decode cX11_takeBits 5 = .ok (.iload 4, 2) := by decide +kernel
theorem dX11_takeBits_7 : decode cX11_takeBits 7 = .ok (.if_icmp .ge 28, 3) := by decide +kernel
theorem dX11_takeBits_10 : decode cX11_takeBits 10 = .ok (.aload_n 0, 1) := by decide +kernel
theorem dX11_takeBits_11 : decode cX11_takeBits 11 = .ok (.getfield 19, 3) := by decide +kernel
theorem dX11_takeBits_14 : decode cX11_takeBits 14 = .ok (.aload_n 1, 1) := by decide +kernel
theorem dX11_takeBits_15 : decode cX11_takeBits 15 = .ok (.iload_n 2, 1) := by decide +kernel
theorem dX11_takeBits_16 : decode cX11_takeBits 16 = .ok (.iload 5, 2) := by decide +kernel
theorem dX11_takeBits_18 : decode cX11_takeBits 18 = .ok (.iadd, 1) := by decide +kernel
theorem dX11_takeBits_19 : decode cX11_takeBits 19 = .ok (.iaload, 1) := by decide +kernel
theorem dX11_takeBits_20 : decode cX11_takeBits 20 = .ok (.invokevirtual 127, 3) := by decide +kernel
theorem dX11_takeBits_23 : decode cX11_takeBits 23 = .ok (.ifCond .ne 6, 3) := by decide +kernel
theorem dX11_takeBits_26 : decode cX11_takeBits 26 = .ok (.bipush (-2), 2) := by decide +kernel
theorem dX11_takeBits_28 : decode cX11_takeBits 28 = .ok (.ireturn, 1) := by decide +kernel
theorem dX11_takeBits_29 : decode cX11_takeBits 29 = .ok (.iinc 5 1, 3) := by decide +kernel
theorem dX11_takeBits_32 : decode cX11_takeBits 32 = .ok (.goto (-29), 3) := by decide +kernel
theorem dX11_takeBits_35 : decode cX11_takeBits 35 = .ok (.aload_n 1, 1) := by decide +kernel
theorem dX11_takeBits_36 : decode cX11_takeBits 36 = .ok (.iload_n 2, 1) := by decide +kernel
theorem dX11_takeBits_37 : decode cX11_takeBits 37 = .ok (.aload_n 0, 1) := by decide +kernel
theorem dX11_takeBits_38 : decode cX11_takeBits 38 = .ok (.getfield 39, 3) := by decide +kernel
theorem dX11_takeBits_41 : decode cX11_takeBits 41 = .ok (.iload_n 3, 1) := by decide +kernel
theorem dX11_takeBits_42 : decode cX11_takeBits 42 = .ok (.iload 4, 2) := by decide +kernel
theorem dX11_takeBits_44 : decode cX11_takeBits 44 = .ok (.invokestatic 294, 3) := by decide +kernel
theorem dX11_takeBits_47 : decode cX11_takeBits 47 = .ok (.iload 4, 2) := by decide +kernel
theorem dX11_takeBits_49 : decode cX11_takeBits 49 = .ok (.ireturn, 1) := by decide +kernel
theorem dX11_sheet_0 : decode cX11_sheet 0 = .ok (.iload_n 1, 1) := by decide +kernel
theorem dX11_sheet_1 : decode cX11_sheet 1 = .ok (.invokestatic 273, 3) := by decide +kernel
theorem dX11_sheet_4 : decode cX11_sheet 4 = .ok (.ifCond .eq 16, 3) := by decide +kernel
theorem dX11_sheet_7 : decode cX11_sheet 7 = .ok (.iload_n 2, 1) := by decide +kernel
theorem dX11_sheet_8 : decode cX11_sheet 8 = .ok (.invokestatic 276, 3) := by decide +kernel
theorem dX11_sheet_11 : decode cX11_sheet 11 = .ok (.ifCond .eq 9, 3) := by decide +kernel
theorem dX11_sheet_14 : decode cX11_sheet 14 = .ok (.iload_n 3, 1) := by decide +kernel
theorem dX11_sheet_15 : decode cX11_sheet 15 = .ok (.bipush 30, 2) := by decide +kernel
theorem dX11_sheet_17 : decode cX11_sheet 17 = .ok (.if_icmp .le 5, 3) := by decide +kernel
theorem dX11_sheet_20 : decode cX11_sheet 20 = .ok (.iconst (-1), 1) := by decide +kernel
theorem dX11_sheet_21 : decode cX11_sheet 21 = .ok (.ireturn, 1) := by decide +kernel
theorem dX11_sheet_22 : decode cX11_sheet 22 = .ok (.iload_n 3, 1) := by decide +kernel
theorem dX11_sheet_23 : decode cX11_sheet 23 = .ok (.ifCond .ge 8, 3) := by decide +kernel
theorem dX11_sheet_26 : decode cX11_sheet 26 = .ok (.bipush (-14), 2) := by decide +kernel
theorem dX11_sheet_28 : decode cX11_sheet 28 = .ok (.goto 13, 3) := by decide +kernel
theorem dX11_sheet_31 : decode cX11_sheet 31 = .ok (.aload_n 0, 1) := by decide +kernel
theorem dX11_sheet_32 : decode cX11_sheet 32 = .ok (.getfield 64, 3) := by decide +kernel
theorem dX11_sheet_35 : decode cX11_sheet 35 = .ok (.iload_n 1, 1) := by decide +kernel
theorem dX11_sheet_36 : decode cX11_sheet 36 = .ok (.iload_n 2, 1) := by decide +kernel
theorem dX11_sheet_37 : decode cX11_sheet 37 = .ok (.iload_n 3, 1) := by decide +kernel
theorem dX11_sheet_38 : decode cX11_sheet 38 = .ok (.invokevirtual 300, 3) := by decide +kernel
theorem dX11_sheet_41 : decode cX11_sheet 41 = .ok (.ireturn, 1) := by decide +kernel
theorem dX11_drop_0 : decode cX11_drop 0 = .ok (.iload_n 1, 1) := by decide +kernel
theorem dX11_drop_1 : decode cX11_drop 1 = .ok (.invokestatic 273, 3) := by decide +kernel
theorem dX11_drop_4 : decode cX11_drop 4 = .ok (.ifCond .eq 14, 3) := by decide +kernel
theorem dX11_drop_7 : decode cX11_drop 7 = .ok (.aload_n 0, 1) := by decide +kernel
theorem dX11_drop_8 : decode cX11_drop 8 = .ok (.getfield 64, 3) := by decide +kernel
theorem dX11_drop_11 : decode cX11_drop 11 = .ok (.iload_n 1, 1) := by decide +kernel
theorem dX11_drop_12 : decode cX11_drop 12 = .ok (.invokevirtual 304, 3) := by decide +kernel
theorem dX11_drop_15 : decode cX11_drop 15 = .ok (.goto 4, 3) := by decide +kernel
theorem dX11_drop_18 : decode cX11_drop 18 = .ok (.iconst (-1), 1) := by decide +kernel
theorem dX11_drop_19 : decode cX11_drop 19 = .ok (.ireturn, 1) := by decide +kernel
theorem dX11_item_0 : decode cX11_item 0 = .ok (.iload_n 1, 1) := by decide +kernel
theorem dX11_item_1 : decode cX11_item 1 = .ok (.invokestatic 273, 3) := by decide +kernel
theorem dX11_item_4 : decode cX11_item 4 = .ok (.ifCond .eq 10, 3) := by decide +kernel
theorem dX11_item_7 : decode cX11_item 7 = .ok (.iload_n 2, 1) := by decide +kernel
theorem dX11_item_8 : decode cX11_item 8 = .ok (.invokestatic 276, 3) := by decide +kernel
theorem dX11_item_11 : decode cX11_item 11 = .ok (.ifCond .ne 5, 3) := by decide +kernel
theorem dX11_item_14 : decode cX11_item 14 = .ok (.iconst (-1), 1) := by decide +kernel
theorem dX11_item_15 : decode cX11_item 15 = .ok (.ireturn, 1) := by decide +kernel
theorem dX11_item_16 : decode cX11_item 16 = .ok (.aload_n 0, 1) := by decide +kernel
theorem dX11_item_17 : decode cX11_item 17 = .ok (.getfield 64, 3) := by decide +kernel
theorem dX11_item_20 : decode cX11_item 20 = .ok (.iload_n 1, 1) := by decide +kernel
theorem dX11_item_21 : decode cX11_item 21 = .ok (.iload_n 2, 1) := by decide +kernel
theorem dX11_item_22 : decode cX11_item 22 = .ok (.iload_n 3, 1) := by decide +kernel
theorem dX11_item_23 : decode cX11_item 23 = .ok (.iconst 1, 1) := by decide +kernel
theorem dX11_item_24 : decode cX11_item 24 = .ok (.invokevirtual 279, 3) := by decide +kernel
theorem dX11_item_27 : decode cX11_item 27 = .ok (.istore 5, 2) := by decide +kernel
theorem dX11_item_29 : decode cX11_item 29 = .ok (.iload 5, 2) := by decide +kernel
theorem dX11_item_31 : decode cX11_item 31 = .ok (.ifCond .ge 8, 3) := by decide +kernel
theorem dX11_item_34 : decode cX11_item 34 = .ok (.iload 5, 2) := by decide +kernel
theorem dX11_item_36 : decode cX11_item 36 = .ok (.goto 14, 3) := by decide +kernel
theorem dX11_item_39 : decode cX11_item 39 = .ok (.aload_n 0, 1) := by decide +kernel
theorem dX11_item_40 : decode cX11_item 40 = .ok (.getfield 64, 3) := by decide +kernel
theorem dX11_item_43 : decode cX11_item 43 = .ok (.iload_n 1, 1) := by decide +kernel
theorem dX11_item_44 : decode cX11_item 44 = .ok (.iload_n 3, 1) := by decide +kernel
theorem dX11_item_45 : decode cX11_item 45 = .ok (.iload 4, 2) := by decide +kernel
theorem dX11_item_47 : decode cX11_item 47 = .ok (.invokevirtual 307, 3) := by decide +kernel
theorem dX11_item_50 : decode cX11_item 50 = .ok (.ireturn, 1) := by decide +kernel
