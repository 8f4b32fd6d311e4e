theorem d_M_thrown_0 : decode b_M_thrown 0 = .ok (.aload_n 0, 1) := by decide +kernel
theorem d_M_thrown_1 : decode b_M_thrown 1 = .ok (.getfield 35, 3) := by decide +kernel
theorem d_M_thrown_4 : decode b_M_thrown 4 = .ok (.ireturn, 1) := by decide +kernel
theorem d_M_goesOn_0 : decode b_M_goesOn 0 = .ok (.aload_n 0, 1) := by decide +kernel
theorem d_M_goesOn_1 : decode b_M_goesOn 1 = .ok (.getfield 22, 3) := by decide +kernel
theorem d_M_goesOn_4 : decode b_M_goesOn 4 = .ok (.ifCond .lt 16, 3) := by decide +kernel
theorem d_M_goesOn_7 : decode b_M_goesOn 7 = .ok (.aload_n 0, 1) := by decide +kernel
theorem d_M_goesOn_8 : decode b_M_goesOn 8 = .ok (.getfield 22, 3) := by decide +kernel
theorem d_M_goesOn_11 : decode b_M_goesOn 11 = .ok (.bipush 7, 2) := by decide +kernel
theorem d_M_goesOn_13 : decode b_M_goesOn 13 = .ok (.if_icmp .ge 7, 3) := by decide +kernel
theorem d_M_goesOn_16 : decode b_M_goesOn 16 = .ok (.iconst 1, 1) := by decide +kernel
theorem d_M_goesOn_17 : decode b_M_goesOn 17 = .ok (.goto 4, 3) := by decide +kernel
theorem d_M_goesOn_20 : decode b_M_goesOn 20 = .ok (.iconst 0, 1) := by decide +kernel
theorem d_M_goesOn_21 : decode b_M_goesOn 21 = .ok (.ireturn, 1) := by decide +kernel
theorem d_M_source_0 : decode b_M_source 0 = .ok (.aload_n 0, 1) := by decide +kernel
theorem d_M_source_1 : decode b_M_source 1 = .ok (.iload_n 1, 1) := by decide +kernel
theorem d_M_source_2 : decode b_M_source 2 = .ok (.iconst 1, 1) := by decide +kernel
theorem d_M_source_3 : decode b_M_source 3 = .ok (.if_icmp .lt 9, 3) := by decide +kernel
theorem d_M_source_6 : decode b_M_source 6 = .ok (.iload_n 1, 1) := by decide +kernel
theorem d_M_source_7 : decode b_M_source 7 = .ok (.bipush 64, 2) := by decide +kernel
theorem d_M_source_9 : decode b_M_source 9 = .ok (.if_icmp .le 7, 3) := by decide +kernel
theorem d_M_source_12 : decode b_M_source 12 = .ok (.iconst 1, 1) := by decide +kernel
theorem d_M_source_13 : decode b_M_source 13 = .ok (.goto 4, 3) := by decide +kernel
theorem d_M_source_16 : decode b_M_source 16 = .ok (.iconst 0, 1) := by decide +kernel
theorem d_M_source_17 : decode b_M_source 17 = .ok (.putfield 35, 3) := by decide +kernel
theorem d_M_source_20 : decode b_M_source 20 = .ok (.aload_n 0, 1) := by decide +kernel
theorem d_M_source_21 : decode b_M_source 21 = .ok (.getfield 35, 3) := by decide +kernel
theorem d_M_source_24 : decode b_M_source 24 = .ok (.ifCond .eq 4, 3) := by decide +kernel
theorem d_M_source_27 : decode b_M_source 27 = .ok (.return_, 1) := by decide +kernel
theorem d_M_source_28 : decode b_M_source 28 = .ok (.aload_n 0, 1) := by decide +kernel
theorem d_M_source_29 : decode b_M_source 29 = .ok (.iload_n 1, 1) := by decide +kernel
theorem d_M_source_30 : decode b_M_source 30 = .ok (.putfield 38, 3) := by decide +kernel
theorem d_M_source_33 : decode b_M_source 33 = .ok (.aload_n 0, 1) := by decide +kernel
theorem d_M_source_34 : decode b_M_source 34 = .ok (.iconst (-1), 1) := by decide +kernel
theorem d_M_source_35 : decode b_M_source 35 = .ok (.putfield 22, 3) := by decide +kernel
theorem d_M_source_38 : decode b_M_source 38 = .ok (.iconst 0, 1) := by decide +kernel
theorem d_M_source_39 : decode b_M_source 39 = .ok (.istore_n 2, 1) := by decide +kernel
theorem d_M_source_40 : decode b_M_source 40 = .ok (.iload_n 2, 1) := by decide +kernel
theorem d_M_source_41 : decode b_M_source 41 = .ok (.bipush 64, 2) := by decide +kernel
theorem d_M_source_43 : decode b_M_source 43 = .ok (.if_icmp .ge 44, 3) := by decide +kernel
theorem d_M_source_46 : decode b_M_source 46 = .ok (.aload_n 0, 1) := by decide +kernel
theorem d_M_source_47 : decode b_M_source 47 = .ok (.getfield 7, 3) := by decide +kernel
theorem d_M_source_50 : decode b_M_source 50 = .ok (.iload_n 2, 1) := by decide +kernel
theorem d_M_source_51 : decode b_M_source 51 = .ok (.iconst 0, 1) := by decide +kernel
theorem d_M_source_52 : decode b_M_source 52 = .ok (.iastore, 1) := by decide +kernel
theorem d_M_source_53 : decode b_M_source 53 = .ok (.aload_n 0, 1) := by decide +kernel
theorem d_M_source_54 : decode b_M_source 54 = .ok (.getfield 13, 3) := by decide +kernel
theorem d_M_source_57 : decode b_M_source 57 = .ok (.iload_n 2, 1) := by decide +kernel
theorem d_M_source_58 : decode b_M_source 58 = .ok (.iconst 0, 1) := by decide +kernel
theorem d_M_source_59 : decode b_M_source 59 = .ok (.iastore, 1) := by decide +kernel
theorem d_M_source_60 : decode b_M_source 60 = .ok (.aload_n 0, 1) := by decide +kernel
theorem d_M_source_61 : decode b_M_source 61 = .ok (.getfield 16, 3) := by decide +kernel
theorem d_M_source_64 : decode b_M_source 64 = .ok (.iload_n 2, 1) := by decide +kernel
theorem d_M_source_65 : decode b_M_source 65 = .ok (.iconst 0, 1) := by decide +kernel
theorem d_M_source_66 : decode b_M_source 66 = .ok (.iastore, 1) := by decide +kernel
theorem d_M_source_67 : decode b_M_source 67 = .ok (.aload_n 0, 1) := by decide +kernel
theorem d_M_source_68 : decode b_M_source 68 = .ok (.getfield 19, 3) := by decide +kernel
theorem d_M_source_71 : decode b_M_source 71 = .ok (.iload_n 2, 1) := by decide +kernel
theorem d_M_source_72 : decode b_M_source 72 = .ok (.iconst 0, 1) := by decide +kernel
theorem d_M_source_73 : decode b_M_source 73 = .ok (.iastore, 1) := by decide +kernel
theorem d_M_source_74 : decode b_M_source 74 = .ok (.aload_n 0, 1) := by decide +kernel
theorem d_M_source_75 : decode b_M_source 75 = .ok (.getfield 26, 3) := by decide +kernel
theorem d_M_source_78 : decode b_M_source 78 = .ok (.iload_n 2, 1) := by decide +kernel
theorem d_M_source_79 : decode b_M_source 79 = .ok (.iconst 0, 1) := by decide +kernel
theorem d_M_source_80 : decode b_M_source 80 = .ok (.iastore, 1) := by decide +kernel
theorem d_M_source_81 : decode b_M_source 81 = .ok (.iinc 2 1, 3) := by decide +kernel
theorem d_M_source_84 : decode b_M_source 84 = .ok (.goto (-44), 3) := by decide +kernel
theorem d_M_source_87 : decode b_M_source 87 = .ok (.iconst 0, 1) := by decide +kernel
theorem d_M_source_88 : decode b_M_source 88 = .ok (.istore_n 2, 1) := by decide +kernel
theorem d_M_source_89 : decode b_M_source 89 = .ok (.iload_n 2, 1) := by decide +kernel
theorem d_M_source_90 : decode b_M_source 90 = .ok (.sipush 280, 3) := by decide +kernel
theorem d_M_source_93 : decode b_M_source 93 = .ok (.if_icmp .ge 16, 3) := by decide +kernel
theorem d_M_source_96 : decode b_M_source 96 = .ok (.aload_n 0, 1) := by decide +kernel
theorem d_M_source_97 : decode b_M_source 97 = .ok (.getfield 29, 3) := by decide +kernel
theorem d_M_source_100 : decode b_M_source 100 = .ok (.iload_n 2, 1) := by decide +kernel
theorem d_M_source_101 : decode b_M_source 101 = .ok (.iconst 0, 1) := by decide +kernel
theorem d_M_source_102 : decode b_M_source 102 = .ok (.iastore, 1) := by decide +kernel
theorem d_M_source_103 : decode b_M_source 103 = .ok (.iinc 2 1, 3) := by decide +kernel
theorem d_M_source_106 : decode b_M_source 106 = .ok (.goto (-17), 3) := by decide +kernel
theorem d_M_source_109 : decode b_M_source 109 = .ok (.aload_n 0, 1) := by decide +kernel
theorem d_M_source_110 : decode b_M_source 110 = .ok (.iconst 0, 1) := by decide +kernel
theorem d_M_source_111 : decode b_M_source 111 = .ok (.putfield 41, 3) := by decide +kernel
theorem d_M_source_114 : decode b_M_source 114 = .ok (.aload_n 0, 1) := by decide +kernel
theorem d_M_source_115 : decode b_M_source 115 = .ok (.iconst 0, 1) := by decide +kernel
theorem d_M_source_116 : decode b_M_source 116 = .ok (.putfield 44, 3) := by decide +kernel
theorem d_M_source_119 : decode b_M_source 119 = .ok (.aload_n 0, 1) := by decide +kernel
theorem d_M_source_120 : decode b_M_source 120 = .ok (.iconst 0, 1) := by decide +kernel
theorem d_M_source_121 : decode b_M_source 121 = .ok (.putfield 47, 3) := by decide +kernel
theorem d_M_source_124 : decode b_M_source 124 = .ok (.return_, 1) := by decide +kernel
theorem d_M_isSector_0 : decode b_M_isSector 0 = .ok (.iload_n 1, 1) := by decide +kernel
theorem d_M_isSector_1 : decode b_M_isSector 1 = .ok (.ifCond .lt 15, 3) := by decide +kernel
theorem d_M_isSector_4 : decode b_M_isSector 4 = .ok (.iload_n 1, 1) := by decide +kernel
theorem d_M_isSector_5 : decode b_M_isSector 5 = .ok (.aload_n 0, 1) := by decide +kernel
theorem d_M_isSector_6 : decode b_M_isSector 6 = .ok (.getfield 38, 3) := by decide +kernel
theorem d_M_isSector_9 : decode b_M_isSector 9 = .ok (.if_icmp .ge 7, 3) := by decide +kernel
theorem d_M_isSector_12 : decode b_M_isSector 12 = .ok (.iconst 1, 1) := by decide +kernel
theorem d_M_isSector_13 : decode b_M_isSector 13 = .ok (.goto 4, 3) := by decide +kernel
theorem d_M_isSector_16 : decode b_M_isSector 16 = .ok (.iconst 0, 1) := by decide +kernel
theorem d_M_isSector_17 : decode b_M_isSector 17 = .ok (.ireturn, 1) := by decide +kernel
theorem d_M_sector_0 : decode b_M_sector 0 = .ok (.aload_n 0, 1) := by decide +kernel
theorem d_M_sector_1 : decode b_M_sector 1 = .ok (.aload_n 0, 1) := by decide +kernel
theorem d_M_sector_2 : decode b_M_sector 2 = .ok (.iload_n 1, 1) := by decide +kernel
theorem d_M_sector_3 : decode b_M_sector 3 = .ok (.invokevirtual 50, 3) := by decide +kernel
theorem d_M_sector_6 : decode b_M_sector 6 = .ok (.ifCond .eq 14, 3) := by decide +kernel
theorem d_M_sector_9 : decode b_M_sector 9 = .ok (.iload_n 3, 1) := by decide +kernel
theorem d_M_sector_10 : decode b_M_sector 10 = .ok (.iconst (-1), 1) := by decide +kernel
theorem d_M_sector_11 : decode b_M_sector 11 = .ok (.if_icmp .lt 9, 3) := by decide +kernel
theorem d_M_sector_14 : decode b_M_sector 14 = .ok (.iload_n 3, 1) := by decide +kernel
theorem d_M_sector_15 : decode b_M_sector 15 = .ok (.bipush 9, 2) := by decide +kernel
theorem d_M_sector_17 : decode b_M_sector 17 = .ok (.if_icmp .le 7, 3) := by decide +kernel
theorem d_M_sector_20 : decode b_M_sector 20 = .ok (.iconst 1, 1) := by decide +kernel
theorem d_M_sector_21 : decode b_M_sector 21 = .ok (.goto 4, 3) := by decide +kernel
theorem d_M_sector_24 : decode b_M_sector 24 = .ok (.iconst 0, 1) := by decide +kernel
theorem d_M_sector_25 : decode b_M_sector 25 = .ok (.putfield 35, 3) := by decide +kernel
theorem d_M_sector_28 : decode b_M_sector 28 = .ok (.aload_n 0, 1) := by decide +kernel
theorem d_M_sector_29 : decode b_M_sector 29 = .ok (.getfield 35, 3) := by decide +kernel
theorem d_M_sector_32 : decode b_M_sector 32 = .ok (.ifCond .eq 4, 3) := by decide +kernel
theorem d_M_sector_35 : decode b_M_sector 35 = .ok (.return_, 1) := by decide +kernel
theorem d_M_sector_36 : decode b_M_sector 36 = .ok (.aload_n 0, 1) := by decide +kernel
theorem d_M_sector_37 : decode b_M_sector 37 = .ok (.getfield 7, 3) := by decide +kernel
theorem d_M_sector_40 : decode b_M_sector 40 = .ok (.iload_n 1, 1) := by decide +kernel
theorem d_M_sector_41 : decode b_M_sector 41 = .ok (.iload_n 2, 1) := by decide +kernel
theorem d_M_sector_42 : decode b_M_sector 42 = .ok (.iastore, 1) := by decide +kernel
theorem d_M_sector_43 : decode b_M_sector 43 = .ok (.aload_n 0, 1) := by decide +kernel
theorem d_M_sector_44 : decode b_M_sector 44 = .ok (.getfield 13, 3) := by decide +kernel
theorem d_M_sector_47 : decode b_M_sector 47 = .ok (.iload_n 1, 1) := by decide +kernel
theorem d_M_sector_48 : decode b_M_sector 48 = .ok (.iload_n 3, 1) := by decide +kernel
theorem d_M_sector_49 : decode b_M_sector 49 = .ok (.iastore, 1) := by decide +kernel
theorem d_M_sector_50 : decode b_M_sector 50 = .ok (.return_, 1) := by decide +kernel
theorem d_M_reading_0 : decode b_M_reading 0 = .ok (.aload_n 0, 1) := by decide +kernel
theorem d_M_reading_1 : decode b_M_reading 1 = .ok (.dup, 1) := by decide +kernel
theorem d_M_reading_2 : decode b_M_reading 2 = .ok (.getfield 41, 3) := by decide +kernel
theorem d_M_reading_5 : decode b_M_reading 5 = .ok (.iconst 1, 1) := by decide +kernel
theorem d_M_reading_6 : decode b_M_reading 6 = .ok (.iadd, 1) := by decide +kernel
theorem d_M_reading_7 : decode b_M_reading 7 = .ok (.putfield 41, 3) := by decide +kernel
theorem d_M_reading_10 : decode b_M_reading 10 = .ok (.iconst 1, 1) := by decide +kernel
theorem d_M_reading_11 : decode b_M_reading 11 = .ok (.istore_n 1, 1) := by decide +kernel
theorem d_M_reading_12 : decode b_M_reading 12 = .ok (.aload_n 0, 1) := by decide +kernel
theorem d_M_reading_13 : decode b_M_reading 13 = .ok (.getfield 54, 3) := by decide +kernel
theorem d_M_reading_16 : decode b_M_reading 16 = .ok (.istore_n 2, 1) := by decide +kernel
theorem d_M_reading_17 : decode b_M_reading 17 = .ok (.iload_n 2, 1) := by decide +kernel
theorem d_M_reading_18 : decode b_M_reading 18 = .ok (.aload_n 0, 1) := by decide +kernel
theorem d_M_reading_19 : decode b_M_reading 19 = .ok (.getfield 57, 3) := by decide +kernel
theorem d_M_reading_22 : decode b_M_reading 22 = .ok (.if_icmp .ge 57, 3) := by decide +kernel
theorem d_M_reading_25 : decode b_M_reading 25 = .ok (.iload_n 1, 1) := by decide +kernel
theorem d_M_reading_26 : decode b_M_reading 26 = .ok (.ifCond .eq 53, 3) := by decide +kernel
theorem d_M_reading_29 : decode b_M_reading 29 = .ok (.aload_n 0, 1) := by decide +kernel
theorem d_M_reading_30 : decode b_M_reading 30 = .ok (.getfield 16, 3) := by decide +kernel
theorem d_M_reading_33 : decode b_M_reading 33 = .ok (.iload_n 2, 1) := by decide +kernel
theorem d_M_reading_34 : decode b_M_reading 34 = .ok (.dup2, 1) := by decide +kernel
theorem d_M_reading_35 : decode b_M_reading 35 = .ok (.iaload, 1) := by decide +kernel
theorem d_M_reading_36 : decode b_M_reading 36 = .ok (.iconst 1, 1) := by decide +kernel
theorem d_M_reading_37 : decode b_M_reading 37 = .ok (.iadd, 1) := by decide +kernel
theorem d_M_reading_38 : decode b_M_reading 38 = .ok (.iastore, 1) := by decide +kernel
theorem d_M_reading_39 : decode b_M_reading 39 = .ok (.aload_n 0, 1) := by decide +kernel
theorem d_M_reading_40 : decode b_M_reading 40 = .ok (.getfield 13, 3) := by decide +kernel
theorem d_M_reading_43 : decode b_M_reading 43 = .ok (.iload_n 2, 1) := by decide +kernel
theorem d_M_reading_44 : decode b_M_reading 44 = .ok (.iaload, 1) := by decide +kernel
theorem d_M_reading_45 : decode b_M_reading 45 = .ok (.ifCond .ne 7, 3) := by decide +kernel
theorem d_M_reading_48 : decode b_M_reading 48 = .ok (.iconst 1, 1) := by decide +kernel
theorem d_M_reading_49 : decode b_M_reading 49 = .ok (.goto 4, 3) := by decide +kernel
theorem d_M_reading_52 : decode b_M_reading 52 = .ok (.iconst 0, 1) := by decide +kernel
theorem d_M_reading_53 : decode b_M_reading 53 = .ok (.istore_n 1, 1) := by decide +kernel
theorem d_M_reading_54 : decode b_M_reading 54 = .ok (.aload_n 0, 1) := by decide +kernel
theorem d_M_reading_55 : decode b_M_reading 55 = .ok (.getfield 13, 3) := by decide +kernel
theorem d_M_reading_58 : decode b_M_reading 58 = .ok (.iload_n 2, 1) := by decide +kernel
theorem d_M_reading_59 : decode b_M_reading 59 = .ok (.iaload, 1) := by decide +kernel
theorem d_M_reading_60 : decode b_M_reading 60 = .ok (.ifCond .le 13, 3) := by decide +kernel
theorem d_M_reading_63 : decode b_M_reading 63 = .ok (.aload_n 0, 1) := by decide +kernel
theorem d_M_reading_64 : decode b_M_reading 64 = .ok (.getfield 13, 3) := by decide +kernel
theorem d_M_reading_67 : decode b_M_reading 67 = .ok (.iload_n 2, 1) := by decide +kernel
theorem d_M_reading_68 : decode b_M_reading 68 = .ok (.dup2, 1) := by decide +kernel
theorem d_M_reading_69 : decode b_M_reading 69 = .ok (.iaload, 1) := by decide +kernel
theorem d_M_reading_70 : decode b_M_reading 70 = .ok (.iconst 1, 1) := by decide +kernel
theorem d_M_reading_71 : decode b_M_reading 71 = .ok (.isub, 1) := by decide +kernel
theorem d_M_reading_72 : decode b_M_reading 72 = .ok (.iastore, 1) := by decide +kernel
theorem d_M_reading_73 : decode b_M_reading 73 = .ok (.iinc 2 1, 3) := by decide +kernel
theorem d_M_reading_76 : decode b_M_reading 76 = .ok (.goto (-59), 3) := by decide +kernel
theorem d_M_reading_79 : decode b_M_reading 79 = .ok (.aload_n 0, 1) := by decide +kernel
theorem d_M_reading_80 : decode b_M_reading 80 = .ok (.getfield 54, 3) := by decide +kernel
theorem d_M_reading_83 : decode b_M_reading 83 = .ok (.istore_n 2, 1) := by decide +kernel
theorem d_M_reading_84 : decode b_M_reading 84 = .ok (.iload_n 2, 1) := by decide +kernel
theorem d_M_reading_85 : decode b_M_reading 85 = .ok (.aload_n 0, 1) := by decide +kernel
theorem d_M_reading_86 : decode b_M_reading 86 = .ok (.getfield 57, 3) := by decide +kernel
theorem d_M_reading_89 : decode b_M_reading 89 = .ok (.if_icmp .ge 32, 3) := by decide +kernel
theorem d_M_reading_92 : decode b_M_reading 92 = .ok (.iload_n 1, 1) := by decide +kernel
theorem d_M_reading_93 : decode b_M_reading 93 = .ok (.ifCond .eq 28, 3) := by decide +kernel
theorem d_M_reading_96 : decode b_M_reading 96 = .ok (.aload_n 0, 1) := by decide +kernel
theorem d_M_reading_97 : decode b_M_reading 97 = .ok (.getfield 19, 3) := by decide +kernel
theorem d_M_reading_100 : decode b_M_reading 100 = .ok (.iload_n 2, 1) := by decide +kernel
theorem d_M_reading_101 : decode b_M_reading 101 = .ok (.aload_n 0, 1) := by decide +kernel
theorem d_M_reading_102 : decode b_M_reading 102 = .ok (.getfield 7, 3) := by decide +kernel
theorem d_M_reading_105 : decode b_M_reading 105 = .ok (.iload_n 2, 1) := by decide +kernel
theorem d_M_reading_106 : decode b_M_reading 106 = .ok (.iaload, 1) := by decide +kernel
theorem d_M_reading_107 : decode b_M_reading 107 = .ok (.iastore, 1) := by decide +kernel
theorem d_M_reading_108 : decode b_M_reading 108 = .ok (.aload_n 0, 1) := by decide +kernel
theorem d_M_reading_109 : decode b_M_reading 109 = .ok (.getfield 26, 3) := by decide +kernel
theorem d_M_reading_112 : decode b_M_reading 112 = .ok (.iload_n 2, 1) := by decide +kernel
theorem d_M_reading_113 : decode b_M_reading 113 = .ok (.iconst 4, 1) := by decide +kernel
theorem d_M_reading_114 : decode b_M_reading 114 = .ok (.iastore, 1) := by decide +kernel
theorem d_M_reading_115 : decode b_M_reading 115 = .ok (.iinc 2 1, 3) := by decide +kernel
theorem d_M_reading_118 : decode b_M_reading 118 = .ok (.goto (-34), 3) := by decide +kernel
theorem d_M_reading_121 : decode b_M_reading 121 = .ok (.iload_n 1, 1) := by decide +kernel
theorem d_M_reading_122 : decode b_M_reading 122 = .ok (.ifCond .ne 13, 3) := by decide +kernel
theorem d_M_reading_125 : decode b_M_reading 125 = .ok (.aload_n 0, 1) := by decide +kernel
theorem d_M_reading_126 : decode b_M_reading 126 = .ok (.dup, 1) := by decide +kernel
theorem d_M_reading_127 : decode b_M_reading 127 = .ok (.getfield 44, 3) := by decide +kernel
theorem d_M_reading_130 : decode b_M_reading 130 = .ok (.iconst 1, 1) := by decide +kernel
theorem d_M_reading_131 : decode b_M_reading 131 = .ok (.iadd, 1) := by decide +kernel
theorem d_M_reading_132 : decode b_M_reading 132 = .ok (.putfield 44, 3) := by decide +kernel
theorem d_M_reading_135 : decode b_M_reading 135 = .ok (.iload_n 1, 1) := by decide +kernel
theorem d_M_reading_136 : decode b_M_reading 136 = .ok (.ireturn, 1) := by decide +kernel
theorem d_M_enter_0 : decode b_M_enter 0 = .ok (.aload_n 0, 1) := by decide +kernel
theorem d_M_enter_1 : decode b_M_enter 1 = .ok (.iload_n 1, 1) := by decide +kernel
theorem d_M_enter_2 : decode b_M_enter 2 = .ok (.putfield 22, 3) := by decide +kernel
theorem d_M_enter_5 : decode b_M_enter 5 = .ok (.aload_n 0, 1) := by decide +kernel
theorem d_M_enter_6 : decode b_M_enter 6 = .ok (.iload_n 1, 1) := by decide +kernel
theorem d_M_enter_7 : decode b_M_enter 7 = .ok (.iconst 1, 1) := by decide +kernel
theorem d_M_enter_8 : decode b_M_enter 8 = .ok (.if_icmp .ne 10, 3) := by decide +kernel
theorem d_M_enter_11 : decode b_M_enter 11 = .ok (.aload_n 0, 1) := by decide +kernel
theorem d_M_enter_12 : decode b_M_enter 12 = .ok (.getfield 38, 3) := by decide +kernel
theorem d_M_enter_15 : decode b_M_enter 15 = .ok (.goto 4, 3) := by decide +kernel
theorem d_M_enter_18 : decode b_M_enter 18 = .ok (.iconst 0, 1) := by decide +kernel
theorem d_M_enter_19 : decode b_M_enter 19 = .ok (.putfield 60, 3) := by decide +kernel
theorem d_M_enter_22 : decode b_M_enter 22 = .ok (.aload_n 0, 1) := by decide +kernel
theorem d_M_enter_23 : decode b_M_enter 23 = .ok (.bipush 8, 2) := by decide +kernel
theorem d_M_enter_25 : decode b_M_enter 25 = .ok (.putfield 63, 3) := by decide +kernel
theorem d_M_enter_28 : decode b_M_enter 28 = .ok (.aload_n 0, 1) := by decide +kernel
theorem d_M_enter_29 : decode b_M_enter 29 = .ok (.iconst 0, 1) := by decide +kernel
theorem d_M_enter_30 : decode b_M_enter 30 = .ok (.putfield 66, 3) := by decide +kernel
theorem d_M_enter_33 : decode b_M_enter 33 = .ok (.aload_n 0, 1) := by decide +kernel
theorem d_M_enter_34 : decode b_M_enter 34 = .ok (.iconst 0, 1) := by decide +kernel
theorem d_M_enter_35 : decode b_M_enter 35 = .ok (.putfield 69, 3) := by decide +kernel
theorem d_M_enter_38 : decode b_M_enter 38 = .ok (.return_, 1) := by decide +kernel
theorem d_M_begin_0 : decode b_M_begin 0 = .ok (.aload_n 0, 1) := by decide +kernel
theorem d_M_begin_1 : decode b_M_begin 1 = .ok (.iload_n 1, 1) := by decide +kernel
theorem d_M_begin_2 : decode b_M_begin 2 = .ok (.ifCond .lt 8, 3) := by decide +kernel
theorem d_M_begin_5 : decode b_M_begin 5 = .ok (.iload_n 1, 1) := by decide +kernel
theorem d_M_begin_6 : decode b_M_begin 6 = .ok (.iconst 5, 1) := by decide +kernel
theorem d_M_begin_7 : decode b_M_begin 7 = .ok (.if_icmp .le 7, 3) := by decide +kernel
theorem d_M_begin_10 : decode b_M_begin 10 = .ok (.iconst 1, 1) := by decide +kernel
theorem d_M_begin_11 : decode b_M_begin 11 = .ok (.goto 23, 3) := by decide +kernel
theorem d_M_begin_14 : decode b_M_begin 14 = .ok (.aload_n 0, 1) := by decide +kernel
theorem d_M_begin_15 : decode b_M_begin 15 = .ok (.getfield 38, 3) := by decide +kernel
theorem d_M_begin_18 : decode b_M_begin 18 = .ok (.ifCond .eq 11, 3) := by decide +kernel
theorem d_M_begin_21 : decode b_M_begin 21 = .ok (.aload_n 0, 1) := by decide +kernel
theorem d_M_begin_22 : decode b_M_begin 22 = .ok (.getfield 22, 3) := by decide +kernel
theorem d_M_begin_25 : decode b_M_begin 25 = .ok (.iconst (-1), 1) := by decide +kernel
theorem d_M_begin_26 : decode b_M_begin 26 = .ok (.if_icmp .eq 7, 3) := by decide +kernel
theorem d_M_begin_29 : decode b_M_begin 29 = .ok (.iconst 2, 1) := by decide +kernel
theorem d_M_begin_30 : decode b_M_begin 30 = .ok (.goto 4, 3) := by decide +kernel
theorem d_M_begin_33 : decode b_M_begin 33 = .ok (.iconst 0, 1) := by decide +kernel
theorem d_M_begin_34 : decode b_M_begin 34 = .ok (.putfield 35, 3) := by decide +kernel
theorem d_M_begin_37 : decode b_M_begin 37 = .ok (.aload_n 0, 1) := by decide +kernel
theorem d_M_begin_38 : decode b_M_begin 38 = .ok (.getfield 35, 3) := by decide +kernel
theorem d_M_begin_41 : decode b_M_begin 41 = .ok (.ifCond .eq 4, 3) := by decide +kernel
theorem d_M_begin_44 : decode b_M_begin 44 = .ok (.return_, 1) := by decide +kernel
theorem d_M_begin_45 : decode b_M_begin 45 = .ok (.aload_n 0, 1) := by decide +kernel
theorem d_M_begin_46 : decode b_M_begin 46 = .ok (.iload_n 1, 1) := by decide +kernel
theorem d_M_begin_47 : decode b_M_begin 47 = .ok (.putfield 73, 3) := by decide +kernel
theorem d_M_begin_50 : decode b_M_begin 50 = .ok (.iconst 0, 1) := by decide +kernel
theorem d_M_begin_51 : decode b_M_begin 51 = .ok (.istore_n 2, 1) := by decide +kernel
theorem d_M_begin_52 : decode b_M_begin 52 = .ok (.iload_n 2, 1) := by decide +kernel
theorem d_M_begin_53 : decode b_M_begin 53 = .ok (.bipush 64, 2) := by decide +kernel
theorem d_M_begin_55 : decode b_M_begin 55 = .ok (.if_icmp .ge 16, 3) := by decide +kernel
theorem d_M_begin_58 : decode b_M_begin 58 = .ok (.aload_n 0, 1) := by decide +kernel
theorem d_M_begin_59 : decode b_M_begin 59 = .ok (.getfield 26, 3) := by decide +kernel
theorem d_M_begin_62 : decode b_M_begin 62 = .ok (.iload_n 2, 1) := by decide +kernel
theorem d_M_begin_63 : decode b_M_begin 63 = .ok (.iconst 0, 1) := by decide +kernel
theorem d_M_begin_64 : decode b_M_begin 64 = .ok (.iastore, 1) := by decide +kernel
theorem d_M_begin_65 : decode b_M_begin 65 = .ok (.iinc 2 1, 3) := by decide +kernel
theorem d_M_begin_68 : decode b_M_begin 68 = .ok (.goto (-16), 3) := by decide +kernel
theorem d_M_begin_71 : decode b_M_begin 71 = .ok (.aload_n 0, 1) := by decide +kernel
theorem d_M_begin_72 : decode b_M_begin 72 = .ok (.iconst 0, 1) := by decide +kernel
theorem d_M_begin_73 : decode b_M_begin 73 = .ok (.invokevirtual 76, 3) := by decide +kernel
theorem d_M_begin_76 : decode b_M_begin 76 = .ok (.return_, 1) := by decide +kernel
theorem d_M_firstIn_0 : decode b_M_firstIn 0 = .ok (.iload_n 2, 1) := by decide +kernel
theorem d_M_firstIn_1 : decode b_M_firstIn 1 = .ok (.ifCond .ge 7, 3) := by decide +kernel
theorem d_M_firstIn_4 : decode b_M_firstIn 4 = .ok (.iconst 0, 1) := by decide +kernel
theorem d_M_firstIn_5 : decode b_M_firstIn 5 = .ok (.goto 4, 3) := by decide +kernel
theorem d_M_firstIn_8 : decode b_M_firstIn 8 = .ok (.iload_n 2, 1) := by decide +kernel
theorem d_M_firstIn_9 : decode b_M_firstIn 9 = .ok (.istore_n 3, 1) := by decide +kernel
theorem d_M_firstIn_10 : decode b_M_firstIn 10 = .ok (.iload_n 3, 1) := by decide +kernel
theorem d_M_firstIn_11 : decode b_M_firstIn 11 = .ok (.aload_n 0, 1) := by decide +kernel
theorem d_M_firstIn_12 : decode b_M_firstIn 12 = .ok (.getfield 38, 3) := by decide +kernel
theorem d_M_firstIn_15 : decode b_M_firstIn 15 = .ok (.if_icmp .ge 21, 3) := by decide +kernel
theorem d_M_firstIn_18 : decode b_M_firstIn 18 = .ok (.aload_n 0, 1) := by decide +kernel
theorem d_M_firstIn_19 : decode b_M_firstIn 19 = .ok (.getfield 26, 3) := by decide +kernel
theorem d_M_firstIn_22 : decode b_M_firstIn 22 = .ok (.iload_n 3, 1) := by decide +kernel
theorem d_M_firstIn_23 : decode b_M_firstIn 23 = .ok (.iaload, 1) := by decide +kernel
theorem d_M_firstIn_24 : decode b_M_firstIn 24 = .ok (.iload_n 1, 1) := by decide +kernel
theorem d_M_firstIn_25 : decode b_M_firstIn 25 = .ok (.if_icmp .ne 5, 3) := by decide +kernel
theorem d_M_firstIn_28 : decode b_M_firstIn 28 = .ok (.iload_n 3, 1) := by decide +kernel
theorem d_M_firstIn_29 : decode b_M_firstIn 29 = .ok (.ireturn, 1) := by decide +kernel
theorem d_M_firstIn_30 : decode b_M_firstIn 30 = .ok (.iinc 3 1, 3) := by decide +kernel
theorem d_M_firstIn_33 : decode b_M_firstIn 33 = .ok (.goto (-23), 3) := by decide +kernel
theorem d_M_firstIn_36 : decode b_M_firstIn 36 = .ok (.iconst (-1), 1) := by decide +kernel
theorem d_M_firstIn_37 : decode b_M_firstIn 37 = .ok (.ireturn, 1) := by decide +kernel
theorem d_M_lastIn_0 : decode b_M_lastIn 0 = .ok (.iload_n 2, 1) := by decide +kernel
theorem d_M_lastIn_1 : decode b_M_lastIn 1 = .ok (.aload_n 0, 1) := by decide +kernel
theorem d_M_lastIn_2 : decode b_M_lastIn 2 = .ok (.getfield 38, 3) := by decide +kernel
theorem d_M_lastIn_5 : decode b_M_lastIn 5 = .ok (.if_icmp .le 12, 3) := by decide +kernel
theorem d_M_lastIn_8 : decode b_M_lastIn 8 = .ok (.aload_n 0, 1) := by decide +kernel
theorem d_M_lastIn_9 : decode b_M_lastIn 9 = .ok (.getfield 38, 3) := by decide +kernel
theorem d_M_lastIn_12 : decode b_M_lastIn 12 = .ok (.iconst 1, 1) := by decide +kernel
theorem d_M_lastIn_13 : decode b_M_lastIn 13 = .ok (.isub, 1) := by decide +kernel
theorem d_M_lastIn_14 : decode b_M_lastIn 14 = .ok (.goto 6, 3) := by decide +kernel
theorem d_M_lastIn_17 : decode b_M_lastIn 17 = .ok (.iload_n 2, 1) := by decide +kernel
theorem d_M_lastIn_18 : decode b_M_lastIn 18 = .ok (.iconst 1, 1) := by decide +kernel
theorem d_M_lastIn_19 : decode b_M_lastIn 19 = .ok (.isub, 1) := by decide +kernel
theorem d_M_lastIn_20 : decode b_M_lastIn 20 = .ok (.istore_n 3, 1) := by decide +kernel
theorem d_M_lastIn_21 : decode b_M_lastIn 21 = .ok (.iload_n 3, 1) := by decide +kernel
theorem d_M_lastIn_22 : decode b_M_lastIn 22 = .ok (.ifCond .lt 21, 3) := by decide +kernel
theorem d_M_lastIn_25 : decode b_M_lastIn 25 = .ok (.aload_n 0, 1) := by decide +kernel
theorem d_M_lastIn_26 : decode b_M_lastIn 26 = .ok (.getfield 26, 3) := by decide +kernel
theorem d_M_lastIn_29 : decode b_M_lastIn 29 = .ok (.iload_n 3, 1) := by decide +kernel
theorem d_M_lastIn_30 : decode b_M_lastIn 30 = .ok (.iaload, 1) := by decide +kernel
theorem d_M_lastIn_31 : decode b_M_lastIn 31 = .ok (.iload_n 1, 1) := by decide +kernel
theorem d_M_lastIn_32 : decode b_M_lastIn 32 = .ok (.if_icmp .ne 5, 3) := by decide +kernel
theorem d_M_lastIn_35 : decode b_M_lastIn 35 = .ok (.iload_n 3, 1) := by decide +kernel
theorem d_M_lastIn_36 : decode b_M_lastIn 36 = .ok (.ireturn, 1) := by decide +kernel
theorem d_M_lastIn_37 : decode b_M_lastIn 37 = .ok (.iinc 3 (-1), 3) := by decide +kernel
theorem d_M_lastIn_40 : decode b_M_lastIn 40 = .ok (.goto (-19), 3) := by decide +kernel
theorem d_M_lastIn_43 : decode b_M_lastIn 43 = .ok (.iconst (-1), 1) := by decide +kernel
theorem d_M_lastIn_44 : decode b_M_lastIn 44 = .ok (.ireturn, 1) := by decide +kernel
theorem d_M_findBad_0 : decode b_M_findBad 0 = .ok (.iconst (-1), 1) := by decide +kernel
theorem d_M_findBad_1 : decode b_M_findBad 1 = .ok (.istore_n 1, 1) := by decide +kernel
theorem d_M_findBad_2 : decode b_M_findBad 2 = .ok (.aload_n 0, 1) := by decide +kernel
theorem d_M_findBad_3 : decode b_M_findBad 3 = .ok (.getfield 66, 3) := by decide +kernel
theorem d_M_findBad_6 : decode b_M_findBad 6 = .ok (.aload_n 0, 1) := by decide +kernel
theorem d_M_findBad_7 : decode b_M_findBad 7 = .ok (.getfield 73, 3) := by decide +kernel
theorem d_M_findBad_10 : decode b_M_findBad 10 = .ok (.if_icmp .ge 88, 3) := by decide +kernel
theorem d_M_findBad_13 : decode b_M_findBad 13 = .ok (.iload_n 1, 1) := by decide +kernel
theorem d_M_findBad_14 : decode b_M_findBad 14 = .ok (.ifCond .ge 84, 3) := by decide +kernel
theorem d_M_findBad_17 : decode b_M_findBad 17 = .ok (.aload_n 0, 1) := by decide +kernel
theorem d_M_findBad_18 : decode b_M_findBad 18 = .ok (.iconst 3, 1) := by decide +kernel
theorem d_M_findBad_19 : decode b_M_findBad 19 = .ok (.iconst 0, 1) := by decide +kernel
theorem d_M_findBad_20 : decode b_M_findBad 20 = .ok (.invokevirtual 80, 3) := by decide +kernel
theorem d_M_findBad_23 : decode b_M_findBad 23 = .ok (.ifCond .lt 75, 3) := by decide +kernel
theorem d_M_findBad_26 : decode b_M_findBad 26 = .ok (.aload_n 0, 1) := by decide +kernel
theorem d_M_findBad_27 : decode b_M_findBad 27 = .ok (.getfield 66, 3) := by decide +kernel
theorem d_M_findBad_30 : decode b_M_findBad 30 = .ok (.iconst 2, 1) := by decide +kernel
theorem d_M_findBad_31 : decode b_M_findBad 31 = .ok (.irem, 1) := by decide +kernel
theorem d_M_findBad_32 : decode b_M_findBad 32 = .ok (.ifCond .ne 15, 3) := by decide +kernel
theorem d_M_findBad_35 : decode b_M_findBad 35 = .ok (.aload_n 0, 1) := by decide +kernel
theorem d_M_findBad_36 : decode b_M_findBad 36 = .ok (.iconst 3, 1) := by decide +kernel
theorem d_M_findBad_37 : decode b_M_findBad 37 = .ok (.aload_n 0, 1) := by decide +kernel
theorem d_M_findBad_38 : decode b_M_findBad 38 = .ok (.getfield 60, 3) := by decide +kernel
theorem d_M_findBad_41 : decode b_M_findBad 41 = .ok (.invokevirtual 80, 3) := by decide +kernel
theorem d_M_findBad_44 : decode b_M_findBad 44 = .ok (.goto 12, 3) := by decide +kernel
theorem d_M_findBad_47 : decode b_M_findBad 47 = .ok (.aload_n 0, 1) := by decide +kernel
theorem d_M_findBad_48 : decode b_M_findBad 48 = .ok (.iconst 3, 1) := by decide +kernel
theorem d_M_findBad_49 : decode b_M_findBad 49 = .ok (.aload_n 0, 1) := by decide +kernel
theorem d_M_findBad_50 : decode b_M_findBad 50 = .ok (.getfield 60, 3) := by decide +kernel
theorem d_M_findBad_53 : decode b_M_findBad 53 = .ok (.invokevirtual 84, 3) := by decide +kernel
theorem d_M_findBad_56 : decode b_M_findBad 56 = .ok (.istore_n 1, 1) := by decide +kernel
theorem d_M_findBad_57 : decode b_M_findBad 57 = .ok (.iload_n 1, 1) := by decide +kernel
theorem d_M_findBad_58 : decode b_M_findBad 58 = .ok (.ifCond .lt 6, 3) := by decide +kernel
theorem d_M_findBad_61 : decode b_M_findBad 61 = .ok (.goto (-59), 3) := by decide +kernel
theorem d_M_findBad_64 : decode b_M_findBad 64 = .ok (.aload_n 0, 1) := by decide +kernel
theorem d_M_findBad_65 : decode b_M_findBad 65 = .ok (.dup, 1) := by decide +kernel
theorem d_M_findBad_66 : decode b_M_findBad 66 = .ok (.getfield 66, 3) := by decide +kernel
theorem d_M_findBad_69 : decode b_M_findBad 69 = .ok (.iconst 1, 1) := by decide +kernel
theorem d_M_findBad_70 : decode b_M_findBad 70 = .ok (.iadd, 1) := by decide +kernel
theorem d_M_findBad_71 : decode b_M_findBad 71 = .ok (.putfield 66, 3) := by decide +kernel
theorem d_M_findBad_74 : decode b_M_findBad 74 = .ok (.aload_n 0, 1) := by decide +kernel
theorem d_M_findBad_75 : decode b_M_findBad 75 = .ok (.aload_n 0, 1) := by decide +kernel
theorem d_M_findBad_76 : decode b_M_findBad 76 = .ok (.getfield 66, 3) := by decide +kernel
theorem d_M_findBad_79 : decode b_M_findBad 79 = .ok (.iconst 2, 1) := by decide +kernel
theorem d_M_findBad_80 : decode b_M_findBad 80 = .ok (.irem, 1) := by decide +kernel
theorem d_M_findBad_81 : decode b_M_findBad 81 = .ok (.ifCond .ne 7, 3) := by decide +kernel
theorem d_M_findBad_84 : decode b_M_findBad 84 = .ok (.iconst 0, 1) := by decide +kernel
theorem d_M_findBad_85 : decode b_M_findBad 85 = .ok (.goto 7, 3) := by decide +kernel
theorem d_M_findBad_88 : decode b_M_findBad 88 = .ok (.aload_n 0, 1) := by decide +kernel
theorem d_M_findBad_89 : decode b_M_findBad 89 = .ok (.getfield 38, 3) := by decide +kernel
theorem d_M_findBad_92 : decode b_M_findBad 92 = .ok (.putfield 60, 3) := by decide +kernel
theorem d_M_findBad_95 : decode b_M_findBad 95 = .ok (.goto (-93), 3) := by decide +kernel
theorem d_M_findBad_98 : decode b_M_findBad 98 = .ok (.iload_n 1, 1) := by decide +kernel
theorem d_M_findBad_99 : decode b_M_findBad 99 = .ok (.ireturn, 1) := by decide +kernel
theorem d_M_find_0 : decode b_M_find 0 = .ok (.aload_n 0, 1) := by decide +kernel
theorem d_M_find_1 : decode b_M_find 1 = .ok (.getfield 22, 3) := by decide +kernel
theorem d_M_find_4 : decode b_M_find 4 = .ok (.ifCond .eq 11, 3) := by decide +kernel
theorem d_M_find_7 : decode b_M_find 7 = .ok (.aload_n 0, 1) := by decide +kernel
theorem d_M_find_8 : decode b_M_find 8 = .ok (.getfield 22, 3) := by decide +kernel
theorem d_M_find_11 : decode b_M_find 11 = .ok (.iconst 2, 1) := by decide +kernel
theorem d_M_find_12 : decode b_M_find 12 = .ok (.if_icmp .ne 84, 3) := by decide +kernel
theorem d_M_find_15 : decode b_M_find 15 = .ok (.aload_n 0, 1) := by decide +kernel
theorem d_M_find_16 : decode b_M_find 16 = .ok (.iconst 0, 1) := by decide +kernel
theorem d_M_find_17 : decode b_M_find 17 = .ok (.aload_n 0, 1) := by decide +kernel
theorem d_M_find_18 : decode b_M_find 18 = .ok (.getfield 60, 3) := by decide +kernel
theorem d_M_find_21 : decode b_M_find 21 = .ok (.invokevirtual 80, 3) := by decide +kernel
theorem d_M_find_24 : decode b_M_find 24 = .ok (.istore_n 1, 1) := by decide +kernel
theorem d_M_find_25 : decode b_M_find 25 = .ok (.aload_n 0, 1) := by decide +kernel
theorem d_M_find_26 : decode b_M_find 26 = .ok (.iload_n 1, 1) := by decide +kernel
theorem d_M_find_27 : decode b_M_find 27 = .ok (.putfield 54, 3) := by decide +kernel
theorem d_M_find_30 : decode b_M_find 30 = .ok (.aload_n 0, 1) := by decide +kernel
theorem d_M_find_31 : decode b_M_find 31 = .ok (.iload_n 1, 1) := by decide +kernel
theorem d_M_find_32 : decode b_M_find 32 = .ok (.putfield 57, 3) := by decide +kernel
theorem d_M_find_35 : decode b_M_find 35 = .ok (.iload_n 1, 1) := by decide +kernel
theorem d_M_find_36 : decode b_M_find 36 = .ok (.ifCond .lt 50, 3) := by decide +kernel
theorem d_M_find_39 : decode b_M_find 39 = .ok (.aload_n 0, 1) := by decide +kernel
theorem d_M_find_40 : decode b_M_find 40 = .ok (.getfield 57, 3) := by decide +kernel
theorem d_M_find_43 : decode b_M_find 43 = .ok (.aload_n 0, 1) := by decide +kernel
theorem d_M_find_44 : decode b_M_find 44 = .ok (.getfield 38, 3) := by decide +kernel
theorem d_M_find_47 : decode b_M_find 47 = .ok (.if_icmp .ge 39, 3) := by decide +kernel
theorem d_M_find_50 : decode b_M_find 50 = .ok (.aload_n 0, 1) := by decide +kernel
theorem d_M_find_51 : decode b_M_find 51 = .ok (.getfield 57, 3) := by decide +kernel
theorem d_M_find_54 : decode b_M_find 54 = .ok (.iload_n 1, 1) := by decide +kernel
theorem d_M_find_55 : decode b_M_find 55 = .ok (.bipush 8, 2) := by decide +kernel
theorem d_M_find_57 : decode b_M_find 57 = .ok (.iadd, 1) := by decide +kernel
theorem d_M_find_58 : decode b_M_find 58 = .ok (.if_icmp .ge 28, 3) := by decide +kernel
theorem d_M_find_61 : decode b_M_find 61 = .ok (.aload_n 0, 1) := by decide +kernel
theorem d_M_find_62 : decode b_M_find 62 = .ok (.getfield 26, 3) := by decide +kernel
theorem d_M_find_65 : decode b_M_find 65 = .ok (.aload_n 0, 1) := by decide +kernel
theorem d_M_find_66 : decode b_M_find 66 = .ok (.getfield 57, 3) := by decide +kernel
theorem d_M_find_69 : decode b_M_find 69 = .ok (.iaload, 1) := by decide +kernel
theorem d_M_find_70 : decode b_M_find 70 = .ok (.ifCond .ne 16, 3) := by decide +kernel
theorem d_M_find_73 : decode b_M_find 73 = .ok (.aload_n 0, 1) := by decide +kernel
theorem d_M_find_74 : decode b_M_find 74 = .ok (.dup, 1) := by decide +kernel
theorem d_M_find_75 : decode b_M_find 75 = .ok (.getfield 57, 3) := by decide +kernel
theorem d_M_find_78 : decode b_M_find 78 = .ok (.iconst 1, 1) := by decide +kernel
theorem d_M_find_79 : decode b_M_find 79 = .ok (.iadd, 1) := by decide +kernel
theorem d_M_find_80 : decode b_M_find 80 = .ok (.putfield 57, 3) := by decide +kernel
theorem d_M_find_83 : decode b_M_find 83 = .ok (.goto (-48), 3) := by decide +kernel
theorem d_M_find_86 : decode b_M_find 86 = .ok (.iload_n 1, 1) := by decide +kernel
theorem d_M_find_87 : decode b_M_find 87 = .ok (.ifCond .lt 7, 3) := by decide +kernel
theorem d_M_find_90 : decode b_M_find 90 = .ok (.iconst 1, 1) := by decide +kernel
theorem d_M_find_91 : decode b_M_find 91 = .ok (.goto 4, 3) := by decide +kernel
theorem d_M_find_94 : decode b_M_find 94 = .ok (.iconst 0, 1) := by decide +kernel
theorem d_M_find_95 : decode b_M_find 95 = .ok (.ireturn, 1) := by decide +kernel
theorem d_M_find_96 : decode b_M_find 96 = .ok (.aload_n 0, 1) := by decide +kernel
theorem d_M_find_97 : decode b_M_find 97 = .ok (.getfield 22, 3) := by decide +kernel
theorem d_M_find_100 : decode b_M_find 100 = .ok (.iconst 1, 1) := by decide +kernel
theorem d_M_find_101 : decode b_M_find 101 = .ok (.if_icmp .ne 84, 3) := by decide +kernel
theorem d_M_find_104 : decode b_M_find 104 = .ok (.aload_n 0, 1) := by decide +kernel
theorem d_M_find_105 : decode b_M_find 105 = .ok (.iconst 0, 1) := by decide +kernel
theorem d_M_find_106 : decode b_M_find 106 = .ok (.aload_n 0, 1) := by decide +kernel
theorem d_M_find_107 : decode b_M_find 107 = .ok (.getfield 60, 3) := by decide +kernel
theorem d_M_find_110 : decode b_M_find 110 = .ok (.invokevirtual 84, 3) := by decide +kernel
theorem d_M_find_113 : decode b_M_find 113 = .ok (.istore_n 1, 1) := by decide +kernel
theorem d_M_find_114 : decode b_M_find 114 = .ok (.aload_n 0, 1) := by decide +kernel
theorem d_M_find_115 : decode b_M_find 115 = .ok (.iload_n 1, 1) := by decide +kernel
theorem d_M_find_116 : decode b_M_find 116 = .ok (.putfield 54, 3) := by decide +kernel
theorem d_M_find_119 : decode b_M_find 119 = .ok (.aload_n 0, 1) := by decide +kernel
theorem d_M_find_120 : decode b_M_find 120 = .ok (.iload_n 1, 1) := by decide +kernel
theorem d_M_find_121 : decode b_M_find 121 = .ok (.iconst 1, 1) := by decide +kernel
theorem d_M_find_122 : decode b_M_find 122 = .ok (.iadd, 1) := by decide +kernel
theorem d_M_find_123 : decode b_M_find 123 = .ok (.putfield 57, 3) := by decide +kernel
theorem d_M_find_126 : decode b_M_find 126 = .ok (.iload_n 1, 1) := by decide +kernel
theorem d_M_find_127 : decode b_M_find 127 = .ok (.ifCond .lt 48, 3) := by decide +kernel
theorem d_M_find_130 : decode b_M_find 130 = .ok (.aload_n 0, 1) := by decide +kernel
theorem d_M_find_131 : decode b_M_find 131 = .ok (.getfield 54, 3) := by decide +kernel
theorem d_M_find_134 : decode b_M_find 134 = .ok (.ifCond .le 41, 3) := by decide +kernel
theorem d_M_find_137 : decode b_M_find 137 = .ok (.aload_n 0, 1) := by decide +kernel
theorem d_M_find_138 : decode b_M_find 138 = .ok (.getfield 54, 3) := by decide +kernel
theorem d_M_find_141 : decode b_M_find 141 = .ok (.iload_n 1, 1) := by decide +kernel
theorem d_M_find_142 : decode b_M_find 142 = .ok (.bipush 7, 2) := by decide +kernel
theorem d_M_find_144 : decode b_M_find 144 = .ok (.isub, 1) := by decide +kernel
theorem d_M_find_145 : decode b_M_find 145 = .ok (.if_icmp .le 30, 3) := by decide +kernel
theorem d_M_find_148 : decode b_M_find 148 = .ok (.aload_n 0, 1) := by decide +kernel
theorem d_M_find_149 : decode b_M_find 149 = .ok (.getfield 26, 3) := by decide +kernel
theorem d_M_find_152 : decode b_M_find 152 = .ok (.aload_n 0, 1) := by decide +kernel
theorem d_M_find_153 : decode b_M_find 153 = .ok (.getfield 54, 3) := by decide +kernel
theorem d_M_find_156 : decode b_M_find 156 = .ok (.iconst 1, 1) := by decide +kernel
theorem d_M_find_157 : decode b_M_find 157 = .ok (.isub, 1) := by decide +kernel
theorem d_M_find_158 : decode b_M_find 158 = .ok (.iaload, 1) := by decide +kernel
theorem d_M_find_159 : decode b_M_find 159 = .ok (.ifCond .ne 16, 3) := by decide +kernel
theorem d_M_find_162 : decode b_M_find 162 = .ok (.aload_n 0, 1) := by decide +kernel
theorem d_M_find_163 : decode b_M_find 163 = .ok (.dup, 1) := by decide +kernel
theorem d_M_find_164 : decode b_M_find 164 = .ok (.getfield 54, 3) := by decide +kernel
theorem d_M_find_167 : decode b_M_find 167 = .ok (.iconst 1, 1) := by decide +kernel
theorem d_M_find_168 : decode b_M_find 168 = .ok (.isub, 1) := by decide +kernel
theorem d_M_find_169 : decode b_M_find 169 = .ok (.putfield 54, 3) := by decide +kernel
theorem d_M_find_172 : decode b_M_find 172 = .ok (.goto (-46), 3) := by decide +kernel
theorem d_M_find_175 : decode b_M_find 175 = .ok (.iload_n 1, 1) := by decide +kernel
theorem d_M_find_176 : decode b_M_find 176 = .ok (.ifCond .lt 7, 3) := by decide +kernel
theorem d_M_find_179 : decode b_M_find 179 = .ok (.iconst 1, 1) := by decide +kernel
theorem d_M_find_180 : decode b_M_find 180 = .ok (.goto 4, 3) := by decide +kernel
theorem d_M_find_183 : decode b_M_find 183 = .ok (.iconst 0, 1) := by decide +kernel
theorem d_M_find_184 : decode b_M_find 184 = .ok (.ireturn, 1) := by decide +kernel
theorem d_M_find_185 : decode b_M_find 185 = .ok (.aload_n 0, 1) := by decide +kernel
theorem d_M_find_186 : decode b_M_find 186 = .ok (.getfield 22, 3) := by decide +kernel
theorem d_M_find_189 : decode b_M_find 189 = .ok (.iconst 3, 1) := by decide +kernel
theorem d_M_find_190 : decode b_M_find 190 = .ok (.if_icmp .ne 49, 3) := by decide +kernel
theorem d_M_find_193 : decode b_M_find 193 = .ok (.aload_n 0, 1) := by decide +kernel
theorem d_M_find_194 : decode b_M_find 194 = .ok (.iconst 1, 1) := by decide +kernel
theorem d_M_find_195 : decode b_M_find 195 = .ok (.iconst 0, 1) := by decide +kernel
theorem d_M_find_196 : decode b_M_find 196 = .ok (.invokevirtual 80, 3) := by decide +kernel
theorem d_M_find_199 : decode b_M_find 199 = .ok (.istore_n 1, 1) := by decide +kernel
theorem d_M_find_200 : decode b_M_find 200 = .ok (.aload_n 0, 1) := by decide +kernel
theorem d_M_find_201 : decode b_M_find 201 = .ok (.getfield 69, 3) := by decide +kernel
theorem d_M_find_204 : decode b_M_find 204 = .ok (.ifCond .eq 58, 3) := by decide +kernel
theorem d_M_find_207 : decode b_M_find 207 = .ok (.iload_n 1, 1) := by decide +kernel
theorem d_M_find_208 : decode b_M_find 208 = .ok (.ifCond .lt 54, 3) := by decide +kernel
theorem d_M_find_211 : decode b_M_find 211 = .ok (.iload_n 1, 1) := by decide +kernel
theorem d_M_find_212 : decode b_M_find 212 = .ok (.iconst 1, 1) := by decide +kernel
theorem d_M_find_213 : decode b_M_find 213 = .ok (.iadd, 1) := by decide +kernel
theorem d_M_find_214 : decode b_M_find 214 = .ok (.aload_n 0, 1) := by decide +kernel
theorem d_M_find_215 : decode b_M_find 215 = .ok (.getfield 38, 3) := by decide +kernel
theorem d_M_find_218 : decode b_M_find 218 = .ok (.if_icmp .ge 44, 3) := by decide +kernel
theorem d_M_find_221 : decode b_M_find 221 = .ok (.aload_n 0, 1) := by decide +kernel
theorem d_M_find_222 : decode b_M_find 222 = .ok (.getfield 26, 3) := by decide +kernel
theorem d_M_find_225 : decode b_M_find 225 = .ok (.iload_n 1, 1) := by decide +kernel
theorem d_M_find_226 : decode b_M_find 226 = .ok (.iconst 1, 1) := by decide +kernel
theorem d_M_find_227 : decode b_M_find 227 = .ok (.iadd, 1) := by decide +kernel
theorem d_M_find_228 : decode b_M_find 228 = .ok (.iaload, 1) := by decide +kernel
theorem d_M_find_229 : decode b_M_find 229 = .ok (.iconst 1, 1) := by decide +kernel
theorem d_M_find_230 : decode b_M_find 230 = .ok (.if_icmp .ne 32, 3) := by decide +kernel
theorem d_M_find_233 : decode b_M_find 233 = .ok (.iinc 1 1, 3) := by decide +kernel
theorem d_M_find_236 : decode b_M_find 236 = .ok (.goto (-36), 3) := by decide +kernel
theorem d_M_find_239 : decode b_M_find 239 = .ok (.aload_n 0, 1) := by decide +kernel
theorem d_M_find_240 : decode b_M_find 240 = .ok (.getfield 22, 3) := by decide +kernel
theorem d_M_find_243 : decode b_M_find 243 = .ok (.iconst 4, 1) := by decide +kernel
theorem d_M_find_244 : decode b_M_find 244 = .ok (.if_icmp .ne 13, 3) := by decide +kernel
theorem d_M_find_247 : decode b_M_find 247 = .ok (.aload_n 0, 1) := by decide +kernel
theorem d_M_find_248 : decode b_M_find 248 = .ok (.iconst 2, 1) := by decide +kernel
theorem d_M_find_249 : decode b_M_find 249 = .ok (.iconst 0, 1) := by decide +kernel
theorem d_M_find_250 : decode b_M_find 250 = .ok (.invokevirtual 80, 3) := by decide +kernel
theorem d_M_find_253 : decode b_M_find 253 = .ok (.istore_n 1, 1) := by decide +kernel
theorem d_M_find_254 : decode b_M_find 254 = .ok (.goto 8, 3) := by decide +kernel
theorem d_M_find_257 : decode b_M_find 257 = .ok (.aload_n 0, 1) := by decide +kernel
theorem d_M_find_258 : decode b_M_find 258 = .ok (.invokevirtual 87, 3) := by decide +kernel
theorem d_M_find_261 : decode b_M_find 261 = .ok (.istore_n 1, 1) := by decide +kernel
theorem d_M_find_262 : decode b_M_find 262 = .ok (.aload_n 0, 1) := by decide +kernel
theorem d_M_find_263 : decode b_M_find 263 = .ok (.iload_n 1, 1) := by decide +kernel
theorem d_M_find_264 : decode b_M_find 264 = .ok (.putfield 54, 3) := by decide +kernel
theorem d_M_find_267 : decode b_M_find 267 = .ok (.aload_n 0, 1) := by decide +kernel
theorem d_M_find_268 : decode b_M_find 268 = .ok (.iload_n 1, 1) := by decide +kernel
theorem d_M_find_269 : decode b_M_find 269 = .ok (.iconst 1, 1) := by decide +kernel
theorem d_M_find_270 : decode b_M_find 270 = .ok (.iadd, 1) := by decide +kernel
theorem d_M_find_271 : decode b_M_find 271 = .ok (.putfield 57, 3) := by decide +kernel
theorem d_M_find_274 : decode b_M_find 274 = .ok (.iload_n 1, 1) := by decide +kernel
theorem d_M_find_275 : decode b_M_find 275 = .ok (.ifCond .lt 7, 3) := by decide +kernel
theorem d_M_find_278 : decode b_M_find 278 = .ok (.iconst 1, 1) := by decide +kernel
theorem d_M_find_279 : decode b_M_find 279 = .ok (.goto 4, 3) := by decide +kernel
theorem d_M_find_282 : decode b_M_find 282 = .ok (.iconst 0, 1) := by decide +kernel
theorem d_M_find_283 : decode b_M_find 283 = .ok (.ireturn, 1) := by decide +kernel
theorem d_M_mark_0 : decode b_M_mark 0 = .ok (.aload_n 0, 1) := by decide +kernel
theorem d_M_mark_1 : decode b_M_mark 1 = .ok (.getfield 54, 3) := by decide +kernel
theorem d_M_mark_4 : decode b_M_mark 4 = .ok (.istore_n 2, 1) := by decide +kernel
theorem d_M_mark_5 : decode b_M_mark 5 = .ok (.iload_n 2, 1) := by decide +kernel
theorem d_M_mark_6 : decode b_M_mark 6 = .ok (.aload_n 0, 1) := by decide +kernel
theorem d_M_mark_7 : decode b_M_mark 7 = .ok (.getfield 57, 3) := by decide +kernel
theorem d_M_mark_10 : decode b_M_mark 10 = .ok (.if_icmp .ge 16, 3) := by decide +kernel
theorem d_M_mark_13 : decode b_M_mark 13 = .ok (.aload_n 0, 1) := by decide +kernel
theorem d_M_mark_14 : decode b_M_mark 14 = .ok (.getfield 26, 3) := by decide +kernel
theorem d_M_mark_17 : decode b_M_mark 17 = .ok (.iload_n 2, 1) := by decide +kernel
theorem d_M_mark_18 : decode b_M_mark 18 = .ok (.iload_n 1, 1) := by decide +kernel
theorem d_M_mark_19 : decode b_M_mark 19 = .ok (.iastore, 1) := by decide +kernel
theorem d_M_mark_20 : decode b_M_mark 20 = .ok (.iinc 2 1, 3) := by decide +kernel
theorem d_M_mark_23 : decode b_M_mark 23 = .ok (.goto (-18), 3) := by decide +kernel
theorem d_M_mark_26 : decode b_M_mark 26 = .ok (.return_, 1) := by decide +kernel
theorem d_M_trimmed_0 : decode b_M_trimmed 0 = .ok (.iload_n 1, 1) := by decide +kernel
theorem d_M_trimmed_1 : decode b_M_trimmed 1 = .ok (.ifCond .ne 13, 3) := by decide +kernel
theorem d_M_trimmed_4 : decode b_M_trimmed 4 = .ok (.aload_n 0, 1) := by decide +kernel
theorem d_M_trimmed_5 : decode b_M_trimmed 5 = .ok (.getfield 26, 3) := by decide +kernel
theorem d_M_trimmed_8 : decode b_M_trimmed 8 = .ok (.aload_n 0, 1) := by decide +kernel
theorem d_M_trimmed_9 : decode b_M_trimmed 9 = .ok (.getfield 54, 3) := by decide +kernel
theorem d_M_trimmed_12 : decode b_M_trimmed 12 = .ok (.iconst 3, 1) := by decide +kernel
theorem d_M_trimmed_13 : decode b_M_trimmed 13 = .ok (.iastore, 1) := by decide +kernel
theorem d_M_trimmed_14 : decode b_M_trimmed 14 = .ok (.aload_n 0, 1) := by decide +kernel
theorem d_M_trimmed_15 : decode b_M_trimmed 15 = .ok (.getfield 69, 3) := by decide +kernel
theorem d_M_trimmed_18 : decode b_M_trimmed 18 = .ok (.ifCond .ne 45, 3) := by decide +kernel
theorem d_M_trimmed_21 : decode b_M_trimmed 21 = .ok (.aload_n 0, 1) := by decide +kernel
theorem d_M_trimmed_22 : decode b_M_trimmed 22 = .ok (.iload_n 1, 1) := by decide +kernel
theorem d_M_trimmed_23 : decode b_M_trimmed 23 = .ok (.ifCond .ne 35, 3) := by decide +kernel
theorem d_M_trimmed_26 : decode b_M_trimmed 26 = .ok (.aload_n 0, 1) := by decide +kernel
theorem d_M_trimmed_27 : decode b_M_trimmed 27 = .ok (.getfield 54, 3) := by decide +kernel
theorem d_M_trimmed_30 : decode b_M_trimmed 30 = .ok (.iconst 1, 1) := by decide +kernel
theorem d_M_trimmed_31 : decode b_M_trimmed 31 = .ok (.iadd, 1) := by decide +kernel
theorem d_M_trimmed_32 : decode b_M_trimmed 32 = .ok (.aload_n 0, 1) := by decide +kernel
theorem d_M_trimmed_33 : decode b_M_trimmed 33 = .ok (.getfield 38, 3) := by decide +kernel
theorem d_M_trimmed_36 : decode b_M_trimmed 36 = .ok (.if_icmp .ge 22, 3) := by decide +kernel
theorem d_M_trimmed_39 : decode b_M_trimmed 39 = .ok (.aload_n 0, 1) := by decide +kernel
theorem d_M_trimmed_40 : decode b_M_trimmed 40 = .ok (.getfield 26, 3) := by decide +kernel
theorem d_M_trimmed_43 : decode b_M_trimmed 43 = .ok (.aload_n 0, 1) := by decide +kernel
theorem d_M_trimmed_44 : decode b_M_trimmed 44 = .ok (.getfield 54, 3) := by decide +kernel
theorem d_M_trimmed_47 : decode b_M_trimmed 47 = .ok (.iconst 1, 1) := by decide +kernel
theorem d_M_trimmed_48 : decode b_M_trimmed 48 = .ok (.iadd, 1) := by decide +kernel
theorem d_M_trimmed_49 : decode b_M_trimmed 49 = .ok (.iaload, 1) := by decide +kernel
theorem d_M_trimmed_50 : decode b_M_trimmed 50 = .ok (.iconst 1, 1) := by decide +kernel
theorem d_M_trimmed_51 : decode b_M_trimmed 51 = .ok (.if_icmp .ne 7, 3) := by decide +kernel
theorem d_M_trimmed_54 : decode b_M_trimmed 54 = .ok (.iconst 1, 1) := by decide +kernel
theorem d_M_trimmed_55 : decode b_M_trimmed 55 = .ok (.goto 4, 3) := by decide +kernel
theorem d_M_trimmed_58 : decode b_M_trimmed 58 = .ok (.iconst 0, 1) := by decide +kernel
theorem d_M_trimmed_59 : decode b_M_trimmed 59 = .ok (.putfield 69, 3) := by decide +kernel
theorem d_M_trimmed_62 : decode b_M_trimmed 62 = .ok (.return_, 1) := by decide +kernel
theorem d_M_trimmed_63 : decode b_M_trimmed 63 = .ok (.aload_n 0, 1) := by decide +kernel
theorem d_M_trimmed_64 : decode b_M_trimmed 64 = .ok (.getfield 54, 3) := by decide +kernel
theorem d_M_trimmed_67 : decode b_M_trimmed 67 = .ok (.ifCond .le 22, 3) := by decide +kernel
theorem d_M_trimmed_70 : decode b_M_trimmed 70 = .ok (.aload_n 0, 1) := by decide +kernel
theorem d_M_trimmed_71 : decode b_M_trimmed 71 = .ok (.getfield 26, 3) := by decide +kernel
theorem d_M_trimmed_74 : decode b_M_trimmed 74 = .ok (.aload_n 0, 1) := by decide +kernel
theorem d_M_trimmed_75 : decode b_M_trimmed 75 = .ok (.getfield 54, 3) := by decide +kernel
theorem d_M_trimmed_78 : decode b_M_trimmed 78 = .ok (.iconst 1, 1) := by decide +kernel
theorem d_M_trimmed_79 : decode b_M_trimmed 79 = .ok (.isub, 1) := by decide +kernel
theorem d_M_trimmed_80 : decode b_M_trimmed 80 = .ok (.iaload, 1) := by decide +kernel
theorem d_M_trimmed_81 : decode b_M_trimmed 81 = .ok (.iconst 1, 1) := by decide +kernel
theorem d_M_trimmed_82 : decode b_M_trimmed 82 = .ok (.if_icmp .ne 7, 3) := by decide +kernel
theorem d_M_trimmed_85 : decode b_M_trimmed 85 = .ok (.iconst 1, 1) := by decide +kernel
theorem d_M_trimmed_86 : decode b_M_trimmed 86 = .ok (.goto 4, 3) := by decide +kernel
theorem d_M_trimmed_89 : decode b_M_trimmed 89 = .ok (.iconst 0, 1) := by decide +kernel
theorem d_M_trimmed_90 : decode b_M_trimmed 90 = .ok (.istore_n 2, 1) := by decide +kernel
theorem d_M_trimmed_91 : decode b_M_trimmed 91 = .ok (.aload_n 0, 1) := by decide +kernel
theorem d_M_trimmed_92 : decode b_M_trimmed 92 = .ok (.getfield 54, 3) := by decide +kernel
theorem d_M_trimmed_95 : decode b_M_trimmed 95 = .ok (.iconst 1, 1) := by decide +kernel
theorem d_M_trimmed_96 : decode b_M_trimmed 96 = .ok (.isub, 1) := by decide +kernel
theorem d_M_trimmed_97 : decode b_M_trimmed 97 = .ok (.istore_n 3, 1) := by decide +kernel
theorem d_M_trimmed_98 : decode b_M_trimmed 98 = .ok (.iload_n 1, 1) := by decide +kernel
theorem d_M_trimmed_99 : decode b_M_trimmed 99 = .ok (.ifCond .ne 30, 3) := by decide +kernel
theorem d_M_trimmed_102 : decode b_M_trimmed 102 = .ok (.iload_n 3, 1) := by decide +kernel
theorem d_M_trimmed_103 : decode b_M_trimmed 103 = .ok (.ifCond .lt 26, 3) := by decide +kernel
theorem d_M_trimmed_106 : decode b_M_trimmed 106 = .ok (.aload_n 0, 1) := by decide +kernel
theorem d_M_trimmed_107 : decode b_M_trimmed 107 = .ok (.getfield 26, 3) := by decide +kernel
theorem d_M_trimmed_110 : decode b_M_trimmed 110 = .ok (.iload_n 3, 1) := by decide +kernel
theorem d_M_trimmed_111 : decode b_M_trimmed 111 = .ok (.iaload, 1) := by decide +kernel
theorem d_M_trimmed_112 : decode b_M_trimmed 112 = .ok (.iconst 1, 1) := by decide +kernel
theorem d_M_trimmed_113 : decode b_M_trimmed 113 = .ok (.if_icmp .ne 16, 3) := by decide +kernel
theorem d_M_trimmed_116 : decode b_M_trimmed 116 = .ok (.aload_n 0, 1) := by decide +kernel
theorem d_M_trimmed_117 : decode b_M_trimmed 117 = .ok (.getfield 26, 3) := by decide +kernel
theorem d_M_trimmed_120 : decode b_M_trimmed 120 = .ok (.iload_n 3, 1) := by decide +kernel
theorem d_M_trimmed_121 : decode b_M_trimmed 121 = .ok (.iconst 2, 1) := by decide +kernel
theorem d_M_trimmed_122 : decode b_M_trimmed 122 = .ok (.iastore, 1) := by decide +kernel
theorem d_M_trimmed_123 : decode b_M_trimmed 123 = .ok (.iinc 3 (-1), 3) := by decide +kernel
theorem d_M_trimmed_126 : decode b_M_trimmed 126 = .ok (.goto (-28), 3) := by decide +kernel
theorem d_M_trimmed_129 : decode b_M_trimmed 129 = .ok (.aload_n 0, 1) := by decide +kernel
theorem d_M_trimmed_130 : decode b_M_trimmed 130 = .ok (.iload_n 1, 1) := by decide +kernel
theorem d_M_trimmed_131 : decode b_M_trimmed 131 = .ok (.ifCond .eq 11, 3) := by decide +kernel
theorem d_M_trimmed_134 : decode b_M_trimmed 134 = .ok (.iload_n 2, 1) := by decide +kernel
theorem d_M_trimmed_135 : decode b_M_trimmed 135 = .ok (.ifCond .eq 7, 3) := by decide +kernel
theorem d_M_trimmed_138 : decode b_M_trimmed 138 = .ok (.iconst 1, 1) := by decide +kernel
theorem d_M_trimmed_139 : decode b_M_trimmed 139 = .ok (.goto 4, 3) := by decide +kernel
theorem d_M_trimmed_142 : decode b_M_trimmed 142 = .ok (.iconst 0, 1) := by decide +kernel
theorem d_M_trimmed_143 : decode b_M_trimmed 143 = .ok (.putfield 69, 3) := by decide +kernel
theorem d_M_trimmed_146 : decode b_M_trimmed 146 = .ok (.return_, 1) := by decide +kernel
theorem d_M_work_0 : decode b_M_work 0 = .ok (.aload_n 0, 1) := by decide +kernel
theorem d_M_work_1 : decode b_M_work 1 = .ok (.invokevirtual 91, 3) := by decide +kernel
theorem d_M_work_4 : decode b_M_work 4 = .ok (.istore_n 1, 1) := by decide +kernel
theorem d_M_work_5 : decode b_M_work 5 = .ok (.aload_n 0, 1) := by decide +kernel
theorem d_M_work_6 : decode b_M_work 6 = .ok (.getfield 22, 3) := by decide +kernel
theorem d_M_work_9 : decode b_M_work 9 = .ok (.iconst 3, 1) := by decide +kernel
theorem d_M_work_10 : decode b_M_work 10 = .ok (.if_icmp .ge 12, 3) := by decide +kernel
theorem d_M_work_13 : decode b_M_work 13 = .ok (.iload_n 1, 1) := by decide +kernel
theorem d_M_work_14 : decode b_M_work 14 = .ok (.ifCond .ne 8, 3) := by decide +kernel
theorem d_M_work_17 : decode b_M_work 17 = .ok (.aload_n 0, 1) := by decide +kernel
theorem d_M_work_18 : decode b_M_work 18 = .ok (.iconst 1, 1) := by decide +kernel
theorem d_M_work_19 : decode b_M_work 19 = .ok (.invokevirtual 95, 3) := by decide +kernel
theorem d_M_work_22 : decode b_M_work 22 = .ok (.aload_n 0, 1) := by decide +kernel
theorem d_M_work_23 : decode b_M_work 23 = .ok (.getfield 22, 3) := by decide +kernel
theorem d_M_work_26 : decode b_M_work 26 = .ok (.ifCond .eq 11, 3) := by decide +kernel
theorem d_M_work_29 : decode b_M_work 29 = .ok (.aload_n 0, 1) := by decide +kernel
theorem d_M_work_30 : decode b_M_work 30 = .ok (.getfield 22, 3) := by decide +kernel
theorem d_M_work_33 : decode b_M_work 33 = .ok (.iconst 2, 1) := by decide +kernel
theorem d_M_work_34 : decode b_M_work 34 = .ok (.if_icmp .ne 31, 3) := by decide +kernel
theorem d_M_work_37 : decode b_M_work 37 = .ok (.aload_n 0, 1) := by decide +kernel
theorem d_M_work_38 : decode b_M_work 38 = .ok (.aload_n 0, 1) := by decide +kernel
theorem d_M_work_39 : decode b_M_work 39 = .ok (.getfield 57, 3) := by decide +kernel
theorem d_M_work_42 : decode b_M_work 42 = .ok (.aload_n 0, 1) := by decide +kernel
theorem d_M_work_43 : decode b_M_work 43 = .ok (.getfield 22, 3) := by decide +kernel
theorem d_M_work_46 : decode b_M_work 46 = .ok (.ifCond .ne 14, 3) := by decide +kernel
theorem d_M_work_49 : decode b_M_work 49 = .ok (.iload_n 1, 1) := by decide +kernel
theorem d_M_work_50 : decode b_M_work 50 = .ok (.ifCond .ne 10, 3) := by decide +kernel
theorem d_M_work_53 : decode b_M_work 53 = .ok (.aload_n 0, 1) := by decide +kernel
theorem d_M_work_54 : decode b_M_work 54 = .ok (.getfield 63, 3) := by decide +kernel
theorem d_M_work_57 : decode b_M_work 57 = .ok (.goto 4, 3) := by decide +kernel
theorem d_M_work_60 : decode b_M_work 60 = .ok (.iconst 0, 1) := by decide +kernel
theorem d_M_work_61 : decode b_M_work 61 = .ok (.iadd, 1) := by decide +kernel
theorem d_M_work_62 : decode b_M_work 62 = .ok (.putfield 60, 3) := by decide +kernel
theorem d_M_work_65 : decode b_M_work 65 = .ok (.aload_n 0, 1) := by decide +kernel
theorem d_M_work_66 : decode b_M_work 66 = .ok (.getfield 22, 3) := by decide +kernel
theorem d_M_work_69 : decode b_M_work 69 = .ok (.iconst 1, 1) := by decide +kernel
theorem d_M_work_70 : decode b_M_work 70 = .ok (.if_icmp .ne 24, 3) := by decide +kernel
theorem d_M_work_73 : decode b_M_work 73 = .ok (.aload_n 0, 1) := by decide +kernel
theorem d_M_work_74 : decode b_M_work 74 = .ok (.aload_n 0, 1) := by decide +kernel
theorem d_M_work_75 : decode b_M_work 75 = .ok (.getfield 54, 3) := by decide +kernel
theorem d_M_work_78 : decode b_M_work 78 = .ok (.iload_n 1, 1) := by decide +kernel
theorem d_M_work_79 : decode b_M_work 79 = .ok (.ifCond .eq 7, 3) := by decide +kernel
theorem d_M_work_82 : decode b_M_work 82 = .ok (.iconst 0, 1) := by decide +kernel
theorem d_M_work_83 : decode b_M_work 83 = .ok (.goto 7, 3) := by decide +kernel
theorem d_M_work_86 : decode b_M_work 86 = .ok (.aload_n 0, 1) := by decide +kernel
theorem d_M_work_87 : decode b_M_work 87 = .ok (.getfield 63, 3) := by decide +kernel
theorem d_M_work_90 : decode b_M_work 90 = .ok (.isub, 1) := by decide +kernel
theorem d_M_work_91 : decode b_M_work 91 = .ok (.putfield 60, 3) := by decide +kernel
theorem d_M_work_94 : decode b_M_work 94 = .ok (.aload_n 0, 1) := by decide +kernel
theorem d_M_work_95 : decode b_M_work 95 = .ok (.getfield 22, 3) := by decide +kernel
theorem d_M_work_98 : decode b_M_work 98 = .ok (.iconst 2, 1) := by decide +kernel
theorem d_M_work_99 : decode b_M_work 99 = .ok (.if_icmp .ge 36, 3) := by decide +kernel
theorem d_M_work_102 : decode b_M_work 102 = .ok (.aload_n 0, 1) := by decide +kernel
theorem d_M_work_103 : decode b_M_work 103 = .ok (.iload_n 1, 1) := by decide +kernel
theorem d_M_work_104 : decode b_M_work 104 = .ok (.ifCond .eq 8, 3) := by decide +kernel
theorem d_M_work_107 : decode b_M_work 107 = .ok (.bipush 8, 2) := by decide +kernel
theorem d_M_work_109 : decode b_M_work 109 = .ok (.goto 23, 3) := by decide +kernel
theorem d_M_work_112 : decode b_M_work 112 = .ok (.aload_n 0, 1) := by decide +kernel
theorem d_M_work_113 : decode b_M_work 113 = .ok (.getfield 63, 3) := by decide +kernel
theorem d_M_work_116 : decode b_M_work 116 = .ok (.bipush 32, 2) := by decide +kernel
theorem d_M_work_118 : decode b_M_work 118 = .ok (.if_icmp .ne 8, 3) := by decide +kernel
theorem d_M_work_121 : decode b_M_work 121 = .ok (.bipush 32, 2) := by decide +kernel
theorem d_M_work_123 : decode b_M_work 123 = .ok (.goto 9, 3) := by decide +kernel
theorem d_M_work_126 : decode b_M_work 126 = .ok (.iconst 2, 1) := by decide +kernel
theorem d_M_work_127 : decode b_M_work 127 = .ok (.aload_n 0, 1) := by decide +kernel
theorem d_M_work_128 : decode b_M_work 128 = .ok (.getfield 63, 3) := by decide +kernel
theorem d_M_work_131 : decode b_M_work 131 = .ok (.imul, 1) := by decide +kernel
theorem d_M_work_132 : decode b_M_work 132 = .ok (.putfield 63, 3) := by decide +kernel
theorem d_M_work_135 : decode b_M_work 135 = .ok (.aload_n 0, 1) := by decide +kernel
theorem d_M_work_136 : decode b_M_work 136 = .ok (.getfield 22, 3) := by decide +kernel
theorem d_M_work_139 : decode b_M_work 139 = .ok (.iconst 3, 1) := by decide +kernel
theorem d_M_work_140 : decode b_M_work 140 = .ok (.if_icmp .ne 8, 3) := by decide +kernel
theorem d_M_work_143 : decode b_M_work 143 = .ok (.aload_n 0, 1) := by decide +kernel
theorem d_M_work_144 : decode b_M_work 144 = .ok (.iload_n 1, 1) := by decide +kernel
theorem d_M_work_145 : decode b_M_work 145 = .ok (.invokevirtual 98, 3) := by decide +kernel
theorem d_M_work_148 : decode b_M_work 148 = .ok (.aload_n 0, 1) := by decide +kernel
theorem d_M_work_149 : decode b_M_work 149 = .ok (.getfield 22, 3) := by decide +kernel
theorem d_M_work_152 : decode b_M_work 152 = .ok (.iconst 4, 1) := by decide +kernel
theorem d_M_work_153 : decode b_M_work 153 = .ok (.if_icmp .ne 12, 3) := by decide +kernel
theorem d_M_work_156 : decode b_M_work 156 = .ok (.iload_n 1, 1) := by decide +kernel
theorem d_M_work_157 : decode b_M_work 157 = .ok (.ifCond .ne 8, 3) := by decide +kernel
theorem d_M_work_160 : decode b_M_work 160 = .ok (.aload_n 0, 1) := by decide +kernel
theorem d_M_work_161 : decode b_M_work 161 = .ok (.iconst 3, 1) := by decide +kernel
theorem d_M_work_162 : decode b_M_work 162 = .ok (.invokevirtual 95, 3) := by decide +kernel
theorem d_M_work_165 : decode b_M_work 165 = .ok (.aload_n 0, 1) := by decide +kernel
theorem d_M_work_166 : decode b_M_work 166 = .ok (.getfield 22, 3) := by decide +kernel
theorem d_M_work_169 : decode b_M_work 169 = .ok (.iconst 5, 1) := by decide +kernel
theorem d_M_work_170 : decode b_M_work 170 = .ok (.if_icmp .ne 27, 3) := by decide +kernel
theorem d_M_work_173 : decode b_M_work 173 = .ok (.aload_n 0, 1) := by decide +kernel
theorem d_M_work_174 : decode b_M_work 174 = .ok (.aload_n 0, 1) := by decide +kernel
theorem d_M_work_175 : decode b_M_work 175 = .ok (.getfield 66, 3) := by decide +kernel
theorem d_M_work_178 : decode b_M_work 178 = .ok (.iconst 2, 1) := by decide +kernel
theorem d_M_work_179 : decode b_M_work 179 = .ok (.irem, 1) := by decide +kernel
theorem d_M_work_180 : decode b_M_work 180 = .ok (.ifCond .ne 10, 3) := by decide +kernel
theorem d_M_work_183 : decode b_M_work 183 = .ok (.aload_n 0, 1) := by decide +kernel
theorem d_M_work_184 : decode b_M_work 184 = .ok (.getfield 57, 3) := by decide +kernel
theorem d_M_work_187 : decode b_M_work 187 = .ok (.goto 7, 3) := by decide +kernel
theorem d_M_work_190 : decode b_M_work 190 = .ok (.aload_n 0, 1) := by decide +kernel
theorem d_M_work_191 : decode b_M_work 191 = .ok (.getfield 54, 3) := by decide +kernel
theorem d_M_work_194 : decode b_M_work 194 = .ok (.putfield 60, 3) := by decide +kernel
theorem d_M_work_197 : decode b_M_work 197 = .ok (.return_, 1) := by decide +kernel
theorem d_M_one_0 : decode b_M_one 0 = .ok (.aload_n 0, 1) := by decide +kernel
theorem d_M_one_1 : decode b_M_one 1 = .ok (.getfield 22, 3) := by decide +kernel
theorem d_M_one_4 : decode b_M_one 4 = .ok (.bipush 6, 2) := by decide +kernel
theorem d_M_one_6 : decode b_M_one 6 = .ok (.if_icmp .eq 23, 3) := by decide +kernel
theorem d_M_one_9 : decode b_M_one 9 = .ok (.aload_n 0, 1) := by decide +kernel
theorem d_M_one_10 : decode b_M_one 10 = .ok (.invokevirtual 102, 3) := by decide +kernel
theorem d_M_one_13 : decode b_M_one 13 = .ok (.ifCond .ne 16, 3) := by decide +kernel
theorem d_M_one_16 : decode b_M_one 16 = .ok (.aload_n 0, 1) := by decide +kernel
theorem d_M_one_17 : decode b_M_one 17 = .ok (.aload_n 0, 1) := by decide +kernel
theorem d_M_one_18 : decode b_M_one 18 = .ok (.getfield 22, 3) := by decide +kernel
theorem d_M_one_21 : decode b_M_one 21 = .ok (.iconst 1, 1) := by decide +kernel
theorem d_M_one_22 : decode b_M_one 22 = .ok (.iadd, 1) := by decide +kernel
theorem d_M_one_23 : decode b_M_one 23 = .ok (.invokevirtual 76, 3) := by decide +kernel
theorem d_M_one_26 : decode b_M_one 26 = .ok (.goto (-26), 3) := by decide +kernel
theorem d_M_one_29 : decode b_M_one 29 = .ok (.aload_n 0, 1) := by decide +kernel
theorem d_M_one_30 : decode b_M_one 30 = .ok (.getfield 22, 3) := by decide +kernel
theorem d_M_one_33 : decode b_M_one 33 = .ok (.istore_n 1, 1) := by decide +kernel
theorem d_M_one_34 : decode b_M_one 34 = .ok (.iload_n 1, 1) := by decide +kernel
theorem d_M_one_35 : decode b_M_one 35 = .ok (.bipush 6, 2) := by decide +kernel
theorem d_M_one_37 : decode b_M_one 37 = .ok (.if_icmp .eq 7, 3) := by decide +kernel
theorem d_M_one_40 : decode b_M_one 40 = .ok (.aload_n 0, 1) := by decide +kernel
theorem d_M_one_41 : decode b_M_one 41 = .ok (.invokevirtual 105, 3) := by decide +kernel
theorem d_M_one_44 : decode b_M_one 44 = .ok (.iload_n 1, 1) := by decide +kernel
theorem d_M_one_45 : decode b_M_one 45 = .ok (.ireturn, 1) := by decide +kernel
theorem d_M_step_0 : decode b_M_step 0 = .ok (.aload_n 0, 1) := by decide +kernel
theorem d_M_step_1 : decode b_M_step 1 = .ok (.aload_n 0, 1) := by decide +kernel
theorem d_M_step_2 : decode b_M_step 2 = .ok (.invokevirtual 108, 3) := by decide +kernel
theorem d_M_step_5 : decode b_M_step 5 = .ok (.ifCond .eq 7, 3) := by decide +kernel
theorem d_M_step_8 : decode b_M_step 8 = .ok (.iconst 0, 1) := by decide +kernel
theorem d_M_step_9 : decode b_M_step 9 = .ok (.goto 4, 3) := by decide +kernel
theorem d_M_step_12 : decode b_M_step 12 = .ok (.iconst 1, 1) := by decide +kernel
theorem d_M_step_13 : decode b_M_step 13 = .ok (.putfield 35, 3) := by decide +kernel
theorem d_M_step_16 : decode b_M_step 16 = .ok (.aload_n 0, 1) := by decide +kernel
theorem d_M_step_17 : decode b_M_step 17 = .ok (.getfield 35, 3) := by decide +kernel
theorem d_M_step_20 : decode b_M_step 20 = .ok (.ifCond .ne 10, 3) := by decide +kernel
theorem d_M_step_23 : decode b_M_step 23 = .ok (.aload_n 0, 1) := by decide +kernel
theorem d_M_step_24 : decode b_M_step 24 = .ok (.invokevirtual 111, 3) := by decide +kernel
theorem d_M_step_27 : decode b_M_step 27 = .ok (.goto 4, 3) := by decide +kernel
theorem d_M_step_30 : decode b_M_step 30 = .ok (.iconst 0, 1) := by decide +kernel
theorem d_M_step_31 : decode b_M_step 31 = .ok (.ireturn, 1) := by decide +kernel
theorem d_M_run_0 : decode b_M_run 0 = .ok (.aload_n 0, 1) := by decide +kernel
theorem d_M_run_1 : decode b_M_run 1 = .ok (.iload_n 1, 1) := by decide +kernel
theorem d_M_run_2 : decode b_M_run 2 = .ok (.ifCond .lt 10, 3) := by decide +kernel
theorem d_M_run_5 : decode b_M_run 5 = .ok (.iload_n 1, 1) := by decide +kernel
theorem d_M_run_6 : decode b_M_run 6 = .ok (.sipush 300, 3) := by decide +kernel
theorem d_M_run_9 : decode b_M_run 9 = .ok (.if_icmp .le 7, 3) := by decide +kernel
theorem d_M_run_12 : decode b_M_run 12 = .ok (.iconst 1, 1) := by decide +kernel
theorem d_M_run_13 : decode b_M_run 13 = .ok (.goto 15, 3) := by decide +kernel
theorem d_M_run_16 : decode b_M_run 16 = .ok (.aload_n 0, 1) := by decide +kernel
theorem d_M_run_17 : decode b_M_run 17 = .ok (.invokevirtual 108, 3) := by decide +kernel
theorem d_M_run_20 : decode b_M_run 20 = .ok (.ifCond .ne 7, 3) := by decide +kernel
theorem d_M_run_23 : decode b_M_run 23 = .ok (.iconst 2, 1) := by decide +kernel
theorem d_M_run_24 : decode b_M_run 24 = .ok (.goto 4, 3) := by decide +kernel
theorem d_M_run_27 : decode b_M_run 27 = .ok (.iconst 0, 1) := by decide +kernel
theorem d_M_run_28 : decode b_M_run 28 = .ok (.putfield 35, 3) := by decide +kernel
theorem d_M_run_31 : decode b_M_run 31 = .ok (.aload_n 0, 1) := by decide +kernel
theorem d_M_run_32 : decode b_M_run 32 = .ok (.getfield 35, 3) := by decide +kernel
theorem d_M_run_35 : decode b_M_run 35 = .ok (.ifCond .eq 5, 3) := by decide +kernel
theorem d_M_run_38 : decode b_M_run 38 = .ok (.iconst 0, 1) := by decide +kernel
theorem d_M_run_39 : decode b_M_run 39 = .ok (.ireturn, 1) := by decide +kernel
theorem d_M_run_40 : decode b_M_run 40 = .ok (.iconst 0, 1) := by decide +kernel
theorem d_M_run_41 : decode b_M_run 41 = .ok (.istore_n 2, 1) := by decide +kernel
theorem d_M_run_42 : decode b_M_run 42 = .ok (.iload_n 2, 1) := by decide +kernel
theorem d_M_run_43 : decode b_M_run 43 = .ok (.iload_n 1, 1) := by decide +kernel
theorem d_M_run_44 : decode b_M_run 44 = .ok (.if_icmp .ge 18, 3) := by decide +kernel
theorem d_M_run_47 : decode b_M_run 47 = .ok (.aload_n 0, 1) := by decide +kernel
theorem d_M_run_48 : decode b_M_run 48 = .ok (.invokevirtual 111, 3) := by decide +kernel
theorem d_M_run_51 : decode b_M_run 51 = .ok (.bipush 6, 2) := by decide +kernel
theorem d_M_run_53 : decode b_M_run 53 = .ok (.if_icmp .eq 9, 3) := by decide +kernel
theorem d_M_run_56 : decode b_M_run 56 = .ok (.iinc 2 1, 3) := by decide +kernel
theorem d_M_run_59 : decode b_M_run 59 = .ok (.goto (-17), 3) := by decide +kernel
theorem d_M_run_62 : decode b_M_run 62 = .ok (.iload_n 2, 1) := by decide +kernel
theorem d_M_run_63 : decode b_M_run 63 = .ok (.ireturn, 1) := by decide +kernel
theorem d_M_put_0 : decode b_M_put 0 = .ok (.aload_n 0, 1) := by decide +kernel
theorem d_M_put_1 : decode b_M_put 1 = .ok (.getfield 32, 3) := by decide +kernel
theorem d_M_put_4 : decode b_M_put 4 = .ok (.aload_n 0, 1) := by decide +kernel
theorem d_M_put_5 : decode b_M_put 5 = .ok (.getfield 114, 3) := by decide +kernel
theorem d_M_put_8 : decode b_M_put 8 = .ok (.iload_n 1, 1) := by decide +kernel
theorem d_M_put_9 : decode b_M_put 9 = .ok (.iastore, 1) := by decide +kernel
theorem d_M_put_10 : decode b_M_put 10 = .ok (.aload_n 0, 1) := by decide +kernel
theorem d_M_put_11 : decode b_M_put 11 = .ok (.dup, 1) := by decide +kernel
theorem d_M_put_12 : decode b_M_put 12 = .ok (.getfield 114, 3) := by decide +kernel
theorem d_M_put_15 : decode b_M_put 15 = .ok (.iconst 1, 1) := by decide +kernel
theorem d_M_put_16 : decode b_M_put 16 = .ok (.iadd, 1) := by decide +kernel
theorem d_M_put_17 : decode b_M_put 17 = .ok (.putfield 114, 3) := by decide +kernel
theorem d_M_put_20 : decode b_M_put 20 = .ok (.return_, 1) := by decide +kernel
theorem d_M_endOf_0 : decode b_M_endOf 0 = .ok (.iload_n 1, 1) := by decide +kernel
theorem d_M_endOf_1 : decode b_M_endOf 1 = .ok (.iconst 1, 1) := by decide +kernel
theorem d_M_endOf_2 : decode b_M_endOf 2 = .ok (.iadd, 1) := by decide +kernel
theorem d_M_endOf_3 : decode b_M_endOf 3 = .ok (.istore_n 2, 1) := by decide +kernel
theorem d_M_endOf_4 : decode b_M_endOf 4 = .ok (.iload_n 2, 1) := by decide +kernel
theorem d_M_endOf_5 : decode b_M_endOf 5 = .ok (.aload_n 0, 1) := by decide +kernel
theorem d_M_endOf_6 : decode b_M_endOf 6 = .ok (.getfield 38, 3) := by decide +kernel
theorem d_M_endOf_9 : decode b_M_endOf 9 = .ok (.if_icmp .ge 24, 3) := by decide +kernel
theorem d_M_endOf_12 : decode b_M_endOf 12 = .ok (.aload_n 0, 1) := by decide +kernel
theorem d_M_endOf_13 : decode b_M_endOf 13 = .ok (.getfield 26, 3) := by decide +kernel
theorem d_M_endOf_16 : decode b_M_endOf 16 = .ok (.iload_n 2, 1) := by decide +kernel
theorem d_M_endOf_17 : decode b_M_endOf 17 = .ok (.iaload, 1) := by decide +kernel
theorem d_M_endOf_18 : decode b_M_endOf 18 = .ok (.aload_n 0, 1) := by decide +kernel
theorem d_M_endOf_19 : decode b_M_endOf 19 = .ok (.getfield 26, 3) := by decide +kernel
theorem d_M_endOf_22 : decode b_M_endOf 22 = .ok (.iload_n 1, 1) := by decide +kernel
theorem d_M_endOf_23 : decode b_M_endOf 23 = .ok (.iaload, 1) := by decide +kernel
theorem d_M_endOf_24 : decode b_M_endOf 24 = .ok (.if_icmp .ne 9, 3) := by decide +kernel
theorem d_M_endOf_27 : decode b_M_endOf 27 = .ok (.iinc 2 1, 3) := by decide +kernel
theorem d_M_endOf_30 : decode b_M_endOf 30 = .ok (.goto (-26), 3) := by decide +kernel
theorem d_M_endOf_33 : decode b_M_endOf 33 = .ok (.iload_n 2, 1) := by decide +kernel
theorem d_M_endOf_34 : decode b_M_endOf 34 = .ok (.ireturn, 1) := by decide +kernel
theorem d_M_runs_0 : decode b_M_runs 0 = .ok (.iconst 0, 1) := by decide +kernel
theorem d_M_runs_1 : decode b_M_runs 1 = .ok (.istore_n 1, 1) := by decide +kernel
theorem d_M_runs_2 : decode b_M_runs 2 = .ok (.iconst 0, 1) := by decide +kernel
theorem d_M_runs_3 : decode b_M_runs 3 = .ok (.istore_n 2, 1) := by decide +kernel
theorem d_M_runs_4 : decode b_M_runs 4 = .ok (.iload_n 2, 1) := by decide +kernel
theorem d_M_runs_5 : decode b_M_runs 5 = .ok (.aload_n 0, 1) := by decide +kernel
theorem d_M_runs_6 : decode b_M_runs 6 = .ok (.getfield 38, 3) := by decide +kernel
theorem d_M_runs_9 : decode b_M_runs 9 = .ok (.if_icmp .ge 15, 3) := by decide +kernel
theorem d_M_runs_12 : decode b_M_runs 12 = .ok (.iinc 1 1, 3) := by decide +kernel
theorem d_M_runs_15 : decode b_M_runs 15 = .ok (.aload_n 0, 1) := by decide +kernel
theorem d_M_runs_16 : decode b_M_runs 16 = .ok (.iload_n 2, 1) := by decide +kernel
theorem d_M_runs_17 : decode b_M_runs 17 = .ok (.invokevirtual 117, 3) := by decide +kernel
theorem d_M_runs_20 : decode b_M_runs 20 = .ok (.istore_n 2, 1) := by decide +kernel
theorem d_M_runs_21 : decode b_M_runs 21 = .ok (.goto (-17), 3) := by decide +kernel
theorem d_M_runs_24 : decode b_M_runs 24 = .ok (.iload_n 1, 1) := by decide +kernel
theorem d_M_runs_25 : decode b_M_runs 25 = .ok (.ireturn, 1) := by decide +kernel
theorem d_M_next_0 : decode b_M_next 0 = .ok (.iload_n 0, 1) := by decide +kernel
theorem d_M_next_1 : decode b_M_next 1 = .ok (.sipush 199, 3) := by decide +kernel
theorem d_M_next_4 : decode b_M_next 4 = .ok (.if_icmp .ne 7, 3) := by decide +kernel
theorem d_M_next_7 : decode b_M_next 7 = .ok (.iconst 0, 1) := by decide +kernel
theorem d_M_next_8 : decode b_M_next 8 = .ok (.goto 6, 3) := by decide +kernel
theorem d_M_next_11 : decode b_M_next 11 = .ok (.iload_n 0, 1) := by decide +kernel
theorem d_M_next_12 : decode b_M_next 12 = .ok (.iconst 1, 1) := by decide +kernel
theorem d_M_next_13 : decode b_M_next 13 = .ok (.iadd, 1) := by decide +kernel
theorem d_M_next_14 : decode b_M_next 14 = .ok (.ireturn, 1) := by decide +kernel
theorem d_M_makeImage_0 : decode b_M_makeImage 0 = .ok (.aload_n 0, 1) := by decide +kernel
theorem d_M_makeImage_1 : decode b_M_makeImage 1 = .ok (.iconst 0, 1) := by decide +kernel
theorem d_M_makeImage_2 : decode b_M_makeImage 2 = .ok (.putfield 114, 3) := by decide +kernel
theorem d_M_makeImage_5 : decode b_M_makeImage 5 = .ok (.aload_n 0, 1) := by decide +kernel
theorem d_M_makeImage_6 : decode b_M_makeImage 6 = .ok (.iload_n 1, 1) := by decide +kernel
theorem d_M_makeImage_7 : decode b_M_makeImage 7 = .ok (.invokevirtual 121, 3) := by decide +kernel
theorem d_M_makeImage_10 : decode b_M_makeImage 10 = .ok (.aload_n 0, 1) := by decide +kernel
theorem d_M_makeImage_11 : decode b_M_makeImage 11 = .ok (.aload_n 0, 1) := by decide +kernel
theorem d_M_makeImage_12 : decode b_M_makeImage 12 = .ok (.invokevirtual 124, 3) := by decide +kernel
theorem d_M_makeImage_15 : decode b_M_makeImage 15 = .ok (.invokevirtual 121, 3) := by decide +kernel
theorem d_M_makeImage_18 : decode b_M_makeImage 18 = .ok (.iconst 0, 1) := by decide +kernel
theorem d_M_makeImage_19 : decode b_M_makeImage 19 = .ok (.istore_n 2, 1) := by decide +kernel
theorem d_M_makeImage_20 : decode b_M_makeImage 20 = .ok (.iload_n 2, 1) := by decide +kernel
theorem d_M_makeImage_21 : decode b_M_makeImage 21 = .ok (.aload_n 0, 1) := by decide +kernel
theorem d_M_makeImage_22 : decode b_M_makeImage 22 = .ok (.getfield 38, 3) := by decide +kernel
theorem d_M_makeImage_25 : decode b_M_makeImage 25 = .ok (.if_icmp .ge 33, 3) := by decide +kernel
theorem d_M_makeImage_28 : decode b_M_makeImage 28 = .ok (.aload_n 0, 1) := by decide +kernel
theorem d_M_makeImage_29 : decode b_M_makeImage 29 = .ok (.aload_n 0, 1) := by decide +kernel
theorem d_M_makeImage_30 : decode b_M_makeImage 30 = .ok (.iload_n 2, 1) := by decide +kernel
theorem d_M_makeImage_31 : decode b_M_makeImage 31 = .ok (.invokevirtual 117, 3) := by decide +kernel
theorem d_M_makeImage_34 : decode b_M_makeImage 34 = .ok (.iload_n 2, 1) := by decide +kernel
theorem d_M_makeImage_35 : decode b_M_makeImage 35 = .ok (.isub, 1) := by decide +kernel
theorem d_M_makeImage_36 : decode b_M_makeImage 36 = .ok (.invokevirtual 121, 3) := by decide +kernel
theorem d_M_makeImage_39 : decode b_M_makeImage 39 = .ok (.aload_n 0, 1) := by decide +kernel
theorem d_M_makeImage_40 : decode b_M_makeImage 40 = .ok (.aload_n 0, 1) := by decide +kernel
theorem d_M_makeImage_41 : decode b_M_makeImage 41 = .ok (.getfield 26, 3) := by decide +kernel
theorem d_M_makeImage_44 : decode b_M_makeImage 44 = .ok (.iload_n 2, 1) := by decide +kernel
theorem d_M_makeImage_45 : decode b_M_makeImage 45 = .ok (.iaload, 1) := by decide +kernel
theorem d_M_makeImage_46 : decode b_M_makeImage 46 = .ok (.invokevirtual 121, 3) := by decide +kernel
theorem d_M_makeImage_49 : decode b_M_makeImage 49 = .ok (.aload_n 0, 1) := by decide +kernel
theorem d_M_makeImage_50 : decode b_M_makeImage 50 = .ok (.iload_n 2, 1) := by decide +kernel
theorem d_M_makeImage_51 : decode b_M_makeImage 51 = .ok (.invokevirtual 117, 3) := by decide +kernel
theorem d_M_makeImage_54 : decode b_M_makeImage 54 = .ok (.istore_n 2, 1) := by decide +kernel
theorem d_M_makeImage_55 : decode b_M_makeImage 55 = .ok (.goto (-35), 3) := by decide +kernel
theorem d_M_makeImage_58 : decode b_M_makeImage 58 = .ok (.iconst 0, 1) := by decide +kernel
theorem d_M_makeImage_59 : decode b_M_makeImage 59 = .ok (.istore_n 2, 1) := by decide +kernel
theorem d_M_makeImage_60 : decode b_M_makeImage 60 = .ok (.iconst 0, 1) := by decide +kernel
theorem d_M_makeImage_61 : decode b_M_makeImage 61 = .ok (.istore_n 3, 1) := by decide +kernel
theorem d_M_makeImage_62 : decode b_M_makeImage 62 = .ok (.iload_n 3, 1) := by decide +kernel
theorem d_M_makeImage_63 : decode b_M_makeImage 63 = .ok (.aload_n 0, 1) := by decide +kernel
theorem d_M_makeImage_64 : decode b_M_makeImage 64 = .ok (.getfield 114, 3) := by decide +kernel
theorem d_M_makeImage_67 : decode b_M_makeImage 67 = .ok (.if_icmp .ge 26, 3) := by decide +kernel
theorem d_M_makeImage_70 : decode b_M_makeImage 70 = .ok (.iload_n 2, 1) := by decide +kernel
theorem d_M_makeImage_71 : decode b_M_makeImage 71 = .ok (.aload_n 0, 1) := by decide +kernel
theorem d_M_makeImage_72 : decode b_M_makeImage 72 = .ok (.getfield 32, 3) := by decide +kernel
theorem d_M_makeImage_75 : decode b_M_makeImage 75 = .ok (.iload_n 3, 1) := by decide +kernel
theorem d_M_makeImage_76 : decode b_M_makeImage 76 = .ok (.iaload, 1) := by decide +kernel
theorem d_M_makeImage_77 : decode b_M_makeImage 77 = .ok (.iload_n 3, 1) := by decide +kernel
theorem d_M_makeImage_78 : decode b_M_makeImage 78 = .ok (.iconst 1, 1) := by decide +kernel
theorem d_M_makeImage_79 : decode b_M_makeImage 79 = .ok (.iadd, 1) := by decide +kernel
theorem d_M_makeImage_80 : decode b_M_makeImage 80 = .ok (.imul, 1) := by decide +kernel
theorem d_M_makeImage_81 : decode b_M_makeImage 81 = .ok (.iadd, 1) := by decide +kernel
theorem d_M_makeImage_82 : decode b_M_makeImage 82 = .ok (.sipush 251, 3) := by decide +kernel
theorem d_M_makeImage_85 : decode b_M_makeImage 85 = .ok (.irem, 1) := by decide +kernel
theorem d_M_makeImage_86 : decode b_M_makeImage 86 = .ok (.istore_n 2, 1) := by decide +kernel
theorem d_M_makeImage_87 : decode b_M_makeImage 87 = .ok (.iinc 3 1, 3) := by decide +kernel
theorem d_M_makeImage_90 : decode b_M_makeImage 90 = .ok (.goto (-28), 3) := by decide +kernel
theorem d_M_makeImage_93 : decode b_M_makeImage 93 = .ok (.aload_n 0, 1) := by decide +kernel
theorem d_M_makeImage_94 : decode b_M_makeImage 94 = .ok (.iload_n 2, 1) := by decide +kernel
theorem d_M_makeImage_95 : decode b_M_makeImage 95 = .ok (.invokevirtual 121, 3) := by decide +kernel
theorem d_M_makeImage_98 : decode b_M_makeImage 98 = .ok (.return_, 1) := by decide +kernel
theorem d_M_write_0 : decode b_M_write 0 = .ok (.iconst 0, 1) := by decide +kernel
theorem d_M_write_1 : decode b_M_write 1 = .ok (.istore_n 2, 1) := by decide +kernel
theorem d_M_write_2 : decode b_M_write 2 = .ok (.iload_n 2, 1) := by decide +kernel
theorem d_M_write_3 : decode b_M_write 3 = .ok (.iload_n 1, 1) := by decide +kernel
theorem d_M_write_4 : decode b_M_write 4 = .ok (.if_icmp .ge 40, 3) := by decide +kernel
theorem d_M_write_7 : decode b_M_write 7 = .ok (.iload_n 2, 1) := by decide +kernel
theorem d_M_write_8 : decode b_M_write 8 = .ok (.aload_n 0, 1) := by decide +kernel
theorem d_M_write_9 : decode b_M_write 9 = .ok (.getfield 114, 3) := by decide +kernel
theorem d_M_write_12 : decode b_M_write 12 = .ok (.if_icmp .ge 32, 3) := by decide +kernel
theorem d_M_write_15 : decode b_M_write 15 = .ok (.aload_n 0, 1) := by decide +kernel
theorem d_M_write_16 : decode b_M_write 16 = .ok (.getfield 29, 3) := by decide +kernel
theorem d_M_write_19 : decode b_M_write 19 = .ok (.sipush 140, 3) := by decide +kernel
theorem d_M_write_22 : decode b_M_write 22 = .ok (.aload_n 0, 1) := by decide +kernel
theorem d_M_write_23 : decode b_M_write 23 = .ok (.getfield 47, 3) := by decide +kernel
theorem d_M_write_26 : decode b_M_write 26 = .ok (.iconst 2, 1) := by decide +kernel
theorem d_M_write_27 : decode b_M_write 27 = .ok (.irem, 1) := by decide +kernel
theorem d_M_write_28 : decode b_M_write 28 = .ok (.imul, 1) := by decide +kernel
theorem d_M_write_29 : decode b_M_write 29 = .ok (.iload_n 2, 1) := by decide +kernel
theorem d_M_write_30 : decode b_M_write 30 = .ok (.iadd, 1) := by decide +kernel
theorem d_M_write_31 : decode b_M_write 31 = .ok (.aload_n 0, 1) := by decide +kernel
theorem d_M_write_32 : decode b_M_write 32 = .ok (.getfield 32, 3) := by decide +kernel
theorem d_M_write_35 : decode b_M_write 35 = .ok (.iload_n 2, 1) := by decide +kernel
theorem d_M_write_36 : decode b_M_write 36 = .ok (.iaload, 1) := by decide +kernel
theorem d_M_write_37 : decode b_M_write 37 = .ok (.iastore, 1) := by decide +kernel
theorem d_M_write_38 : decode b_M_write 38 = .ok (.iinc 2 1, 3) := by decide +kernel
theorem d_M_write_41 : decode b_M_write 41 = .ok (.goto (-39), 3) := by decide +kernel
theorem d_M_write_44 : decode b_M_write 44 = .ok (.return_, 1) := by decide +kernel
theorem d_M_save_0 : decode b_M_save 0 = .ok (.aload_n 0, 1) := by decide +kernel
theorem d_M_save_1 : decode b_M_save 1 = .ok (.aload_n 0, 1) := by decide +kernel
theorem d_M_save_2 : decode b_M_save 2 = .ok (.invokevirtual 108, 3) := by decide +kernel
theorem d_M_save_5 : decode b_M_save 5 = .ok (.ifCond .eq 7, 3) := by decide +kernel
theorem d_M_save_8 : decode b_M_save 8 = .ok (.iconst 0, 1) := by decide +kernel
theorem d_M_save_9 : decode b_M_save 9 = .ok (.goto 4, 3) := by decide +kernel
theorem d_M_save_12 : decode b_M_save 12 = .ok (.iconst 1, 1) := by decide +kernel
theorem d_M_save_13 : decode b_M_save 13 = .ok (.putfield 35, 3) := by decide +kernel
theorem d_M_save_16 : decode b_M_save 16 = .ok (.aload_n 0, 1) := by decide +kernel
theorem d_M_save_17 : decode b_M_save 17 = .ok (.getfield 35, 3) := by decide +kernel
theorem d_M_save_20 : decode b_M_save 20 = .ok (.ifCond .eq 5, 3) := by decide +kernel
theorem d_M_save_23 : decode b_M_save 23 = .ok (.iconst 0, 1) := by decide +kernel
theorem d_M_save_24 : decode b_M_save 24 = .ok (.ireturn, 1) := by decide +kernel
theorem d_M_save_25 : decode b_M_save 25 = .ok (.aload_n 0, 1) := by decide +kernel
theorem d_M_save_26 : decode b_M_save 26 = .ok (.aload_n 0, 1) := by decide +kernel
theorem d_M_save_27 : decode b_M_save 27 = .ok (.getfield 47, 3) := by decide +kernel
theorem d_M_save_30 : decode b_M_save 30 = .ok (.invokestatic 127, 3) := by decide +kernel
theorem d_M_save_33 : decode b_M_save 33 = .ok (.putfield 47, 3) := by decide +kernel
theorem d_M_save_36 : decode b_M_save 36 = .ok (.aload_n 0, 1) := by decide +kernel
theorem d_M_save_37 : decode b_M_save 37 = .ok (.aload_n 0, 1) := by decide +kernel
theorem d_M_save_38 : decode b_M_save 38 = .ok (.getfield 47, 3) := by decide +kernel
theorem d_M_save_41 : decode b_M_save 41 = .ok (.invokevirtual 130, 3) := by decide +kernel
theorem d_M_save_44 : decode b_M_save 44 = .ok (.aload_n 0, 1) := by decide +kernel
theorem d_M_save_45 : decode b_M_save 45 = .ok (.aload_n 0, 1) := by decide +kernel
theorem d_M_save_46 : decode b_M_save 46 = .ok (.getfield 114, 3) := by decide +kernel
theorem d_M_save_49 : decode b_M_save 49 = .ok (.invokevirtual 133, 3) := by decide +kernel
theorem d_M_save_52 : decode b_M_save 52 = .ok (.aload_n 0, 1) := by decide +kernel
theorem d_M_save_53 : decode b_M_save 53 = .ok (.getfield 47, 3) := by decide +kernel
theorem d_M_save_56 : decode b_M_save 56 = .ok (.ireturn, 1) := by decide +kernel
theorem d_M_stop_0 : decode b_M_stop 0 = .ok (.aload_n 0, 1) := by decide +kernel
theorem d_M_stop_1 : decode b_M_stop 1 = .ok (.iload_n 1, 1) := by decide +kernel
theorem d_M_stop_2 : decode b_M_stop 2 = .ok (.ifCond .ge 7, 3) := by decide +kernel
theorem d_M_stop_5 : decode b_M_stop 5 = .ok (.iconst 1, 1) := by decide +kernel
theorem d_M_stop_6 : decode b_M_stop 6 = .ok (.goto 15, 3) := by decide +kernel
theorem d_M_stop_9 : decode b_M_stop 9 = .ok (.aload_n 0, 1) := by decide +kernel
theorem d_M_stop_10 : decode b_M_stop 10 = .ok (.invokevirtual 108, 3) := by decide +kernel
theorem d_M_stop_13 : decode b_M_stop 13 = .ok (.ifCond .ne 7, 3) := by decide +kernel
theorem d_M_stop_16 : decode b_M_stop 16 = .ok (.iconst 2, 1) := by decide +kernel
theorem d_M_stop_17 : decode b_M_stop 17 = .ok (.goto 4, 3) := by decide +kernel
theorem d_M_stop_20 : decode b_M_stop 20 = .ok (.iconst 0, 1) := by decide +kernel
theorem d_M_stop_21 : decode b_M_stop 21 = .ok (.putfield 35, 3) := by decide +kernel
theorem d_M_stop_24 : decode b_M_stop 24 = .ok (.aload_n 0, 1) := by decide +kernel
theorem d_M_stop_25 : decode b_M_stop 25 = .ok (.getfield 35, 3) := by decide +kernel
theorem d_M_stop_28 : decode b_M_stop 28 = .ok (.ifCond .eq 5, 3) := by decide +kernel
theorem d_M_stop_31 : decode b_M_stop 31 = .ok (.iconst 0, 1) := by decide +kernel
theorem d_M_stop_32 : decode b_M_stop 32 = .ok (.ireturn, 1) := by decide +kernel
theorem d_M_stop_33 : decode b_M_stop 33 = .ok (.aload_n 0, 1) := by decide +kernel
theorem d_M_stop_34 : decode b_M_stop 34 = .ok (.bipush 7, 2) := by decide +kernel
theorem d_M_stop_36 : decode b_M_stop 36 = .ok (.putfield 22, 3) := by decide +kernel
theorem d_M_stop_39 : decode b_M_stop 39 = .ok (.iload_n 1, 1) := by decide +kernel
theorem d_M_stop_40 : decode b_M_stop 40 = .ok (.ifCond .ne 5, 3) := by decide +kernel
theorem d_M_stop_43 : decode b_M_stop 43 = .ok (.iconst 0, 1) := by decide +kernel
theorem d_M_stop_44 : decode b_M_stop 44 = .ok (.ireturn, 1) := by decide +kernel
theorem d_M_stop_45 : decode b_M_stop 45 = .ok (.aload_n 0, 1) := by decide +kernel
theorem d_M_stop_46 : decode b_M_stop 46 = .ok (.aload_n 0, 1) := by decide +kernel
theorem d_M_stop_47 : decode b_M_stop 47 = .ok (.getfield 47, 3) := by decide +kernel
theorem d_M_stop_50 : decode b_M_stop 50 = .ok (.invokestatic 127, 3) := by decide +kernel
theorem d_M_stop_53 : decode b_M_stop 53 = .ok (.putfield 47, 3) := by decide +kernel
theorem d_M_stop_56 : decode b_M_stop 56 = .ok (.aload_n 0, 1) := by decide +kernel
theorem d_M_stop_57 : decode b_M_stop 57 = .ok (.aload_n 0, 1) := by decide +kernel
theorem d_M_stop_58 : decode b_M_stop 58 = .ok (.getfield 47, 3) := by decide +kernel
theorem d_M_stop_61 : decode b_M_stop 61 = .ok (.invokevirtual 130, 3) := by decide +kernel
theorem d_M_stop_64 : decode b_M_stop 64 = .ok (.aload_n 0, 1) := by decide +kernel
theorem d_M_stop_65 : decode b_M_stop 65 = .ok (.iload_n 1, 1) := by decide +kernel
theorem d_M_stop_66 : decode b_M_stop 66 = .ok (.invokevirtual 133, 3) := by decide +kernel
theorem d_M_stop_69 : decode b_M_stop 69 = .ok (.aload_n 0, 1) := by decide +kernel
theorem d_M_stop_70 : decode b_M_stop 70 = .ok (.getfield 47, 3) := by decide +kernel
theorem d_M_stop_73 : decode b_M_stop 73 = .ok (.ireturn, 1) := by decide +kernel
theorem d_M_at_0 : decode b_M_at 0 = .ok (.aload_n 0, 1) := by decide +kernel
theorem d_M_at_1 : decode b_M_at 1 = .ok (.getfield 29, 3) := by decide +kernel
theorem d_M_at_4 : decode b_M_at 4 = .ok (.sipush 140, 3) := by decide +kernel
theorem d_M_at_7 : decode b_M_at 7 = .ok (.iload_n 1, 1) := by decide +kernel
theorem d_M_at_8 : decode b_M_at 8 = .ok (.imul, 1) := by decide +kernel
theorem d_M_at_9 : decode b_M_at 9 = .ok (.iload_n 2, 1) := by decide +kernel
theorem d_M_at_10 : decode b_M_at 10 = .ok (.iadd, 1) := by decide +kernel
theorem d_M_at_11 : decode b_M_at 11 = .ok (.iaload, 1) := by decide +kernel
theorem d_M_at_12 : decode b_M_at 12 = .ok (.ireturn, 1) := by decide +kernel
theorem d_M_isWhole_0 : decode b_M_isWhole 0 = .ok (.aload_n 0, 1) := by decide +kernel
theorem d_M_isWhole_1 : decode b_M_isWhole 1 = .ok (.iload_n 1, 1) := by decide +kernel
theorem d_M_isWhole_2 : decode b_M_isWhole 2 = .ok (.iconst 1, 1) := by decide +kernel
theorem d_M_isWhole_3 : decode b_M_isWhole 3 = .ok (.invokevirtual 136, 3) := by decide +kernel
theorem d_M_isWhole_6 : decode b_M_isWhole 6 = .ok (.istore_n 2, 1) := by decide +kernel
theorem d_M_isWhole_7 : decode b_M_isWhole 7 = .ok (.aload_n 0, 1) := by decide +kernel
theorem d_M_isWhole_8 : decode b_M_isWhole 8 = .ok (.iload_n 1, 1) := by decide +kernel
theorem d_M_isWhole_9 : decode b_M_isWhole 9 = .ok (.iconst 0, 1) := by decide +kernel
theorem d_M_isWhole_10 : decode b_M_isWhole 10 = .ok (.invokevirtual 136, 3) := by decide +kernel
theorem d_M_isWhole_13 : decode b_M_isWhole 13 = .ok (.sipush 199, 3) := by decide +kernel
theorem d_M_isWhole_16 : decode b_M_isWhole 16 = .ok (.if_icmp .gt 16, 3) := by decide +kernel
theorem d_M_isWhole_19 : decode b_M_isWhole 19 = .ok (.iload_n 2, 1) := by decide +kernel
theorem d_M_isWhole_20 : decode b_M_isWhole 20 = .ok (.iconst 1, 1) := by decide +kernel
theorem d_M_isWhole_21 : decode b_M_isWhole 21 = .ok (.if_icmp .lt 11, 3) := by decide +kernel
theorem d_M_isWhole_24 : decode b_M_isWhole 24 = .ok (.iload_n 2, 1) := by decide +kernel
theorem d_M_isWhole_25 : decode b_M_isWhole 25 = .ok (.aload_n 0, 1) := by decide +kernel
theorem d_M_isWhole_26 : decode b_M_isWhole 26 = .ok (.getfield 38, 3) := by decide +kernel
theorem d_M_isWhole_29 : decode b_M_isWhole 29 = .ok (.if_icmp .le 5, 3) := by decide +kernel
theorem d_M_isWhole_32 : decode b_M_isWhole 32 = .ok (.iconst 0, 1) := by decide +kernel
theorem d_M_isWhole_33 : decode b_M_isWhole 33 = .ok (.ireturn, 1) := by decide +kernel
theorem d_M_isWhole_34 : decode b_M_isWhole 34 = .ok (.iconst 0, 1) := by decide +kernel
theorem d_M_isWhole_35 : decode b_M_isWhole 35 = .ok (.istore_n 3, 1) := by decide +kernel
theorem d_M_isWhole_36 : decode b_M_isWhole 36 = .ok (.iconst 1, 1) := by decide +kernel
theorem d_M_isWhole_37 : decode b_M_isWhole 37 = .ok (.istore 4, 2) := by decide +kernel
theorem d_M_isWhole_39 : decode b_M_isWhole 39 = .ok (.iconst 0, 1) := by decide +kernel
theorem d_M_isWhole_40 : decode b_M_isWhole 40 = .ok (.istore 5, 2) := by decide +kernel
theorem d_M_isWhole_42 : decode b_M_isWhole 42 = .ok (.iload 5, 2) := by decide +kernel
theorem d_M_isWhole_44 : decode b_M_isWhole 44 = .ok (.iload_n 2, 1) := by decide +kernel
theorem d_M_isWhole_45 : decode b_M_isWhole 45 = .ok (.if_icmp .ge 84, 3) := by decide +kernel
theorem d_M_isWhole_48 : decode b_M_isWhole 48 = .ok (.aload_n 0, 1) := by decide +kernel
theorem d_M_isWhole_49 : decode b_M_isWhole 49 = .ok (.iload_n 1, 1) := by decide +kernel
theorem d_M_isWhole_50 : decode b_M_isWhole 50 = .ok (.iconst 2, 1) := by decide +kernel
theorem d_M_isWhole_51 : decode b_M_isWhole 51 = .ok (.iconst 2, 1) := by decide +kernel
theorem d_M_isWhole_52 : decode b_M_isWhole 52 = .ok (.iload 5, 2) := by decide +kernel
theorem d_M_isWhole_54 : decode b_M_isWhole 54 = .ok (.imul, 1) := by decide +kernel
theorem d_M_isWhole_55 : decode b_M_isWhole 55 = .ok (.iadd, 1) := by decide +kernel
theorem d_M_isWhole_56 : decode b_M_isWhole 56 = .ok (.invokevirtual 136, 3) := by decide +kernel
theorem d_M_isWhole_59 : decode b_M_isWhole 59 = .ok (.istore 6, 2) := by decide +kernel
theorem d_M_isWhole_61 : decode b_M_isWhole 61 = .ok (.aload_n 0, 1) := by decide +kernel
theorem d_M_isWhole_62 : decode b_M_isWhole 62 = .ok (.iload_n 1, 1) := by decide +kernel
theorem d_M_isWhole_63 : decode b_M_isWhole 63 = .ok (.iconst 3, 1) := by decide +kernel
theorem d_M_isWhole_64 : decode b_M_isWhole 64 = .ok (.iconst 2, 1) := by decide +kernel
theorem d_M_isWhole_65 : decode b_M_isWhole 65 = .ok (.iload 5, 2) := by decide +kernel
theorem d_M_isWhole_67 : decode b_M_isWhole 67 = .ok (.imul, 1) := by decide +kernel
theorem d_M_isWhole_68 : decode b_M_isWhole 68 = .ok (.iadd, 1) := by decide +kernel
theorem d_M_isWhole_69 : decode b_M_isWhole 69 = .ok (.invokevirtual 136, 3) := by decide +kernel
theorem d_M_isWhole_72 : decode b_M_isWhole 72 = .ok (.istore 7, 2) := by decide +kernel
theorem d_M_isWhole_74 : decode b_M_isWhole 74 = .ok (.iload 4, 2) := by decide +kernel
theorem d_M_isWhole_76 : decode b_M_isWhole 76 = .ok (.ifCond .eq 39, 3) := by decide +kernel
theorem d_M_isWhole_79 : decode b_M_isWhole 79 = .ok (.iload 6, 2) := by decide +kernel
theorem d_M_isWhole_81 : decode b_M_isWhole 81 = .ok (.ifCond .le 34, 3) := by decide +kernel
theorem d_M_isWhole_84 : decode b_M_isWhole 84 = .ok (.iload 7, 2) := by decide +kernel
theorem d_M_isWhole_86 : decode b_M_isWhole 86 = .ok (.iconst 4, 1) := by decide +kernel
theorem d_M_isWhole_87 : decode b_M_isWhole 87 = .ok (.if_icmp .gt 28, 3) := by decide +kernel
theorem d_M_isWhole_90 : decode b_M_isWhole 90 = .ok (.iload 5, 2) := by decide +kernel
theorem d_M_isWhole_92 : decode b_M_isWhole 92 = .ok (.ifCond .eq 19, 3) := by decide +kernel
theorem d_M_isWhole_95 : decode b_M_isWhole 95 = .ok (.iload 7, 2) := by decide +kernel
theorem d_M_isWhole_97 : decode b_M_isWhole 97 = .ok (.aload_n 0, 1) := by decide +kernel
theorem d_M_isWhole_98 : decode b_M_isWhole 98 = .ok (.iload_n 1, 1) := by decide +kernel
theorem d_M_isWhole_99 : decode b_M_isWhole 99 = .ok (.iconst 1, 1) := by decide +kernel
theorem d_M_isWhole_100 : decode b_M_isWhole 100 = .ok (.iconst 2, 1) := by decide +kernel
theorem d_M_isWhole_101 : decode b_M_isWhole 101 = .ok (.iload 5, 2) := by decide +kernel
theorem d_M_isWhole_103 : decode b_M_isWhole 103 = .ok (.imul, 1) := by decide +kernel
theorem d_M_isWhole_104 : decode b_M_isWhole 104 = .ok (.iadd, 1) := by decide +kernel
theorem d_M_isWhole_105 : decode b_M_isWhole 105 = .ok (.invokevirtual 136, 3) := by decide +kernel
theorem d_M_isWhole_108 : decode b_M_isWhole 108 = .ok (.if_icmp .eq 7, 3) := by decide +kernel
theorem d_M_isWhole_111 : decode b_M_isWhole 111 = .ok (.iconst 1, 1) := by decide +kernel
theorem d_M_isWhole_112 : decode b_M_isWhole 112 = .ok (.goto 4, 3) := by decide +kernel
theorem d_M_isWhole_115 : decode b_M_isWhole 115 = .ok (.iconst 0, 1) := by decide +kernel
theorem d_M_isWhole_116 : decode b_M_isWhole 116 = .ok (.istore 4, 2) := by decide +kernel
theorem d_M_isWhole_118 : decode b_M_isWhole 118 = .ok (.iload_n 3, 1) := by decide +kernel
theorem d_M_isWhole_119 : decode b_M_isWhole 119 = .ok (.iload 6, 2) := by decide +kernel
theorem d_M_isWhole_121 : decode b_M_isWhole 121 = .ok (.iadd, 1) := by decide +kernel
theorem d_M_isWhole_122 : decode b_M_isWhole 122 = .ok (.istore_n 3, 1) := by decide +kernel
theorem d_M_isWhole_123 : decode b_M_isWhole 123 = .ok (.iinc 5 1, 3) := by decide +kernel
theorem d_M_isWhole_126 : decode b_M_isWhole 126 = .ok (.goto (-84), 3) := by decide +kernel
theorem d_M_isWhole_129 : decode b_M_isWhole 129 = .ok (.iconst 0, 1) := by decide +kernel
theorem d_M_isWhole_130 : decode b_M_isWhole 130 = .ok (.istore 5, 2) := by decide +kernel
theorem d_M_isWhole_132 : decode b_M_isWhole 132 = .ok (.iconst 0, 1) := by decide +kernel
theorem d_M_isWhole_133 : decode b_M_isWhole 133 = .ok (.istore 6, 2) := by decide +kernel
theorem d_M_isWhole_135 : decode b_M_isWhole 135 = .ok (.iload 6, 2) := by decide +kernel
theorem d_M_isWhole_137 : decode b_M_isWhole 137 = .ok (.iconst 2, 1) := by decide +kernel
theorem d_M_isWhole_138 : decode b_M_isWhole 138 = .ok (.iconst 2, 1) := by decide +kernel
theorem d_M_isWhole_139 : decode b_M_isWhole 139 = .ok (.iload_n 2, 1) := by decide +kernel
theorem d_M_isWhole_140 : decode b_M_isWhole 140 = .ok (.imul, 1) := by decide +kernel
theorem d_M_isWhole_141 : decode b_M_isWhole 141 = .ok (.iadd, 1) := by decide +kernel
theorem d_M_isWhole_142 : decode b_M_isWhole 142 = .ok (.if_icmp .ge 30, 3) := by decide +kernel
theorem d_M_isWhole_145 : decode b_M_isWhole 145 = .ok (.iload 5, 2) := by decide +kernel
theorem d_M_isWhole_147 : decode b_M_isWhole 147 = .ok (.aload_n 0, 1) := by decide +kernel
theorem d_M_isWhole_148 : decode b_M_isWhole 148 = .ok (.iload_n 1, 1) := by decide +kernel
theorem d_M_isWhole_149 : decode b_M_isWhole 149 = .ok (.iload 6, 2) := by decide +kernel
theorem d_M_isWhole_151 : decode b_M_isWhole 151 = .ok (.invokevirtual 136, 3) := by decide +kernel
theorem d_M_isWhole_154 : decode b_M_isWhole 154 = .ok (.iload 6, 2) := by decide +kernel
theorem d_M_isWhole_156 : decode b_M_isWhole 156 = .ok (.iconst 1, 1) := by decide +kernel
theorem d_M_isWhole_157 : decode b_M_isWhole 157 = .ok (.iadd, 1) := by decide +kernel
theorem d_M_isWhole_158 : decode b_M_isWhole 158 = .ok (.imul, 1) := by decide +kernel
theorem d_M_isWhole_159 : decode b_M_isWhole 159 = .ok (.iadd, 1) := by decide +kernel
theorem d_M_isWhole_160 : decode b_M_isWhole 160 = .ok (.sipush 251, 3) := by decide +kernel
theorem d_M_isWhole_163 : decode b_M_isWhole 163 = .ok (.irem, 1) := by decide +kernel
theorem d_M_isWhole_164 : decode b_M_isWhole 164 = .ok (.istore 5, 2) := by decide +kernel
theorem d_M_isWhole_166 : decode b_M_isWhole 166 = .ok (.iinc 6 1, 3) := by decide +kernel
theorem d_M_isWhole_169 : decode b_M_isWhole 169 = .ok (.goto (-34), 3) := by decide +kernel
theorem d_M_isWhole_172 : decode b_M_isWhole 172 = .ok (.iload 4, 2) := by decide +kernel
theorem d_M_isWhole_174 : decode b_M_isWhole 174 = .ok (.ifCond .eq 30, 3) := by decide +kernel
theorem d_M_isWhole_177 : decode b_M_isWhole 177 = .ok (.iload_n 3, 1) := by decide +kernel
theorem d_M_isWhole_178 : decode b_M_isWhole 178 = .ok (.aload_n 0, 1) := by decide +kernel
theorem d_M_isWhole_179 : decode b_M_isWhole 179 = .ok (.getfield 38, 3) := by decide +kernel
theorem d_M_isWhole_182 : decode b_M_isWhole 182 = .ok (.if_icmp .ne 22, 3) := by decide +kernel
theorem d_M_isWhole_185 : decode b_M_isWhole 185 = .ok (.iload 5, 2) := by decide +kernel
theorem d_M_isWhole_187 : decode b_M_isWhole 187 = .ok (.aload_n 0, 1) := by decide +kernel
theorem d_M_isWhole_188 : decode b_M_isWhole 188 = .ok (.iload_n 1, 1) := by decide +kernel
theorem d_M_isWhole_189 : decode b_M_isWhole 189 = .ok (.iconst 2, 1) := by decide +kernel
theorem d_M_isWhole_190 : decode b_M_isWhole 190 = .ok (.iconst 2, 1) := by decide +kernel
theorem d_M_isWhole_191 : decode b_M_isWhole 191 = .ok (.iload_n 2, 1) := by decide +kernel
theorem d_M_isWhole_192 : decode b_M_isWhole 192 = .ok (.imul, 1) := by decide +kernel
theorem d_M_isWhole_193 : decode b_M_isWhole 193 = .ok (.iadd, 1) := by decide +kernel
theorem d_M_isWhole_194 : decode b_M_isWhole 194 = .ok (.invokevirtual 136, 3) := by decide +kernel
theorem d_M_isWhole_197 : decode b_M_isWhole 197 = .ok (.if_icmp .ne 7, 3) := by decide +kernel
theorem d_M_isWhole_200 : decode b_M_isWhole 200 = .ok (.iconst 1, 1) := by decide +kernel
theorem d_M_isWhole_201 : decode b_M_isWhole 201 = .ok (.goto 4, 3) := by decide +kernel
theorem d_M_isWhole_204 : decode b_M_isWhole 204 = .ok (.iconst 0, 1) := by decide +kernel
theorem d_M_isWhole_205 : decode b_M_isWhole 205 = .ok (.ireturn, 1) := by decide +kernel
theorem d_M_resume_0 : decode b_M_resume 0 = .ok (.aload_n 0, 1) := by decide +kernel
theorem d_M_resume_1 : decode b_M_resume 1 = .ok (.aload_n 0, 1) := by decide +kernel
theorem d_M_resume_2 : decode b_M_resume 2 = .ok (.getfield 22, 3) := by decide +kernel
theorem d_M_resume_5 : decode b_M_resume 5 = .ok (.bipush 7, 2) := by decide +kernel
theorem d_M_resume_7 : decode b_M_resume 7 = .ok (.if_icmp .ne 7, 3) := by decide +kernel
theorem d_M_resume_10 : decode b_M_resume 10 = .ok (.iconst 0, 1) := by decide +kernel
theorem d_M_resume_11 : decode b_M_resume 11 = .ok (.goto 4, 3) := by decide +kernel
theorem d_M_resume_14 : decode b_M_resume 14 = .ok (.iconst 1, 1) := by decide +kernel
theorem d_M_resume_15 : decode b_M_resume 15 = .ok (.putfield 35, 3) := by decide +kernel
theorem d_M_resume_18 : decode b_M_resume 18 = .ok (.aload_n 0, 1) := by decide +kernel
theorem d_M_resume_19 : decode b_M_resume 19 = .ok (.getfield 35, 3) := by decide +kernel
theorem d_M_resume_22 : decode b_M_resume 22 = .ok (.ifCond .eq 5, 3) := by decide +kernel
theorem d_M_resume_25 : decode b_M_resume 25 = .ok (.iconst 0, 1) := by decide +kernel
theorem d_M_resume_26 : decode b_M_resume 26 = .ok (.ireturn, 1) := by decide +kernel
theorem d_M_resume_27 : decode b_M_resume 27 = .ok (.aload_n 0, 1) := by decide +kernel
theorem d_M_resume_28 : decode b_M_resume 28 = .ok (.iconst 0, 1) := by decide +kernel
theorem d_M_resume_29 : decode b_M_resume 29 = .ok (.invokevirtual 139, 3) := by decide +kernel
theorem d_M_resume_32 : decode b_M_resume 32 = .ok (.istore_n 1, 1) := by decide +kernel
theorem d_M_resume_33 : decode b_M_resume 33 = .ok (.aload_n 0, 1) := by decide +kernel
theorem d_M_resume_34 : decode b_M_resume 34 = .ok (.iconst 1, 1) := by decide +kernel
theorem d_M_resume_35 : decode b_M_resume 35 = .ok (.invokevirtual 139, 3) := by decide +kernel
theorem d_M_resume_38 : decode b_M_resume 38 = .ok (.istore_n 2, 1) := by decide +kernel
theorem d_M_resume_39 : decode b_M_resume 39 = .ok (.iload_n 1, 1) := by decide +kernel
theorem d_M_resume_40 : decode b_M_resume 40 = .ok (.ifCond .eq 33, 3) := by decide +kernel
theorem d_M_resume_43 : decode b_M_resume 43 = .ok (.iload_n 2, 1) := by decide +kernel
theorem d_M_resume_44 : decode b_M_resume 44 = .ok (.ifCond .eq 25, 3) := by decide +kernel
theorem d_M_resume_47 : decode b_M_resume 47 = .ok (.aload_n 0, 1) := by decide +kernel
theorem d_M_resume_48 : decode b_M_resume 48 = .ok (.iconst 1, 1) := by decide +kernel
theorem d_M_resume_49 : decode b_M_resume 49 = .ok (.iconst 0, 1) := by decide +kernel
theorem d_M_resume_50 : decode b_M_resume 50 = .ok (.invokevirtual 136, 3) := by decide +kernel
theorem d_M_resume_53 : decode b_M_resume 53 = .ok (.aload_n 0, 1) := by decide +kernel
theorem d_M_resume_54 : decode b_M_resume 54 = .ok (.iconst 0, 1) := by decide +kernel
theorem d_M_resume_55 : decode b_M_resume 55 = .ok (.iconst 0, 1) := by decide +kernel
theorem d_M_resume_56 : decode b_M_resume 56 = .ok (.invokevirtual 136, 3) := by decide +kernel
theorem d_M_resume_59 : decode b_M_resume 59 = .ok (.invokestatic 127, 3) := by decide +kernel
theorem d_M_resume_62 : decode b_M_resume 62 = .ok (.if_icmp .ne 7, 3) := by decide +kernel
theorem d_M_resume_65 : decode b_M_resume 65 = .ok (.iconst 1, 1) := by decide +kernel
theorem d_M_resume_66 : decode b_M_resume 66 = .ok (.goto 16, 3) := by decide +kernel
theorem d_M_resume_69 : decode b_M_resume 69 = .ok (.iconst 0, 1) := by decide +kernel
theorem d_M_resume_70 : decode b_M_resume 70 = .ok (.goto 12, 3) := by decide +kernel
theorem d_M_resume_73 : decode b_M_resume 73 = .ok (.iload_n 2, 1) := by decide +kernel
theorem d_M_resume_74 : decode b_M_resume 74 = .ok (.ifCond .eq 7, 3) := by decide +kernel
theorem d_M_resume_77 : decode b_M_resume 77 = .ok (.iconst 1, 1) := by decide +kernel
theorem d_M_resume_78 : decode b_M_resume 78 = .ok (.goto 4, 3) := by decide +kernel
theorem d_M_resume_81 : decode b_M_resume 81 = .ok (.iconst (-1), 1) := by decide +kernel
theorem d_M_resume_82 : decode b_M_resume 82 = .ok (.istore_n 3, 1) := by decide +kernel
theorem d_M_resume_83 : decode b_M_resume 83 = .ok (.aload_n 0, 1) := by decide +kernel
theorem d_M_resume_84 : decode b_M_resume 84 = .ok (.iload_n 3, 1) := by decide +kernel
theorem d_M_resume_85 : decode b_M_resume 85 = .ok (.ifCond .ge 7, 3) := by decide +kernel
theorem d_M_resume_88 : decode b_M_resume 88 = .ok (.iconst 0, 1) := by decide +kernel
theorem d_M_resume_89 : decode b_M_resume 89 = .ok (.goto 9, 3) := by decide +kernel
theorem d_M_resume_92 : decode b_M_resume 92 = .ok (.aload_n 0, 1) := by decide +kernel
theorem d_M_resume_93 : decode b_M_resume 93 = .ok (.iload_n 3, 1) := by decide +kernel
theorem d_M_resume_94 : decode b_M_resume 94 = .ok (.iconst 0, 1) := by decide +kernel
theorem d_M_resume_95 : decode b_M_resume 95 = .ok (.invokevirtual 136, 3) := by decide +kernel
theorem d_M_resume_98 : decode b_M_resume 98 = .ok (.putfield 47, 3) := by decide +kernel
theorem d_M_resume_101 : decode b_M_resume 101 = .ok (.iconst 0, 1) := by decide +kernel
theorem d_M_resume_102 : decode b_M_resume 102 = .ok (.istore 4, 2) := by decide +kernel
theorem d_M_resume_104 : decode b_M_resume 104 = .ok (.iload 4, 2) := by decide +kernel
theorem d_M_resume_106 : decode b_M_resume 106 = .ok (.bipush 64, 2) := by decide +kernel
theorem d_M_resume_108 : decode b_M_resume 108 = .ok (.if_icmp .ge 17, 3) := by decide +kernel
theorem d_M_resume_111 : decode b_M_resume 111 = .ok (.aload_n 0, 1) := by decide +kernel
theorem d_M_resume_112 : decode b_M_resume 112 = .ok (.getfield 26, 3) := by decide +kernel
theorem d_M_resume_115 : decode b_M_resume 115 = .ok (.iload 4, 2) := by decide +kernel
theorem d_M_resume_117 : decode b_M_resume 117 = .ok (.iconst 0, 1) := by decide +kernel
theorem d_M_resume_118 : decode b_M_resume 118 = .ok (.iastore, 1) := by decide +kernel
theorem d_M_resume_119 : decode b_M_resume 119 = .ok (.iinc 4 1, 3) := by decide +kernel
theorem d_M_resume_122 : decode b_M_resume 122 = .ok (.goto (-18), 3) := by decide +kernel
theorem d_M_resume_125 : decode b_M_resume 125 = .ok (.iconst 0, 1) := by decide +kernel
theorem d_M_resume_126 : decode b_M_resume 126 = .ok (.istore 4, 2) := by decide +kernel
theorem d_M_resume_128 : decode b_M_resume 128 = .ok (.iconst 0, 1) := by decide +kernel
theorem d_M_resume_129 : decode b_M_resume 129 = .ok (.istore 5, 2) := by decide +kernel
theorem d_M_resume_131 : decode b_M_resume 131 = .ok (.iload_n 3, 1) := by decide +kernel
theorem d_M_resume_132 : decode b_M_resume 132 = .ok (.ifCond .lt 66, 3) := by decide +kernel
theorem d_M_resume_135 : decode b_M_resume 135 = .ok (.iload 5, 2) := by decide +kernel
theorem d_M_resume_137 : decode b_M_resume 137 = .ok (.aload_n 0, 1) := by decide +kernel
theorem d_M_resume_138 : decode b_M_resume 138 = .ok (.iload_n 3, 1) := by decide +kernel
theorem d_M_resume_139 : decode b_M_resume 139 = .ok (.iconst 1, 1) := by decide +kernel
theorem d_M_resume_140 : decode b_M_resume 140 = .ok (.invokevirtual 136, 3) := by decide +kernel
theorem d_M_resume_143 : decode b_M_resume 143 = .ok (.if_icmp .ge 55, 3) := by decide +kernel
theorem d_M_resume_146 : decode b_M_resume 146 = .ok (.iconst 0, 1) := by decide +kernel
theorem d_M_resume_147 : decode b_M_resume 147 = .ok (.istore 6, 2) := by decide +kernel
theorem d_M_resume_149 : decode b_M_resume 149 = .ok (.iload 6, 2) := by decide +kernel
theorem d_M_resume_151 : decode b_M_resume 151 = .ok (.aload_n 0, 1) := by decide +kernel
theorem d_M_resume_152 : decode b_M_resume 152 = .ok (.iload_n 3, 1) := by decide +kernel
theorem d_M_resume_153 : decode b_M_resume 153 = .ok (.iconst 2, 1) := by decide +kernel
theorem d_M_resume_154 : decode b_M_resume 154 = .ok (.iconst 2, 1) := by decide +kernel
theorem d_M_resume_155 : decode b_M_resume 155 = .ok (.iload 5, 2) := by decide +kernel
theorem d_M_resume_157 : decode b_M_resume 157 = .ok (.imul, 1) := by decide +kernel
theorem d_M_resume_158 : decode b_M_resume 158 = .ok (.iadd, 1) := by decide +kernel
theorem d_M_resume_159 : decode b_M_resume 159 = .ok (.invokevirtual 136, 3) := by decide +kernel
theorem d_M_resume_162 : decode b_M_resume 162 = .ok (.if_icmp .ge 30, 3) := by decide +kernel
theorem d_M_resume_165 : decode b_M_resume 165 = .ok (.aload_n 0, 1) := by decide +kernel
theorem d_M_resume_166 : decode b_M_resume 166 = .ok (.getfield 26, 3) := by decide +kernel
theorem d_M_resume_169 : decode b_M_resume 169 = .ok (.iload 4, 2) := by decide +kernel
theorem d_M_resume_171 : decode b_M_resume 171 = .ok (.aload_n 0, 1) := by decide +kernel
theorem d_M_resume_172 : decode b_M_resume 172 = .ok (.iload_n 3, 1) := by decide +kernel
theorem d_M_resume_173 : decode b_M_resume 173 = .ok (.iconst 3, 1) := by decide +kernel
theorem d_M_resume_174 : decode b_M_resume 174 = .ok (.iconst 2, 1) := by decide +kernel
theorem d_M_resume_175 : decode b_M_resume 175 = .ok (.iload 5, 2) := by decide +kernel
theorem d_M_resume_177 : decode b_M_resume 177 = .ok (.imul, 1) := by decide +kernel
theorem d_M_resume_178 : decode b_M_resume 178 = .ok (.iadd, 1) := by decide +kernel
theorem d_M_resume_179 : decode b_M_resume 179 = .ok (.invokevirtual 136, 3) := by decide +kernel
theorem d_M_resume_182 : decode b_M_resume 182 = .ok (.iastore, 1) := by decide +kernel
theorem d_M_resume_183 : decode b_M_resume 183 = .ok (.iinc 4 1, 3) := by decide +kernel
theorem d_M_resume_186 : decode b_M_resume 186 = .ok (.iinc 6 1, 3) := by decide +kernel
theorem d_M_resume_189 : decode b_M_resume 189 = .ok (.goto (-40), 3) := by decide +kernel
theorem d_M_resume_192 : decode b_M_resume 192 = .ok (.iinc 5 1, 3) := by decide +kernel
theorem d_M_resume_195 : decode b_M_resume 195 = .ok (.goto (-64), 3) := by decide +kernel
theorem d_M_resume_198 : decode b_M_resume 198 = .ok (.aload_n 0, 1) := by decide +kernel
theorem d_M_resume_199 : decode b_M_resume 199 = .ok (.iconst 0, 1) := by decide +kernel
theorem d_M_resume_200 : decode b_M_resume 200 = .ok (.invokevirtual 76, 3) := by decide +kernel
theorem d_M_resume_203 : decode b_M_resume 203 = .ok (.iload_n 3, 1) := by decide +kernel
theorem d_M_resume_204 : decode b_M_resume 204 = .ok (.ireturn, 1) := by decide +kernel
theorem d_M_poke_0 : decode b_M_poke 0 = .ok (.aload_n 0, 1) := by decide +kernel
theorem d_M_poke_1 : decode b_M_poke 1 = .ok (.iload_n 1, 1) := by decide +kernel
theorem d_M_poke_2 : decode b_M_poke 2 = .ok (.ifCond .lt 30, 3) := by decide +kernel
theorem d_M_poke_5 : decode b_M_poke 5 = .ok (.iload_n 1, 1) := by decide +kernel
theorem d_M_poke_6 : decode b_M_poke 6 = .ok (.iconst 1, 1) := by decide +kernel
theorem d_M_poke_7 : decode b_M_poke 7 = .ok (.if_icmp .gt 25, 3) := by decide +kernel
theorem d_M_poke_10 : decode b_M_poke 10 = .ok (.iload_n 2, 1) := by decide +kernel
theorem d_M_poke_11 : decode b_M_poke 11 = .ok (.ifCond .lt 21, 3) := by decide +kernel
theorem d_M_poke_14 : decode b_M_poke 14 = .ok (.iload_n 2, 1) := by decide +kernel
theorem d_M_poke_15 : decode b_M_poke 15 = .ok (.sipush 139, 3) := by decide +kernel
theorem d_M_poke_18 : decode b_M_poke 18 = .ok (.if_icmp .gt 14, 3) := by decide +kernel
theorem d_M_poke_21 : decode b_M_poke 21 = .ok (.iload_n 3, 1) := by decide +kernel
theorem d_M_poke_22 : decode b_M_poke 22 = .ok (.ifCond .lt 10, 3) := by decide +kernel
theorem d_M_poke_25 : decode b_M_poke 25 = .ok (.iload_n 3, 1) := by decide +kernel
theorem d_M_poke_26 : decode b_M_poke 26 = .ok (.sipush 255, 3) := by decide +kernel
theorem d_M_poke_29 : decode b_M_poke 29 = .ok (.if_icmp .le 7, 3) := by decide +kernel
theorem d_M_poke_32 : decode b_M_poke 32 = .ok (.iconst 1, 1) := by decide +kernel
theorem d_M_poke_33 : decode b_M_poke 33 = .ok (.goto 4, 3) := by decide +kernel
theorem d_M_poke_36 : decode b_M_poke 36 = .ok (.iconst 0, 1) := by decide +kernel
theorem d_M_poke_37 : decode b_M_poke 37 = .ok (.putfield 35, 3) := by decide +kernel
theorem d_M_poke_40 : decode b_M_poke 40 = .ok (.aload_n 0, 1) := by decide +kernel
theorem d_M_poke_41 : decode b_M_poke 41 = .ok (.getfield 35, 3) := by decide +kernel
theorem d_M_poke_44 : decode b_M_poke 44 = .ok (.ifCond .ne 16, 3) := by decide +kernel
theorem d_M_poke_47 : decode b_M_poke 47 = .ok (.aload_n 0, 1) := by decide +kernel
theorem d_M_poke_48 : decode b_M_poke 48 = .ok (.getfield 29, 3) := by decide +kernel
theorem d_M_poke_51 : decode b_M_poke 51 = .ok (.sipush 140, 3) := by decide +kernel
theorem d_M_poke_54 : decode b_M_poke 54 = .ok (.iload_n 1, 1) := by decide +kernel
theorem d_M_poke_55 : decode b_M_poke 55 = .ok (.imul, 1) := by decide +kernel
theorem d_M_poke_56 : decode b_M_poke 56 = .ok (.iload_n 2, 1) := by decide +kernel
theorem d_M_poke_57 : decode b_M_poke 57 = .ok (.iadd, 1) := by decide +kernel
theorem d_M_poke_58 : decode b_M_poke 58 = .ok (.iload_n 3, 1) := by decide +kernel
theorem d_M_poke_59 : decode b_M_poke 59 = .ok (.iastore, 1) := by decide +kernel
theorem d_M_poke_60 : decode b_M_poke 60 = .ok (.return_, 1) := by decide +kernel
theorem d_M_second_0 : decode b_M_second 0 = .ok (.aload_n 0, 1) := by decide +kernel
theorem d_M_second_1 : decode b_M_second 1 = .ok (.aload_n 0, 1) := by decide +kernel
theorem d_M_second_2 : decode b_M_second 2 = .ok (.iload_n 1, 1) := by decide +kernel
theorem d_M_second_3 : decode b_M_second 3 = .ok (.invokevirtual 50, 3) := by decide +kernel
theorem d_M_second_6 : decode b_M_second 6 = .ok (.ifCond .ne 7, 3) := by decide +kernel
theorem d_M_second_9 : decode b_M_second 9 = .ok (.iconst 1, 1) := by decide +kernel
theorem d_M_second_10 : decode b_M_second 10 = .ok (.goto 15, 3) := by decide +kernel
theorem d_M_second_13 : decode b_M_second 13 = .ok (.aload_n 0, 1) := by decide +kernel
theorem d_M_second_14 : decode b_M_second 14 = .ok (.invokevirtual 108, 3) := by decide +kernel
theorem d_M_second_17 : decode b_M_second 17 = .ok (.ifCond .ne 7, 3) := by decide +kernel
theorem d_M_second_20 : decode b_M_second 20 = .ok (.iconst 2, 1) := by decide +kernel
theorem d_M_second_21 : decode b_M_second 21 = .ok (.goto 4, 3) := by decide +kernel
theorem d_M_second_24 : decode b_M_second 24 = .ok (.iconst 0, 1) := by decide +kernel
theorem d_M_second_25 : decode b_M_second 25 = .ok (.putfield 35, 3) := by decide +kernel
theorem d_M_second_28 : decode b_M_second 28 = .ok (.aload_n 0, 1) := by decide +kernel
theorem d_M_second_29 : decode b_M_second 29 = .ok (.getfield 35, 3) := by decide +kernel
theorem d_M_second_32 : decode b_M_second 32 = .ok (.ifCond .ne 13, 3) := by decide +kernel
theorem d_M_second_35 : decode b_M_second 35 = .ok (.aload_n 0, 1) := by decide +kernel
theorem d_M_second_36 : decode b_M_second 36 = .ok (.getfield 26, 3) := by decide +kernel
theorem d_M_second_39 : decode b_M_second 39 = .ok (.iload_n 1, 1) := by decide +kernel
theorem d_M_second_40 : decode b_M_second 40 = .ok (.iaload, 1) := by decide +kernel
theorem d_M_second_41 : decode b_M_second 41 = .ok (.iconst 3, 1) := by decide +kernel
theorem d_M_second_42 : decode b_M_second 42 = .ok (.if_icmp .eq 5, 3) := by decide +kernel
theorem d_M_second_45 : decode b_M_second 45 = .ok (.iconst 0, 1) := by decide +kernel
theorem d_M_second_46 : decode b_M_second 46 = .ok (.ireturn, 1) := by decide +kernel
theorem d_M_second_47 : decode b_M_second 47 = .ok (.aload_n 0, 1) := by decide +kernel
theorem d_M_second_48 : decode b_M_second 48 = .ok (.getfield 26, 3) := by decide +kernel
theorem d_M_second_51 : decode b_M_second 51 = .ok (.iload_n 1, 1) := by decide +kernel
theorem d_M_second_52 : decode b_M_second 52 = .ok (.iconst 4, 1) := by decide +kernel
theorem d_M_second_53 : decode b_M_second 53 = .ok (.iastore, 1) := by decide +kernel
theorem d_M_second_54 : decode b_M_second 54 = .ok (.aload_n 0, 1) := by decide +kernel
theorem d_M_second_55 : decode b_M_second 55 = .ok (.getfield 19, 3) := by decide +kernel
theorem d_M_second_58 : decode b_M_second 58 = .ok (.iload_n 1, 1) := by decide +kernel
theorem d_M_second_59 : decode b_M_second 59 = .ok (.iload_n 2, 1) := by decide +kernel
theorem d_M_second_60 : decode b_M_second 60 = .ok (.iastore, 1) := by decide +kernel
theorem d_M_second_61 : decode b_M_second 61 = .ok (.iconst 1, 1) := by decide +kernel
theorem d_M_second_62 : decode b_M_second 62 = .ok (.ireturn, 1) := by decide +kernel
theorem d_M_state_0 : decode b_M_state 0 = .ok (.aload_n 0, 1) := by decide +kernel
theorem d_M_state_1 : decode b_M_state 1 = .ok (.iconst 0, 1) := by decide +kernel
theorem d_M_state_2 : decode b_M_state 2 = .ok (.putfield 35, 3) := by decide +kernel
theorem d_M_state_5 : decode b_M_state 5 = .ok (.aload_n 0, 1) := by decide +kernel
theorem d_M_state_6 : decode b_M_state 6 = .ok (.invokevirtual 108, 3) := by decide +kernel
theorem d_M_state_9 : decode b_M_state 9 = .ok (.ifCond .eq 20, 3) := by decide +kernel
theorem d_M_state_12 : decode b_M_state 12 = .ok (.aload_n 0, 1) := by decide +kernel
theorem d_M_state_13 : decode b_M_state 13 = .ok (.iload_n 1, 1) := by decide +kernel
theorem d_M_state_14 : decode b_M_state 14 = .ok (.invokevirtual 50, 3) := by decide +kernel
theorem d_M_state_17 : decode b_M_state 17 = .ok (.ifCond .eq 12, 3) := by decide +kernel
theorem d_M_state_20 : decode b_M_state 20 = .ok (.aload_n 0, 1) := by decide +kernel
theorem d_M_state_21 : decode b_M_state 21 = .ok (.getfield 26, 3) := by decide +kernel
theorem d_M_state_24 : decode b_M_state 24 = .ok (.iload_n 1, 1) := by decide +kernel
theorem d_M_state_25 : decode b_M_state 25 = .ok (.iaload, 1) := by decide +kernel
theorem d_M_state_26 : decode b_M_state 26 = .ok (.goto 4, 3) := by decide +kernel
theorem d_M_state_29 : decode b_M_state 29 = .ok (.iconst (-1), 1) := by decide +kernel
theorem d_M_state_30 : decode b_M_state 30 = .ok (.ireturn, 1) := by decide +kernel
theorem d_M_count_0 : decode b_M_count 0 = .ok (.aload_n 0, 1) := by decide +kernel
theorem d_M_count_1 : decode b_M_count 1 = .ok (.iconst 0, 1) := by decide +kernel
theorem d_M_count_2 : decode b_M_count 2 = .ok (.putfield 35, 3) := by decide +kernel
theorem d_M_count_5 : decode b_M_count 5 = .ok (.iconst 0, 1) := by decide +kernel
theorem d_M_count_6 : decode b_M_count 6 = .ok (.istore_n 2, 1) := by decide +kernel
theorem d_M_count_7 : decode b_M_count 7 = .ok (.iconst 0, 1) := by decide +kernel
theorem d_M_count_8 : decode b_M_count 8 = .ok (.istore_n 3, 1) := by decide +kernel
theorem d_M_count_9 : decode b_M_count 9 = .ok (.iload_n 3, 1) := by decide +kernel
theorem d_M_count_10 : decode b_M_count 10 = .ok (.aload_n 0, 1) := by decide +kernel
theorem d_M_count_11 : decode b_M_count 11 = .ok (.getfield 38, 3) := by decide +kernel
theorem d_M_count_14 : decode b_M_count 14 = .ok (.if_icmp .ge 34, 3) := by decide +kernel
theorem d_M_count_17 : decode b_M_count 17 = .ok (.iload_n 2, 1) := by decide +kernel
theorem d_M_count_18 : decode b_M_count 18 = .ok (.aload_n 0, 1) := by decide +kernel
theorem d_M_count_19 : decode b_M_count 19 = .ok (.invokevirtual 108, 3) := by decide +kernel
theorem d_M_count_22 : decode b_M_count 22 = .ok (.ifCond .eq 17, 3) := by decide +kernel
theorem d_M_count_25 : decode b_M_count 25 = .ok (.aload_n 0, 1) := by decide +kernel
theorem d_M_count_26 : decode b_M_count 26 = .ok (.getfield 26, 3) := by decide +kernel
theorem d_M_count_29 : decode b_M_count 29 = .ok (.iload_n 3, 1) := by decide +kernel
theorem d_M_count_30 : decode b_M_count 30 = .ok (.iaload, 1) := by decide +kernel
theorem d_M_count_31 : decode b_M_count 31 = .ok (.iload_n 1, 1) := by decide +kernel
theorem d_M_count_32 : decode b_M_count 32 = .ok (.if_icmp .ne 7, 3) := by decide +kernel
theorem d_M_count_35 : decode b_M_count 35 = .ok (.iconst 1, 1) := by decide +kernel
theorem d_M_count_36 : decode b_M_count 36 = .ok (.goto 4, 3) := by decide +kernel
theorem d_M_count_39 : decode b_M_count 39 = .ok (.iconst 0, 1) := by decide +kernel
theorem d_M_count_40 : decode b_M_count 40 = .ok (.iadd, 1) := by decide +kernel
theorem d_M_count_41 : decode b_M_count 41 = .ok (.istore_n 2, 1) := by decide +kernel
theorem d_M_count_42 : decode b_M_count 42 = .ok (.iinc 3 1, 3) := by decide +kernel
theorem d_M_count_45 : decode b_M_count 45 = .ok (.goto (-36), 3) := by decide +kernel
theorem d_M_count_48 : decode b_M_count 48 = .ok (.iload_n 2, 1) := by decide +kernel
theorem d_M_count_49 : decode b_M_count 49 = .ok (.ireturn, 1) := by decide +kernel
theorem d_M_part_0 : decode b_M_part 0 = .ok (.aload_n 0, 1) := by decide +kernel
theorem d_M_part_1 : decode b_M_part 1 = .ok (.iconst 0, 1) := by decide +kernel
theorem d_M_part_2 : decode b_M_part 2 = .ok (.putfield 35, 3) := by decide +kernel
theorem d_M_part_5 : decode b_M_part 5 = .ok (.aload_n 0, 1) := by decide +kernel
theorem d_M_part_6 : decode b_M_part 6 = .ok (.invokevirtual 108, 3) := by decide +kernel
theorem d_M_part_9 : decode b_M_part 9 = .ok (.ifCond .eq 7, 3) := by decide +kernel
theorem d_M_part_12 : decode b_M_part 12 = .ok (.iload_n 1, 1) := by decide +kernel
theorem d_M_part_13 : decode b_M_part 13 = .ok (.ifCond .ge 5, 3) := by decide +kernel
theorem d_M_part_16 : decode b_M_part 16 = .ok (.iconst (-1), 1) := by decide +kernel
theorem d_M_part_17 : decode b_M_part 17 = .ok (.ireturn, 1) := by decide +kernel
theorem d_M_part_18 : decode b_M_part 18 = .ok (.iconst 0, 1) := by decide +kernel
theorem d_M_part_19 : decode b_M_part 19 = .ok (.istore_n 3, 1) := by decide +kernel
theorem d_M_part_20 : decode b_M_part 20 = .ok (.iconst 0, 1) := by decide +kernel
theorem d_M_part_21 : decode b_M_part 21 = .ok (.istore 4, 2) := by decide +kernel
theorem d_M_part_23 : decode b_M_part 23 = .ok (.iload 4, 2) := by decide +kernel
theorem d_M_part_25 : decode b_M_part 25 = .ok (.iload_n 1, 1) := by decide +kernel
theorem d_M_part_26 : decode b_M_part 26 = .ok (.if_icmp .ge 23, 3) := by decide +kernel
theorem d_M_part_29 : decode b_M_part 29 = .ok (.iload_n 3, 1) := by decide +kernel
theorem d_M_part_30 : decode b_M_part 30 = .ok (.aload_n 0, 1) := by decide +kernel
theorem d_M_part_31 : decode b_M_part 31 = .ok (.getfield 38, 3) := by decide +kernel
theorem d_M_part_34 : decode b_M_part 34 = .ok (.if_icmp .ge 15, 3) := by decide +kernel
theorem d_M_part_37 : decode b_M_part 37 = .ok (.aload_n 0, 1) := by decide +kernel
theorem d_M_part_38 : decode b_M_part 38 = .ok (.iload_n 3, 1) := by decide +kernel
theorem d_M_part_39 : decode b_M_part 39 = .ok (.invokevirtual 117, 3) := by decide +kernel
theorem d_M_part_42 : decode b_M_part 42 = .ok (.istore_n 3, 1) := by decide +kernel
theorem d_M_part_43 : decode b_M_part 43 = .ok (.iinc 4 1, 3) := by decide +kernel
theorem d_M_part_46 : decode b_M_part 46 = .ok (.goto (-23), 3) := by decide +kernel
theorem d_M_part_49 : decode b_M_part 49 = .ok (.iload_n 3, 1) := by decide +kernel
theorem d_M_part_50 : decode b_M_part 50 = .ok (.aload_n 0, 1) := by decide +kernel
theorem d_M_part_51 : decode b_M_part 51 = .ok (.getfield 38, 3) := by decide +kernel
theorem d_M_part_54 : decode b_M_part 54 = .ok (.if_icmp .lt 5, 3) := by decide +kernel
theorem d_M_part_57 : decode b_M_part 57 = .ok (.iconst (-1), 1) := by decide +kernel
theorem d_M_part_58 : decode b_M_part 58 = .ok (.ireturn, 1) := by decide +kernel
theorem d_M_part_59 : decode b_M_part 59 = .ok (.iload_n 2, 1) := by decide +kernel
theorem d_M_part_60 : decode b_M_part 60 = .ok (.ifCond .ne 7, 3) := by decide +kernel
theorem d_M_part_63 : decode b_M_part 63 = .ok (.iload_n 3, 1) := by decide +kernel
theorem d_M_part_64 : decode b_M_part 64 = .ok (.goto 33, 3) := by decide +kernel
theorem d_M_part_67 : decode b_M_part 67 = .ok (.iload_n 2, 1) := by decide +kernel
theorem d_M_part_68 : decode b_M_part 68 = .ok (.iconst 1, 1) := by decide +kernel
theorem d_M_part_69 : decode b_M_part 69 = .ok (.if_icmp .ne 13, 3) := by decide +kernel
theorem d_M_part_72 : decode b_M_part 72 = .ok (.aload_n 0, 1) := by decide +kernel
theorem d_M_part_73 : decode b_M_part 73 = .ok (.iload_n 3, 1) := by decide +kernel
theorem d_M_part_74 : decode b_M_part 74 = .ok (.invokevirtual 117, 3) := by decide +kernel
theorem d_M_part_77 : decode b_M_part 77 = .ok (.iload_n 3, 1) := by decide +kernel
theorem d_M_part_78 : decode b_M_part 78 = .ok (.isub, 1) := by decide +kernel
theorem d_M_part_79 : decode b_M_part 79 = .ok (.goto 18, 3) := by decide +kernel
theorem d_M_part_82 : decode b_M_part 82 = .ok (.iload_n 2, 1) := by decide +kernel
theorem d_M_part_83 : decode b_M_part 83 = .ok (.iconst 2, 1) := by decide +kernel
theorem d_M_part_84 : decode b_M_part 84 = .ok (.if_icmp .ne 12, 3) := by decide +kernel
theorem d_M_part_87 : decode b_M_part 87 = .ok (.aload_n 0, 1) := by decide +kernel
theorem d_M_part_88 : decode b_M_part 88 = .ok (.getfield 26, 3) := by decide +kernel
theorem d_M_part_91 : decode b_M_part 91 = .ok (.iload_n 3, 1) := by decide +kernel
theorem d_M_part_92 : decode b_M_part 92 = .ok (.iaload, 1) := by decide +kernel
theorem d_M_part_93 : decode b_M_part 93 = .ok (.goto 4, 3) := by decide +kernel
theorem d_M_part_96 : decode b_M_part 96 = .ok (.iconst (-1), 1) := by decide +kernel
theorem d_M_part_97 : decode b_M_part 97 = .ok (.ireturn, 1) := by decide +kernel
theorem d_M_phase_0 : decode b_M_phase 0 = .ok (.aload_n 0, 1) := by decide +kernel
theorem d_M_phase_1 : decode b_M_phase 1 = .ok (.iconst 0, 1) := by decide +kernel
theorem d_M_phase_2 : decode b_M_phase 2 = .ok (.putfield 35, 3) := by decide +kernel
theorem d_M_phase_5 : decode b_M_phase 5 = .ok (.aload_n 0, 1) := by decide +kernel
theorem d_M_phase_6 : decode b_M_phase 6 = .ok (.getfield 22, 3) := by decide +kernel
theorem d_M_phase_9 : decode b_M_phase 9 = .ok (.ireturn, 1) := by decide +kernel
theorem d_M_out_0 : decode b_M_out 0 = .ok (.aload_n 0, 1) := by decide +kernel
theorem d_M_out_1 : decode b_M_out 1 = .ok (.iconst 0, 1) := by decide +kernel
theorem d_M_out_2 : decode b_M_out 2 = .ok (.putfield 35, 3) := by decide +kernel
theorem d_M_out_5 : decode b_M_out 5 = .ok (.aload_n 0, 1) := by decide +kernel
theorem d_M_out_6 : decode b_M_out 6 = .ok (.iload_n 1, 1) := by decide +kernel
theorem d_M_out_7 : decode b_M_out 7 = .ok (.invokevirtual 50, 3) := by decide +kernel
theorem d_M_out_10 : decode b_M_out 10 = .ok (.ifCond .eq 12, 3) := by decide +kernel
theorem d_M_out_13 : decode b_M_out 13 = .ok (.aload_n 0, 1) := by decide +kernel
theorem d_M_out_14 : decode b_M_out 14 = .ok (.getfield 19, 3) := by decide +kernel
theorem d_M_out_17 : decode b_M_out 17 = .ok (.iload_n 1, 1) := by decide +kernel
theorem d_M_out_18 : decode b_M_out 18 = .ok (.iaload, 1) := by decide +kernel
theorem d_M_out_19 : decode b_M_out 19 = .ok (.goto 4, 3) := by decide +kernel
theorem d_M_out_22 : decode b_M_out 22 = .ok (.iconst 0, 1) := by decide +kernel
theorem d_M_out_23 : decode b_M_out 23 = .ok (.ireturn, 1) := by decide +kernel
theorem d_M_reads_0 : decode b_M_reads 0 = .ok (.aload_n 0, 1) := by decide +kernel
theorem d_M_reads_1 : decode b_M_reads 1 = .ok (.iconst 0, 1) := by decide +kernel
theorem d_M_reads_2 : decode b_M_reads 2 = .ok (.putfield 35, 3) := by decide +kernel
theorem d_M_reads_5 : decode b_M_reads 5 = .ok (.aload_n 0, 1) := by decide +kernel
theorem d_M_reads_6 : decode b_M_reads 6 = .ok (.iload_n 1, 1) := by decide +kernel
theorem d_M_reads_7 : decode b_M_reads 7 = .ok (.invokevirtual 50, 3) := by decide +kernel
theorem d_M_reads_10 : decode b_M_reads 10 = .ok (.ifCond .eq 12, 3) := by decide +kernel
theorem d_M_reads_13 : decode b_M_reads 13 = .ok (.aload_n 0, 1) := by decide +kernel
theorem d_M_reads_14 : decode b_M_reads 14 = .ok (.getfield 16, 3) := by decide +kernel
theorem d_M_reads_17 : decode b_M_reads 17 = .ok (.iload_n 1, 1) := by decide +kernel
theorem d_M_reads_18 : decode b_M_reads 18 = .ok (.iaload, 1) := by decide +kernel
theorem d_M_reads_19 : decode b_M_reads 19 = .ok (.goto 4, 3) := by decide +kernel
theorem d_M_reads_22 : decode b_M_reads 22 = .ok (.iconst 0, 1) := by decide +kernel
theorem d_M_reads_23 : decode b_M_reads 23 = .ok (.ireturn, 1) := by decide +kernel
theorem d_M_made_0 : decode b_M_made 0 = .ok (.aload_n 0, 1) := by decide +kernel
theorem d_M_made_1 : decode b_M_made 1 = .ok (.iconst 0, 1) := by decide +kernel
theorem d_M_made_2 : decode b_M_made 2 = .ok (.putfield 35, 3) := by decide +kernel
theorem d_M_made_5 : decode b_M_made 5 = .ok (.iload_n 1, 1) := by decide +kernel
theorem d_M_made_6 : decode b_M_made 6 = .ok (.ifCond .eq 10, 3) := by decide +kernel
theorem d_M_made_9 : decode b_M_made 9 = .ok (.aload_n 0, 1) := by decide +kernel
theorem d_M_made_10 : decode b_M_made 10 = .ok (.getfield 44, 3) := by decide +kernel
theorem d_M_made_13 : decode b_M_made 13 = .ok (.goto 7, 3) := by decide +kernel
theorem d_M_made_16 : decode b_M_made 16 = .ok (.aload_n 0, 1) := by decide +kernel
theorem d_M_made_17 : decode b_M_made 17 = .ok (.getfield 41, 3) := by decide +kernel
theorem d_M_made_20 : decode b_M_made 20 = .ok (.ireturn, 1) := by decide +kernel
theorem d_M_image_0 : decode b_M_image 0 = .ok (.aload_n 0, 1) := by decide +kernel
theorem d_M_image_1 : decode b_M_image 1 = .ok (.iconst 0, 1) := by decide +kernel
theorem d_M_image_2 : decode b_M_image 2 = .ok (.putfield 35, 3) := by decide +kernel
theorem d_M_image_5 : decode b_M_image 5 = .ok (.iload_n 1, 1) := by decide +kernel
theorem d_M_image_6 : decode b_M_image 6 = .ok (.ifCond .lt 19, 3) := by decide +kernel
theorem d_M_image_9 : decode b_M_image 9 = .ok (.iload_n 1, 1) := by decide +kernel
theorem d_M_image_10 : decode b_M_image 10 = .ok (.iconst 1, 1) := by decide +kernel
theorem d_M_image_11 : decode b_M_image 11 = .ok (.if_icmp .gt 14, 3) := by decide +kernel
theorem d_M_image_14 : decode b_M_image 14 = .ok (.iload_n 2, 1) := by decide +kernel
theorem d_M_image_15 : decode b_M_image 15 = .ok (.ifCond .lt 10, 3) := by decide +kernel
theorem d_M_image_18 : decode b_M_image 18 = .ok (.iload_n 2, 1) := by decide +kernel
theorem d_M_image_19 : decode b_M_image 19 = .ok (.sipush 139, 3) := by decide +kernel
theorem d_M_image_22 : decode b_M_image 22 = .ok (.if_icmp .le 7, 3) := by decide +kernel
theorem d_M_image_25 : decode b_M_image 25 = .ok (.iconst (-1), 1) := by decide +kernel
theorem d_M_image_26 : decode b_M_image 26 = .ok (.goto 9, 3) := by decide +kernel
theorem d_M_image_29 : decode b_M_image 29 = .ok (.aload_n 0, 1) := by decide +kernel
theorem d_M_image_30 : decode b_M_image 30 = .ok (.iload_n 1, 1) := by decide +kernel
theorem d_M_image_31 : decode b_M_image 31 = .ok (.iload_n 2, 1) := by decide +kernel
theorem d_M_image_32 : decode b_M_image 32 = .ok (.invokevirtual 136, 3) := by decide +kernel
theorem d_M_image_35 : decode b_M_image 35 = .ok (.ireturn, 1) := by decide +kernel
