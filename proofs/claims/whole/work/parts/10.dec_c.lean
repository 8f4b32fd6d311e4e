theorem d_K_currentPhase_0 : decode b_K_currentPhase 0 = .ok (.aload_n 0, 1) := by decide +kernel
theorem d_K_currentPhase_1 : decode b_K_currentPhase 1 = .ok (.getfield 19, 3) := by decide +kernel
theorem d_K_currentPhase_4 : decode b_K_currentPhase 4 = .ok (.ireturn, 1) := by decide +kernel
theorem d_K_goesOn_0 : decode b_K_goesOn 0 = .ok (.aload_n 0, 1) := by decide +kernel
theorem d_K_goesOn_1 : decode b_K_goesOn 1 = .ok (.getfield 19, 3) := by decide +kernel
theorem d_K_goesOn_4 : decode b_K_goesOn 4 = .ok (.ifCond .lt 16, 3) := by decide +kernel
theorem d_K_goesOn_7 : decode b_K_goesOn 7 = .ok (.aload_n 0, 1) := by decide +kernel
theorem d_K_goesOn_8 : decode b_K_goesOn 8 = .ok (.getfield 19, 3) := by decide +kernel
theorem d_K_goesOn_11 : decode b_K_goesOn 11 = .ok (.bipush 6, 2) := by decide +kernel
theorem d_K_goesOn_13 : decode b_K_goesOn 13 = .ok (.if_icmp .gt 7, 3) := by decide +kernel
theorem d_K_goesOn_16 : decode b_K_goesOn 16 = .ok (.iconst 1, 1) := by decide +kernel
theorem d_K_goesOn_17 : decode b_K_goesOn 17 = .ok (.goto 4, 3) := by decide +kernel
theorem d_K_goesOn_20 : decode b_K_goesOn 20 = .ok (.iconst 0, 1) := by decide +kernel
theorem d_K_goesOn_21 : decode b_K_goesOn 21 = .ok (.ireturn, 1) := by decide +kernel
theorem d_K_forget_0 : decode b_K_forget 0 = .ok (.aload_n 0, 1) := by decide +kernel
theorem d_K_forget_1 : decode b_K_forget 1 = .ok (.iconst (-1), 1) := by decide +kernel
theorem d_K_forget_2 : decode b_K_forget 2 = .ok (.putfield 19, 3) := by decide +kernel
theorem d_K_forget_5 : decode b_K_forget 5 = .ok (.return_, 1) := by decide +kernel
theorem d_K_halt_0 : decode b_K_halt 0 = .ok (.aload_n 0, 1) := by decide +kernel
theorem d_K_halt_1 : decode b_K_halt 1 = .ok (.bipush 7, 2) := by decide +kernel
theorem d_K_halt_3 : decode b_K_halt 3 = .ok (.putfield 19, 3) := by decide +kernel
theorem d_K_halt_6 : decode b_K_halt 6 = .ok (.return_, 1) := by decide +kernel
theorem d_S_size_0 : decode b_S_size 0 = .ok (.aload_n 0, 1) := by decide +kernel
theorem d_S_size_1 : decode b_S_size 1 = .ok (.getfield 24, 3) := by decide +kernel
theorem d_S_size_4 : decode b_S_size 4 = .ok (.ireturn, 1) := by decide +kernel
theorem d_K_enter_0 : decode b_K_enter 0 = .ok (.aload_n 0, 1) := by decide +kernel
theorem d_K_enter_1 : decode b_K_enter 1 = .ok (.iload_n 1, 1) := by decide +kernel
theorem d_K_enter_2 : decode b_K_enter 2 = .ok (.putfield 19, 3) := by decide +kernel
theorem d_K_enter_5 : decode b_K_enter 5 = .ok (.aload_n 0, 1) := by decide +kernel
theorem d_K_enter_6 : decode b_K_enter 6 = .ok (.bipush 8, 2) := by decide +kernel
theorem d_K_enter_8 : decode b_K_enter 8 = .ok (.putfield 30, 3) := by decide +kernel
theorem d_K_enter_11 : decode b_K_enter 11 = .ok (.aload_n 0, 1) := by decide +kernel
theorem d_K_enter_12 : decode b_K_enter 12 = .ok (.iload_n 1, 1) := by decide +kernel
theorem d_K_enter_13 : decode b_K_enter 13 = .ok (.iconst 1, 1) := by decide +kernel
theorem d_K_enter_14 : decode b_K_enter 14 = .ok (.if_icmp .ne 13, 3) := by decide +kernel
theorem d_K_enter_17 : decode b_K_enter 17 = .ok (.aload_n 0, 1) := by decide +kernel
theorem d_K_enter_18 : decode b_K_enter 18 = .ok (.getfield 15, 3) := by decide +kernel
theorem d_K_enter_21 : decode b_K_enter 21 = .ok (.invokevirtual 33, 3) := by decide +kernel
theorem d_K_enter_24 : decode b_K_enter 24 = .ok (.goto 4, 3) := by decide +kernel
theorem d_K_enter_27 : decode b_K_enter 27 = .ok (.iconst 0, 1) := by decide +kernel
theorem d_K_enter_28 : decode b_K_enter 28 = .ok (.putfield 39, 3) := by decide +kernel
theorem d_K_enter_31 : decode b_K_enter 31 = .ok (.aload_n 0, 1) := by decide +kernel
theorem d_K_enter_32 : decode b_K_enter 32 = .ok (.iconst 0, 1) := by decide +kernel
theorem d_K_enter_33 : decode b_K_enter 33 = .ok (.putfield 42, 3) := by decide +kernel
theorem d_K_enter_36 : decode b_K_enter 36 = .ok (.aload_n 0, 1) := by decide +kernel
theorem d_K_enter_37 : decode b_K_enter 37 = .ok (.iconst 0, 1) := by decide +kernel
theorem d_K_enter_38 : decode b_K_enter 38 = .ok (.putfield 45, 3) := by decide +kernel
theorem d_K_enter_41 : decode b_K_enter 41 = .ok (.return_, 1) := by decide +kernel
theorem d_K_start_0 : decode b_K_start 0 = .ok (.aload_n 0, 1) := by decide +kernel
theorem d_K_start_1 : decode b_K_start 1 = .ok (.iload_n 1, 1) := by decide +kernel
theorem d_K_start_2 : decode b_K_start 2 = .ok (.putfield 23, 3) := by decide +kernel
theorem d_K_start_5 : decode b_K_start 5 = .ok (.aload_n 0, 1) := by decide +kernel
theorem d_K_start_6 : decode b_K_start 6 = .ok (.iconst 0, 1) := by decide +kernel
theorem d_K_start_7 : decode b_K_start 7 = .ok (.invokevirtual 26, 3) := by decide +kernel
theorem d_K_start_10 : decode b_K_start 10 = .ok (.return_, 1) := by decide +kernel
theorem d_S_firstFrom_0 : decode b_S_firstFrom 0 = .ok (.iconst 0, 1) := by decide +kernel
theorem d_S_firstFrom_1 : decode b_S_firstFrom 1 = .ok (.iload_n 2, 1) := by decide +kernel
theorem d_S_firstFrom_2 : decode b_S_firstFrom 2 = .ok (.invokestatic 21, 3) := by decide +kernel
theorem d_S_firstFrom_5 : decode b_S_firstFrom 5 = .ok (.istore_n 3, 1) := by decide +kernel
theorem d_S_firstFrom_6 : decode b_S_firstFrom 6 = .ok (.iload_n 3, 1) := by decide +kernel
theorem d_S_firstFrom_7 : decode b_S_firstFrom 7 = .ok (.aload_n 0, 1) := by decide +kernel
theorem d_S_firstFrom_8 : decode b_S_firstFrom 8 = .ok (.getfield 24, 3) := by decide +kernel
theorem d_S_firstFrom_11 : decode b_S_firstFrom 11 = .ok (.if_icmp .ge 21, 3) := by decide +kernel
theorem d_S_firstFrom_14 : decode b_S_firstFrom 14 = .ok (.aload_n 0, 1) := by decide +kernel
theorem d_S_firstFrom_15 : decode b_S_firstFrom 15 = .ok (.getfield 9, 3) := by decide +kernel
theorem d_S_firstFrom_18 : decode b_S_firstFrom 18 = .ok (.iload_n 3, 1) := by decide +kernel
theorem d_S_firstFrom_19 : decode b_S_firstFrom 19 = .ok (.iaload, 1) := by decide +kernel
theorem d_S_firstFrom_20 : decode b_S_firstFrom 20 = .ok (.iload_n 1, 1) := by decide +kernel
theorem d_S_firstFrom_21 : decode b_S_firstFrom 21 = .ok (.if_icmp .ne 5, 3) := by decide +kernel
theorem d_S_firstFrom_24 : decode b_S_firstFrom 24 = .ok (.iload_n 3, 1) := by decide +kernel
theorem d_S_firstFrom_25 : decode b_S_firstFrom 25 = .ok (.ireturn, 1) := by decide +kernel
theorem d_S_firstFrom_26 : decode b_S_firstFrom 26 = .ok (.iinc 3 1, 3) := by decide +kernel
theorem d_S_firstFrom_29 : decode b_S_firstFrom 29 = .ok (.goto (-23), 3) := by decide +kernel
theorem d_S_firstFrom_32 : decode b_S_firstFrom 32 = .ok (.iconst (-1), 1) := by decide +kernel
theorem d_S_firstFrom_33 : decode b_S_firstFrom 33 = .ok (.ireturn, 1) := by decide +kernel
theorem d_S_stateOf_0 : decode b_S_stateOf 0 = .ok (.iload_n 1, 1) := by decide +kernel
theorem d_S_stateOf_1 : decode b_S_stateOf 1 = .ok (.ifCond .lt 20, 3) := by decide +kernel
theorem d_S_stateOf_4 : decode b_S_stateOf 4 = .ok (.iload_n 1, 1) := by decide +kernel
theorem d_S_stateOf_5 : decode b_S_stateOf 5 = .ok (.aload_n 0, 1) := by decide +kernel
theorem d_S_stateOf_6 : decode b_S_stateOf 6 = .ok (.getfield 24, 3) := by decide +kernel
theorem d_S_stateOf_9 : decode b_S_stateOf 9 = .ok (.if_icmp .ge 12, 3) := by decide +kernel
theorem d_S_stateOf_12 : decode b_S_stateOf 12 = .ok (.aload_n 0, 1) := by decide +kernel
theorem d_S_stateOf_13 : decode b_S_stateOf 13 = .ok (.getfield 9, 3) := by decide +kernel
theorem d_S_stateOf_16 : decode b_S_stateOf 16 = .ok (.iload_n 1, 1) := by decide +kernel
theorem d_S_stateOf_17 : decode b_S_stateOf 17 = .ok (.iaload, 1) := by decide +kernel
theorem d_S_stateOf_18 : decode b_S_stateOf 18 = .ok (.goto 4, 3) := by decide +kernel
theorem d_S_stateOf_21 : decode b_S_stateOf 21 = .ok (.iconst (-1), 1) := by decide +kernel
theorem d_S_stateOf_22 : decode b_S_stateOf 22 = .ok (.ireturn, 1) := by decide +kernel
theorem d_S_behindStretch_0 : decode b_S_behindStretch 0 = .ok (.iload_n 1, 1) := by decide +kernel
theorem d_S_behindStretch_1 : decode b_S_behindStretch 1 = .ok (.iconst 1, 1) := by decide +kernel
theorem d_S_behindStretch_2 : decode b_S_behindStretch 2 = .ok (.iadd, 1) := by decide +kernel
theorem d_S_behindStretch_3 : decode b_S_behindStretch 3 = .ok (.istore_n 3, 1) := by decide +kernel
theorem d_S_behindStretch_4 : decode b_S_behindStretch 4 = .ok (.iload_n 3, 1) := by decide +kernel
theorem d_S_behindStretch_5 : decode b_S_behindStretch 5 = .ok (.aload_n 0, 1) := by decide +kernel
theorem d_S_behindStretch_6 : decode b_S_behindStretch 6 = .ok (.getfield 24, 3) := by decide +kernel
theorem d_S_behindStretch_9 : decode b_S_behindStretch 9 = .ok (.if_icmp .ge 29, 3) := by decide +kernel
theorem d_S_behindStretch_12 : decode b_S_behindStretch 12 = .ok (.iload_n 3, 1) := by decide +kernel
theorem d_S_behindStretch_13 : decode b_S_behindStretch 13 = .ok (.iload_n 1, 1) := by decide +kernel
theorem d_S_behindStretch_14 : decode b_S_behindStretch 14 = .ok (.isub, 1) := by decide +kernel
theorem d_S_behindStretch_15 : decode b_S_behindStretch 15 = .ok (.iload_n 2, 1) := by decide +kernel
theorem d_S_behindStretch_16 : decode b_S_behindStretch 16 = .ok (.if_icmp .ge 22, 3) := by decide +kernel
theorem d_S_behindStretch_19 : decode b_S_behindStretch 19 = .ok (.aload_n 0, 1) := by decide +kernel
theorem d_S_behindStretch_20 : decode b_S_behindStretch 20 = .ok (.iload_n 3, 1) := by decide +kernel
theorem d_S_behindStretch_21 : decode b_S_behindStretch 21 = .ok (.invokevirtual 34, 3) := by decide +kernel
theorem d_S_behindStretch_24 : decode b_S_behindStretch 24 = .ok (.aload_n 0, 1) := by decide +kernel
theorem d_S_behindStretch_25 : decode b_S_behindStretch 25 = .ok (.iload_n 1, 1) := by decide +kernel
theorem d_S_behindStretch_26 : decode b_S_behindStretch 26 = .ok (.invokevirtual 34, 3) := by decide +kernel
theorem d_S_behindStretch_29 : decode b_S_behindStretch 29 = .ok (.if_icmp .ne 9, 3) := by decide +kernel
theorem d_S_behindStretch_32 : decode b_S_behindStretch 32 = .ok (.iinc 3 1, 3) := by decide +kernel
theorem d_S_behindStretch_35 : decode b_S_behindStretch 35 = .ok (.goto (-31), 3) := by decide +kernel
theorem d_S_behindStretch_38 : decode b_S_behindStretch 38 = .ok (.iload_n 3, 1) := by decide +kernel
theorem d_S_behindStretch_39 : decode b_S_behindStretch 39 = .ok (.ireturn, 1) := by decide +kernel
theorem d_D_readStretch_0 : decode b_D_readStretch 0 = .ok (.iload_n 1, 1) := by decide +kernel
theorem d_D_readStretch_1 : decode b_D_readStretch 1 = .ok (.ifCond .lt 16, 3) := by decide +kernel
theorem d_D_readStretch_4 : decode b_D_readStretch 4 = .ok (.iload_n 1, 1) := by decide +kernel
theorem d_D_readStretch_5 : decode b_D_readStretch 5 = .ok (.iload_n 2, 1) := by decide +kernel
theorem d_D_readStretch_6 : decode b_D_readStretch 6 = .ok (.if_icmp .ge 11, 3) := by decide +kernel
theorem d_D_readStretch_9 : decode b_D_readStretch 9 = .ok (.iload_n 2, 1) := by decide +kernel
theorem d_D_readStretch_10 : decode b_D_readStretch 10 = .ok (.aload_n 0, 1) := by decide +kernel
theorem d_D_readStretch_11 : decode b_D_readStretch 11 = .ok (.getfield 24, 3) := by decide +kernel
theorem d_D_readStretch_14 : decode b_D_readStretch 14 = .ok (.if_icmp .le 5, 3) := by decide +kernel
theorem d_D_readStretch_17 : decode b_D_readStretch 17 = .ok (.iconst 0, 1) := by decide +kernel
theorem d_D_readStretch_18 : decode b_D_readStretch 18 = .ok (.ireturn, 1) := by decide +kernel
theorem d_D_readStretch_19 : decode b_D_readStretch 19 = .ok (.aload_n 0, 1) := by decide +kernel
theorem d_D_readStretch_20 : decode b_D_readStretch 20 = .ok (.dup, 1) := by decide +kernel
theorem d_D_readStretch_21 : decode b_D_readStretch 21 = .ok (.getfield 28, 3) := by decide +kernel
theorem d_D_readStretch_24 : decode b_D_readStretch 24 = .ok (.iconst 1, 1) := by decide +kernel
theorem d_D_readStretch_25 : decode b_D_readStretch 25 = .ok (.iadd, 1) := by decide +kernel
theorem d_D_readStretch_26 : decode b_D_readStretch 26 = .ok (.putfield 28, 3) := by decide +kernel
theorem d_D_readStretch_29 : decode b_D_readStretch 29 = .ok (.iload_n 1, 1) := by decide +kernel
theorem d_D_readStretch_30 : decode b_D_readStretch 30 = .ok (.istore_n 3, 1) := by decide +kernel
theorem d_D_readStretch_31 : decode b_D_readStretch 31 = .ok (.iload_n 3, 1) := by decide +kernel
theorem d_D_readStretch_32 : decode b_D_readStretch 32 = .ok (.iload_n 2, 1) := by decide +kernel
theorem d_D_readStretch_33 : decode b_D_readStretch 33 = .ok (.if_icmp .ge 60, 3) := by decide +kernel
theorem d_D_readStretch_36 : decode b_D_readStretch 36 = .ok (.aload_n 0, 1) := by decide +kernel
theorem d_D_readStretch_37 : decode b_D_readStretch 37 = .ok (.getfield 18, 3) := by decide +kernel
theorem d_D_readStretch_40 : decode b_D_readStretch 40 = .ok (.iload_n 3, 1) := by decide +kernel
theorem d_D_readStretch_41 : decode b_D_readStretch 41 = .ok (.dup2, 1) := by decide +kernel
theorem d_D_readStretch_42 : decode b_D_readStretch 42 = .ok (.iaload, 1) := by decide +kernel
theorem d_D_readStretch_43 : decode b_D_readStretch 43 = .ok (.iconst 1, 1) := by decide +kernel
theorem d_D_readStretch_44 : decode b_D_readStretch 44 = .ok (.iadd, 1) := by decide +kernel
theorem d_D_readStretch_45 : decode b_D_readStretch 45 = .ok (.iastore, 1) := by decide +kernel
theorem d_D_readStretch_46 : decode b_D_readStretch 46 = .ok (.aload_n 0, 1) := by decide +kernel
theorem d_D_readStretch_47 : decode b_D_readStretch 47 = .ok (.getfield 15, 3) := by decide +kernel
theorem d_D_readStretch_50 : decode b_D_readStretch 50 = .ok (.iload_n 3, 1) := by decide +kernel
theorem d_D_readStretch_51 : decode b_D_readStretch 51 = .ok (.iaload, 1) := by decide +kernel
theorem d_D_readStretch_52 : decode b_D_readStretch 52 = .ok (.ifCond .eq 35, 3) := by decide +kernel
theorem d_D_readStretch_55 : decode b_D_readStretch 55 = .ok (.aload_n 0, 1) := by decide +kernel
theorem d_D_readStretch_56 : decode b_D_readStretch 56 = .ok (.getfield 15, 3) := by decide +kernel
theorem d_D_readStretch_59 : decode b_D_readStretch 59 = .ok (.iload_n 3, 1) := by decide +kernel
theorem d_D_readStretch_60 : decode b_D_readStretch 60 = .ok (.iaload, 1) := by decide +kernel
theorem d_D_readStretch_61 : decode b_D_readStretch 61 = .ok (.iconst (-1), 1) := by decide +kernel
theorem d_D_readStretch_62 : decode b_D_readStretch 62 = .ok (.if_icmp .eq 13, 3) := by decide +kernel
theorem d_D_readStretch_65 : decode b_D_readStretch 65 = .ok (.aload_n 0, 1) := by decide +kernel
theorem d_D_readStretch_66 : decode b_D_readStretch 66 = .ok (.getfield 15, 3) := by decide +kernel
theorem d_D_readStretch_69 : decode b_D_readStretch 69 = .ok (.iload_n 3, 1) := by decide +kernel
theorem d_D_readStretch_70 : decode b_D_readStretch 70 = .ok (.dup2, 1) := by decide +kernel
theorem d_D_readStretch_71 : decode b_D_readStretch 71 = .ok (.iaload, 1) := by decide +kernel
theorem d_D_readStretch_72 : decode b_D_readStretch 72 = .ok (.iconst 1, 1) := by decide +kernel
theorem d_D_readStretch_73 : decode b_D_readStretch 73 = .ok (.isub, 1) := by decide +kernel
theorem d_D_readStretch_74 : decode b_D_readStretch 74 = .ok (.iastore, 1) := by decide +kernel
theorem d_D_readStretch_75 : decode b_D_readStretch 75 = .ok (.aload_n 0, 1) := by decide +kernel
theorem d_D_readStretch_76 : decode b_D_readStretch 76 = .ok (.dup, 1) := by decide +kernel
theorem d_D_readStretch_77 : decode b_D_readStretch 77 = .ok (.getfield 31, 3) := by decide +kernel
theorem d_D_readStretch_80 : decode b_D_readStretch 80 = .ok (.iconst 1, 1) := by decide +kernel
theorem d_D_readStretch_81 : decode b_D_readStretch 81 = .ok (.iadd, 1) := by decide +kernel
theorem d_D_readStretch_82 : decode b_D_readStretch 82 = .ok (.putfield 31, 3) := by decide +kernel
theorem d_D_readStretch_85 : decode b_D_readStretch 85 = .ok (.iconst 0, 1) := by decide +kernel
theorem d_D_readStretch_86 : decode b_D_readStretch 86 = .ok (.ireturn, 1) := by decide +kernel
theorem d_D_readStretch_87 : decode b_D_readStretch 87 = .ok (.iinc 3 1, 3) := by decide +kernel
theorem d_D_readStretch_90 : decode b_D_readStretch 90 = .ok (.goto (-59), 3) := by decide +kernel
theorem d_D_readStretch_93 : decode b_D_readStretch 93 = .ok (.aload_n 0, 1) := by decide +kernel
theorem d_D_readStretch_94 : decode b_D_readStretch 94 = .ok (.getfield 9, 3) := by decide +kernel
theorem d_D_readStretch_97 : decode b_D_readStretch 97 = .ok (.iload_n 1, 1) := by decide +kernel
theorem d_D_readStretch_98 : decode b_D_readStretch 98 = .ok (.aload_n 0, 1) := by decide +kernel
theorem d_D_readStretch_99 : decode b_D_readStretch 99 = .ok (.getfield 21, 3) := by decide +kernel
theorem d_D_readStretch_102 : decode b_D_readStretch 102 = .ok (.iload_n 1, 1) := by decide +kernel
theorem d_D_readStretch_103 : decode b_D_readStretch 103 = .ok (.iload_n 2, 1) := by decide +kernel
theorem d_D_readStretch_104 : decode b_D_readStretch 104 = .ok (.iload_n 1, 1) := by decide +kernel
theorem d_D_readStretch_105 : decode b_D_readStretch 105 = .ok (.isub, 1) := by decide +kernel
theorem d_D_readStretch_106 : decode b_D_readStretch 106 = .ok (.invokestatic 44, 3) := by decide +kernel
theorem d_D_readStretch_109 : decode b_D_readStretch 109 = .ok (.iconst 1, 1) := by decide +kernel
theorem d_D_readStretch_110 : decode b_D_readStretch 110 = .ok (.ireturn, 1) := by decide +kernel
theorem d_S_mark_0 : decode b_S_mark 0 = .ok (.iload_n 2, 1) := by decide +kernel
theorem d_S_mark_1 : decode b_S_mark 1 = .ok (.aload_n 0, 1) := by decide +kernel
theorem d_S_mark_2 : decode b_S_mark 2 = .ok (.getfield 24, 3) := by decide +kernel
theorem d_S_mark_5 : decode b_S_mark 5 = .ok (.invokestatic 15, 3) := by decide +kernel
theorem d_S_mark_8 : decode b_S_mark 8 = .ok (.istore 4, 2) := by decide +kernel
theorem d_S_mark_10 : decode b_S_mark 10 = .ok (.iconst 0, 1) := by decide +kernel
theorem d_S_mark_11 : decode b_S_mark 11 = .ok (.iload_n 1, 1) := by decide +kernel
theorem d_S_mark_12 : decode b_S_mark 12 = .ok (.invokestatic 21, 3) := by decide +kernel
theorem d_S_mark_15 : decode b_S_mark 15 = .ok (.istore 5, 2) := by decide +kernel
theorem d_S_mark_17 : decode b_S_mark 17 = .ok (.iload 5, 2) := by decide +kernel
theorem d_S_mark_19 : decode b_S_mark 19 = .ok (.iload 4, 2) := by decide +kernel
theorem d_S_mark_21 : decode b_S_mark 21 = .ok (.if_icmp .ge 17, 3) := by decide +kernel
theorem d_S_mark_24 : decode b_S_mark 24 = .ok (.aload_n 0, 1) := by decide +kernel
theorem d_S_mark_25 : decode b_S_mark 25 = .ok (.getfield 9, 3) := by decide +kernel
theorem d_S_mark_28 : decode b_S_mark 28 = .ok (.iload 5, 2) := by decide +kernel
theorem d_S_mark_30 : decode b_S_mark 30 = .ok (.iload_n 3, 1) := by decide +kernel
theorem d_S_mark_31 : decode b_S_mark 31 = .ok (.iastore, 1) := by decide +kernel
theorem d_S_mark_32 : decode b_S_mark 32 = .ok (.iinc 5 1, 3) := by decide +kernel
theorem d_S_mark_35 : decode b_S_mark 35 = .ok (.goto (-18), 3) := by decide +kernel
theorem d_S_mark_38 : decode b_S_mark 38 = .ok (.return_, 1) := by decide +kernel
theorem d_K_rescue_0 : decode b_K_rescue 0 = .ok (.aload_n 0, 1) := by decide +kernel
theorem d_K_rescue_1 : decode b_K_rescue 1 = .ok (.getfield 9, 3) := by decide +kernel
theorem d_K_rescue_4 : decode b_K_rescue 4 = .ok (.iload_n 1, 1) := by decide +kernel
theorem d_K_rescue_5 : decode b_K_rescue 5 = .ok (.iload_n 2, 1) := by decide +kernel
theorem d_K_rescue_6 : decode b_K_rescue 6 = .ok (.invokevirtual 109, 3) := by decide +kernel
theorem d_K_rescue_9 : decode b_K_rescue 9 = .ok (.istore 4, 2) := by decide +kernel
theorem d_K_rescue_11 : decode b_K_rescue 11 = .ok (.aload_n 0, 1) := by decide +kernel
theorem d_K_rescue_12 : decode b_K_rescue 12 = .ok (.getfield 15, 3) := by decide +kernel
theorem d_K_rescue_15 : decode b_K_rescue 15 = .ok (.iload_n 1, 1) := by decide +kernel
theorem d_K_rescue_16 : decode b_K_rescue 16 = .ok (.iload_n 2, 1) := by decide +kernel
theorem d_K_rescue_17 : decode b_K_rescue 17 = .ok (.iload 4, 2) := by decide +kernel
theorem d_K_rescue_19 : decode b_K_rescue 19 = .ok (.ifCond .eq 7, 3) := by decide +kernel
theorem d_K_rescue_22 : decode b_K_rescue 22 = .ok (.iconst 4, 1) := by decide +kernel
theorem d_K_rescue_23 : decode b_K_rescue 23 = .ok (.goto 4, 3) := by decide +kernel
theorem d_K_rescue_26 : decode b_K_rescue 26 = .ok (.iload_n 3, 1) := by decide +kernel
theorem d_K_rescue_27 : decode b_K_rescue 27 = .ok (.invokevirtual 96, 3) := by decide +kernel
theorem d_K_rescue_30 : decode b_K_rescue 30 = .ok (.iload 4, 2) := by decide +kernel
theorem d_K_rescue_32 : decode b_K_rescue 32 = .ok (.ireturn, 1) := by decide +kernel
theorem d_K_takeLeap_0 : decode b_K_takeLeap 0 = .ok (.iload_n 1, 1) := by decide +kernel
theorem d_K_takeLeap_1 : decode b_K_takeLeap 1 = .ok (.ifCond .eq 7, 3) := by decide +kernel
theorem d_K_takeLeap_4 : decode b_K_takeLeap 4 = .ok (.iconst 0, 1) := by decide +kernel
theorem d_K_takeLeap_5 : decode b_K_takeLeap 5 = .ok (.goto 7, 3) := by decide +kernel
theorem d_K_takeLeap_8 : decode b_K_takeLeap 8 = .ok (.aload_n 0, 1) := by decide +kernel
theorem d_K_takeLeap_9 : decode b_K_takeLeap 9 = .ok (.getfield 30, 3) := by decide +kernel
theorem d_K_takeLeap_12 : decode b_K_takeLeap 12 = .ok (.istore_n 2, 1) := by decide +kernel
theorem d_K_takeLeap_13 : decode b_K_takeLeap 13 = .ok (.aload_n 0, 1) := by decide +kernel
theorem d_K_takeLeap_14 : decode b_K_takeLeap 14 = .ok (.iload_n 1, 1) := by decide +kernel
theorem d_K_takeLeap_15 : decode b_K_takeLeap 15 = .ok (.ifCond .eq 8, 3) := by decide +kernel
theorem d_K_takeLeap_18 : decode b_K_takeLeap 18 = .ok (.bipush 8, 2) := by decide +kernel
theorem d_K_takeLeap_20 : decode b_K_takeLeap 20 = .ok (.goto 14, 3) := by decide +kernel
theorem d_K_takeLeap_23 : decode b_K_takeLeap 23 = .ok (.iconst 2, 1) := by decide +kernel
theorem d_K_takeLeap_24 : decode b_K_takeLeap 24 = .ok (.aload_n 0, 1) := by decide +kernel
theorem d_K_takeLeap_25 : decode b_K_takeLeap 25 = .ok (.getfield 30, 3) := by decide +kernel
theorem d_K_takeLeap_28 : decode b_K_takeLeap 28 = .ok (.imul, 1) := by decide +kernel
theorem d_K_takeLeap_29 : decode b_K_takeLeap 29 = .ok (.bipush 32, 2) := by decide +kernel
theorem d_K_takeLeap_31 : decode b_K_takeLeap 31 = .ok (.invokestatic 91, 3) := by decide +kernel
theorem d_K_takeLeap_34 : decode b_K_takeLeap 34 = .ok (.putfield 30, 3) := by decide +kernel
theorem d_K_takeLeap_37 : decode b_K_takeLeap 37 = .ok (.iload_n 2, 1) := by decide +kernel
theorem d_K_takeLeap_38 : decode b_K_takeLeap 38 = .ok (.ireturn, 1) := by decide +kernel
theorem d_K_readForward_0 : decode b_K_readForward 0 = .ok (.aload_n 0, 1) := by decide +kernel
theorem d_K_readForward_1 : decode b_K_readForward 1 = .ok (.getfield 15, 3) := by decide +kernel
theorem d_K_readForward_4 : decode b_K_readForward 4 = .ok (.iconst 0, 1) := by decide +kernel
theorem d_K_readForward_5 : decode b_K_readForward 5 = .ok (.aload_n 0, 1) := by decide +kernel
theorem d_K_readForward_6 : decode b_K_readForward 6 = .ok (.getfield 39, 3) := by decide +kernel
theorem d_K_readForward_9 : decode b_K_readForward 9 = .ok (.invokevirtual 70, 3) := by decide +kernel
theorem d_K_readForward_12 : decode b_K_readForward 12 = .ok (.istore_n 2, 1) := by decide +kernel
theorem d_K_readForward_13 : decode b_K_readForward 13 = .ok (.iload_n 2, 1) := by decide +kernel
theorem d_K_readForward_14 : decode b_K_readForward 14 = .ok (.iconst (-1), 1) := by decide +kernel
theorem d_K_readForward_15 : decode b_K_readForward 15 = .ok (.if_icmp .ne 5, 3) := by decide +kernel
theorem d_K_readForward_18 : decode b_K_readForward 18 = .ok (.iconst 0, 1) := by decide +kernel
theorem d_K_readForward_19 : decode b_K_readForward 19 = .ok (.ireturn, 1) := by decide +kernel
theorem d_K_readForward_20 : decode b_K_readForward 20 = .ok (.aload_n 0, 1) := by decide +kernel
theorem d_K_readForward_21 : decode b_K_readForward 21 = .ok (.getfield 15, 3) := by decide +kernel
theorem d_K_readForward_24 : decode b_K_readForward 24 = .ok (.iload_n 2, 1) := by decide +kernel
theorem d_K_readForward_25 : decode b_K_readForward 25 = .ok (.bipush 8, 2) := by decide +kernel
theorem d_K_readForward_27 : decode b_K_readForward 27 = .ok (.invokevirtual 74, 3) := by decide +kernel
theorem d_K_readForward_30 : decode b_K_readForward 30 = .ok (.istore_n 3, 1) := by decide +kernel
theorem d_K_readForward_31 : decode b_K_readForward 31 = .ok (.aload_n 0, 1) := by decide +kernel
theorem d_K_readForward_32 : decode b_K_readForward 32 = .ok (.iload_n 2, 1) := by decide +kernel
theorem d_K_readForward_33 : decode b_K_readForward 33 = .ok (.iload_n 3, 1) := by decide +kernel
theorem d_K_readForward_34 : decode b_K_readForward 34 = .ok (.iconst 1, 1) := by decide +kernel
theorem d_K_readForward_35 : decode b_K_readForward 35 = .ok (.invokevirtual 77, 3) := by decide +kernel
theorem d_K_readForward_38 : decode b_K_readForward 38 = .ok (.istore 4, 2) := by decide +kernel
theorem d_K_readForward_40 : decode b_K_readForward 40 = .ok (.aload_n 0, 1) := by decide +kernel
theorem d_K_readForward_41 : decode b_K_readForward 41 = .ok (.iload_n 3, 1) := by decide +kernel
theorem d_K_readForward_42 : decode b_K_readForward 42 = .ok (.iload_n 1, 1) := by decide +kernel
theorem d_K_readForward_43 : decode b_K_readForward 43 = .ok (.ifCond .eq 12, 3) := by decide +kernel
theorem d_K_readForward_46 : decode b_K_readForward 46 = .ok (.aload_n 0, 1) := by decide +kernel
theorem d_K_readForward_47 : decode b_K_readForward 47 = .ok (.iload 4, 2) := by decide +kernel
theorem d_K_readForward_49 : decode b_K_readForward 49 = .ok (.invokevirtual 81, 3) := by decide +kernel
theorem d_K_readForward_52 : decode b_K_readForward 52 = .ok (.goto 4, 3) := by decide +kernel
theorem d_K_readForward_55 : decode b_K_readForward 55 = .ok (.iconst 0, 1) := by decide +kernel
theorem d_K_readForward_56 : decode b_K_readForward 56 = .ok (.iadd, 1) := by decide +kernel
theorem d_K_readForward_57 : decode b_K_readForward 57 = .ok (.putfield 39, 3) := by decide +kernel
theorem d_K_readForward_60 : decode b_K_readForward 60 = .ok (.iconst 1, 1) := by decide +kernel
theorem d_K_readForward_61 : decode b_K_readForward 61 = .ok (.ireturn, 1) := by decide +kernel
theorem d_S_lastBelow_0 : decode b_S_lastBelow 0 = .ok (.iload_n 2, 1) := by decide +kernel
theorem d_S_lastBelow_1 : decode b_S_lastBelow 1 = .ok (.aload_n 0, 1) := by decide +kernel
theorem d_S_lastBelow_2 : decode b_S_lastBelow 2 = .ok (.getfield 24, 3) := by decide +kernel
theorem d_S_lastBelow_5 : decode b_S_lastBelow 5 = .ok (.invokestatic 15, 3) := by decide +kernel
theorem d_S_lastBelow_8 : decode b_S_lastBelow 8 = .ok (.iconst 1, 1) := by decide +kernel
theorem d_S_lastBelow_9 : decode b_S_lastBelow 9 = .ok (.isub, 1) := by decide +kernel
theorem d_S_lastBelow_10 : decode b_S_lastBelow 10 = .ok (.istore_n 3, 1) := by decide +kernel
theorem d_S_lastBelow_11 : decode b_S_lastBelow 11 = .ok (.iload_n 3, 1) := by decide +kernel
theorem d_S_lastBelow_12 : decode b_S_lastBelow 12 = .ok (.ifCond .lt 21, 3) := by decide +kernel
theorem d_S_lastBelow_15 : decode b_S_lastBelow 15 = .ok (.aload_n 0, 1) := by decide +kernel
theorem d_S_lastBelow_16 : decode b_S_lastBelow 16 = .ok (.getfield 9, 3) := by decide +kernel
theorem d_S_lastBelow_19 : decode b_S_lastBelow 19 = .ok (.iload_n 3, 1) := by decide +kernel
theorem d_S_lastBelow_20 : decode b_S_lastBelow 20 = .ok (.iaload, 1) := by decide +kernel
theorem d_S_lastBelow_21 : decode b_S_lastBelow 21 = .ok (.iload_n 1, 1) := by decide +kernel
theorem d_S_lastBelow_22 : decode b_S_lastBelow 22 = .ok (.if_icmp .ne 5, 3) := by decide +kernel
theorem d_S_lastBelow_25 : decode b_S_lastBelow 25 = .ok (.iload_n 3, 1) := by decide +kernel
theorem d_S_lastBelow_26 : decode b_S_lastBelow 26 = .ok (.ireturn, 1) := by decide +kernel
theorem d_S_lastBelow_27 : decode b_S_lastBelow 27 = .ok (.iinc 3 (-1), 3) := by decide +kernel
theorem d_S_lastBelow_30 : decode b_S_lastBelow 30 = .ok (.goto (-19), 3) := by decide +kernel
theorem d_S_lastBelow_33 : decode b_S_lastBelow 33 = .ok (.iconst (-1), 1) := by decide +kernel
theorem d_S_lastBelow_34 : decode b_S_lastBelow 34 = .ok (.ireturn, 1) := by decide +kernel
theorem d_S_firstOfStretch_0 : decode b_S_firstOfStretch 0 = .ok (.iload_n 1, 1) := by decide +kernel
theorem d_S_firstOfStretch_1 : decode b_S_firstOfStretch 1 = .ok (.istore_n 3, 1) := by decide +kernel
theorem d_S_firstOfStretch_2 : decode b_S_firstOfStretch 2 = .ok (.iload_n 3, 1) := by decide +kernel
theorem d_S_firstOfStretch_3 : decode b_S_firstOfStretch 3 = .ok (.ifCond .le 33, 3) := by decide +kernel
theorem d_S_firstOfStretch_6 : decode b_S_firstOfStretch 6 = .ok (.iload_n 1, 1) := by decide +kernel
theorem d_S_firstOfStretch_7 : decode b_S_firstOfStretch 7 = .ok (.iload_n 3, 1) := by decide +kernel
theorem d_S_firstOfStretch_8 : decode b_S_firstOfStretch 8 = .ok (.isub, 1) := by decide +kernel
theorem d_S_firstOfStretch_9 : decode b_S_firstOfStretch 9 = .ok (.iconst 1, 1) := by decide +kernel
theorem d_S_firstOfStretch_10 : decode b_S_firstOfStretch 10 = .ok (.iadd, 1) := by decide +kernel
theorem d_S_firstOfStretch_11 : decode b_S_firstOfStretch 11 = .ok (.iload_n 2, 1) := by decide +kernel
theorem d_S_firstOfStretch_12 : decode b_S_firstOfStretch 12 = .ok (.if_icmp .ge 24, 3) := by decide +kernel
theorem d_S_firstOfStretch_15 : decode b_S_firstOfStretch 15 = .ok (.aload_n 0, 1) := by decide +kernel
theorem d_S_firstOfStretch_16 : decode b_S_firstOfStretch 16 = .ok (.iload_n 3, 1) := by decide +kernel
theorem d_S_firstOfStretch_17 : decode b_S_firstOfStretch 17 = .ok (.iconst 1, 1) := by decide +kernel
theorem d_S_firstOfStretch_18 : decode b_S_firstOfStretch 18 = .ok (.isub, 1) := by decide +kernel
theorem d_S_firstOfStretch_19 : decode b_S_firstOfStretch 19 = .ok (.invokevirtual 34, 3) := by decide +kernel
theorem d_S_firstOfStretch_22 : decode b_S_firstOfStretch 22 = .ok (.aload_n 0, 1) := by decide +kernel
theorem d_S_firstOfStretch_23 : decode b_S_firstOfStretch 23 = .ok (.iload_n 1, 1) := by decide +kernel
theorem d_S_firstOfStretch_24 : decode b_S_firstOfStretch 24 = .ok (.invokevirtual 34, 3) := by decide +kernel
theorem d_S_firstOfStretch_27 : decode b_S_firstOfStretch 27 = .ok (.if_icmp .ne 9, 3) := by decide +kernel
theorem d_S_firstOfStretch_30 : decode b_S_firstOfStretch 30 = .ok (.iinc 3 (-1), 3) := by decide +kernel
theorem d_S_firstOfStretch_33 : decode b_S_firstOfStretch 33 = .ok (.goto (-31), 3) := by decide +kernel
theorem d_S_firstOfStretch_36 : decode b_S_firstOfStretch 36 = .ok (.iload_n 3, 1) := by decide +kernel
theorem d_S_firstOfStretch_37 : decode b_S_firstOfStretch 37 = .ok (.ireturn, 1) := by decide +kernel
theorem d_K_readBackward_0 : decode b_K_readBackward 0 = .ok (.aload_n 0, 1) := by decide +kernel
theorem d_K_readBackward_1 : decode b_K_readBackward 1 = .ok (.getfield 15, 3) := by decide +kernel
theorem d_K_readBackward_4 : decode b_K_readBackward 4 = .ok (.iconst 0, 1) := by decide +kernel
theorem d_K_readBackward_5 : decode b_K_readBackward 5 = .ok (.aload_n 0, 1) := by decide +kernel
theorem d_K_readBackward_6 : decode b_K_readBackward 6 = .ok (.getfield 39, 3) := by decide +kernel
theorem d_K_readBackward_9 : decode b_K_readBackward 9 = .ok (.invokevirtual 85, 3) := by decide +kernel
theorem d_K_readBackward_12 : decode b_K_readBackward 12 = .ok (.istore_n 1, 1) := by decide +kernel
theorem d_K_readBackward_13 : decode b_K_readBackward 13 = .ok (.iload_n 1, 1) := by decide +kernel
theorem d_K_readBackward_14 : decode b_K_readBackward 14 = .ok (.iconst (-1), 1) := by decide +kernel
theorem d_K_readBackward_15 : decode b_K_readBackward 15 = .ok (.if_icmp .ne 5, 3) := by decide +kernel
theorem d_K_readBackward_18 : decode b_K_readBackward 18 = .ok (.iconst 0, 1) := by decide +kernel
theorem d_K_readBackward_19 : decode b_K_readBackward 19 = .ok (.ireturn, 1) := by decide +kernel
theorem d_K_readBackward_20 : decode b_K_readBackward 20 = .ok (.aload_n 0, 1) := by decide +kernel
theorem d_K_readBackward_21 : decode b_K_readBackward 21 = .ok (.getfield 15, 3) := by decide +kernel
theorem d_K_readBackward_24 : decode b_K_readBackward 24 = .ok (.iload_n 1, 1) := by decide +kernel
theorem d_K_readBackward_25 : decode b_K_readBackward 25 = .ok (.bipush 8, 2) := by decide +kernel
theorem d_K_readBackward_27 : decode b_K_readBackward 27 = .ok (.invokevirtual 88, 3) := by decide +kernel
theorem d_K_readBackward_30 : decode b_K_readBackward 30 = .ok (.istore_n 2, 1) := by decide +kernel
theorem d_K_readBackward_31 : decode b_K_readBackward 31 = .ok (.aload_n 0, 1) := by decide +kernel
theorem d_K_readBackward_32 : decode b_K_readBackward 32 = .ok (.iload_n 2, 1) := by decide +kernel
theorem d_K_readBackward_33 : decode b_K_readBackward 33 = .ok (.iload_n 1, 1) := by decide +kernel
theorem d_K_readBackward_34 : decode b_K_readBackward 34 = .ok (.iconst 1, 1) := by decide +kernel
theorem d_K_readBackward_35 : decode b_K_readBackward 35 = .ok (.iadd, 1) := by decide +kernel
theorem d_K_readBackward_36 : decode b_K_readBackward 36 = .ok (.iconst 1, 1) := by decide +kernel
theorem d_K_readBackward_37 : decode b_K_readBackward 37 = .ok (.invokevirtual 77, 3) := by decide +kernel
theorem d_K_readBackward_40 : decode b_K_readBackward 40 = .ok (.istore_n 3, 1) := by decide +kernel
theorem d_K_readBackward_41 : decode b_K_readBackward 41 = .ok (.aload_n 0, 1) := by decide +kernel
theorem d_K_readBackward_42 : decode b_K_readBackward 42 = .ok (.iload_n 2, 1) := by decide +kernel
theorem d_K_readBackward_43 : decode b_K_readBackward 43 = .ok (.aload_n 0, 1) := by decide +kernel
theorem d_K_readBackward_44 : decode b_K_readBackward 44 = .ok (.iload_n 3, 1) := by decide +kernel
theorem d_K_readBackward_45 : decode b_K_readBackward 45 = .ok (.invokevirtual 81, 3) := by decide +kernel
theorem d_K_readBackward_48 : decode b_K_readBackward 48 = .ok (.isub, 1) := by decide +kernel
theorem d_K_readBackward_49 : decode b_K_readBackward 49 = .ok (.putfield 39, 3) := by decide +kernel
theorem d_K_readBackward_52 : decode b_K_readBackward 52 = .ok (.iconst 1, 1) := by decide +kernel
theorem d_K_readBackward_53 : decode b_K_readBackward 53 = .ok (.ireturn, 1) := by decide +kernel
theorem d_K_trim_0 : decode b_K_trim 0 = .ok (.aload_n 0, 1) := by decide +kernel
theorem d_K_trim_1 : decode b_K_trim 1 = .ok (.getfield 15, 3) := by decide +kernel
theorem d_K_trim_4 : decode b_K_trim 4 = .ok (.iconst 1, 1) := by decide +kernel
theorem d_K_trim_5 : decode b_K_trim 5 = .ok (.iconst 0, 1) := by decide +kernel
theorem d_K_trim_6 : decode b_K_trim 6 = .ok (.invokevirtual 70, 3) := by decide +kernel
theorem d_K_trim_9 : decode b_K_trim 9 = .ok (.istore_n 1, 1) := by decide +kernel
theorem d_K_trim_10 : decode b_K_trim 10 = .ok (.iload_n 1, 1) := by decide +kernel
theorem d_K_trim_11 : decode b_K_trim 11 = .ok (.iconst (-1), 1) := by decide +kernel
theorem d_K_trim_12 : decode b_K_trim 12 = .ok (.if_icmp .ne 5, 3) := by decide +kernel
theorem d_K_trim_15 : decode b_K_trim 15 = .ok (.iconst 0, 1) := by decide +kernel
theorem d_K_trim_16 : decode b_K_trim 16 = .ok (.ireturn, 1) := by decide +kernel
theorem d_K_trim_17 : decode b_K_trim 17 = .ok (.aload_n 0, 1) := by decide +kernel
theorem d_K_trim_18 : decode b_K_trim 18 = .ok (.getfield 15, 3) := by decide +kernel
theorem d_K_trim_21 : decode b_K_trim 21 = .ok (.iload_n 1, 1) := by decide +kernel
theorem d_K_trim_22 : decode b_K_trim 22 = .ok (.bipush 64, 2) := by decide +kernel
theorem d_K_trim_24 : decode b_K_trim 24 = .ok (.invokevirtual 74, 3) := by decide +kernel
theorem d_K_trim_27 : decode b_K_trim 27 = .ok (.iconst 1, 1) := by decide +kernel
theorem d_K_trim_28 : decode b_K_trim 28 = .ok (.isub, 1) := by decide +kernel
theorem d_K_trim_29 : decode b_K_trim 29 = .ok (.istore_n 2, 1) := by decide +kernel
theorem d_K_trim_30 : decode b_K_trim 30 = .ok (.aload_n 0, 1) := by decide +kernel
theorem d_K_trim_31 : decode b_K_trim 31 = .ok (.getfield 45, 3) := by decide +kernel
theorem d_K_trim_34 : decode b_K_trim 34 = .ok (.ifCond .eq 7, 3) := by decide +kernel
theorem d_K_trim_37 : decode b_K_trim 37 = .ok (.iload_n 2, 1) := by decide +kernel
theorem d_K_trim_38 : decode b_K_trim 38 = .ok (.goto 4, 3) := by decide +kernel
theorem d_K_trim_41 : decode b_K_trim 41 = .ok (.iload_n 1, 1) := by decide +kernel
theorem d_K_trim_42 : decode b_K_trim 42 = .ok (.istore_n 3, 1) := by decide +kernel
theorem d_K_trim_43 : decode b_K_trim 43 = .ok (.aload_n 0, 1) := by decide +kernel
theorem d_K_trim_44 : decode b_K_trim 44 = .ok (.iload_n 3, 1) := by decide +kernel
theorem d_K_trim_45 : decode b_K_trim 45 = .ok (.iload_n 3, 1) := by decide +kernel
theorem d_K_trim_46 : decode b_K_trim 46 = .ok (.iconst 1, 1) := by decide +kernel
theorem d_K_trim_47 : decode b_K_trim 47 = .ok (.iadd, 1) := by decide +kernel
theorem d_K_trim_48 : decode b_K_trim 48 = .ok (.iconst 3, 1) := by decide +kernel
theorem d_K_trim_49 : decode b_K_trim 49 = .ok (.invokevirtual 77, 3) := by decide +kernel
theorem d_K_trim_52 : decode b_K_trim 52 = .ok (.istore 4, 2) := by decide +kernel
theorem d_K_trim_54 : decode b_K_trim 54 = .ok (.iload 4, 2) := by decide +kernel
theorem d_K_trim_56 : decode b_K_trim 56 = .ok (.ifCond .ne 20, 3) := by decide +kernel
theorem d_K_trim_59 : decode b_K_trim 59 = .ok (.aload_n 0, 1) := by decide +kernel
theorem d_K_trim_60 : decode b_K_trim 60 = .ok (.getfield 45, 3) := by decide +kernel
theorem d_K_trim_63 : decode b_K_trim 63 = .ok (.ifCond .eq 13, 3) := by decide +kernel
theorem d_K_trim_66 : decode b_K_trim 66 = .ok (.aload_n 0, 1) := by decide +kernel
theorem d_K_trim_67 : decode b_K_trim 67 = .ok (.getfield 15, 3) := by decide +kernel
theorem d_K_trim_70 : decode b_K_trim 70 = .ok (.iload_n 1, 1) := by decide +kernel
theorem d_K_trim_71 : decode b_K_trim 71 = .ok (.iload_n 2, 1) := by decide +kernel
theorem d_K_trim_72 : decode b_K_trim 72 = .ok (.iconst 2, 1) := by decide +kernel
theorem d_K_trim_73 : decode b_K_trim 73 = .ok (.invokevirtual 96, 3) := by decide +kernel
theorem d_K_trim_76 : decode b_K_trim 76 = .ok (.iload_n 1, 1) := by decide +kernel
theorem d_K_trim_77 : decode b_K_trim 77 = .ok (.iload_n 2, 1) := by decide +kernel
theorem d_K_trim_78 : decode b_K_trim 78 = .ok (.if_icmp .ne 11, 3) := by decide +kernel
theorem d_K_trim_81 : decode b_K_trim 81 = .ok (.aload_n 0, 1) := by decide +kernel
theorem d_K_trim_82 : decode b_K_trim 82 = .ok (.iconst 0, 1) := by decide +kernel
theorem d_K_trim_83 : decode b_K_trim 83 = .ok (.putfield 45, 3) := by decide +kernel
theorem d_K_trim_86 : decode b_K_trim 86 = .ok (.goto 24, 3) := by decide +kernel
theorem d_K_trim_89 : decode b_K_trim 89 = .ok (.iload 4, 2) := by decide +kernel
theorem d_K_trim_91 : decode b_K_trim 91 = .ok (.ifCond .ne 19, 3) := by decide +kernel
theorem d_K_trim_94 : decode b_K_trim 94 = .ok (.aload_n 0, 1) := by decide +kernel
theorem d_K_trim_95 : decode b_K_trim 95 = .ok (.aload_n 0, 1) := by decide +kernel
theorem d_K_trim_96 : decode b_K_trim 96 = .ok (.getfield 45, 3) := by decide +kernel
theorem d_K_trim_99 : decode b_K_trim 99 = .ok (.ifCond .ne 7, 3) := by decide +kernel
theorem d_K_trim_102 : decode b_K_trim 102 = .ok (.iconst 1, 1) := by decide +kernel
theorem d_K_trim_103 : decode b_K_trim 103 = .ok (.goto 4, 3) := by decide +kernel
theorem d_K_trim_106 : decode b_K_trim 106 = .ok (.iconst 0, 1) := by decide +kernel
theorem d_K_trim_107 : decode b_K_trim 107 = .ok (.putfield 45, 3) := by decide +kernel
theorem d_K_trim_110 : decode b_K_trim 110 = .ok (.iconst 1, 1) := by decide +kernel
theorem d_K_trim_111 : decode b_K_trim 111 = .ok (.ireturn, 1) := by decide +kernel
theorem d_K_scrape_0 : decode b_K_scrape 0 = .ok (.aload_n 0, 1) := by decide +kernel
theorem d_K_scrape_1 : decode b_K_scrape 1 = .ok (.getfield 15, 3) := by decide +kernel
theorem d_K_scrape_4 : decode b_K_scrape 4 = .ok (.iconst 2, 1) := by decide +kernel
theorem d_K_scrape_5 : decode b_K_scrape 5 = .ok (.iconst 0, 1) := by decide +kernel
theorem d_K_scrape_6 : decode b_K_scrape 6 = .ok (.invokevirtual 70, 3) := by decide +kernel
theorem d_K_scrape_9 : decode b_K_scrape 9 = .ok (.istore_n 1, 1) := by decide +kernel
theorem d_K_scrape_10 : decode b_K_scrape 10 = .ok (.iload_n 1, 1) := by decide +kernel
theorem d_K_scrape_11 : decode b_K_scrape 11 = .ok (.iconst (-1), 1) := by decide +kernel
theorem d_K_scrape_12 : decode b_K_scrape 12 = .ok (.if_icmp .ne 5, 3) := by decide +kernel
theorem d_K_scrape_15 : decode b_K_scrape 15 = .ok (.iconst 0, 1) := by decide +kernel
theorem d_K_scrape_16 : decode b_K_scrape 16 = .ok (.ireturn, 1) := by decide +kernel
theorem d_K_scrape_17 : decode b_K_scrape 17 = .ok (.aload_n 0, 1) := by decide +kernel
theorem d_K_scrape_18 : decode b_K_scrape 18 = .ok (.iload_n 1, 1) := by decide +kernel
theorem d_K_scrape_19 : decode b_K_scrape 19 = .ok (.iload_n 1, 1) := by decide +kernel
theorem d_K_scrape_20 : decode b_K_scrape 20 = .ok (.iconst 1, 1) := by decide +kernel
theorem d_K_scrape_21 : decode b_K_scrape 21 = .ok (.iadd, 1) := by decide +kernel
theorem d_K_scrape_22 : decode b_K_scrape 22 = .ok (.iconst 3, 1) := by decide +kernel
theorem d_K_scrape_23 : decode b_K_scrape 23 = .ok (.invokevirtual 77, 3) := by decide +kernel
theorem d_K_scrape_26 : decode b_K_scrape 26 = .ok (.pop, 1) := by decide +kernel
theorem d_K_scrape_27 : decode b_K_scrape 27 = .ok (.iconst 1, 1) := by decide +kernel
theorem d_K_scrape_28 : decode b_K_scrape 28 = .ok (.ireturn, 1) := by decide +kernel
theorem d_K_goesUp_0 : decode b_K_goesUp 0 = .ok (.iload_n 1, 1) := by decide +kernel
theorem d_K_goesUp_1 : decode b_K_goesUp 1 = .ok (.iconst 2, 1) := by decide +kernel
theorem d_K_goesUp_2 : decode b_K_goesUp 2 = .ok (.irem, 1) := by decide +kernel
theorem d_K_goesUp_3 : decode b_K_goesUp 3 = .ok (.ifCond .ne 7, 3) := by decide +kernel
theorem d_K_goesUp_6 : decode b_K_goesUp 6 = .ok (.iconst 1, 1) := by decide +kernel
theorem d_K_goesUp_7 : decode b_K_goesUp 7 = .ok (.goto 4, 3) := by decide +kernel
theorem d_K_goesUp_10 : decode b_K_goesUp 10 = .ok (.iconst 0, 1) := by decide +kernel
theorem d_K_goesUp_11 : decode b_K_goesUp 11 = .ok (.ireturn, 1) := by decide +kernel
theorem d_K_enterRound_0 : decode b_K_enterRound 0 = .ok (.aload_n 0, 1) := by decide +kernel
theorem d_K_enterRound_1 : decode b_K_enterRound 1 = .ok (.iload_n 1, 1) := by decide +kernel
theorem d_K_enterRound_2 : decode b_K_enterRound 2 = .ok (.putfield 42, 3) := by decide +kernel
theorem d_K_enterRound_5 : decode b_K_enterRound 5 = .ok (.aload_n 0, 1) := by decide +kernel
theorem d_K_enterRound_6 : decode b_K_enterRound 6 = .ok (.aload_n 0, 1) := by decide +kernel
theorem d_K_enterRound_7 : decode b_K_enterRound 7 = .ok (.iload_n 1, 1) := by decide +kernel
theorem d_K_enterRound_8 : decode b_K_enterRound 8 = .ok (.invokevirtual 103, 3) := by decide +kernel
theorem d_K_enterRound_11 : decode b_K_enterRound 11 = .ok (.ifCond .eq 7, 3) := by decide +kernel
theorem d_K_enterRound_14 : decode b_K_enterRound 14 = .ok (.iconst 0, 1) := by decide +kernel
theorem d_K_enterRound_15 : decode b_K_enterRound 15 = .ok (.goto 10, 3) := by decide +kernel
theorem d_K_enterRound_18 : decode b_K_enterRound 18 = .ok (.aload_n 0, 1) := by decide +kernel
theorem d_K_enterRound_19 : decode b_K_enterRound 19 = .ok (.getfield 15, 3) := by decide +kernel
theorem d_K_enterRound_22 : decode b_K_enterRound 22 = .ok (.invokevirtual 33, 3) := by decide +kernel
theorem d_K_enterRound_25 : decode b_K_enterRound 25 = .ok (.putfield 39, 3) := by decide +kernel
theorem d_K_enterRound_28 : decode b_K_enterRound 28 = .ok (.return_, 1) := by decide +kernel
theorem d_K_nextBad_0 : decode b_K_nextBad 0 = .ok (.aload_n 0, 1) := by decide +kernel
theorem d_K_nextBad_1 : decode b_K_nextBad 1 = .ok (.getfield 42, 3) := by decide +kernel
theorem d_K_nextBad_4 : decode b_K_nextBad 4 = .ok (.istore_n 1, 1) := by decide +kernel
theorem d_K_nextBad_5 : decode b_K_nextBad 5 = .ok (.iload_n 1, 1) := by decide +kernel
theorem d_K_nextBad_6 : decode b_K_nextBad 6 = .ok (.aload_n 0, 1) := by decide +kernel
theorem d_K_nextBad_7 : decode b_K_nextBad 7 = .ok (.getfield 23, 3) := by decide +kernel
theorem d_K_nextBad_10 : decode b_K_nextBad 10 = .ok (.if_icmp .ge 59, 3) := by decide +kernel
theorem d_K_nextBad_13 : decode b_K_nextBad 13 = .ok (.aload_n 0, 1) := by decide +kernel
theorem d_K_nextBad_14 : decode b_K_nextBad 14 = .ok (.iload_n 1, 1) := by decide +kernel
theorem d_K_nextBad_15 : decode b_K_nextBad 15 = .ok (.invokevirtual 103, 3) := by decide +kernel
theorem d_K_nextBad_18 : decode b_K_nextBad 18 = .ok (.ifCond .eq 18, 3) := by decide +kernel
theorem d_K_nextBad_21 : decode b_K_nextBad 21 = .ok (.aload_n 0, 1) := by decide +kernel
theorem d_K_nextBad_22 : decode b_K_nextBad 22 = .ok (.getfield 15, 3) := by decide +kernel
theorem d_K_nextBad_25 : decode b_K_nextBad 25 = .ok (.iconst 3, 1) := by decide +kernel
theorem d_K_nextBad_26 : decode b_K_nextBad 26 = .ok (.aload_n 0, 1) := by decide +kernel
theorem d_K_nextBad_27 : decode b_K_nextBad 27 = .ok (.getfield 39, 3) := by decide +kernel
theorem d_K_nextBad_30 : decode b_K_nextBad 30 = .ok (.invokevirtual 70, 3) := by decide +kernel
theorem d_K_nextBad_33 : decode b_K_nextBad 33 = .ok (.goto 15, 3) := by decide +kernel
theorem d_K_nextBad_36 : decode b_K_nextBad 36 = .ok (.aload_n 0, 1) := by decide +kernel
theorem d_K_nextBad_37 : decode b_K_nextBad 37 = .ok (.getfield 15, 3) := by decide +kernel
theorem d_K_nextBad_40 : decode b_K_nextBad 40 = .ok (.iconst 3, 1) := by decide +kernel
theorem d_K_nextBad_41 : decode b_K_nextBad 41 = .ok (.aload_n 0, 1) := by decide +kernel
theorem d_K_nextBad_42 : decode b_K_nextBad 42 = .ok (.getfield 39, 3) := by decide +kernel
theorem d_K_nextBad_45 : decode b_K_nextBad 45 = .ok (.invokevirtual 85, 3) := by decide +kernel
theorem d_K_nextBad_48 : decode b_K_nextBad 48 = .ok (.istore_n 2, 1) := by decide +kernel
theorem d_K_nextBad_49 : decode b_K_nextBad 49 = .ok (.iload_n 2, 1) := by decide +kernel
theorem d_K_nextBad_50 : decode b_K_nextBad 50 = .ok (.iconst (-1), 1) := by decide +kernel
theorem d_K_nextBad_51 : decode b_K_nextBad 51 = .ok (.if_icmp .eq 5, 3) := by decide +kernel
theorem d_K_nextBad_54 : decode b_K_nextBad 54 = .ok (.iload_n 2, 1) := by decide +kernel
theorem d_K_nextBad_55 : decode b_K_nextBad 55 = .ok (.ireturn, 1) := by decide +kernel
theorem d_K_nextBad_56 : decode b_K_nextBad 56 = .ok (.aload_n 0, 1) := by decide +kernel
theorem d_K_nextBad_57 : decode b_K_nextBad 57 = .ok (.iload_n 1, 1) := by decide +kernel
theorem d_K_nextBad_58 : decode b_K_nextBad 58 = .ok (.iconst 1, 1) := by decide +kernel
theorem d_K_nextBad_59 : decode b_K_nextBad 59 = .ok (.iadd, 1) := by decide +kernel
theorem d_K_nextBad_60 : decode b_K_nextBad 60 = .ok (.invokevirtual 106, 3) := by decide +kernel
theorem d_K_nextBad_63 : decode b_K_nextBad 63 = .ok (.iinc 1 1, 3) := by decide +kernel
theorem d_K_nextBad_66 : decode b_K_nextBad 66 = .ok (.goto (-61), 3) := by decide +kernel
theorem d_K_nextBad_69 : decode b_K_nextBad 69 = .ok (.iconst (-1), 1) := by decide +kernel
theorem d_K_nextBad_70 : decode b_K_nextBad 70 = .ok (.ireturn, 1) := by decide +kernel
theorem d_K_retry_0 : decode b_K_retry 0 = .ok (.aload_n 0, 1) := by decide +kernel
theorem d_K_retry_1 : decode b_K_retry 1 = .ok (.invokevirtual 100, 3) := by decide +kernel
theorem d_K_retry_4 : decode b_K_retry 4 = .ok (.istore_n 1, 1) := by decide +kernel
theorem d_K_retry_5 : decode b_K_retry 5 = .ok (.iload_n 1, 1) := by decide +kernel
theorem d_K_retry_6 : decode b_K_retry 6 = .ok (.iconst (-1), 1) := by decide +kernel
theorem d_K_retry_7 : decode b_K_retry 7 = .ok (.if_icmp .ne 5, 3) := by decide +kernel
theorem d_K_retry_10 : decode b_K_retry 10 = .ok (.iconst 0, 1) := by decide +kernel
theorem d_K_retry_11 : decode b_K_retry 11 = .ok (.ireturn, 1) := by decide +kernel
theorem d_K_retry_12 : decode b_K_retry 12 = .ok (.aload_n 0, 1) := by decide +kernel
theorem d_K_retry_13 : decode b_K_retry 13 = .ok (.iload_n 1, 1) := by decide +kernel
theorem d_K_retry_14 : decode b_K_retry 14 = .ok (.iload_n 1, 1) := by decide +kernel
theorem d_K_retry_15 : decode b_K_retry 15 = .ok (.iconst 1, 1) := by decide +kernel
theorem d_K_retry_16 : decode b_K_retry 16 = .ok (.iadd, 1) := by decide +kernel
theorem d_K_retry_17 : decode b_K_retry 17 = .ok (.iconst 3, 1) := by decide +kernel
theorem d_K_retry_18 : decode b_K_retry 18 = .ok (.invokevirtual 77, 3) := by decide +kernel
theorem d_K_retry_21 : decode b_K_retry 21 = .ok (.pop, 1) := by decide +kernel
theorem d_K_retry_22 : decode b_K_retry 22 = .ok (.aload_n 0, 1) := by decide +kernel
theorem d_K_retry_23 : decode b_K_retry 23 = .ok (.aload_n 0, 1) := by decide +kernel
theorem d_K_retry_24 : decode b_K_retry 24 = .ok (.aload_n 0, 1) := by decide +kernel
theorem d_K_retry_25 : decode b_K_retry 25 = .ok (.getfield 42, 3) := by decide +kernel
theorem d_K_retry_28 : decode b_K_retry 28 = .ok (.invokevirtual 103, 3) := by decide +kernel
theorem d_K_retry_31 : decode b_K_retry 31 = .ok (.ifCond .eq 9, 3) := by decide +kernel
theorem d_K_retry_34 : decode b_K_retry 34 = .ok (.iload_n 1, 1) := by decide +kernel
theorem d_K_retry_35 : decode b_K_retry 35 = .ok (.iconst 1, 1) := by decide +kernel
theorem d_K_retry_36 : decode b_K_retry 36 = .ok (.iadd, 1) := by decide +kernel
theorem d_K_retry_37 : decode b_K_retry 37 = .ok (.goto 4, 3) := by decide +kernel
theorem d_K_retry_40 : decode b_K_retry 40 = .ok (.iload_n 1, 1) := by decide +kernel
theorem d_K_retry_41 : decode b_K_retry 41 = .ok (.putfield 39, 3) := by decide +kernel
theorem d_K_retry_44 : decode b_K_retry 44 = .ok (.iconst 1, 1) := by decide +kernel
theorem d_K_retry_45 : decode b_K_retry 45 = .ok (.ireturn, 1) := by decide +kernel
theorem d_K_readIn_0 : decode b_K_readIn 0 = .ok (.iload_n 1, 1) := by decide +kernel
theorem d_K_readIn_1 : decode b_K_readIn 1 = .ok (.tableswitch 71 0 5 #[39, 45, 50, 56, 61, 66], 39) := by decide +kernel
theorem d_K_readIn_40 : decode b_K_readIn 40 = .ok (.aload_n 0, 1) := by decide +kernel
theorem d_K_readIn_41 : decode b_K_readIn 41 = .ok (.iconst 1, 1) := by decide +kernel
theorem d_K_readIn_42 : decode b_K_readIn 42 = .ok (.invokevirtual 53, 3) := by decide +kernel
theorem d_K_readIn_45 : decode b_K_readIn 45 = .ok (.ireturn, 1) := by decide +kernel
theorem d_K_readIn_46 : decode b_K_readIn 46 = .ok (.aload_n 0, 1) := by decide +kernel
theorem d_K_readIn_47 : decode b_K_readIn 47 = .ok (.invokevirtual 57, 3) := by decide +kernel
theorem d_K_readIn_50 : decode b_K_readIn 50 = .ok (.ireturn, 1) := by decide +kernel
theorem d_K_readIn_51 : decode b_K_readIn 51 = .ok (.aload_n 0, 1) := by decide +kernel
theorem d_K_readIn_52 : decode b_K_readIn 52 = .ok (.iconst 0, 1) := by decide +kernel
theorem d_K_readIn_53 : decode b_K_readIn 53 = .ok (.invokevirtual 53, 3) := by decide +kernel
theorem d_K_readIn_56 : decode b_K_readIn 56 = .ok (.ireturn, 1) := by decide +kernel
theorem d_K_readIn_57 : decode b_K_readIn 57 = .ok (.aload_n 0, 1) := by decide +kernel
theorem d_K_readIn_58 : decode b_K_readIn 58 = .ok (.invokevirtual 61, 3) := by decide +kernel
theorem d_K_readIn_61 : decode b_K_readIn 61 = .ok (.ireturn, 1) := by decide +kernel
theorem d_K_readIn_62 : decode b_K_readIn 62 = .ok (.aload_n 0, 1) := by decide +kernel
theorem d_K_readIn_63 : decode b_K_readIn 63 = .ok (.invokevirtual 64, 3) := by decide +kernel
theorem d_K_readIn_66 : decode b_K_readIn 66 = .ok (.ireturn, 1) := by decide +kernel
theorem d_K_readIn_67 : decode b_K_readIn 67 = .ok (.aload_n 0, 1) := by decide +kernel
theorem d_K_readIn_68 : decode b_K_readIn 68 = .ok (.invokevirtual 67, 3) := by decide +kernel
theorem d_K_readIn_71 : decode b_K_readIn 71 = .ok (.ireturn, 1) := by decide +kernel
theorem d_K_readIn_72 : decode b_K_readIn 72 = .ok (.iconst 0, 1) := by decide +kernel
theorem d_K_readIn_73 : decode b_K_readIn 73 = .ok (.ireturn, 1) := by decide +kernel
theorem d_K_makeStep_0 : decode b_K_makeStep 0 = .ok (.aload_n 0, 1) := by decide +kernel
theorem d_K_makeStep_1 : decode b_K_makeStep 1 = .ok (.getfield 19, 3) := by decide +kernel
theorem d_K_makeStep_4 : decode b_K_makeStep 4 = .ok (.istore_n 1, 1) := by decide +kernel
theorem d_K_makeStep_5 : decode b_K_makeStep 5 = .ok (.iload_n 1, 1) := by decide +kernel
theorem d_K_makeStep_6 : decode b_K_makeStep 6 = .ok (.bipush 6, 2) := by decide +kernel
theorem d_K_makeStep_8 : decode b_K_makeStep 8 = .ok (.if_icmp .ge 26, 3) := by decide +kernel
theorem d_K_makeStep_11 : decode b_K_makeStep 11 = .ok (.aload_n 0, 1) := by decide +kernel
theorem d_K_makeStep_12 : decode b_K_makeStep 12 = .ok (.iload_n 1, 1) := by decide +kernel
theorem d_K_makeStep_13 : decode b_K_makeStep 13 = .ok (.invokevirtual 49, 3) := by decide +kernel
theorem d_K_makeStep_16 : decode b_K_makeStep 16 = .ok (.ifCond .eq 5, 3) := by decide +kernel
theorem d_K_makeStep_19 : decode b_K_makeStep 19 = .ok (.iload_n 1, 1) := by decide +kernel
theorem d_K_makeStep_20 : decode b_K_makeStep 20 = .ok (.ireturn, 1) := by decide +kernel
theorem d_K_makeStep_21 : decode b_K_makeStep 21 = .ok (.aload_n 0, 1) := by decide +kernel
theorem d_K_makeStep_22 : decode b_K_makeStep 22 = .ok (.iload_n 1, 1) := by decide +kernel
theorem d_K_makeStep_23 : decode b_K_makeStep 23 = .ok (.iconst 1, 1) := by decide +kernel
theorem d_K_makeStep_24 : decode b_K_makeStep 24 = .ok (.iadd, 1) := by decide +kernel
theorem d_K_makeStep_25 : decode b_K_makeStep 25 = .ok (.invokevirtual 26, 3) := by decide +kernel
theorem d_K_makeStep_28 : decode b_K_makeStep 28 = .ok (.iinc 1 1, 3) := by decide +kernel
theorem d_K_makeStep_31 : decode b_K_makeStep 31 = .ok (.goto (-26), 3) := by decide +kernel
theorem d_K_makeStep_34 : decode b_K_makeStep 34 = .ok (.bipush 6, 2) := by decide +kernel
theorem d_K_makeStep_36 : decode b_K_makeStep 36 = .ok (.ireturn, 1) := by decide +kernel
theorem d_D_lay_0 : decode b_D_lay 0 = .ok (.aload_n 0, 1) := by decide +kernel
theorem d_D_lay_1 : decode b_D_lay 1 = .ok (.iload_n 1, 1) := by decide +kernel
theorem d_D_lay_2 : decode b_D_lay 2 = .ok (.putfield 24, 3) := by decide +kernel
theorem d_D_lay_5 : decode b_D_lay 5 = .ok (.aload_n 0, 1) := by decide +kernel
theorem d_D_lay_6 : decode b_D_lay 6 = .ok (.iconst 0, 1) := by decide +kernel
theorem d_D_lay_7 : decode b_D_lay 7 = .ok (.putfield 28, 3) := by decide +kernel
theorem d_D_lay_10 : decode b_D_lay 10 = .ok (.aload_n 0, 1) := by decide +kernel
theorem d_D_lay_11 : decode b_D_lay 11 = .ok (.iconst 0, 1) := by decide +kernel
theorem d_D_lay_12 : decode b_D_lay 12 = .ok (.putfield 31, 3) := by decide +kernel
theorem d_D_lay_15 : decode b_D_lay 15 = .ok (.aload_n 0, 1) := by decide +kernel
theorem d_D_lay_16 : decode b_D_lay 16 = .ok (.getfield 9, 3) := by decide +kernel
theorem d_D_lay_19 : decode b_D_lay 19 = .ok (.iconst 0, 1) := by decide +kernel
theorem d_D_lay_20 : decode b_D_lay 20 = .ok (.invokestatic 34, 3) := by decide +kernel
theorem d_D_lay_23 : decode b_D_lay 23 = .ok (.aload_n 0, 1) := by decide +kernel
theorem d_D_lay_24 : decode b_D_lay 24 = .ok (.getfield 15, 3) := by decide +kernel
theorem d_D_lay_27 : decode b_D_lay 27 = .ok (.iconst 0, 1) := by decide +kernel
theorem d_D_lay_28 : decode b_D_lay 28 = .ok (.invokestatic 34, 3) := by decide +kernel
theorem d_D_lay_31 : decode b_D_lay 31 = .ok (.aload_n 0, 1) := by decide +kernel
theorem d_D_lay_32 : decode b_D_lay 32 = .ok (.getfield 18, 3) := by decide +kernel
theorem d_D_lay_35 : decode b_D_lay 35 = .ok (.iconst 0, 1) := by decide +kernel
theorem d_D_lay_36 : decode b_D_lay 36 = .ok (.invokestatic 34, 3) := by decide +kernel
theorem d_D_lay_39 : decode b_D_lay 39 = .ok (.aload_n 0, 1) := by decide +kernel
theorem d_D_lay_40 : decode b_D_lay 40 = .ok (.getfield 21, 3) := by decide +kernel
theorem d_D_lay_43 : decode b_D_lay 43 = .ok (.iconst 0, 1) := by decide +kernel
theorem d_D_lay_44 : decode b_D_lay 44 = .ok (.invokestatic 34, 3) := by decide +kernel
theorem d_D_lay_47 : decode b_D_lay 47 = .ok (.return_, 1) := by decide +kernel
theorem d_D_size_0 : decode b_D_size 0 = .ok (.aload_n 0, 1) := by decide +kernel
theorem d_D_size_1 : decode b_D_size 1 = .ok (.getfield 24, 3) := by decide +kernel
theorem d_D_size_4 : decode b_D_size 4 = .ok (.ireturn, 1) := by decide +kernel
theorem d_D_has_0 : decode b_D_has 0 = .ok (.iload_n 1, 1) := by decide +kernel
theorem d_D_has_1 : decode b_D_has 1 = .ok (.ifCond .lt 15, 3) := by decide +kernel
theorem d_D_has_4 : decode b_D_has 4 = .ok (.iload_n 1, 1) := by decide +kernel
theorem d_D_has_5 : decode b_D_has 5 = .ok (.aload_n 0, 1) := by decide +kernel
theorem d_D_has_6 : decode b_D_has 6 = .ok (.getfield 24, 3) := by decide +kernel
theorem d_D_has_9 : decode b_D_has 9 = .ok (.if_icmp .ge 7, 3) := by decide +kernel
theorem d_D_has_12 : decode b_D_has 12 = .ok (.iconst 1, 1) := by decide +kernel
theorem d_D_has_13 : decode b_D_has 13 = .ok (.goto 4, 3) := by decide +kernel
theorem d_D_has_16 : decode b_D_has 16 = .ok (.iconst 0, 1) := by decide +kernel
theorem d_D_has_17 : decode b_D_has 17 = .ok (.ireturn, 1) := by decide +kernel
theorem d_D_put_0 : decode b_D_put 0 = .ok (.aload_n 0, 1) := by decide +kernel
theorem d_D_put_1 : decode b_D_put 1 = .ok (.iload_n 1, 1) := by decide +kernel
theorem d_D_put_2 : decode b_D_put 2 = .ok (.invokevirtual 40, 3) := by decide +kernel
theorem d_D_put_5 : decode b_D_put 5 = .ok (.ifCond .eq 17, 3) := by decide +kernel
theorem d_D_put_8 : decode b_D_put 8 = .ok (.aload_n 0, 1) := by decide +kernel
theorem d_D_put_9 : decode b_D_put 9 = .ok (.getfield 9, 3) := by decide +kernel
theorem d_D_put_12 : decode b_D_put 12 = .ok (.iload_n 1, 1) := by decide +kernel
theorem d_D_put_13 : decode b_D_put 13 = .ok (.iload_n 2, 1) := by decide +kernel
theorem d_D_put_14 : decode b_D_put 14 = .ok (.iastore, 1) := by decide +kernel
theorem d_D_put_15 : decode b_D_put 15 = .ok (.aload_n 0, 1) := by decide +kernel
theorem d_D_put_16 : decode b_D_put 16 = .ok (.getfield 15, 3) := by decide +kernel
theorem d_D_put_19 : decode b_D_put 19 = .ok (.iload_n 1, 1) := by decide +kernel
theorem d_D_put_20 : decode b_D_put 20 = .ok (.iload_n 3, 1) := by decide +kernel
theorem d_D_put_21 : decode b_D_put 21 = .ok (.iastore, 1) := by decide +kernel
theorem d_D_put_22 : decode b_D_put 22 = .ok (.return_, 1) := by decide +kernel
theorem d_D_deliver_0 : decode b_D_deliver 0 = .ok (.aload_n 0, 1) := by decide +kernel
theorem d_D_deliver_1 : decode b_D_deliver 1 = .ok (.iload_n 1, 1) := by decide +kernel
theorem d_D_deliver_2 : decode b_D_deliver 2 = .ok (.invokevirtual 40, 3) := by decide +kernel
theorem d_D_deliver_5 : decode b_D_deliver 5 = .ok (.ifCond .eq 10, 3) := by decide +kernel
theorem d_D_deliver_8 : decode b_D_deliver 8 = .ok (.aload_n 0, 1) := by decide +kernel
theorem d_D_deliver_9 : decode b_D_deliver 9 = .ok (.getfield 21, 3) := by decide +kernel
theorem d_D_deliver_12 : decode b_D_deliver 12 = .ok (.iload_n 1, 1) := by decide +kernel
theorem d_D_deliver_13 : decode b_D_deliver 13 = .ok (.iload_n 2, 1) := by decide +kernel
theorem d_D_deliver_14 : decode b_D_deliver 14 = .ok (.iastore, 1) := by decide +kernel
theorem d_D_deliver_15 : decode b_D_deliver 15 = .ok (.return_, 1) := by decide +kernel
theorem d_D_wordOut_0 : decode b_D_wordOut 0 = .ok (.aload_n 0, 1) := by decide +kernel
theorem d_D_wordOut_1 : decode b_D_wordOut 1 = .ok (.iload_n 1, 1) := by decide +kernel
theorem d_D_wordOut_2 : decode b_D_wordOut 2 = .ok (.invokevirtual 40, 3) := by decide +kernel
theorem d_D_wordOut_5 : decode b_D_wordOut 5 = .ok (.ifCond .eq 12, 3) := by decide +kernel
theorem d_D_wordOut_8 : decode b_D_wordOut 8 = .ok (.aload_n 0, 1) := by decide +kernel
theorem d_D_wordOut_9 : decode b_D_wordOut 9 = .ok (.getfield 21, 3) := by decide +kernel
theorem d_D_wordOut_12 : decode b_D_wordOut 12 = .ok (.iload_n 1, 1) := by decide +kernel
theorem d_D_wordOut_13 : decode b_D_wordOut 13 = .ok (.iaload, 1) := by decide +kernel
theorem d_D_wordOut_14 : decode b_D_wordOut 14 = .ok (.goto 4, 3) := by decide +kernel
theorem d_D_wordOut_17 : decode b_D_wordOut 17 = .ok (.iconst 0, 1) := by decide +kernel
theorem d_D_wordOut_18 : decode b_D_wordOut 18 = .ok (.ireturn, 1) := by decide +kernel
theorem d_D_readsOf_0 : decode b_D_readsOf 0 = .ok (.aload_n 0, 1) := by decide +kernel
theorem d_D_readsOf_1 : decode b_D_readsOf 1 = .ok (.iload_n 1, 1) := by decide +kernel
theorem d_D_readsOf_2 : decode b_D_readsOf 2 = .ok (.invokevirtual 40, 3) := by decide +kernel
theorem d_D_readsOf_5 : decode b_D_readsOf 5 = .ok (.ifCond .eq 12, 3) := by decide +kernel
theorem d_D_readsOf_8 : decode b_D_readsOf 8 = .ok (.aload_n 0, 1) := by decide +kernel
theorem d_D_readsOf_9 : decode b_D_readsOf 9 = .ok (.getfield 18, 3) := by decide +kernel
theorem d_D_readsOf_12 : decode b_D_readsOf 12 = .ok (.iload_n 1, 1) := by decide +kernel
theorem d_D_readsOf_13 : decode b_D_readsOf 13 = .ok (.iaload, 1) := by decide +kernel
theorem d_D_readsOf_14 : decode b_D_readsOf 14 = .ok (.goto 4, 3) := by decide +kernel
theorem d_D_readsOf_17 : decode b_D_readsOf 17 = .ok (.iconst 0, 1) := by decide +kernel
theorem d_D_readsOf_18 : decode b_D_readsOf 18 = .ok (.ireturn, 1) := by decide +kernel
theorem d_D_stretchesRead_0 : decode b_D_stretchesRead 0 = .ok (.iload_n 1, 1) := by decide +kernel
theorem d_D_stretchesRead_1 : decode b_D_stretchesRead 1 = .ok (.ifCond .eq 10, 3) := by decide +kernel
theorem d_D_stretchesRead_4 : decode b_D_stretchesRead 4 = .ok (.aload_n 0, 1) := by decide +kernel
theorem d_D_stretchesRead_5 : decode b_D_stretchesRead 5 = .ok (.getfield 31, 3) := by decide +kernel
theorem d_D_stretchesRead_8 : decode b_D_stretchesRead 8 = .ok (.goto 7, 3) := by decide +kernel
theorem d_D_stretchesRead_11 : decode b_D_stretchesRead 11 = .ok (.aload_n 0, 1) := by decide +kernel
theorem d_D_stretchesRead_12 : decode b_D_stretchesRead 12 = .ok (.getfield 28, 3) := by decide +kernel
theorem d_D_stretchesRead_15 : decode b_D_stretchesRead 15 = .ok (.ireturn, 1) := by decide +kernel
theorem d_V_wipe_0 : decode b_V_wipe 0 = .ok (.aload_n 0, 1) := by decide +kernel
theorem d_V_wipe_1 : decode b_V_wipe 1 = .ok (.iconst 0, 1) := by decide +kernel
theorem d_V_wipe_2 : decode b_V_wipe 2 = .ok (.putfield 20, 3) := by decide +kernel
theorem d_V_wipe_5 : decode b_V_wipe 5 = .ok (.iconst 0, 1) := by decide +kernel
theorem d_V_wipe_6 : decode b_V_wipe 6 = .ok (.istore_n 1, 1) := by decide +kernel
theorem d_V_wipe_7 : decode b_V_wipe 7 = .ok (.iload_n 1, 1) := by decide +kernel
theorem d_V_wipe_8 : decode b_V_wipe 8 = .ok (.iconst 2, 1) := by decide +kernel
theorem d_V_wipe_9 : decode b_V_wipe 9 = .ok (.if_icmp .ge 19, 3) := by decide +kernel
theorem d_V_wipe_12 : decode b_V_wipe 12 = .ok (.aload_n 0, 1) := by decide +kernel
theorem d_V_wipe_13 : decode b_V_wipe 13 = .ok (.getfield 11, 3) := by decide +kernel
theorem d_V_wipe_16 : decode b_V_wipe 16 = .ok (.iload_n 1, 1) := by decide +kernel
theorem d_V_wipe_17 : decode b_V_wipe 17 = .ok (.aaload, 1) := by decide +kernel
theorem d_V_wipe_18 : decode b_V_wipe 18 = .ok (.iconst 0, 1) := by decide +kernel
theorem d_V_wipe_19 : decode b_V_wipe 19 = .ok (.invokestatic 24, 3) := by decide +kernel
theorem d_V_wipe_22 : decode b_V_wipe 22 = .ok (.iinc 1 1, 3) := by decide +kernel
theorem d_V_wipe_25 : decode b_V_wipe 25 = .ok (.goto (-18), 3) := by decide +kernel
theorem d_V_wipe_28 : decode b_V_wipe 28 = .ok (.return_, 1) := by decide +kernel
theorem d_V_has_0 : decode b_V_has 0 = .ok (.iload_n 1, 1) := by decide +kernel
theorem d_V_has_1 : decode b_V_has 1 = .ok (.ifCond .lt 23, 3) := by decide +kernel
theorem d_V_has_4 : decode b_V_has 4 = .ok (.iload_n 1, 1) := by decide +kernel
theorem d_V_has_5 : decode b_V_has 5 = .ok (.iconst 2, 1) := by decide +kernel
theorem d_V_has_6 : decode b_V_has 6 = .ok (.if_icmp .ge 18, 3) := by decide +kernel
theorem d_V_has_9 : decode b_V_has 9 = .ok (.iload_n 2, 1) := by decide +kernel
theorem d_V_has_10 : decode b_V_has 10 = .ok (.ifCond .lt 14, 3) := by decide +kernel
theorem d_V_has_13 : decode b_V_has 13 = .ok (.iload_n 2, 1) := by decide +kernel
theorem d_V_has_14 : decode b_V_has 14 = .ok (.sipush 140, 3) := by decide +kernel
theorem d_V_has_17 : decode b_V_has 17 = .ok (.if_icmp .ge 7, 3) := by decide +kernel
theorem d_V_has_20 : decode b_V_has 20 = .ok (.iconst 1, 1) := by decide +kernel
theorem d_V_has_21 : decode b_V_has 21 = .ok (.goto 4, 3) := by decide +kernel
theorem d_V_has_24 : decode b_V_has 24 = .ok (.iconst 0, 1) := by decide +kernel
theorem d_V_has_25 : decode b_V_has 25 = .ok (.ireturn, 1) := by decide +kernel
theorem d_V_byteAt_0 : decode b_V_byteAt 0 = .ok (.aload_n 0, 1) := by decide +kernel
theorem d_V_byteAt_1 : decode b_V_byteAt 1 = .ok (.iload_n 1, 1) := by decide +kernel
theorem d_V_byteAt_2 : decode b_V_byteAt 2 = .ok (.iload_n 2, 1) := by decide +kernel
theorem d_V_byteAt_3 : decode b_V_byteAt 3 = .ok (.invokevirtual 30, 3) := by decide +kernel
theorem d_V_byteAt_6 : decode b_V_byteAt 6 = .ok (.ifCond .eq 14, 3) := by decide +kernel
theorem d_V_byteAt_9 : decode b_V_byteAt 9 = .ok (.aload_n 0, 1) := by decide +kernel
theorem d_V_byteAt_10 : decode b_V_byteAt 10 = .ok (.getfield 11, 3) := by decide +kernel
theorem d_V_byteAt_13 : decode b_V_byteAt 13 = .ok (.iload_n 1, 1) := by decide +kernel
theorem d_V_byteAt_14 : decode b_V_byteAt 14 = .ok (.aaload, 1) := by decide +kernel
theorem d_V_byteAt_15 : decode b_V_byteAt 15 = .ok (.iload_n 2, 1) := by decide +kernel
theorem d_V_byteAt_16 : decode b_V_byteAt 16 = .ok (.iaload, 1) := by decide +kernel
theorem d_V_byteAt_17 : decode b_V_byteAt 17 = .ok (.goto 4, 3) := by decide +kernel
theorem d_V_byteAt_20 : decode b_V_byteAt 20 = .ok (.iconst (-1), 1) := by decide +kernel
theorem d_V_byteAt_21 : decode b_V_byteAt 21 = .ok (.ireturn, 1) := by decide +kernel
theorem d_V_put_0 : decode b_V_put 0 = .ok (.aload_n 0, 1) := by decide +kernel
theorem d_V_put_1 : decode b_V_put 1 = .ok (.iload_n 1, 1) := by decide +kernel
theorem d_V_put_2 : decode b_V_put 2 = .ok (.iload_n 2, 1) := by decide +kernel
theorem d_V_put_3 : decode b_V_put 3 = .ok (.invokevirtual 30, 3) := by decide +kernel
theorem d_V_put_6 : decode b_V_put 6 = .ok (.ifCond .eq 12, 3) := by decide +kernel
theorem d_V_put_9 : decode b_V_put 9 = .ok (.aload_n 0, 1) := by decide +kernel
theorem d_V_put_10 : decode b_V_put 10 = .ok (.getfield 11, 3) := by decide +kernel
theorem d_V_put_13 : decode b_V_put 13 = .ok (.iload_n 1, 1) := by decide +kernel
theorem d_V_put_14 : decode b_V_put 14 = .ok (.aaload, 1) := by decide +kernel
theorem d_V_put_15 : decode b_V_put 15 = .ok (.iload_n 2, 1) := by decide +kernel
theorem d_V_put_16 : decode b_V_put 16 = .ok (.iload_n 3, 1) := by decide +kernel
theorem d_V_put_17 : decode b_V_put 17 = .ok (.iastore, 1) := by decide +kernel
theorem d_V_put_18 : decode b_V_put 18 = .ok (.return_, 1) := by decide +kernel
theorem d_V_behindNumber_0 : decode b_V_behindNumber 0 = .ok (.iload_n 1, 1) := by decide +kernel
theorem d_V_behindNumber_1 : decode b_V_behindNumber 1 = .ok (.iconst 1, 1) := by decide +kernel
theorem d_V_behindNumber_2 : decode b_V_behindNumber 2 = .ok (.iadd, 1) := by decide +kernel
theorem d_V_behindNumber_3 : decode b_V_behindNumber 3 = .ok (.sipush 200, 3) := by decide +kernel
theorem d_V_behindNumber_6 : decode b_V_behindNumber 6 = .ok (.irem, 1) := by decide +kernel
theorem d_V_behindNumber_7 : decode b_V_behindNumber 7 = .ok (.ireturn, 1) := by decide +kernel
theorem d_S_startsRun_0 : decode b_S_startsRun 0 = .ok (.iload_n 1, 1) := by decide +kernel
theorem d_S_startsRun_1 : decode b_S_startsRun 1 = .ok (.ifCond .eq 18, 3) := by decide +kernel
theorem d_S_startsRun_4 : decode b_S_startsRun 4 = .ok (.aload_n 0, 1) := by decide +kernel
theorem d_S_startsRun_5 : decode b_S_startsRun 5 = .ok (.iload_n 1, 1) := by decide +kernel
theorem d_S_startsRun_6 : decode b_S_startsRun 6 = .ok (.invokevirtual 34, 3) := by decide +kernel
theorem d_S_startsRun_9 : decode b_S_startsRun 9 = .ok (.aload_n 0, 1) := by decide +kernel
theorem d_S_startsRun_10 : decode b_S_startsRun 10 = .ok (.iload_n 1, 1) := by decide +kernel
theorem d_S_startsRun_11 : decode b_S_startsRun 11 = .ok (.iconst 1, 1) := by decide +kernel
theorem d_S_startsRun_12 : decode b_S_startsRun 12 = .ok (.isub, 1) := by decide +kernel
theorem d_S_startsRun_13 : decode b_S_startsRun 13 = .ok (.invokevirtual 34, 3) := by decide +kernel
theorem d_S_startsRun_16 : decode b_S_startsRun 16 = .ok (.if_icmp .eq 7, 3) := by decide +kernel
theorem d_S_startsRun_19 : decode b_S_startsRun 19 = .ok (.iconst 1, 1) := by decide +kernel
theorem d_S_startsRun_20 : decode b_S_startsRun 20 = .ok (.goto 4, 3) := by decide +kernel
theorem d_S_startsRun_23 : decode b_S_startsRun 23 = .ok (.iconst 0, 1) := by decide +kernel
theorem d_S_startsRun_24 : decode b_S_startsRun 24 = .ok (.ireturn, 1) := by decide +kernel
theorem d_V_placeOfRun_0 : decode b_V_placeOfRun 0 = .ok (.iconst 2, 1) := by decide +kernel
theorem d_V_placeOfRun_1 : decode b_V_placeOfRun 1 = .ok (.iconst 2, 1) := by decide +kernel
theorem d_V_placeOfRun_2 : decode b_V_placeOfRun 2 = .ok (.iload_n 1, 1) := by decide +kernel
theorem d_V_placeOfRun_3 : decode b_V_placeOfRun 3 = .ok (.imul, 1) := by decide +kernel
theorem d_V_placeOfRun_4 : decode b_V_placeOfRun 4 = .ok (.iadd, 1) := by decide +kernel
theorem d_V_placeOfRun_5 : decode b_V_placeOfRun 5 = .ok (.ireturn, 1) := by decide +kernel
theorem d_V_putDrawn_0 : decode b_V_putDrawn 0 = .ok (.iload_n 1, 1) := by decide +kernel
theorem d_V_putDrawn_1 : decode b_V_putDrawn 1 = .ok (.ifCond .lt 19, 3) := by decide +kernel
theorem d_V_putDrawn_4 : decode b_V_putDrawn 4 = .ok (.iload_n 1, 1) := by decide +kernel
theorem d_V_putDrawn_5 : decode b_V_putDrawn 5 = .ok (.aload_n 0, 1) := by decide +kernel
theorem d_V_putDrawn_6 : decode b_V_putDrawn 6 = .ok (.getfield 16, 3) := by decide +kernel
theorem d_V_putDrawn_9 : decode b_V_putDrawn 9 = .ok (.arraylength, 1) := by decide +kernel
theorem d_V_putDrawn_10 : decode b_V_putDrawn 10 = .ok (.if_icmp .ge 10, 3) := by decide +kernel
theorem d_V_putDrawn_13 : decode b_V_putDrawn 13 = .ok (.aload_n 0, 1) := by decide +kernel
theorem d_V_putDrawn_14 : decode b_V_putDrawn 14 = .ok (.getfield 16, 3) := by decide +kernel
theorem d_V_putDrawn_17 : decode b_V_putDrawn 17 = .ok (.iload_n 1, 1) := by decide +kernel
theorem d_V_putDrawn_18 : decode b_V_putDrawn 18 = .ok (.iload_n 2, 1) := by decide +kernel
theorem d_V_putDrawn_19 : decode b_V_putDrawn 19 = .ok (.iastore, 1) := by decide +kernel
theorem d_V_putDrawn_20 : decode b_V_putDrawn 20 = .ok (.return_, 1) := by decide +kernel
theorem d_V_sumBefore_0 : decode b_V_sumBefore 0 = .ok (.iconst 0, 1) := by decide +kernel
theorem d_V_sumBefore_1 : decode b_V_sumBefore 1 = .ok (.istore_n 3, 1) := by decide +kernel
theorem d_V_sumBefore_2 : decode b_V_sumBefore 2 = .ok (.iconst 0, 1) := by decide +kernel
theorem d_V_sumBefore_3 : decode b_V_sumBefore 3 = .ok (.istore 4, 2) := by decide +kernel
theorem d_V_sumBefore_5 : decode b_V_sumBefore 5 = .ok (.iload 4, 2) := by decide +kernel
theorem d_V_sumBefore_7 : decode b_V_sumBefore 7 = .ok (.iload_n 2, 1) := by decide +kernel
theorem d_V_sumBefore_8 : decode b_V_sumBefore 8 = .ok (.if_icmp .ge 28, 3) := by decide +kernel
theorem d_V_sumBefore_11 : decode b_V_sumBefore 11 = .ok (.iload 4, 2) := by decide +kernel
theorem d_V_sumBefore_13 : decode b_V_sumBefore 13 = .ok (.aload_n 1, 1) := by decide +kernel
theorem d_V_sumBefore_14 : decode b_V_sumBefore 14 = .ok (.arraylength, 1) := by decide +kernel
theorem d_V_sumBefore_15 : decode b_V_sumBefore 15 = .ok (.if_icmp .ge 21, 3) := by decide +kernel
theorem d_V_sumBefore_18 : decode b_V_sumBefore 18 = .ok (.iload_n 3, 1) := by decide +kernel
theorem d_V_sumBefore_19 : decode b_V_sumBefore 19 = .ok (.aload_n 1, 1) := by decide +kernel
theorem d_V_sumBefore_20 : decode b_V_sumBefore 20 = .ok (.iload 4, 2) := by decide +kernel
theorem d_V_sumBefore_22 : decode b_V_sumBefore 22 = .ok (.iaload, 1) := by decide +kernel
theorem d_V_sumBefore_23 : decode b_V_sumBefore 23 = .ok (.iload 4, 2) := by decide +kernel
theorem d_V_sumBefore_25 : decode b_V_sumBefore 25 = .ok (.iconst 1, 1) := by decide +kernel
theorem d_V_sumBefore_26 : decode b_V_sumBefore 26 = .ok (.iadd, 1) := by decide +kernel
theorem d_V_sumBefore_27 : decode b_V_sumBefore 27 = .ok (.imul, 1) := by decide +kernel
theorem d_V_sumBefore_28 : decode b_V_sumBefore 28 = .ok (.iadd, 1) := by decide +kernel
theorem d_V_sumBefore_29 : decode b_V_sumBefore 29 = .ok (.istore_n 3, 1) := by decide +kernel
theorem d_V_sumBefore_30 : decode b_V_sumBefore 30 = .ok (.iinc 4 1, 3) := by decide +kernel
theorem d_V_sumBefore_33 : decode b_V_sumBefore 33 = .ok (.goto (-28), 3) := by decide +kernel
theorem d_V_sumBefore_36 : decode b_V_sumBefore 36 = .ok (.iload_n 3, 1) := by decide +kernel
theorem d_V_sumBefore_37 : decode b_V_sumBefore 37 = .ok (.sipush 251, 3) := by decide +kernel
theorem d_V_sumBefore_40 : decode b_V_sumBefore 40 = .ok (.irem, 1) := by decide +kernel
theorem d_V_sumBefore_41 : decode b_V_sumBefore 41 = .ok (.ireturn, 1) := by decide +kernel
theorem d_V_draw_0 : decode b_V_draw 0 = .ok (.iconst 0, 1) := by decide +kernel
theorem d_V_draw_1 : decode b_V_draw 1 = .ok (.istore_n 2, 1) := by decide +kernel
theorem d_V_draw_2 : decode b_V_draw 2 = .ok (.iconst 0, 1) := by decide +kernel
theorem d_V_draw_3 : decode b_V_draw 3 = .ok (.istore_n 3, 1) := by decide +kernel
theorem d_V_draw_4 : decode b_V_draw 4 = .ok (.iload_n 3, 1) := by decide +kernel
theorem d_V_draw_5 : decode b_V_draw 5 = .ok (.aload_n 1, 1) := by decide +kernel
theorem d_V_draw_6 : decode b_V_draw 6 = .ok (.invokevirtual 52, 3) := by decide +kernel
theorem d_V_draw_9 : decode b_V_draw 9 = .ok (.if_icmp .ge 54, 3) := by decide +kernel
theorem d_V_draw_12 : decode b_V_draw 12 = .ok (.aload_n 1, 1) := by decide +kernel
theorem d_V_draw_13 : decode b_V_draw 13 = .ok (.iload_n 3, 1) := by decide +kernel
theorem d_V_draw_14 : decode b_V_draw 14 = .ok (.invokevirtual 58, 3) := by decide +kernel
theorem d_V_draw_17 : decode b_V_draw 17 = .ok (.ifCond .eq 40, 3) := by decide +kernel
theorem d_V_draw_20 : decode b_V_draw 20 = .ok (.aload_n 0, 1) := by decide +kernel
theorem d_V_draw_21 : decode b_V_draw 21 = .ok (.aload_n 0, 1) := by decide +kernel
theorem d_V_draw_22 : decode b_V_draw 22 = .ok (.iload_n 2, 1) := by decide +kernel
theorem d_V_draw_23 : decode b_V_draw 23 = .ok (.invokevirtual 62, 3) := by decide +kernel
theorem d_V_draw_26 : decode b_V_draw 26 = .ok (.aload_n 1, 1) := by decide +kernel
theorem d_V_draw_27 : decode b_V_draw 27 = .ok (.iload_n 3, 1) := by decide +kernel
theorem d_V_draw_28 : decode b_V_draw 28 = .ok (.bipush 64, 2) := by decide +kernel
theorem d_V_draw_30 : decode b_V_draw 30 = .ok (.invokevirtual 65, 3) := by decide +kernel
theorem d_V_draw_33 : decode b_V_draw 33 = .ok (.iload_n 3, 1) := by decide +kernel
theorem d_V_draw_34 : decode b_V_draw 34 = .ok (.isub, 1) := by decide +kernel
theorem d_V_draw_35 : decode b_V_draw 35 = .ok (.invokevirtual 68, 3) := by decide +kernel
theorem d_V_draw_38 : decode b_V_draw 38 = .ok (.aload_n 0, 1) := by decide +kernel
theorem d_V_draw_39 : decode b_V_draw 39 = .ok (.aload_n 0, 1) := by decide +kernel
theorem d_V_draw_40 : decode b_V_draw 40 = .ok (.iload_n 2, 1) := by decide +kernel
theorem d_V_draw_41 : decode b_V_draw 41 = .ok (.invokevirtual 62, 3) := by decide +kernel
theorem d_V_draw_44 : decode b_V_draw 44 = .ok (.iconst 1, 1) := by decide +kernel
theorem d_V_draw_45 : decode b_V_draw 45 = .ok (.iadd, 1) := by decide +kernel
theorem d_V_draw_46 : decode b_V_draw 46 = .ok (.aload_n 1, 1) := by decide +kernel
theorem d_V_draw_47 : decode b_V_draw 47 = .ok (.iload_n 3, 1) := by decide +kernel
theorem d_V_draw_48 : decode b_V_draw 48 = .ok (.invokevirtual 72, 3) := by decide +kernel
theorem d_V_draw_51 : decode b_V_draw 51 = .ok (.invokevirtual 68, 3) := by decide +kernel
theorem d_V_draw_54 : decode b_V_draw 54 = .ok (.iinc 2 1, 3) := by decide +kernel
theorem d_V_draw_57 : decode b_V_draw 57 = .ok (.iinc 3 1, 3) := by decide +kernel
theorem d_V_draw_60 : decode b_V_draw 60 = .ok (.goto (-56), 3) := by decide +kernel
theorem d_V_draw_63 : decode b_V_draw 63 = .ok (.aload_n 0, 1) := by decide +kernel
theorem d_V_draw_64 : decode b_V_draw 64 = .ok (.iconst 0, 1) := by decide +kernel
theorem d_V_draw_65 : decode b_V_draw 65 = .ok (.aload_n 0, 1) := by decide +kernel
theorem d_V_draw_66 : decode b_V_draw 66 = .ok (.getfield 20, 3) := by decide +kernel
theorem d_V_draw_69 : decode b_V_draw 69 = .ok (.invokevirtual 68, 3) := by decide +kernel
theorem d_V_draw_72 : decode b_V_draw 72 = .ok (.aload_n 0, 1) := by decide +kernel
theorem d_V_draw_73 : decode b_V_draw 73 = .ok (.iconst 1, 1) := by decide +kernel
theorem d_V_draw_74 : decode b_V_draw 74 = .ok (.iload_n 2, 1) := by decide +kernel
theorem d_V_draw_75 : decode b_V_draw 75 = .ok (.invokevirtual 68, 3) := by decide +kernel
theorem d_V_draw_78 : decode b_V_draw 78 = .ok (.aload_n 0, 1) := by decide +kernel
theorem d_V_draw_79 : decode b_V_draw 79 = .ok (.iload_n 2, 1) := by decide +kernel
theorem d_V_draw_80 : decode b_V_draw 80 = .ok (.invokevirtual 62, 3) := by decide +kernel
theorem d_V_draw_83 : decode b_V_draw 83 = .ok (.istore_n 3, 1) := by decide +kernel
theorem d_V_draw_84 : decode b_V_draw 84 = .ok (.aload_n 0, 1) := by decide +kernel
theorem d_V_draw_85 : decode b_V_draw 85 = .ok (.iload_n 3, 1) := by decide +kernel
theorem d_V_draw_86 : decode b_V_draw 86 = .ok (.aload_n 0, 1) := by decide +kernel
theorem d_V_draw_87 : decode b_V_draw 87 = .ok (.aload_n 0, 1) := by decide +kernel
theorem d_V_draw_88 : decode b_V_draw 88 = .ok (.getfield 16, 3) := by decide +kernel
theorem d_V_draw_91 : decode b_V_draw 91 = .ok (.iload_n 3, 1) := by decide +kernel
theorem d_V_draw_92 : decode b_V_draw 92 = .ok (.invokevirtual 75, 3) := by decide +kernel
theorem d_V_draw_95 : decode b_V_draw 95 = .ok (.invokevirtual 68, 3) := by decide +kernel
theorem d_V_draw_98 : decode b_V_draw 98 = .ok (.iload_n 3, 1) := by decide +kernel
theorem d_V_draw_99 : decode b_V_draw 99 = .ok (.iconst 1, 1) := by decide +kernel
theorem d_V_draw_100 : decode b_V_draw 100 = .ok (.iadd, 1) := by decide +kernel
theorem d_V_draw_101 : decode b_V_draw 101 = .ok (.ireturn, 1) := by decide +kernel
theorem d_V_write_0 : decode b_V_write 0 = .ok (.aload_n 0, 1) := by decide +kernel
theorem d_V_write_1 : decode b_V_write 1 = .ok (.aload_n 0, 1) := by decide +kernel
theorem d_V_write_2 : decode b_V_write 2 = .ok (.aload_n 0, 1) := by decide +kernel
theorem d_V_write_3 : decode b_V_write 3 = .ok (.getfield 20, 3) := by decide +kernel
theorem d_V_write_6 : decode b_V_write 6 = .ok (.invokevirtual 34, 3) := by decide +kernel
theorem d_V_write_9 : decode b_V_write 9 = .ok (.putfield 20, 3) := by decide +kernel
theorem d_V_write_12 : decode b_V_write 12 = .ok (.iload_n 2, 1) := by decide +kernel
theorem d_V_write_13 : decode b_V_write 13 = .ok (.aload_n 0, 1) := by decide +kernel
theorem d_V_write_14 : decode b_V_write 14 = .ok (.aload_n 1, 1) := by decide +kernel
theorem d_V_write_15 : decode b_V_write 15 = .ok (.invokevirtual 38, 3) := by decide +kernel
theorem d_V_write_18 : decode b_V_write 18 = .ok (.invokestatic 42, 3) := by decide +kernel
theorem d_V_write_21 : decode b_V_write 21 = .ok (.istore_n 3, 1) := by decide +kernel
theorem d_V_write_22 : decode b_V_write 22 = .ok (.iconst 0, 1) := by decide +kernel
theorem d_V_write_23 : decode b_V_write 23 = .ok (.istore 4, 2) := by decide +kernel
theorem d_V_write_25 : decode b_V_write 25 = .ok (.iload 4, 2) := by decide +kernel
theorem d_V_write_27 : decode b_V_write 27 = .ok (.iload_n 3, 1) := by decide +kernel
theorem d_V_write_28 : decode b_V_write 28 = .ok (.if_icmp .ge 38, 3) := by decide +kernel
theorem d_V_write_31 : decode b_V_write 31 = .ok (.iload 4, 2) := by decide +kernel
theorem d_V_write_33 : decode b_V_write 33 = .ok (.aload_n 0, 1) := by decide +kernel
theorem d_V_write_34 : decode b_V_write 34 = .ok (.getfield 16, 3) := by decide +kernel
theorem d_V_write_37 : decode b_V_write 37 = .ok (.arraylength, 1) := by decide +kernel
theorem d_V_write_38 : decode b_V_write 38 = .ok (.if_icmp .ge 28, 3) := by decide +kernel
theorem d_V_write_41 : decode b_V_write 41 = .ok (.aload_n 0, 1) := by decide +kernel
theorem d_V_write_42 : decode b_V_write 42 = .ok (.aload_n 0, 1) := by decide +kernel
theorem d_V_write_43 : decode b_V_write 43 = .ok (.getfield 20, 3) := by decide +kernel
theorem d_V_write_46 : decode b_V_write 46 = .ok (.iconst 2, 1) := by decide +kernel
theorem d_V_write_47 : decode b_V_write 47 = .ok (.irem, 1) := by decide +kernel
theorem d_V_write_48 : decode b_V_write 48 = .ok (.iload 4, 2) := by decide +kernel
theorem d_V_write_50 : decode b_V_write 50 = .ok (.aload_n 0, 1) := by decide +kernel
theorem d_V_write_51 : decode b_V_write 51 = .ok (.getfield 16, 3) := by decide +kernel
theorem d_V_write_54 : decode b_V_write 54 = .ok (.iload 4, 2) := by decide +kernel
theorem d_V_write_56 : decode b_V_write 56 = .ok (.iaload, 1) := by decide +kernel
theorem d_V_write_57 : decode b_V_write 57 = .ok (.invokevirtual 48, 3) := by decide +kernel
theorem d_V_write_60 : decode b_V_write 60 = .ok (.iinc 4 1, 3) := by decide +kernel
theorem d_V_write_63 : decode b_V_write 63 = .ok (.goto (-38), 3) := by decide +kernel
theorem d_V_write_66 : decode b_V_write 66 = .ok (.aload_n 0, 1) := by decide +kernel
theorem d_V_write_67 : decode b_V_write 67 = .ok (.getfield 20, 3) := by decide +kernel
theorem d_V_write_70 : decode b_V_write 70 = .ok (.ireturn, 1) := by decide +kernel
theorem d_V_hasRuns_0 : decode b_V_hasRuns 0 = .ok (.iconst 0, 1) := by decide +kernel
theorem d_V_hasRuns_1 : decode b_V_hasRuns 1 = .ok (.istore 4, 2) := by decide +kernel
theorem d_V_hasRuns_3 : decode b_V_hasRuns 3 = .ok (.iconst (-1), 1) := by decide +kernel
theorem d_V_hasRuns_4 : decode b_V_hasRuns 4 = .ok (.istore 5, 2) := by decide +kernel
theorem d_V_hasRuns_6 : decode b_V_hasRuns 6 = .ok (.iconst 0, 1) := by decide +kernel
theorem d_V_hasRuns_7 : decode b_V_hasRuns 7 = .ok (.istore 6, 2) := by decide +kernel
theorem d_V_hasRuns_9 : decode b_V_hasRuns 9 = .ok (.iload 6, 2) := by decide +kernel
theorem d_V_hasRuns_11 : decode b_V_hasRuns 11 = .ok (.iload_n 2, 1) := by decide +kernel
theorem d_V_hasRuns_12 : decode b_V_hasRuns 12 = .ok (.if_icmp .ge 68, 3) := by decide +kernel
theorem d_V_hasRuns_15 : decode b_V_hasRuns 15 = .ok (.aload_n 0, 1) := by decide +kernel
theorem d_V_hasRuns_16 : decode b_V_hasRuns 16 = .ok (.iload_n 1, 1) := by decide +kernel
theorem d_V_hasRuns_17 : decode b_V_hasRuns 17 = .ok (.aload_n 0, 1) := by decide +kernel
theorem d_V_hasRuns_18 : decode b_V_hasRuns 18 = .ok (.iload 6, 2) := by decide +kernel
theorem d_V_hasRuns_20 : decode b_V_hasRuns 20 = .ok (.invokevirtual 62, 3) := by decide +kernel
theorem d_V_hasRuns_23 : decode b_V_hasRuns 23 = .ok (.invokevirtual 82, 3) := by decide +kernel
theorem d_V_hasRuns_26 : decode b_V_hasRuns 26 = .ok (.istore 7, 2) := by decide +kernel
theorem d_V_hasRuns_28 : decode b_V_hasRuns 28 = .ok (.aload_n 0, 1) := by decide +kernel
theorem d_V_hasRuns_29 : decode b_V_hasRuns 29 = .ok (.iload_n 1, 1) := by decide +kernel
theorem d_V_hasRuns_30 : decode b_V_hasRuns 30 = .ok (.aload_n 0, 1) := by decide +kernel
theorem d_V_hasRuns_31 : decode b_V_hasRuns 31 = .ok (.iload 6, 2) := by decide +kernel
theorem d_V_hasRuns_33 : decode b_V_hasRuns 33 = .ok (.invokevirtual 62, 3) := by decide +kernel
theorem d_V_hasRuns_36 : decode b_V_hasRuns 36 = .ok (.iconst 1, 1) := by decide +kernel
theorem d_V_hasRuns_37 : decode b_V_hasRuns 37 = .ok (.iadd, 1) := by decide +kernel
theorem d_V_hasRuns_38 : decode b_V_hasRuns 38 = .ok (.invokevirtual 82, 3) := by decide +kernel
theorem d_V_hasRuns_41 : decode b_V_hasRuns 41 = .ok (.istore 8, 2) := by decide +kernel
theorem d_V_hasRuns_43 : decode b_V_hasRuns 43 = .ok (.iload 7, 2) := by decide +kernel
theorem d_V_hasRuns_45 : decode b_V_hasRuns 45 = .ok (.ifCond .eq 16, 3) := by decide +kernel
theorem d_V_hasRuns_48 : decode b_V_hasRuns 48 = .ok (.iload 8, 2) := by decide +kernel
theorem d_V_hasRuns_50 : decode b_V_hasRuns 50 = .ok (.iconst 4, 1) := by decide +kernel
theorem d_V_hasRuns_51 : decode b_V_hasRuns 51 = .ok (.if_icmp .gt 10, 3) := by decide +kernel
theorem d_V_hasRuns_54 : decode b_V_hasRuns 54 = .ok (.iload 8, 2) := by decide +kernel
theorem d_V_hasRuns_56 : decode b_V_hasRuns 56 = .ok (.iload 5, 2) := by decide +kernel
theorem d_V_hasRuns_58 : decode b_V_hasRuns 58 = .ok (.if_icmp .ne 5, 3) := by decide +kernel
theorem d_V_hasRuns_61 : decode b_V_hasRuns 61 = .ok (.iconst 0, 1) := by decide +kernel
theorem d_V_hasRuns_62 : decode b_V_hasRuns 62 = .ok (.ireturn, 1) := by decide +kernel
theorem d_V_hasRuns_63 : decode b_V_hasRuns 63 = .ok (.iload 4, 2) := by decide +kernel
theorem d_V_hasRuns_65 : decode b_V_hasRuns 65 = .ok (.iload 7, 2) := by decide +kernel
theorem d_V_hasRuns_67 : decode b_V_hasRuns 67 = .ok (.iadd, 1) := by decide +kernel
theorem d_V_hasRuns_68 : decode b_V_hasRuns 68 = .ok (.istore 4, 2) := by decide +kernel
theorem d_V_hasRuns_70 : decode b_V_hasRuns 70 = .ok (.iload 8, 2) := by decide +kernel
theorem d_V_hasRuns_72 : decode b_V_hasRuns 72 = .ok (.istore 5, 2) := by decide +kernel
theorem d_V_hasRuns_74 : decode b_V_hasRuns 74 = .ok (.iinc 6 1, 3) := by decide +kernel
theorem d_V_hasRuns_77 : decode b_V_hasRuns 77 = .ok (.goto (-68), 3) := by decide +kernel
theorem d_V_hasRuns_80 : decode b_V_hasRuns 80 = .ok (.iload 4, 2) := by decide +kernel
theorem d_V_hasRuns_82 : decode b_V_hasRuns 82 = .ok (.iload_n 3, 1) := by decide +kernel
theorem d_V_hasRuns_83 : decode b_V_hasRuns 83 = .ok (.if_icmp .ne 7, 3) := by decide +kernel
theorem d_V_hasRuns_86 : decode b_V_hasRuns 86 = .ok (.iconst 1, 1) := by decide +kernel
theorem d_V_hasRuns_87 : decode b_V_hasRuns 87 = .ok (.goto 4, 3) := by decide +kernel
theorem d_V_hasRuns_90 : decode b_V_hasRuns 90 = .ok (.iconst 0, 1) := by decide +kernel
theorem d_V_hasRuns_91 : decode b_V_hasRuns 91 = .ok (.ireturn, 1) := by decide +kernel
theorem d_V_isWhole_0 : decode b_V_isWhole 0 = .ok (.aload_n 0, 1) := by decide +kernel
theorem d_V_isWhole_1 : decode b_V_isWhole 1 = .ok (.iload_n 1, 1) := by decide +kernel
theorem d_V_isWhole_2 : decode b_V_isWhole 2 = .ok (.iconst 1, 1) := by decide +kernel
theorem d_V_isWhole_3 : decode b_V_isWhole 3 = .ok (.invokevirtual 82, 3) := by decide +kernel
theorem d_V_isWhole_6 : decode b_V_isWhole 6 = .ok (.istore_n 3, 1) := by decide +kernel
theorem d_V_isWhole_7 : decode b_V_isWhole 7 = .ok (.aload_n 0, 1) := by decide +kernel
theorem d_V_isWhole_8 : decode b_V_isWhole 8 = .ok (.iload_n 1, 1) := by decide +kernel
theorem d_V_isWhole_9 : decode b_V_isWhole 9 = .ok (.iconst 1, 1) := by decide +kernel
theorem d_V_isWhole_10 : decode b_V_isWhole 10 = .ok (.invokevirtual 30, 3) := by decide +kernel
theorem d_V_isWhole_13 : decode b_V_isWhole 13 = .ok (.ifCond .eq 20, 3) := by decide +kernel
theorem d_V_isWhole_16 : decode b_V_isWhole 16 = .ok (.aload_n 0, 1) := by decide +kernel
theorem d_V_isWhole_17 : decode b_V_isWhole 17 = .ok (.iload_n 1, 1) := by decide +kernel
theorem d_V_isWhole_18 : decode b_V_isWhole 18 = .ok (.iconst 0, 1) := by decide +kernel
theorem d_V_isWhole_19 : decode b_V_isWhole 19 = .ok (.invokevirtual 82, 3) := by decide +kernel
theorem d_V_isWhole_22 : decode b_V_isWhole 22 = .ok (.sipush 200, 3) := by decide +kernel
theorem d_V_isWhole_25 : decode b_V_isWhole 25 = .ok (.if_icmp .ge 8, 3) := by decide +kernel
theorem d_V_isWhole_28 : decode b_V_isWhole 28 = .ok (.iload_n 3, 1) := by decide +kernel
theorem d_V_isWhole_29 : decode b_V_isWhole 29 = .ok (.iload_n 2, 1) := by decide +kernel
theorem d_V_isWhole_30 : decode b_V_isWhole 30 = .ok (.if_icmp .le 5, 3) := by decide +kernel
theorem d_V_isWhole_33 : decode b_V_isWhole 33 = .ok (.iconst 0, 1) := by decide +kernel
theorem d_V_isWhole_34 : decode b_V_isWhole 34 = .ok (.ireturn, 1) := by decide +kernel
theorem d_V_isWhole_35 : decode b_V_isWhole 35 = .ok (.aload_n 0, 1) := by decide +kernel
theorem d_V_isWhole_36 : decode b_V_isWhole 36 = .ok (.iload_n 3, 1) := by decide +kernel
theorem d_V_isWhole_37 : decode b_V_isWhole 37 = .ok (.invokevirtual 62, 3) := by decide +kernel
theorem d_V_isWhole_40 : decode b_V_isWhole 40 = .ok (.istore 4, 2) := by decide +kernel
theorem d_V_isWhole_42 : decode b_V_isWhole 42 = .ok (.aload_n 0, 1) := by decide +kernel
theorem d_V_isWhole_43 : decode b_V_isWhole 43 = .ok (.iload_n 1, 1) := by decide +kernel
theorem d_V_isWhole_44 : decode b_V_isWhole 44 = .ok (.iload_n 3, 1) := by decide +kernel
theorem d_V_isWhole_45 : decode b_V_isWhole 45 = .ok (.iload_n 2, 1) := by decide +kernel
theorem d_V_isWhole_46 : decode b_V_isWhole 46 = .ok (.invokevirtual 85, 3) := by decide +kernel
theorem d_V_isWhole_49 : decode b_V_isWhole 49 = .ok (.ifCond .eq 29, 3) := by decide +kernel
theorem d_V_isWhole_52 : decode b_V_isWhole 52 = .ok (.aload_n 0, 1) := by decide +kernel
theorem d_V_isWhole_53 : decode b_V_isWhole 53 = .ok (.iload_n 1, 1) := by decide +kernel
theorem d_V_isWhole_54 : decode b_V_isWhole 54 = .ok (.iload 4, 2) := by decide +kernel
theorem d_V_isWhole_56 : decode b_V_isWhole 56 = .ok (.invokevirtual 82, 3) := by decide +kernel
theorem d_V_isWhole_59 : decode b_V_isWhole 59 = .ok (.aload_n 0, 1) := by decide +kernel
theorem d_V_isWhole_60 : decode b_V_isWhole 60 = .ok (.aload_n 0, 1) := by decide +kernel
theorem d_V_isWhole_61 : decode b_V_isWhole 61 = .ok (.getfield 11, 3) := by decide +kernel
theorem d_V_isWhole_64 : decode b_V_isWhole 64 = .ok (.iload_n 1, 1) := by decide +kernel
theorem d_V_isWhole_65 : decode b_V_isWhole 65 = .ok (.aaload, 1) := by decide +kernel
theorem d_V_isWhole_66 : decode b_V_isWhole 66 = .ok (.iload 4, 2) := by decide +kernel
theorem d_V_isWhole_68 : decode b_V_isWhole 68 = .ok (.invokevirtual 75, 3) := by decide +kernel
theorem d_V_isWhole_71 : decode b_V_isWhole 71 = .ok (.if_icmp .ne 7, 3) := by decide +kernel
theorem d_V_isWhole_74 : decode b_V_isWhole 74 = .ok (.iconst 1, 1) := by decide +kernel
theorem d_V_isWhole_75 : decode b_V_isWhole 75 = .ok (.goto 4, 3) := by decide +kernel
theorem d_V_isWhole_78 : decode b_V_isWhole 78 = .ok (.iconst 0, 1) := by decide +kernel
theorem d_V_isWhole_79 : decode b_V_isWhole 79 = .ok (.ireturn, 1) := by decide +kernel
theorem d_V_newestWhole_0 : decode b_V_newestWhole 0 = .ok (.aload_n 0, 1) := by decide +kernel
theorem d_V_newestWhole_1 : decode b_V_newestWhole 1 = .ok (.iconst 0, 1) := by decide +kernel
theorem d_V_newestWhole_2 : decode b_V_newestWhole 2 = .ok (.iload_n 1, 1) := by decide +kernel
theorem d_V_newestWhole_3 : decode b_V_newestWhole 3 = .ok (.invokevirtual 79, 3) := by decide +kernel
theorem d_V_newestWhole_6 : decode b_V_newestWhole 6 = .ok (.istore_n 2, 1) := by decide +kernel
theorem d_V_newestWhole_7 : decode b_V_newestWhole 7 = .ok (.aload_n 0, 1) := by decide +kernel
theorem d_V_newestWhole_8 : decode b_V_newestWhole 8 = .ok (.iconst 1, 1) := by decide +kernel
theorem d_V_newestWhole_9 : decode b_V_newestWhole 9 = .ok (.iload_n 1, 1) := by decide +kernel
theorem d_V_newestWhole_10 : decode b_V_newestWhole 10 = .ok (.invokevirtual 79, 3) := by decide +kernel
theorem d_V_newestWhole_13 : decode b_V_newestWhole 13 = .ok (.istore_n 3, 1) := by decide +kernel
theorem d_V_newestWhole_14 : decode b_V_newestWhole 14 = .ok (.iload_n 2, 1) := by decide +kernel
theorem d_V_newestWhole_15 : decode b_V_newestWhole 15 = .ok (.ifCond .eq 32, 3) := by decide +kernel
theorem d_V_newestWhole_18 : decode b_V_newestWhole 18 = .ok (.iload_n 3, 1) := by decide +kernel
theorem d_V_newestWhole_19 : decode b_V_newestWhole 19 = .ok (.ifCond .eq 28, 3) := by decide +kernel
theorem d_V_newestWhole_22 : decode b_V_newestWhole 22 = .ok (.aload_n 0, 1) := by decide +kernel
theorem d_V_newestWhole_23 : decode b_V_newestWhole 23 = .ok (.iconst 1, 1) := by decide +kernel
theorem d_V_newestWhole_24 : decode b_V_newestWhole 24 = .ok (.iconst 0, 1) := by decide +kernel
theorem d_V_newestWhole_25 : decode b_V_newestWhole 25 = .ok (.invokevirtual 82, 3) := by decide +kernel
theorem d_V_newestWhole_28 : decode b_V_newestWhole 28 = .ok (.aload_n 0, 1) := by decide +kernel
theorem d_V_newestWhole_29 : decode b_V_newestWhole 29 = .ok (.aload_n 0, 1) := by decide +kernel
theorem d_V_newestWhole_30 : decode b_V_newestWhole 30 = .ok (.iconst 0, 1) := by decide +kernel
theorem d_V_newestWhole_31 : decode b_V_newestWhole 31 = .ok (.iconst 0, 1) := by decide +kernel
theorem d_V_newestWhole_32 : decode b_V_newestWhole 32 = .ok (.invokevirtual 82, 3) := by decide +kernel
theorem d_V_newestWhole_35 : decode b_V_newestWhole 35 = .ok (.invokevirtual 34, 3) := by decide +kernel
theorem d_V_newestWhole_38 : decode b_V_newestWhole 38 = .ok (.if_icmp .ne 7, 3) := by decide +kernel
theorem d_V_newestWhole_41 : decode b_V_newestWhole 41 = .ok (.iconst 1, 1) := by decide +kernel
theorem d_V_newestWhole_42 : decode b_V_newestWhole 42 = .ok (.goto 4, 3) := by decide +kernel
theorem d_V_newestWhole_45 : decode b_V_newestWhole 45 = .ok (.iconst 0, 1) := by decide +kernel
theorem d_V_newestWhole_46 : decode b_V_newestWhole 46 = .ok (.ireturn, 1) := by decide +kernel
theorem d_V_newestWhole_47 : decode b_V_newestWhole 47 = .ok (.iload_n 2, 1) := by decide +kernel
theorem d_V_newestWhole_48 : decode b_V_newestWhole 48 = .ok (.ifCond .eq 5, 3) := by decide +kernel
theorem d_V_newestWhole_51 : decode b_V_newestWhole 51 = .ok (.iconst 0, 1) := by decide +kernel
theorem d_V_newestWhole_52 : decode b_V_newestWhole 52 = .ok (.ireturn, 1) := by decide +kernel
theorem d_V_newestWhole_53 : decode b_V_newestWhole 53 = .ok (.iload_n 3, 1) := by decide +kernel
theorem d_V_newestWhole_54 : decode b_V_newestWhole 54 = .ok (.ifCond .eq 7, 3) := by decide +kernel
theorem d_V_newestWhole_57 : decode b_V_newestWhole 57 = .ok (.iconst 1, 1) := by decide +kernel
theorem d_V_newestWhole_58 : decode b_V_newestWhole 58 = .ok (.goto 4, 3) := by decide +kernel
theorem d_V_newestWhole_61 : decode b_V_newestWhole 61 = .ok (.iconst (-1), 1) := by decide +kernel
theorem d_V_newestWhole_62 : decode b_V_newestWhole 62 = .ok (.ireturn, 1) := by decide +kernel
theorem d_V_load_0 : decode b_V_load 0 = .ok (.iload_n 1, 1) := by decide +kernel
theorem d_V_load_1 : decode b_V_load 1 = .ok (.iconst (-1), 1) := by decide +kernel
theorem d_V_load_2 : decode b_V_load 2 = .ok (.if_icmp .ne 9, 3) := by decide +kernel
theorem d_V_load_5 : decode b_V_load 5 = .ok (.aload_n 0, 1) := by decide +kernel
theorem d_V_load_6 : decode b_V_load 6 = .ok (.iconst 0, 1) := by decide +kernel
theorem d_V_load_7 : decode b_V_load 7 = .ok (.putfield 20, 3) := by decide +kernel
theorem d_V_load_10 : decode b_V_load 10 = .ok (.return_, 1) := by decide +kernel
theorem d_V_load_11 : decode b_V_load 11 = .ok (.aload_n 0, 1) := by decide +kernel
theorem d_V_load_12 : decode b_V_load 12 = .ok (.aload_n 0, 1) := by decide +kernel
theorem d_V_load_13 : decode b_V_load 13 = .ok (.iload_n 1, 1) := by decide +kernel
theorem d_V_load_14 : decode b_V_load 14 = .ok (.iconst 0, 1) := by decide +kernel
theorem d_V_load_15 : decode b_V_load 15 = .ok (.invokevirtual 82, 3) := by decide +kernel
theorem d_V_load_18 : decode b_V_load 18 = .ok (.putfield 20, 3) := by decide +kernel
theorem d_V_load_21 : decode b_V_load 21 = .ok (.aload_n 0, 1) := by decide +kernel
theorem d_V_load_22 : decode b_V_load 22 = .ok (.iload_n 1, 1) := by decide +kernel
theorem d_V_load_23 : decode b_V_load 23 = .ok (.iconst 1, 1) := by decide +kernel
theorem d_V_load_24 : decode b_V_load 24 = .ok (.invokevirtual 82, 3) := by decide +kernel
theorem d_V_load_27 : decode b_V_load 27 = .ok (.istore_n 3, 1) := by decide +kernel
theorem d_V_load_28 : decode b_V_load 28 = .ok (.iconst 0, 1) := by decide +kernel
theorem d_V_load_29 : decode b_V_load 29 = .ok (.istore 4, 2) := by decide +kernel
theorem d_V_load_31 : decode b_V_load 31 = .ok (.iconst 0, 1) := by decide +kernel
theorem d_V_load_32 : decode b_V_load 32 = .ok (.istore 5, 2) := by decide +kernel
theorem d_V_load_34 : decode b_V_load 34 = .ok (.iload 5, 2) := by decide +kernel
theorem d_V_load_36 : decode b_V_load 36 = .ok (.iload_n 3, 1) := by decide +kernel
theorem d_V_load_37 : decode b_V_load 37 = .ok (.if_icmp .ge 50, 3) := by decide +kernel
theorem d_V_load_40 : decode b_V_load 40 = .ok (.iload 4, 2) := by decide +kernel
theorem d_V_load_42 : decode b_V_load 42 = .ok (.aload_n 0, 1) := by decide +kernel
theorem d_V_load_43 : decode b_V_load 43 = .ok (.iload_n 1, 1) := by decide +kernel
theorem d_V_load_44 : decode b_V_load 44 = .ok (.aload_n 0, 1) := by decide +kernel
theorem d_V_load_45 : decode b_V_load 45 = .ok (.iload 5, 2) := by decide +kernel
theorem d_V_load_47 : decode b_V_load 47 = .ok (.invokevirtual 62, 3) := by decide +kernel
theorem d_V_load_50 : decode b_V_load 50 = .ok (.invokevirtual 82, 3) := by decide +kernel
theorem d_V_load_53 : decode b_V_load 53 = .ok (.iadd, 1) := by decide +kernel
theorem d_V_load_54 : decode b_V_load 54 = .ok (.istore 6, 2) := by decide +kernel
theorem d_V_load_56 : decode b_V_load 56 = .ok (.aload_n 2, 1) := by decide +kernel
theorem d_V_load_57 : decode b_V_load 57 = .ok (.iload 4, 2) := by decide +kernel
theorem d_V_load_59 : decode b_V_load 59 = .ok (.iload 6, 2) := by decide +kernel
theorem d_V_load_61 : decode b_V_load 61 = .ok (.aload_n 0, 1) := by decide +kernel
theorem d_V_load_62 : decode b_V_load 62 = .ok (.iload_n 1, 1) := by decide +kernel
theorem d_V_load_63 : decode b_V_load 63 = .ok (.aload_n 0, 1) := by decide +kernel
theorem d_V_load_64 : decode b_V_load 64 = .ok (.iload 5, 2) := by decide +kernel
theorem d_V_load_66 : decode b_V_load 66 = .ok (.invokevirtual 62, 3) := by decide +kernel
theorem d_V_load_69 : decode b_V_load 69 = .ok (.iconst 1, 1) := by decide +kernel
theorem d_V_load_70 : decode b_V_load 70 = .ok (.iadd, 1) := by decide +kernel
theorem d_V_load_71 : decode b_V_load 71 = .ok (.invokevirtual 82, 3) := by decide +kernel
theorem d_V_load_74 : decode b_V_load 74 = .ok (.invokevirtual 89, 3) := by decide +kernel
theorem d_V_load_77 : decode b_V_load 77 = .ok (.iload 6, 2) := by decide +kernel
theorem d_V_load_79 : decode b_V_load 79 = .ok (.istore 4, 2) := by decide +kernel
theorem d_V_load_81 : decode b_V_load 81 = .ok (.iinc 5 1, 3) := by decide +kernel
theorem d_V_load_84 : decode b_V_load 84 = .ok (.goto (-50), 3) := by decide +kernel
theorem d_V_load_87 : decode b_V_load 87 = .ok (.return_, 1) := by decide +kernel
theorem d_S_clear_0 : decode b_S_clear 0 = .ok (.aload_n 0, 1) := by decide +kernel
theorem d_S_clear_1 : decode b_S_clear 1 = .ok (.iconst 0, 1) := by decide +kernel
theorem d_S_clear_2 : decode b_S_clear 2 = .ok (.iload_n 1, 1) := by decide +kernel
theorem d_S_clear_3 : decode b_S_clear 3 = .ok (.bipush 64, 2) := by decide +kernel
theorem d_S_clear_5 : decode b_S_clear 5 = .ok (.invokestatic 15, 3) := by decide +kernel
theorem d_S_clear_8 : decode b_S_clear 8 = .ok (.invokestatic 21, 3) := by decide +kernel
theorem d_S_clear_11 : decode b_S_clear 11 = .ok (.putfield 24, 3) := by decide +kernel
theorem d_S_clear_14 : decode b_S_clear 14 = .ok (.aload_n 0, 1) := by decide +kernel
theorem d_S_clear_15 : decode b_S_clear 15 = .ok (.getfield 9, 3) := by decide +kernel
theorem d_S_clear_18 : decode b_S_clear 18 = .ok (.iconst 0, 1) := by decide +kernel
theorem d_S_clear_19 : decode b_S_clear 19 = .ok (.invokestatic 28, 3) := by decide +kernel
theorem d_S_clear_22 : decode b_S_clear 22 = .ok (.return_, 1) := by decide +kernel
theorem d_S_countOf_0 : decode b_S_countOf 0 = .ok (.iconst 0, 1) := by decide +kernel
theorem d_S_countOf_1 : decode b_S_countOf 1 = .ok (.istore_n 2, 1) := by decide +kernel
theorem d_S_countOf_2 : decode b_S_countOf 2 = .ok (.iconst 0, 1) := by decide +kernel
theorem d_S_countOf_3 : decode b_S_countOf 3 = .ok (.istore_n 3, 1) := by decide +kernel
theorem d_S_countOf_4 : decode b_S_countOf 4 = .ok (.iload_n 3, 1) := by decide +kernel
theorem d_S_countOf_5 : decode b_S_countOf 5 = .ok (.aload_n 0, 1) := by decide +kernel
theorem d_S_countOf_6 : decode b_S_countOf 6 = .ok (.getfield 24, 3) := by decide +kernel
theorem d_S_countOf_9 : decode b_S_countOf 9 = .ok (.if_icmp .ge 22, 3) := by decide +kernel
theorem d_S_countOf_12 : decode b_S_countOf 12 = .ok (.aload_n 0, 1) := by decide +kernel
theorem d_S_countOf_13 : decode b_S_countOf 13 = .ok (.getfield 9, 3) := by decide +kernel
theorem d_S_countOf_16 : decode b_S_countOf 16 = .ok (.iload_n 3, 1) := by decide +kernel
theorem d_S_countOf_17 : decode b_S_countOf 17 = .ok (.iaload, 1) := by decide +kernel
theorem d_S_countOf_18 : decode b_S_countOf 18 = .ok (.iload_n 1, 1) := by decide +kernel
theorem d_S_countOf_19 : decode b_S_countOf 19 = .ok (.if_icmp .ne 6, 3) := by decide +kernel
theorem d_S_countOf_22 : decode b_S_countOf 22 = .ok (.iinc 2 1, 3) := by decide +kernel
theorem d_S_countOf_25 : decode b_S_countOf 25 = .ok (.iinc 3 1, 3) := by decide +kernel
theorem d_S_countOf_28 : decode b_S_countOf 28 = .ok (.goto (-24), 3) := by decide +kernel
theorem d_S_countOf_31 : decode b_S_countOf 31 = .ok (.iload_n 2, 1) := by decide +kernel
theorem d_S_countOf_32 : decode b_S_countOf 32 = .ok (.ireturn, 1) := by decide +kernel
theorem d_S_firstOfRun_0 : decode b_S_firstOfRun 0 = .ok (.iconst 0, 1) := by decide +kernel
theorem d_S_firstOfRun_1 : decode b_S_firstOfRun 1 = .ok (.istore_n 2, 1) := by decide +kernel
theorem d_S_firstOfRun_2 : decode b_S_firstOfRun 2 = .ok (.iconst 0, 1) := by decide +kernel
theorem d_S_firstOfRun_3 : decode b_S_firstOfRun 3 = .ok (.istore_n 3, 1) := by decide +kernel
theorem d_S_firstOfRun_4 : decode b_S_firstOfRun 4 = .ok (.iload_n 3, 1) := by decide +kernel
theorem d_S_firstOfRun_5 : decode b_S_firstOfRun 5 = .ok (.aload_n 0, 1) := by decide +kernel
theorem d_S_firstOfRun_6 : decode b_S_firstOfRun 6 = .ok (.getfield 24, 3) := by decide +kernel
theorem d_S_firstOfRun_9 : decode b_S_firstOfRun 9 = .ok (.if_icmp .ge 27, 3) := by decide +kernel
theorem d_S_firstOfRun_12 : decode b_S_firstOfRun 12 = .ok (.aload_n 0, 1) := by decide +kernel
theorem d_S_firstOfRun_13 : decode b_S_firstOfRun 13 = .ok (.iload_n 3, 1) := by decide +kernel
theorem d_S_firstOfRun_14 : decode b_S_firstOfRun 14 = .ok (.invokevirtual 38, 3) := by decide +kernel
theorem d_S_firstOfRun_17 : decode b_S_firstOfRun 17 = .ok (.ifCond .eq 13, 3) := by decide +kernel
theorem d_S_firstOfRun_20 : decode b_S_firstOfRun 20 = .ok (.iload_n 2, 1) := by decide +kernel
theorem d_S_firstOfRun_21 : decode b_S_firstOfRun 21 = .ok (.iload_n 1, 1) := by decide +kernel
theorem d_S_firstOfRun_22 : decode b_S_firstOfRun 22 = .ok (.if_icmp .ne 5, 3) := by decide +kernel
theorem d_S_firstOfRun_25 : decode b_S_firstOfRun 25 = .ok (.iload_n 3, 1) := by decide +kernel
theorem d_S_firstOfRun_26 : decode b_S_firstOfRun 26 = .ok (.ireturn, 1) := by decide +kernel
theorem d_S_firstOfRun_27 : decode b_S_firstOfRun 27 = .ok (.iinc 2 1, 3) := by decide +kernel
theorem d_S_firstOfRun_30 : decode b_S_firstOfRun 30 = .ok (.iinc 3 1, 3) := by decide +kernel
theorem d_S_firstOfRun_33 : decode b_S_firstOfRun 33 = .ok (.goto (-29), 3) := by decide +kernel
theorem d_S_firstOfRun_36 : decode b_S_firstOfRun 36 = .ok (.iconst (-1), 1) := by decide +kernel
theorem d_S_firstOfRun_37 : decode b_S_firstOfRun 37 = .ok (.ireturn, 1) := by decide +kernel
theorem d_R_state_0 : decode b_R_state 0 = .ok (.aload_n 0, 1) := by decide +kernel
theorem d_R_state_1 : decode b_R_state 1 = .ok (.getfield 28, 3) := by decide +kernel
theorem d_R_state_4 : decode b_R_state 4 = .ok (.invokevirtual 88, 3) := by decide +kernel
theorem d_R_state_7 : decode b_R_state 7 = .ok (.ifCond .eq 14, 3) := by decide +kernel
theorem d_R_state_10 : decode b_R_state 10 = .ok (.aload_n 0, 1) := by decide +kernel
theorem d_R_state_11 : decode b_R_state 11 = .ok (.getfield 19, 3) := by decide +kernel
theorem d_R_state_14 : decode b_R_state 14 = .ok (.iload_n 1, 1) := by decide +kernel
theorem d_R_state_15 : decode b_R_state 15 = .ok (.invokevirtual 129, 3) := by decide +kernel
theorem d_R_state_18 : decode b_R_state 18 = .ok (.goto 4, 3) := by decide +kernel
theorem d_R_state_21 : decode b_R_state 21 = .ok (.iconst (-1), 1) := by decide +kernel
theorem d_R_state_22 : decode b_R_state 22 = .ok (.ireturn, 1) := by decide +kernel
theorem d_R_count_0 : decode b_R_count 0 = .ok (.aload_n 0, 1) := by decide +kernel
theorem d_R_count_1 : decode b_R_count 1 = .ok (.getfield 28, 3) := by decide +kernel
theorem d_R_count_4 : decode b_R_count 4 = .ok (.invokevirtual 88, 3) := by decide +kernel
theorem d_R_count_7 : decode b_R_count 7 = .ok (.ifCond .eq 14, 3) := by decide +kernel
theorem d_R_count_10 : decode b_R_count 10 = .ok (.aload_n 0, 1) := by decide +kernel
theorem d_R_count_11 : decode b_R_count 11 = .ok (.getfield 19, 3) := by decide +kernel
theorem d_R_count_14 : decode b_R_count 14 = .ok (.iload_n 1, 1) := by decide +kernel
theorem d_R_count_15 : decode b_R_count 15 = .ok (.invokevirtual 139, 3) := by decide +kernel
theorem d_R_count_18 : decode b_R_count 18 = .ok (.goto 4, 3) := by decide +kernel
theorem d_R_count_21 : decode b_R_count 21 = .ok (.iconst 0, 1) := by decide +kernel
theorem d_R_count_22 : decode b_R_count 22 = .ok (.ireturn, 1) := by decide +kernel
theorem d_R_part_0 : decode b_R_part 0 = .ok (.aload_n 0, 1) := by decide +kernel
theorem d_R_part_1 : decode b_R_part 1 = .ok (.getfield 28, 3) := by decide +kernel
theorem d_R_part_4 : decode b_R_part 4 = .ok (.invokevirtual 88, 3) := by decide +kernel
theorem d_R_part_7 : decode b_R_part 7 = .ok (.ifCond .eq 14, 3) := by decide +kernel
theorem d_R_part_10 : decode b_R_part 10 = .ok (.aload_n 0, 1) := by decide +kernel
theorem d_R_part_11 : decode b_R_part 11 = .ok (.getfield 19, 3) := by decide +kernel
theorem d_R_part_14 : decode b_R_part 14 = .ok (.iload_n 1, 1) := by decide +kernel
theorem d_R_part_15 : decode b_R_part 15 = .ok (.invokevirtual 142, 3) := by decide +kernel
theorem d_R_part_18 : decode b_R_part 18 = .ok (.goto 4, 3) := by decide +kernel
theorem d_R_part_21 : decode b_R_part 21 = .ok (.iconst (-1), 1) := by decide +kernel
theorem d_R_part_22 : decode b_R_part 22 = .ok (.istore_n 3, 1) := by decide +kernel
theorem d_R_part_23 : decode b_R_part 23 = .ok (.iload_n 3, 1) := by decide +kernel
theorem d_R_part_24 : decode b_R_part 24 = .ok (.iconst (-1), 1) := by decide +kernel
theorem d_R_part_25 : decode b_R_part 25 = .ok (.if_icmp .ne 5, 3) := by decide +kernel
theorem d_R_part_28 : decode b_R_part 28 = .ok (.iconst (-1), 1) := by decide +kernel
theorem d_R_part_29 : decode b_R_part 29 = .ok (.ireturn, 1) := by decide +kernel
theorem d_R_part_30 : decode b_R_part 30 = .ok (.iload_n 2, 1) := by decide +kernel
theorem d_R_part_31 : decode b_R_part 31 = .ok (.tableswitch 49 0 2 #[25, 27, 40], 25) := by decide +kernel
theorem d_R_part_56 : decode b_R_part 56 = .ok (.iload_n 3, 1) := by decide +kernel
theorem d_R_part_57 : decode b_R_part 57 = .ok (.ireturn, 1) := by decide +kernel
theorem d_R_part_58 : decode b_R_part 58 = .ok (.aload_n 0, 1) := by decide +kernel
theorem d_R_part_59 : decode b_R_part 59 = .ok (.getfield 19, 3) := by decide +kernel
theorem d_R_part_62 : decode b_R_part 62 = .ok (.iload_n 3, 1) := by decide +kernel
theorem d_R_part_63 : decode b_R_part 63 = .ok (.bipush 64, 2) := by decide +kernel
theorem d_R_part_65 : decode b_R_part 65 = .ok (.invokevirtual 145, 3) := by decide +kernel
theorem d_R_part_68 : decode b_R_part 68 = .ok (.iload_n 3, 1) := by decide +kernel
theorem d_R_part_69 : decode b_R_part 69 = .ok (.isub, 1) := by decide +kernel
theorem d_R_part_70 : decode b_R_part 70 = .ok (.ireturn, 1) := by decide +kernel
theorem d_R_part_71 : decode b_R_part 71 = .ok (.aload_n 0, 1) := by decide +kernel
theorem d_R_part_72 : decode b_R_part 72 = .ok (.getfield 19, 3) := by decide +kernel
theorem d_R_part_75 : decode b_R_part 75 = .ok (.iload_n 3, 1) := by decide +kernel
theorem d_R_part_76 : decode b_R_part 76 = .ok (.invokevirtual 129, 3) := by decide +kernel
theorem d_R_part_79 : decode b_R_part 79 = .ok (.ireturn, 1) := by decide +kernel
theorem d_R_part_80 : decode b_R_part 80 = .ok (.iconst (-1), 1) := by decide +kernel
theorem d_R_part_81 : decode b_R_part 81 = .ok (.ireturn, 1) := by decide +kernel
theorem d_R_phase_0 : decode b_R_phase 0 = .ok (.aload_n 0, 1) := by decide +kernel
theorem d_R_phase_1 : decode b_R_phase 1 = .ok (.getfield 28, 3) := by decide +kernel
theorem d_R_phase_4 : decode b_R_phase 4 = .ok (.invokevirtual 74, 3) := by decide +kernel
theorem d_R_phase_7 : decode b_R_phase 7 = .ok (.ireturn, 1) := by decide +kernel
theorem d_R_out_0 : decode b_R_out 0 = .ok (.aload_n 0, 1) := by decide +kernel
theorem d_R_out_1 : decode b_R_out 1 = .ok (.getfield 10, 3) := by decide +kernel
theorem d_R_out_4 : decode b_R_out 4 = .ok (.iload_n 1, 1) := by decide +kernel
theorem d_R_out_5 : decode b_R_out 5 = .ok (.invokevirtual 149, 3) := by decide +kernel
theorem d_R_out_8 : decode b_R_out 8 = .ok (.ireturn, 1) := by decide +kernel
theorem d_R_reads_0 : decode b_R_reads 0 = .ok (.aload_n 0, 1) := by decide +kernel
theorem d_R_reads_1 : decode b_R_reads 1 = .ok (.getfield 10, 3) := by decide +kernel
theorem d_R_reads_4 : decode b_R_reads 4 = .ok (.iload_n 1, 1) := by decide +kernel
theorem d_R_reads_5 : decode b_R_reads 5 = .ok (.invokevirtual 152, 3) := by decide +kernel
theorem d_R_reads_8 : decode b_R_reads 8 = .ok (.ireturn, 1) := by decide +kernel
theorem d_R_made_0 : decode b_R_made 0 = .ok (.aload_n 0, 1) := by decide +kernel
theorem d_R_made_1 : decode b_R_made 1 = .ok (.getfield 10, 3) := by decide +kernel
theorem d_R_made_4 : decode b_R_made 4 = .ok (.iload_n 1, 1) := by decide +kernel
theorem d_R_made_5 : decode b_R_made 5 = .ok (.invokevirtual 155, 3) := by decide +kernel
theorem d_R_made_8 : decode b_R_made 8 = .ok (.ireturn, 1) := by decide +kernel
theorem d_R_image_0 : decode b_R_image 0 = .ok (.aload_n 0, 1) := by decide +kernel
theorem d_R_image_1 : decode b_R_image 1 = .ok (.getfield 35, 3) := by decide +kernel
theorem d_R_image_4 : decode b_R_image 4 = .ok (.iload_n 1, 1) := by decide +kernel
theorem d_R_image_5 : decode b_R_image 5 = .ok (.iload_n 2, 1) := by decide +kernel
theorem d_R_image_6 : decode b_R_image 6 = .ok (.invokevirtual 159, 3) := by decide +kernel
theorem d_R_image_9 : decode b_R_image 9 = .ok (.ireturn, 1) := by decide +kernel
