theorem d_R_source_0 : decode b_R_source 0 = .ok (.iload_n 1, 1) := by decide +kernel
theorem d_R_source_1 : decode b_R_source 1 = .ok (.iconst 1, 1) := by decide +kernel
theorem d_R_source_2 : decode b_R_source 2 = .ok (.if_icmp .lt 9, 3) := by decide +kernel
theorem d_R_source_5 : decode b_R_source 5 = .ok (.iload_n 1, 1) := by decide +kernel
theorem d_R_source_6 : decode b_R_source 6 = .ok (.bipush 64, 2) := by decide +kernel
theorem d_R_source_8 : decode b_R_source 8 = .ok (.if_icmp .le 13, 3) := by decide +kernel
theorem d_R_source_11 : decode b_R_source 11 = .ok (.new 39, 3) := by decide +kernel
theorem d_R_source_14 : decode b_R_source 14 = .ok (.dup, 1) := by decide +kernel
theorem d_R_source_15 : decode b_R_source 15 = .ok (.ldc 41, 2) := by decide +kernel
theorem d_R_source_17 : decode b_R_source 17 = .ok (.invokespecial 43, 3) := by decide +kernel
theorem d_R_source_20 : decode b_R_source 20 = .ok (.athrow, 1) := by decide +kernel
theorem d_R_source_21 : decode b_R_source 21 = .ok (.aload_n 0, 1) := by decide +kernel
theorem d_R_source_22 : decode b_R_source 22 = .ok (.getfield 10, 3) := by decide +kernel
theorem d_R_source_25 : decode b_R_source 25 = .ok (.iload_n 1, 1) := by decide +kernel
theorem d_R_source_26 : decode b_R_source 26 = .ok (.invokevirtual 46, 3) := by decide +kernel
theorem d_R_source_29 : decode b_R_source 29 = .ok (.aload_n 0, 1) := by decide +kernel
theorem d_R_source_30 : decode b_R_source 30 = .ok (.getfield 35, 3) := by decide +kernel
theorem d_R_source_33 : decode b_R_source 33 = .ok (.invokevirtual 50, 3) := by decide +kernel
theorem d_R_source_36 : decode b_R_source 36 = .ok (.aload_n 0, 1) := by decide +kernel
theorem d_R_source_37 : decode b_R_source 37 = .ok (.getfield 28, 3) := by decide +kernel
theorem d_R_source_40 : decode b_R_source 40 = .ok (.invokevirtual 53, 3) := by decide +kernel
theorem d_R_source_43 : decode b_R_source 43 = .ok (.return_, 1) := by decide +kernel
theorem d_R_sector_0 : decode b_R_sector 0 = .ok (.aload_n 0, 1) := by decide +kernel
theorem d_R_sector_1 : decode b_R_sector 1 = .ok (.getfield 10, 3) := by decide +kernel
theorem d_R_sector_4 : decode b_R_sector 4 = .ok (.iload_n 1, 1) := by decide +kernel
theorem d_R_sector_5 : decode b_R_sector 5 = .ok (.invokevirtual 56, 3) := by decide +kernel
theorem d_R_sector_8 : decode b_R_sector 8 = .ok (.ifCond .ne 13, 3) := by decide +kernel
theorem d_R_sector_11 : decode b_R_sector 11 = .ok (.new 39, 3) := by decide +kernel
theorem d_R_sector_14 : decode b_R_sector 14 = .ok (.dup, 1) := by decide +kernel
theorem d_R_sector_15 : decode b_R_sector 15 = .ok (.ldc 60, 2) := by decide +kernel
theorem d_R_sector_17 : decode b_R_sector 17 = .ok (.invokespecial 43, 3) := by decide +kernel
theorem d_R_sector_20 : decode b_R_sector 20 = .ok (.athrow, 1) := by decide +kernel
theorem d_R_sector_21 : decode b_R_sector 21 = .ok (.iload_n 3, 1) := by decide +kernel
theorem d_R_sector_22 : decode b_R_sector 22 = .ok (.iconst (-1), 1) := by decide +kernel
theorem d_R_sector_23 : decode b_R_sector 23 = .ok (.if_icmp .lt 9, 3) := by decide +kernel
theorem d_R_sector_26 : decode b_R_sector 26 = .ok (.iload_n 3, 1) := by decide +kernel
theorem d_R_sector_27 : decode b_R_sector 27 = .ok (.bipush 9, 2) := by decide +kernel
theorem d_R_sector_29 : decode b_R_sector 29 = .ok (.if_icmp .le 13, 3) := by decide +kernel
theorem d_R_sector_32 : decode b_R_sector 32 = .ok (.new 39, 3) := by decide +kernel
theorem d_R_sector_35 : decode b_R_sector 35 = .ok (.dup, 1) := by decide +kernel
theorem d_R_sector_36 : decode b_R_sector 36 = .ok (.ldc 62, 2) := by decide +kernel
theorem d_R_sector_38 : decode b_R_sector 38 = .ok (.invokespecial 43, 3) := by decide +kernel
theorem d_R_sector_41 : decode b_R_sector 41 = .ok (.athrow, 1) := by decide +kernel
theorem d_R_sector_42 : decode b_R_sector 42 = .ok (.aload_n 0, 1) := by decide +kernel
theorem d_R_sector_43 : decode b_R_sector 43 = .ok (.getfield 10, 3) := by decide +kernel
theorem d_R_sector_46 : decode b_R_sector 46 = .ok (.iload_n 1, 1) := by decide +kernel
theorem d_R_sector_47 : decode b_R_sector 47 = .ok (.iload_n 2, 1) := by decide +kernel
theorem d_R_sector_48 : decode b_R_sector 48 = .ok (.iload_n 3, 1) := by decide +kernel
theorem d_R_sector_49 : decode b_R_sector 49 = .ok (.invokevirtual 64, 3) := by decide +kernel
theorem d_R_sector_52 : decode b_R_sector 52 = .ok (.return_, 1) := by decide +kernel
theorem d_R_begin_0 : decode b_R_begin 0 = .ok (.iload_n 1, 1) := by decide +kernel
theorem d_R_begin_1 : decode b_R_begin 1 = .ok (.ifCond .lt 8, 3) := by decide +kernel
theorem d_R_begin_4 : decode b_R_begin 4 = .ok (.iload_n 1, 1) := by decide +kernel
theorem d_R_begin_5 : decode b_R_begin 5 = .ok (.iconst 5, 1) := by decide +kernel
theorem d_R_begin_6 : decode b_R_begin 6 = .ok (.if_icmp .le 13, 3) := by decide +kernel
theorem d_R_begin_9 : decode b_R_begin 9 = .ok (.new 39, 3) := by decide +kernel
theorem d_R_begin_12 : decode b_R_begin 12 = .ok (.dup, 1) := by decide +kernel
theorem d_R_begin_13 : decode b_R_begin 13 = .ok (.ldc 68, 2) := by decide +kernel
theorem d_R_begin_15 : decode b_R_begin 15 = .ok (.invokespecial 43, 3) := by decide +kernel
theorem d_R_begin_18 : decode b_R_begin 18 = .ok (.athrow, 1) := by decide +kernel
theorem d_R_begin_19 : decode b_R_begin 19 = .ok (.aload_n 0, 1) := by decide +kernel
theorem d_R_begin_20 : decode b_R_begin 20 = .ok (.getfield 10, 3) := by decide +kernel
theorem d_R_begin_23 : decode b_R_begin 23 = .ok (.invokevirtual 70, 3) := by decide +kernel
theorem d_R_begin_26 : decode b_R_begin 26 = .ok (.ifCond .eq 14, 3) := by decide +kernel
theorem d_R_begin_29 : decode b_R_begin 29 = .ok (.aload_n 0, 1) := by decide +kernel
theorem d_R_begin_30 : decode b_R_begin 30 = .ok (.getfield 28, 3) := by decide +kernel
theorem d_R_begin_33 : decode b_R_begin 33 = .ok (.invokevirtual 74, 3) := by decide +kernel
theorem d_R_begin_36 : decode b_R_begin 36 = .ok (.iconst (-1), 1) := by decide +kernel
theorem d_R_begin_37 : decode b_R_begin 37 = .ok (.if_icmp .eq 13, 3) := by decide +kernel
theorem d_R_begin_40 : decode b_R_begin 40 = .ok (.new 77, 3) := by decide +kernel
theorem d_R_begin_43 : decode b_R_begin 43 = .ok (.dup, 1) := by decide +kernel
theorem d_R_begin_44 : decode b_R_begin 44 = .ok (.ldc 79, 2) := by decide +kernel
theorem d_R_begin_46 : decode b_R_begin 46 = .ok (.invokespecial 81, 3) := by decide +kernel
theorem d_R_begin_49 : decode b_R_begin 49 = .ok (.athrow, 1) := by decide +kernel
theorem d_R_begin_50 : decode b_R_begin 50 = .ok (.aload_n 0, 1) := by decide +kernel
theorem d_R_begin_51 : decode b_R_begin 51 = .ok (.getfield 19, 3) := by decide +kernel
theorem d_R_begin_54 : decode b_R_begin 54 = .ok (.aload_n 0, 1) := by decide +kernel
theorem d_R_begin_55 : decode b_R_begin 55 = .ok (.getfield 10, 3) := by decide +kernel
theorem d_R_begin_58 : decode b_R_begin 58 = .ok (.invokevirtual 70, 3) := by decide +kernel
theorem d_R_begin_61 : decode b_R_begin 61 = .ok (.invokevirtual 82, 3) := by decide +kernel
theorem d_R_begin_64 : decode b_R_begin 64 = .ok (.aload_n 0, 1) := by decide +kernel
theorem d_R_begin_65 : decode b_R_begin 65 = .ok (.getfield 28, 3) := by decide +kernel
theorem d_R_begin_68 : decode b_R_begin 68 = .ok (.iload_n 1, 1) := by decide +kernel
theorem d_R_begin_69 : decode b_R_begin 69 = .ok (.invokevirtual 85, 3) := by decide +kernel
theorem d_R_begin_72 : decode b_R_begin 72 = .ok (.return_, 1) := by decide +kernel
theorem d_R_step_0 : decode b_R_step 0 = .ok (.aload_n 0, 1) := by decide +kernel
theorem d_R_step_1 : decode b_R_step 1 = .ok (.getfield 28, 3) := by decide +kernel
theorem d_R_step_4 : decode b_R_step 4 = .ok (.invokevirtual 88, 3) := by decide +kernel
theorem d_R_step_7 : decode b_R_step 7 = .ok (.ifCond .ne 13, 3) := by decide +kernel
theorem d_R_step_10 : decode b_R_step 10 = .ok (.new 77, 3) := by decide +kernel
theorem d_R_step_13 : decode b_R_step 13 = .ok (.dup, 1) := by decide +kernel
theorem d_R_step_14 : decode b_R_step 14 = .ok (.ldc 92, 2) := by decide +kernel
theorem d_R_step_16 : decode b_R_step 16 = .ok (.invokespecial 81, 3) := by decide +kernel
theorem d_R_step_19 : decode b_R_step 19 = .ok (.athrow, 1) := by decide +kernel
theorem d_R_step_20 : decode b_R_step 20 = .ok (.aload_n 0, 1) := by decide +kernel
theorem d_R_step_21 : decode b_R_step 21 = .ok (.getfield 28, 3) := by decide +kernel
theorem d_R_step_24 : decode b_R_step 24 = .ok (.invokevirtual 94, 3) := by decide +kernel
theorem d_R_step_27 : decode b_R_step 27 = .ok (.ireturn, 1) := by decide +kernel
theorem d_R_run_0 : decode b_R_run 0 = .ok (.iload_n 1, 1) := by decide +kernel
theorem d_R_run_1 : decode b_R_run 1 = .ok (.ifCond .lt 10, 3) := by decide +kernel
theorem d_R_run_4 : decode b_R_run 4 = .ok (.iload_n 1, 1) := by decide +kernel
theorem d_R_run_5 : decode b_R_run 5 = .ok (.sipush 300, 3) := by decide +kernel
theorem d_R_run_8 : decode b_R_run 8 = .ok (.if_icmp .le 13, 3) := by decide +kernel
theorem d_R_run_11 : decode b_R_run 11 = .ok (.new 39, 3) := by decide +kernel
theorem d_R_run_14 : decode b_R_run 14 = .ok (.dup, 1) := by decide +kernel
theorem d_R_run_15 : decode b_R_run 15 = .ok (.ldc 97, 2) := by decide +kernel
theorem d_R_run_17 : decode b_R_run 17 = .ok (.invokespecial 43, 3) := by decide +kernel
theorem d_R_run_20 : decode b_R_run 20 = .ok (.athrow, 1) := by decide +kernel
theorem d_R_run_21 : decode b_R_run 21 = .ok (.aload_n 0, 1) := by decide +kernel
theorem d_R_run_22 : decode b_R_run 22 = .ok (.getfield 28, 3) := by decide +kernel
theorem d_R_run_25 : decode b_R_run 25 = .ok (.invokevirtual 88, 3) := by decide +kernel
theorem d_R_run_28 : decode b_R_run 28 = .ok (.ifCond .ne 13, 3) := by decide +kernel
theorem d_R_run_31 : decode b_R_run 31 = .ok (.new 77, 3) := by decide +kernel
theorem d_R_run_34 : decode b_R_run 34 = .ok (.dup, 1) := by decide +kernel
theorem d_R_run_35 : decode b_R_run 35 = .ok (.ldc 92, 2) := by decide +kernel
theorem d_R_run_37 : decode b_R_run 37 = .ok (.invokespecial 81, 3) := by decide +kernel
theorem d_R_run_40 : decode b_R_run 40 = .ok (.athrow, 1) := by decide +kernel
theorem d_R_run_41 : decode b_R_run 41 = .ok (.iconst 0, 1) := by decide +kernel
theorem d_R_run_42 : decode b_R_run 42 = .ok (.istore_n 2, 1) := by decide +kernel
theorem d_R_run_43 : decode b_R_run 43 = .ok (.iload_n 2, 1) := by decide +kernel
theorem d_R_run_44 : decode b_R_run 44 = .ok (.iload_n 1, 1) := by decide +kernel
theorem d_R_run_45 : decode b_R_run 45 = .ok (.if_icmp .ge 21, 3) := by decide +kernel
theorem d_R_run_48 : decode b_R_run 48 = .ok (.aload_n 0, 1) := by decide +kernel
theorem d_R_run_49 : decode b_R_run 49 = .ok (.getfield 28, 3) := by decide +kernel
theorem d_R_run_52 : decode b_R_run 52 = .ok (.invokevirtual 94, 3) := by decide +kernel
theorem d_R_run_55 : decode b_R_run 55 = .ok (.bipush 6, 2) := by decide +kernel
theorem d_R_run_57 : decode b_R_run 57 = .ok (.if_icmp .eq 9, 3) := by decide +kernel
theorem d_R_run_60 : decode b_R_run 60 = .ok (.iinc 2 1, 3) := by decide +kernel
theorem d_R_run_63 : decode b_R_run 63 = .ok (.goto (-20), 3) := by decide +kernel
theorem d_R_run_66 : decode b_R_run 66 = .ok (.iload_n 2, 1) := by decide +kernel
theorem d_R_run_67 : decode b_R_run 67 = .ok (.ireturn, 1) := by decide +kernel
theorem d_R_save_0 : decode b_R_save 0 = .ok (.aload_n 0, 1) := by decide +kernel
theorem d_R_save_1 : decode b_R_save 1 = .ok (.getfield 28, 3) := by decide +kernel
theorem d_R_save_4 : decode b_R_save 4 = .ok (.invokevirtual 88, 3) := by decide +kernel
theorem d_R_save_7 : decode b_R_save 7 = .ok (.ifCond .ne 13, 3) := by decide +kernel
theorem d_R_save_10 : decode b_R_save 10 = .ok (.new 77, 3) := by decide +kernel
theorem d_R_save_13 : decode b_R_save 13 = .ok (.dup, 1) := by decide +kernel
theorem d_R_save_14 : decode b_R_save 14 = .ok (.ldc 92, 2) := by decide +kernel
theorem d_R_save_16 : decode b_R_save 16 = .ok (.invokespecial 81, 3) := by decide +kernel
theorem d_R_save_19 : decode b_R_save 19 = .ok (.athrow, 1) := by decide +kernel
theorem d_R_save_20 : decode b_R_save 20 = .ok (.aload_n 0, 1) := by decide +kernel
theorem d_R_save_21 : decode b_R_save 21 = .ok (.getfield 35, 3) := by decide +kernel
theorem d_R_save_24 : decode b_R_save 24 = .ok (.aload_n 0, 1) := by decide +kernel
theorem d_R_save_25 : decode b_R_save 25 = .ok (.getfield 19, 3) := by decide +kernel
theorem d_R_save_28 : decode b_R_save 28 = .ok (.sipush 140, 3) := by decide +kernel
theorem d_R_save_31 : decode b_R_save 31 = .ok (.invokevirtual 99, 3) := by decide +kernel
theorem d_R_save_34 : decode b_R_save 34 = .ok (.ireturn, 1) := by decide +kernel
theorem d_R_stop_0 : decode b_R_stop 0 = .ok (.iload_n 1, 1) := by decide +kernel
theorem d_R_stop_1 : decode b_R_stop 1 = .ok (.ifCond .ge 13, 3) := by decide +kernel
theorem d_R_stop_4 : decode b_R_stop 4 = .ok (.new 39, 3) := by decide +kernel
theorem d_R_stop_7 : decode b_R_stop 7 = .ok (.dup, 1) := by decide +kernel
theorem d_R_stop_8 : decode b_R_stop 8 = .ok (.ldc 103, 2) := by decide +kernel
theorem d_R_stop_10 : decode b_R_stop 10 = .ok (.invokespecial 43, 3) := by decide +kernel
theorem d_R_stop_13 : decode b_R_stop 13 = .ok (.athrow, 1) := by decide +kernel
theorem d_R_stop_14 : decode b_R_stop 14 = .ok (.aload_n 0, 1) := by decide +kernel
theorem d_R_stop_15 : decode b_R_stop 15 = .ok (.getfield 28, 3) := by decide +kernel
theorem d_R_stop_18 : decode b_R_stop 18 = .ok (.invokevirtual 88, 3) := by decide +kernel
theorem d_R_stop_21 : decode b_R_stop 21 = .ok (.ifCond .ne 13, 3) := by decide +kernel
theorem d_R_stop_24 : decode b_R_stop 24 = .ok (.new 77, 3) := by decide +kernel
theorem d_R_stop_27 : decode b_R_stop 27 = .ok (.dup, 1) := by decide +kernel
theorem d_R_stop_28 : decode b_R_stop 28 = .ok (.ldc 92, 2) := by decide +kernel
theorem d_R_stop_30 : decode b_R_stop 30 = .ok (.invokespecial 81, 3) := by decide +kernel
theorem d_R_stop_33 : decode b_R_stop 33 = .ok (.athrow, 1) := by decide +kernel
theorem d_R_stop_34 : decode b_R_stop 34 = .ok (.aload_n 0, 1) := by decide +kernel
theorem d_R_stop_35 : decode b_R_stop 35 = .ok (.getfield 28, 3) := by decide +kernel
theorem d_R_stop_38 : decode b_R_stop 38 = .ok (.invokevirtual 105, 3) := by decide +kernel
theorem d_R_stop_41 : decode b_R_stop 41 = .ok (.iload_n 1, 1) := by decide +kernel
theorem d_R_stop_42 : decode b_R_stop 42 = .ok (.ifCond .ne 7, 3) := by decide +kernel
theorem d_R_stop_45 : decode b_R_stop 45 = .ok (.iconst 0, 1) := by decide +kernel
theorem d_R_stop_46 : decode b_R_stop 46 = .ok (.goto 15, 3) := by decide +kernel
theorem d_R_stop_49 : decode b_R_stop 49 = .ok (.aload_n 0, 1) := by decide +kernel
theorem d_R_stop_50 : decode b_R_stop 50 = .ok (.getfield 35, 3) := by decide +kernel
theorem d_R_stop_53 : decode b_R_stop 53 = .ok (.aload_n 0, 1) := by decide +kernel
theorem d_R_stop_54 : decode b_R_stop 54 = .ok (.getfield 19, 3) := by decide +kernel
theorem d_R_stop_57 : decode b_R_stop 57 = .ok (.iload_n 1, 1) := by decide +kernel
theorem d_R_stop_58 : decode b_R_stop 58 = .ok (.invokevirtual 99, 3) := by decide +kernel
theorem d_R_stop_61 : decode b_R_stop 61 = .ok (.ireturn, 1) := by decide +kernel
theorem d_R_resume_0 : decode b_R_resume 0 = .ok (.aload_n 0, 1) := by decide +kernel
theorem d_R_resume_1 : decode b_R_resume 1 = .ok (.getfield 28, 3) := by decide +kernel
theorem d_R_resume_4 : decode b_R_resume 4 = .ok (.invokevirtual 74, 3) := by decide +kernel
theorem d_R_resume_7 : decode b_R_resume 7 = .ok (.bipush 7, 2) := by decide +kernel
theorem d_R_resume_9 : decode b_R_resume 9 = .ok (.if_icmp .eq 13, 3) := by decide +kernel
theorem d_R_resume_12 : decode b_R_resume 12 = .ok (.new 77, 3) := by decide +kernel
theorem d_R_resume_15 : decode b_R_resume 15 = .ok (.dup, 1) := by decide +kernel
theorem d_R_resume_16 : decode b_R_resume 16 = .ok (.ldc 108, 2) := by decide +kernel
theorem d_R_resume_18 : decode b_R_resume 18 = .ok (.invokespecial 81, 3) := by decide +kernel
theorem d_R_resume_21 : decode b_R_resume 21 = .ok (.athrow, 1) := by decide +kernel
theorem d_R_resume_22 : decode b_R_resume 22 = .ok (.aload_n 0, 1) := by decide +kernel
theorem d_R_resume_23 : decode b_R_resume 23 = .ok (.getfield 19, 3) := by decide +kernel
theorem d_R_resume_26 : decode b_R_resume 26 = .ok (.aload_n 0, 1) := by decide +kernel
theorem d_R_resume_27 : decode b_R_resume 27 = .ok (.getfield 10, 3) := by decide +kernel
theorem d_R_resume_30 : decode b_R_resume 30 = .ok (.invokevirtual 70, 3) := by decide +kernel
theorem d_R_resume_33 : decode b_R_resume 33 = .ok (.invokevirtual 82, 3) := by decide +kernel
theorem d_R_resume_36 : decode b_R_resume 36 = .ok (.aload_n 0, 1) := by decide +kernel
theorem d_R_resume_37 : decode b_R_resume 37 = .ok (.getfield 35, 3) := by decide +kernel
theorem d_R_resume_40 : decode b_R_resume 40 = .ok (.aload_n 0, 1) := by decide +kernel
theorem d_R_resume_41 : decode b_R_resume 41 = .ok (.getfield 10, 3) := by decide +kernel
theorem d_R_resume_44 : decode b_R_resume 44 = .ok (.invokevirtual 70, 3) := by decide +kernel
theorem d_R_resume_47 : decode b_R_resume 47 = .ok (.invokevirtual 110, 3) := by decide +kernel
theorem d_R_resume_50 : decode b_R_resume 50 = .ok (.istore_n 1, 1) := by decide +kernel
theorem d_R_resume_51 : decode b_R_resume 51 = .ok (.aload_n 0, 1) := by decide +kernel
theorem d_R_resume_52 : decode b_R_resume 52 = .ok (.getfield 35, 3) := by decide +kernel
theorem d_R_resume_55 : decode b_R_resume 55 = .ok (.iload_n 1, 1) := by decide +kernel
theorem d_R_resume_56 : decode b_R_resume 56 = .ok (.aload_n 0, 1) := by decide +kernel
theorem d_R_resume_57 : decode b_R_resume 57 = .ok (.getfield 19, 3) := by decide +kernel
theorem d_R_resume_60 : decode b_R_resume 60 = .ok (.invokevirtual 114, 3) := by decide +kernel
theorem d_R_resume_63 : decode b_R_resume 63 = .ok (.aload_n 0, 1) := by decide +kernel
theorem d_R_resume_64 : decode b_R_resume 64 = .ok (.getfield 28, 3) := by decide +kernel
theorem d_R_resume_67 : decode b_R_resume 67 = .ok (.iconst 0, 1) := by decide +kernel
theorem d_R_resume_68 : decode b_R_resume 68 = .ok (.invokevirtual 118, 3) := by decide +kernel
theorem d_R_resume_71 : decode b_R_resume 71 = .ok (.iload_n 1, 1) := by decide +kernel
theorem d_R_resume_72 : decode b_R_resume 72 = .ok (.ireturn, 1) := by decide +kernel
theorem d_R_poke_0 : decode b_R_poke 0 = .ok (.aload_n 0, 1) := by decide +kernel
theorem d_R_poke_1 : decode b_R_poke 1 = .ok (.getfield 35, 3) := by decide +kernel
theorem d_R_poke_4 : decode b_R_poke 4 = .ok (.iload_n 1, 1) := by decide +kernel
theorem d_R_poke_5 : decode b_R_poke 5 = .ok (.iload_n 2, 1) := by decide +kernel
theorem d_R_poke_6 : decode b_R_poke 6 = .ok (.invokevirtual 121, 3) := by decide +kernel
theorem d_R_poke_9 : decode b_R_poke 9 = .ok (.ifCond .ne 13, 3) := by decide +kernel
theorem d_R_poke_12 : decode b_R_poke 12 = .ok (.new 39, 3) := by decide +kernel
theorem d_R_poke_15 : decode b_R_poke 15 = .ok (.dup, 1) := by decide +kernel
theorem d_R_poke_16 : decode b_R_poke 16 = .ok (.ldc 124, 2) := by decide +kernel
theorem d_R_poke_18 : decode b_R_poke 18 = .ok (.invokespecial 43, 3) := by decide +kernel
theorem d_R_poke_21 : decode b_R_poke 21 = .ok (.athrow, 1) := by decide +kernel
theorem d_R_poke_22 : decode b_R_poke 22 = .ok (.iload_n 3, 1) := by decide +kernel
theorem d_R_poke_23 : decode b_R_poke 23 = .ok (.ifCond .lt 10, 3) := by decide +kernel
theorem d_R_poke_26 : decode b_R_poke 26 = .ok (.iload_n 3, 1) := by decide +kernel
theorem d_R_poke_27 : decode b_R_poke 27 = .ok (.sipush 255, 3) := by decide +kernel
theorem d_R_poke_30 : decode b_R_poke 30 = .ok (.if_icmp .le 13, 3) := by decide +kernel
theorem d_R_poke_33 : decode b_R_poke 33 = .ok (.new 39, 3) := by decide +kernel
theorem d_R_poke_36 : decode b_R_poke 36 = .ok (.dup, 1) := by decide +kernel
theorem d_R_poke_37 : decode b_R_poke 37 = .ok (.ldc 126, 2) := by decide +kernel
theorem d_R_poke_39 : decode b_R_poke 39 = .ok (.invokespecial 43, 3) := by decide +kernel
theorem d_R_poke_42 : decode b_R_poke 42 = .ok (.athrow, 1) := by decide +kernel
theorem d_R_poke_43 : decode b_R_poke 43 = .ok (.aload_n 0, 1) := by decide +kernel
theorem d_R_poke_44 : decode b_R_poke 44 = .ok (.getfield 35, 3) := by decide +kernel
theorem d_R_poke_47 : decode b_R_poke 47 = .ok (.iload_n 1, 1) := by decide +kernel
theorem d_R_poke_48 : decode b_R_poke 48 = .ok (.iload_n 2, 1) := by decide +kernel
theorem d_R_poke_49 : decode b_R_poke 49 = .ok (.iload_n 3, 1) := by decide +kernel
theorem d_R_poke_50 : decode b_R_poke 50 = .ok (.invokevirtual 128, 3) := by decide +kernel
theorem d_R_poke_53 : decode b_R_poke 53 = .ok (.return_, 1) := by decide +kernel
theorem d_R_second_0 : decode b_R_second 0 = .ok (.aload_n 0, 1) := by decide +kernel
theorem d_R_second_1 : decode b_R_second 1 = .ok (.getfield 10, 3) := by decide +kernel
theorem d_R_second_4 : decode b_R_second 4 = .ok (.iload_n 1, 1) := by decide +kernel
theorem d_R_second_5 : decode b_R_second 5 = .ok (.invokevirtual 56, 3) := by decide +kernel
theorem d_R_second_8 : decode b_R_second 8 = .ok (.ifCond .ne 13, 3) := by decide +kernel
theorem d_R_second_11 : decode b_R_second 11 = .ok (.new 39, 3) := by decide +kernel
theorem d_R_second_14 : decode b_R_second 14 = .ok (.dup, 1) := by decide +kernel
theorem d_R_second_15 : decode b_R_second 15 = .ok (.ldc 60, 2) := by decide +kernel
theorem d_R_second_17 : decode b_R_second 17 = .ok (.invokespecial 43, 3) := by decide +kernel
theorem d_R_second_20 : decode b_R_second 20 = .ok (.athrow, 1) := by decide +kernel
theorem d_R_second_21 : decode b_R_second 21 = .ok (.aload_n 0, 1) := by decide +kernel
theorem d_R_second_22 : decode b_R_second 22 = .ok (.getfield 28, 3) := by decide +kernel
theorem d_R_second_25 : decode b_R_second 25 = .ok (.invokevirtual 88, 3) := by decide +kernel
theorem d_R_second_28 : decode b_R_second 28 = .ok (.ifCond .ne 13, 3) := by decide +kernel
theorem d_R_second_31 : decode b_R_second 31 = .ok (.new 77, 3) := by decide +kernel
theorem d_R_second_34 : decode b_R_second 34 = .ok (.dup, 1) := by decide +kernel
theorem d_R_second_35 : decode b_R_second 35 = .ok (.ldc 92, 2) := by decide +kernel
theorem d_R_second_37 : decode b_R_second 37 = .ok (.invokespecial 81, 3) := by decide +kernel
theorem d_R_second_40 : decode b_R_second 40 = .ok (.athrow, 1) := by decide +kernel
theorem d_R_second_41 : decode b_R_second 41 = .ok (.aload_n 0, 1) := by decide +kernel
theorem d_R_second_42 : decode b_R_second 42 = .ok (.getfield 19, 3) := by decide +kernel
theorem d_R_second_45 : decode b_R_second 45 = .ok (.iload_n 1, 1) := by decide +kernel
theorem d_R_second_46 : decode b_R_second 46 = .ok (.invokevirtual 129, 3) := by decide +kernel
theorem d_R_second_49 : decode b_R_second 49 = .ok (.iconst 3, 1) := by decide +kernel
theorem d_R_second_50 : decode b_R_second 50 = .ok (.if_icmp .eq 5, 3) := by decide +kernel
theorem d_R_second_53 : decode b_R_second 53 = .ok (.iconst 0, 1) := by decide +kernel
theorem d_R_second_54 : decode b_R_second 54 = .ok (.ireturn, 1) := by decide +kernel
theorem d_R_second_55 : decode b_R_second 55 = .ok (.aload_n 0, 1) := by decide +kernel
theorem d_R_second_56 : decode b_R_second 56 = .ok (.getfield 10, 3) := by decide +kernel
theorem d_R_second_59 : decode b_R_second 59 = .ok (.iload_n 1, 1) := by decide +kernel
theorem d_R_second_60 : decode b_R_second 60 = .ok (.iload_n 2, 1) := by decide +kernel
theorem d_R_second_61 : decode b_R_second 61 = .ok (.invokevirtual 132, 3) := by decide +kernel
theorem d_R_second_64 : decode b_R_second 64 = .ok (.aload_n 0, 1) := by decide +kernel
theorem d_R_second_65 : decode b_R_second 65 = .ok (.getfield 19, 3) := by decide +kernel
theorem d_R_second_68 : decode b_R_second 68 = .ok (.iload_n 1, 1) := by decide +kernel
theorem d_R_second_69 : decode b_R_second 69 = .ok (.iload_n 1, 1) := by decide +kernel
theorem d_R_second_70 : decode b_R_second 70 = .ok (.iconst 1, 1) := by decide +kernel
theorem d_R_second_71 : decode b_R_second 71 = .ok (.iadd, 1) := by decide +kernel
theorem d_R_second_72 : decode b_R_second 72 = .ok (.iconst 4, 1) := by decide +kernel
theorem d_R_second_73 : decode b_R_second 73 = .ok (.invokevirtual 136, 3) := by decide +kernel
theorem d_R_second_76 : decode b_R_second 76 = .ok (.iconst 1, 1) := by decide +kernel
theorem d_R_second_77 : decode b_R_second 77 = .ok (.ireturn, 1) := by decide +kernel
