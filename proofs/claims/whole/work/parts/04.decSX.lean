/-! DECODE rows -/
theorem d_SS_init_0 : decode b_SS_init 0 = .ok (.aload_n 0, 1) := by decide +kernel
theorem d_SS_init_1 : decode b_SS_init 1 = .ok (.invokespecial 1, 3) := by decide +kernel
theorem d_SS_init_4 : decode b_SS_init 4 = .ok (.aload_n 0, 1) := by decide +kernel
theorem d_SS_init_5 : decode b_SS_init 5 = .ok (.new 7, 3) := by decide +kernel
theorem d_SS_init_8 : decode b_SS_init 8 = .ok (.dup, 1) := by decide +kernel
theorem d_SS_init_9 : decode b_SS_init 9 = .ok (.invokespecial 9, 3) := by decide +kernel
theorem d_SS_init_12 : decode b_SS_init 12 = .ok (.putfield 10, 3) := by decide +kernel
theorem d_SS_init_15 : decode b_SS_init 15 = .ok (.aload_n 0, 1) := by decide +kernel
theorem d_SS_init_16 : decode b_SS_init 16 = .ok (.new 16, 3) := by decide +kernel
theorem d_SS_init_19 : decode b_SS_init 19 = .ok (.dup, 1) := by decide +kernel
theorem d_SS_init_20 : decode b_SS_init 20 = .ok (.invokespecial 18, 3) := by decide +kernel
theorem d_SS_init_23 : decode b_SS_init 23 = .ok (.putfield 19, 3) := by decide +kernel
theorem d_SS_init_26 : decode b_SS_init 26 = .ok (.aload_n 0, 1) := by decide +kernel
theorem d_SS_init_27 : decode b_SS_init 27 = .ok (.new 23, 3) := by decide +kernel
theorem d_SS_init_30 : decode b_SS_init 30 = .ok (.dup, 1) := by decide +kernel
theorem d_SS_init_31 : decode b_SS_init 31 = .ok (.aload_n 0, 1) := by decide +kernel
theorem d_SS_init_32 : decode b_SS_init 32 = .ok (.getfield 19, 3) := by decide +kernel
theorem d_SS_init_35 : decode b_SS_init 35 = .ok (.invokespecial 25, 3) := by decide +kernel
theorem d_SS_init_38 : decode b_SS_init 38 = .ok (.putfield 28, 3) := by decide +kernel
theorem d_SS_init_41 : decode b_SS_init 41 = .ok (.return_, 1) := by decide +kernel
theorem d_SS_widen_0 : decode b_SS_widen 0 = .ok (.iload_n 1, 1) := by decide +kernel
theorem d_SS_widen_1 : decode b_SS_widen 1 = .ok (.invokestatic 32, 3) := by decide +kernel
theorem d_SS_widen_4 : decode b_SS_widen 4 = .ok (.ifCond .ne 13, 3) := by decide +kernel
theorem d_SS_widen_7 : decode b_SS_widen 7 = .ok (.new 36, 3) := by decide +kernel
theorem d_SS_widen_10 : decode b_SS_widen 10 = .ok (.dup, 1) := by decide +kernel
theorem d_SS_widen_11 : decode b_SS_widen 11 = .ok (.ldc 38, 2) := by decide +kernel
theorem d_SS_widen_13 : decode b_SS_widen 13 = .ok (.invokespecial 40, 3) := by decide +kernel
theorem d_SS_widen_16 : decode b_SS_widen 16 = .ok (.athrow, 1) := by decide +kernel
theorem d_SS_widen_17 : decode b_SS_widen 17 = .ok (.aload_n 0, 1) := by decide +kernel
theorem d_SS_widen_18 : decode b_SS_widen 18 = .ok (.getfield 10, 3) := by decide +kernel
theorem d_SS_widen_21 : decode b_SS_widen 21 = .ok (.iload_n 1, 1) := by decide +kernel
theorem d_SS_widen_22 : decode b_SS_widen 22 = .ok (.invokevirtual 43, 3) := by decide +kernel
theorem d_SS_widen_25 : decode b_SS_widen 25 = .ok (.ifCond .ne 15, 3) := by decide +kernel
theorem d_SS_widen_28 : decode b_SS_widen 28 = .ok (.aload_n 0, 1) := by decide +kernel
theorem d_SS_widen_29 : decode b_SS_widen 29 = .ok (.getfield 10, 3) := by decide +kernel
theorem d_SS_widen_32 : decode b_SS_widen 32 = .ok (.iload_n 1, 1) := by decide +kernel
theorem d_SS_widen_33 : decode b_SS_widen 33 = .ok (.iconst 0, 1) := by decide +kernel
theorem d_SS_widen_34 : decode b_SS_widen 34 = .ok (.invokevirtual 46, 3) := by decide +kernel
theorem d_SS_widen_37 : decode b_SS_widen 37 = .ok (.ifnull 13, 3) := by decide +kernel
theorem d_SS_widen_40 : decode b_SS_widen 40 = .ok (.new 50, 3) := by decide +kernel
theorem d_SS_widen_43 : decode b_SS_widen 43 = .ok (.dup, 1) := by decide +kernel
theorem d_SS_widen_44 : decode b_SS_widen 44 = .ok (.ldc 52, 2) := by decide +kernel
theorem d_SS_widen_46 : decode b_SS_widen 46 = .ok (.invokespecial 54, 3) := by decide +kernel
theorem d_SS_widen_49 : decode b_SS_widen 49 = .ok (.athrow, 1) := by decide +kernel
theorem d_SS_widen_50 : decode b_SS_widen 50 = .ok (.aload_n 0, 1) := by decide +kernel
theorem d_SS_widen_51 : decode b_SS_widen 51 = .ok (.getfield 10, 3) := by decide +kernel
theorem d_SS_widen_54 : decode b_SS_widen 54 = .ok (.iload_n 1, 1) := by decide +kernel
theorem d_SS_widen_55 : decode b_SS_widen 55 = .ok (.invokevirtual 55, 3) := by decide +kernel
theorem d_SS_widen_58 : decode b_SS_widen 58 = .ok (.return_, 1) := by decide +kernel
theorem d_SS_plug_0 : decode b_SS_plug 0 = .ok (.iload_n 1, 1) := by decide +kernel
theorem d_SS_plug_1 : decode b_SS_plug 1 = .ok (.invokestatic 32, 3) := by decide +kernel
theorem d_SS_plug_4 : decode b_SS_plug 4 = .ok (.ifCond .eq 19, 3) := by decide +kernel
theorem d_SS_plug_7 : decode b_SS_plug 7 = .ok (.iload_n 2, 1) := by decide +kernel
theorem d_SS_plug_8 : decode b_SS_plug 8 = .ok (.invokestatic 59, 3) := by decide +kernel
theorem d_SS_plug_11 : decode b_SS_plug 11 = .ok (.ifCond .eq 12, 3) := by decide +kernel
theorem d_SS_plug_14 : decode b_SS_plug 14 = .ok (.iload_n 3, 1) := by decide +kernel
theorem d_SS_plug_15 : decode b_SS_plug 15 = .ok (.iload 4, 2) := by decide +kernel
theorem d_SS_plug_17 : decode b_SS_plug 17 = .ok (.invokestatic 62, 3) := by decide +kernel
theorem d_SS_plug_20 : decode b_SS_plug 20 = .ok (.ifCond .ne 13, 3) := by decide +kernel
theorem d_SS_plug_23 : decode b_SS_plug 23 = .ok (.new 36, 3) := by decide +kernel
theorem d_SS_plug_26 : decode b_SS_plug 26 = .ok (.dup, 1) := by decide +kernel
theorem d_SS_plug_27 : decode b_SS_plug 27 = .ok (.ldc 66, 2) := by decide +kernel
theorem d_SS_plug_29 : decode b_SS_plug 29 = .ok (.invokespecial 40, 3) := by decide +kernel
theorem d_SS_plug_32 : decode b_SS_plug 32 = .ok (.athrow, 1) := by decide +kernel
theorem d_SS_plug_33 : decode b_SS_plug 33 = .ok (.aload_n 0, 1) := by decide +kernel
theorem d_SS_plug_34 : decode b_SS_plug 34 = .ok (.getfield 10, 3) := by decide +kernel
theorem d_SS_plug_37 : decode b_SS_plug 37 = .ok (.iload_n 1, 1) := by decide +kernel
theorem d_SS_plug_38 : decode b_SS_plug 38 = .ok (.iload_n 2, 1) := by decide +kernel
theorem d_SS_plug_39 : decode b_SS_plug 39 = .ok (.invokevirtual 68, 3) := by decide +kernel
theorem d_SS_plug_42 : decode b_SS_plug 42 = .ok (.ifCond .eq 15, 3) := by decide +kernel
theorem d_SS_plug_45 : decode b_SS_plug 45 = .ok (.aload_n 0, 1) := by decide +kernel
theorem d_SS_plug_46 : decode b_SS_plug 46 = .ok (.getfield 10, 3) := by decide +kernel
theorem d_SS_plug_49 : decode b_SS_plug 49 = .ok (.iload_n 1, 1) := by decide +kernel
theorem d_SS_plug_50 : decode b_SS_plug 50 = .ok (.iload_n 2, 1) := by decide +kernel
theorem d_SS_plug_51 : decode b_SS_plug 51 = .ok (.invokevirtual 46, 3) := by decide +kernel
theorem d_SS_plug_54 : decode b_SS_plug 54 = .ok (.ifnull 13, 3) := by decide +kernel
theorem d_SS_plug_57 : decode b_SS_plug 57 = .ok (.new 50, 3) := by decide +kernel
theorem d_SS_plug_60 : decode b_SS_plug 60 = .ok (.dup, 1) := by decide +kernel
theorem d_SS_plug_61 : decode b_SS_plug 61 = .ok (.ldc 71, 2) := by decide +kernel
theorem d_SS_plug_63 : decode b_SS_plug 63 = .ok (.invokespecial 54, 3) := by decide +kernel
theorem d_SS_plug_66 : decode b_SS_plug 66 = .ok (.athrow, 1) := by decide +kernel
theorem d_SS_plug_67 : decode b_SS_plug 67 = .ok (.aload_n 0, 1) := by decide +kernel
theorem d_SS_plug_68 : decode b_SS_plug 68 = .ok (.getfield 10, 3) := by decide +kernel
theorem d_SS_plug_71 : decode b_SS_plug 71 = .ok (.iload_n 1, 1) := by decide +kernel
theorem d_SS_plug_72 : decode b_SS_plug 72 = .ok (.iload_n 2, 1) := by decide +kernel
theorem d_SS_plug_73 : decode b_SS_plug 73 = .ok (.iload_n 3, 1) := by decide +kernel
theorem d_SS_plug_74 : decode b_SS_plug 74 = .ok (.iload 4, 2) := by decide +kernel
theorem d_SS_plug_76 : decode b_SS_plug 76 = .ok (.invokestatic 73, 3) := by decide +kernel
theorem d_SS_plug_79 : decode b_SS_plug 79 = .ok (.invokevirtual 76, 3) := by decide +kernel
theorem d_SS_plug_82 : decode b_SS_plug 82 = .ok (.return_, 1) := by decide +kernel
theorem d_SS_burn_0 : decode b_SS_burn 0 = .ok (.iload_n 1, 1) := by decide +kernel
theorem d_SS_burn_1 : decode b_SS_burn 1 = .ok (.invokestatic 32, 3) := by decide +kernel
theorem d_SS_burn_4 : decode b_SS_burn 4 = .ok (.ifCond .eq 18, 3) := by decide +kernel
theorem d_SS_burn_7 : decode b_SS_burn 7 = .ok (.iload_n 2, 1) := by decide +kernel
theorem d_SS_burn_8 : decode b_SS_burn 8 = .ok (.invokestatic 59, 3) := by decide +kernel
theorem d_SS_burn_11 : decode b_SS_burn 11 = .ok (.ifCond .eq 11, 3) := by decide +kernel
theorem d_SS_burn_14 : decode b_SS_burn 14 = .ok (.iload 4, 2) := by decide +kernel
theorem d_SS_burn_16 : decode b_SS_burn 16 = .ok (.invokestatic 80, 3) := by decide +kernel
theorem d_SS_burn_19 : decode b_SS_burn 19 = .ok (.ifCond .ne 5, 3) := by decide +kernel
theorem d_SS_burn_22 : decode b_SS_burn 22 = .ok (.iconst 0, 1) := by decide +kernel
theorem d_SS_burn_23 : decode b_SS_burn 23 = .ok (.ireturn, 1) := by decide +kernel
theorem d_SS_burn_24 : decode b_SS_burn 24 = .ok (.aload_n 0, 1) := by decide +kernel
theorem d_SS_burn_25 : decode b_SS_burn 25 = .ok (.getfield 10, 3) := by decide +kernel
theorem d_SS_burn_28 : decode b_SS_burn 28 = .ok (.iload_n 1, 1) := by decide +kernel
theorem d_SS_burn_29 : decode b_SS_burn 29 = .ok (.iload_n 2, 1) := by decide +kernel
theorem d_SS_burn_30 : decode b_SS_burn 30 = .ok (.invokevirtual 46, 3) := by decide +kernel
theorem d_SS_burn_33 : decode b_SS_burn 33 = .ok (.astore 5, 2) := by decide +kernel
theorem d_SS_burn_35 : decode b_SS_burn 35 = .ok (.aload 5, 2) := by decide +kernel
theorem d_SS_burn_37 : decode b_SS_burn 37 = .ok (.ifnull 18, 3) := by decide +kernel
theorem d_SS_burn_40 : decode b_SS_burn 40 = .ok (.aload 5, 2) := by decide +kernel
theorem d_SS_burn_42 : decode b_SS_burn 42 = .ok (.iload_n 3, 1) := by decide +kernel
theorem d_SS_burn_43 : decode b_SS_burn 43 = .ok (.iload 4, 2) := by decide +kernel
theorem d_SS_burn_45 : decode b_SS_burn 45 = .ok (.invokevirtual 83, 3) := by decide +kernel
theorem d_SS_burn_48 : decode b_SS_burn 48 = .ok (.ifCond .eq 7, 3) := by decide +kernel
theorem d_SS_burn_51 : decode b_SS_burn 51 = .ok (.iconst 1, 1) := by decide +kernel
theorem d_SS_burn_52 : decode b_SS_burn 52 = .ok (.goto 4, 3) := by decide +kernel
theorem d_SS_burn_55 : decode b_SS_burn 55 = .ok (.iconst 0, 1) := by decide +kernel
theorem d_SS_burn_56 : decode b_SS_burn 56 = .ok (.ireturn, 1) := by decide +kernel
theorem d_SS_read_0 : decode b_SS_read 0 = .ok (.iload_n 1, 1) := by decide +kernel
theorem d_SS_read_1 : decode b_SS_read 1 = .ok (.invokestatic 88, 3) := by decide +kernel
theorem d_SS_read_4 : decode b_SS_read 4 = .ok (.ifCond .ne 13, 3) := by decide +kernel
theorem d_SS_read_7 : decode b_SS_read 7 = .ok (.new 36, 3) := by decide +kernel
theorem d_SS_read_10 : decode b_SS_read 10 = .ok (.dup, 1) := by decide +kernel
theorem d_SS_read_11 : decode b_SS_read 11 = .ok (.ldc 91, 2) := by decide +kernel
theorem d_SS_read_13 : decode b_SS_read 13 = .ok (.invokespecial 40, 3) := by decide +kernel
theorem d_SS_read_16 : decode b_SS_read 16 = .ok (.athrow, 1) := by decide +kernel
theorem d_SS_read_17 : decode b_SS_read 17 = .ok (.aload_n 0, 1) := by decide +kernel
theorem d_SS_read_18 : decode b_SS_read 18 = .ok (.getfield 10, 3) := by decide +kernel
theorem d_SS_read_21 : decode b_SS_read 21 = .ok (.iload_n 1, 1) := by decide +kernel
theorem d_SS_read_22 : decode b_SS_read 22 = .ok (.invokevirtual 93, 3) := by decide +kernel
theorem d_SS_read_25 : decode b_SS_read 25 = .ok (.istore_n 2, 1) := by decide +kernel
theorem d_SS_read_26 : decode b_SS_read 26 = .ok (.aload_n 0, 1) := by decide +kernel
theorem d_SS_read_27 : decode b_SS_read 27 = .ok (.getfield 10, 3) := by decide +kernel
theorem d_SS_read_30 : decode b_SS_read 30 = .ok (.iload_n 2, 1) := by decide +kernel
theorem d_SS_read_31 : decode b_SS_read 31 = .ok (.aload_n 0, 1) := by decide +kernel
theorem d_SS_read_32 : decode b_SS_read 32 = .ok (.getfield 10, 3) := by decide +kernel
theorem d_SS_read_35 : decode b_SS_read 35 = .ok (.iload_n 2, 1) := by decide +kernel
theorem d_SS_read_36 : decode b_SS_read 36 = .ok (.iload_n 1, 1) := by decide +kernel
theorem d_SS_read_37 : decode b_SS_read 37 = .ok (.invokevirtual 97, 3) := by decide +kernel
theorem d_SS_read_40 : decode b_SS_read 40 = .ok (.iload_n 1, 1) := by decide +kernel
theorem d_SS_read_41 : decode b_SS_read 41 = .ok (.invokevirtual 101, 3) := by decide +kernel
theorem d_SS_read_44 : decode b_SS_read 44 = .ok (.ireturn, 1) := by decide +kernel
theorem d_SS_write_0 : decode b_SS_write 0 = .ok (.iload_n 1, 1) := by decide +kernel
theorem d_SS_write_1 : decode b_SS_write 1 = .ok (.invokestatic 88, 3) := by decide +kernel
theorem d_SS_write_4 : decode b_SS_write 4 = .ok (.ifCond .eq 10, 3) := by decide +kernel
theorem d_SS_write_7 : decode b_SS_write 7 = .ok (.iload_n 2, 1) := by decide +kernel
theorem d_SS_write_8 : decode b_SS_write 8 = .ok (.invokestatic 80, 3) := by decide +kernel
theorem d_SS_write_11 : decode b_SS_write 11 = .ok (.ifCond .ne 13, 3) := by decide +kernel
theorem d_SS_write_14 : decode b_SS_write 14 = .ok (.new 36, 3) := by decide +kernel
theorem d_SS_write_17 : decode b_SS_write 17 = .ok (.dup, 1) := by decide +kernel
theorem d_SS_write_18 : decode b_SS_write 18 = .ok (.ldc 105, 2) := by decide +kernel
theorem d_SS_write_20 : decode b_SS_write 20 = .ok (.invokespecial 40, 3) := by decide +kernel
theorem d_SS_write_23 : decode b_SS_write 23 = .ok (.athrow, 1) := by decide +kernel
theorem d_SS_write_24 : decode b_SS_write 24 = .ok (.aload_n 0, 1) := by decide +kernel
theorem d_SS_write_25 : decode b_SS_write 25 = .ok (.getfield 10, 3) := by decide +kernel
theorem d_SS_write_28 : decode b_SS_write 28 = .ok (.iload_n 1, 1) := by decide +kernel
theorem d_SS_write_29 : decode b_SS_write 29 = .ok (.iload_n 2, 1) := by decide +kernel
theorem d_SS_write_30 : decode b_SS_write 30 = .ok (.invokevirtual 107, 3) := by decide +kernel
theorem d_SS_write_33 : decode b_SS_write 33 = .ok (.return_, 1) := by decide +kernel
theorem d_SS_far_0 : decode b_SS_far 0 = .ok (.iload_n 1, 1) := by decide +kernel
theorem d_SS_far_1 : decode b_SS_far 1 = .ok (.invokestatic 32, 3) := by decide +kernel
theorem d_SS_far_4 : decode b_SS_far 4 = .ok (.ifCond .eq 17, 3) := by decide +kernel
theorem d_SS_far_7 : decode b_SS_far 7 = .ok (.iload_n 2, 1) := by decide +kernel
theorem d_SS_far_8 : decode b_SS_far 8 = .ok (.invokestatic 59, 3) := by decide +kernel
theorem d_SS_far_11 : decode b_SS_far 11 = .ok (.ifCond .eq 10, 3) := by decide +kernel
theorem d_SS_far_14 : decode b_SS_far 14 = .ok (.iload_n 3, 1) := by decide +kernel
theorem d_SS_far_15 : decode b_SS_far 15 = .ok (.invokestatic 88, 3) := by decide +kernel
theorem d_SS_far_18 : decode b_SS_far 18 = .ok (.ifCond .ne 13, 3) := by decide +kernel
theorem d_SS_far_21 : decode b_SS_far 21 = .ok (.new 36, 3) := by decide +kernel
theorem d_SS_far_24 : decode b_SS_far 24 = .ok (.dup, 1) := by decide +kernel
theorem d_SS_far_25 : decode b_SS_far 25 = .ok (.ldc 111, 2) := by decide +kernel
theorem d_SS_far_27 : decode b_SS_far 27 = .ok (.invokespecial 40, 3) := by decide +kernel
theorem d_SS_far_30 : decode b_SS_far 30 = .ok (.athrow, 1) := by decide +kernel
theorem d_SS_far_31 : decode b_SS_far 31 = .ok (.aload_n 0, 1) := by decide +kernel
theorem d_SS_far_32 : decode b_SS_far 32 = .ok (.getfield 10, 3) := by decide +kernel
theorem d_SS_far_35 : decode b_SS_far 35 = .ok (.iload_n 1, 1) := by decide +kernel
theorem d_SS_far_36 : decode b_SS_far 36 = .ok (.iload_n 2, 1) := by decide +kernel
theorem d_SS_far_37 : decode b_SS_far 37 = .ok (.iload_n 3, 1) := by decide +kernel
theorem d_SS_far_38 : decode b_SS_far 38 = .ok (.invokevirtual 101, 3) := by decide +kernel
theorem d_SS_far_41 : decode b_SS_far 41 = .ok (.ireturn, 1) := by decide +kernel
theorem d_SS_in_0 : decode b_SS_in 0 = .ok (.iload_n 1, 1) := by decide +kernel
theorem d_SS_in_1 : decode b_SS_in 1 = .ok (.tableswitch 51 0 2 #[27, 35, 43], 27) := by decide +kernel
theorem d_SS_in_28 : decode b_SS_in 28 = .ok (.aload_n 0, 1) := by decide +kernel
theorem d_SS_in_29 : decode b_SS_in 29 = .ok (.getfield 19, 3) := by decide +kernel
theorem d_SS_in_32 : decode b_SS_in 32 = .ok (.invokevirtual 113, 3) := by decide +kernel
theorem d_SS_in_35 : decode b_SS_in 35 = .ok (.ireturn, 1) := by decide +kernel
theorem d_SS_in_36 : decode b_SS_in 36 = .ok (.aload_n 0, 1) := by decide +kernel
theorem d_SS_in_37 : decode b_SS_in 37 = .ok (.getfield 19, 3) := by decide +kernel
theorem d_SS_in_40 : decode b_SS_in 40 = .ok (.invokevirtual 117, 3) := by decide +kernel
theorem d_SS_in_43 : decode b_SS_in 43 = .ok (.ireturn, 1) := by decide +kernel
theorem d_SS_in_44 : decode b_SS_in 44 = .ok (.aload_n 0, 1) := by decide +kernel
theorem d_SS_in_45 : decode b_SS_in 45 = .ok (.getfield 10, 3) := by decide +kernel
theorem d_SS_in_48 : decode b_SS_in 48 = .ok (.invokevirtual 120, 3) := by decide +kernel
theorem d_SS_in_51 : decode b_SS_in 51 = .ok (.ireturn, 1) := by decide +kernel
theorem d_SS_in_52 : decode b_SS_in 52 = .ok (.sipush 255, 3) := by decide +kernel
theorem d_SS_in_55 : decode b_SS_in 55 = .ok (.ireturn, 1) := by decide +kernel
theorem d_SS_out_0 : decode b_SS_out 0 = .ok (.iload_n 2, 1) := by decide +kernel
theorem d_SS_out_1 : decode b_SS_out 1 = .ok (.invokestatic 80, 3) := by decide +kernel
theorem d_SS_out_4 : decode b_SS_out 4 = .ok (.ifCond .ne 5, 3) := by decide +kernel
theorem d_SS_out_7 : decode b_SS_out 7 = .ok (.iconst 0, 1) := by decide +kernel
theorem d_SS_out_8 : decode b_SS_out 8 = .ok (.ireturn, 1) := by decide +kernel
theorem d_SS_out_9 : decode b_SS_out 9 = .ok (.iload_n 1, 1) := by decide +kernel
theorem d_SS_out_10 : decode b_SS_out 10 = .ok (.tableswitch 59 0 2 #[26, 37, 48], 26) := by decide +kernel
theorem d_SS_out_36 : decode b_SS_out 36 = .ok (.aload_n 0, 1) := by decide +kernel
theorem d_SS_out_37 : decode b_SS_out 37 = .ok (.getfield 19, 3) := by decide +kernel
theorem d_SS_out_40 : decode b_SS_out 40 = .ok (.iload_n 2, 1) := by decide +kernel
theorem d_SS_out_41 : decode b_SS_out 41 = .ok (.invokevirtual 123, 3) := by decide +kernel
theorem d_SS_out_44 : decode b_SS_out 44 = .ok (.goto 25, 3) := by decide +kernel
theorem d_SS_out_47 : decode b_SS_out 47 = .ok (.aload_n 0, 1) := by decide +kernel
theorem d_SS_out_48 : decode b_SS_out 48 = .ok (.getfield 19, 3) := by decide +kernel
theorem d_SS_out_51 : decode b_SS_out 51 = .ok (.iload_n 2, 1) := by decide +kernel
theorem d_SS_out_52 : decode b_SS_out 52 = .ok (.invokevirtual 126, 3) := by decide +kernel
theorem d_SS_out_55 : decode b_SS_out 55 = .ok (.goto 14, 3) := by decide +kernel
theorem d_SS_out_58 : decode b_SS_out 58 = .ok (.aload_n 0, 1) := by decide +kernel
theorem d_SS_out_59 : decode b_SS_out 59 = .ok (.getfield 10, 3) := by decide +kernel
theorem d_SS_out_62 : decode b_SS_out 62 = .ok (.iload_n 2, 1) := by decide +kernel
theorem d_SS_out_63 : decode b_SS_out 63 = .ok (.invokevirtual 129, 3) := by decide +kernel
theorem d_SS_out_66 : decode b_SS_out 66 = .ok (.goto 3, 3) := by decide +kernel
theorem d_SS_out_69 : decode b_SS_out 69 = .ok (.iconst 1, 1) := by decide +kernel
theorem d_SS_out_70 : decode b_SS_out 70 = .ok (.ireturn, 1) := by decide +kernel
theorem d_SS_scan_0 : decode b_SS_scan 0 = .ok (.aload_n 0, 1) := by decide +kernel
theorem d_SS_scan_1 : decode b_SS_scan 1 = .ok (.getfield 28, 3) := by decide +kernel
theorem d_SS_scan_4 : decode b_SS_scan 4 = .ok (.invokevirtual 132, 3) := by decide +kernel
theorem d_SS_scan_7 : decode b_SS_scan 7 = .ok (.ireturn, 1) := by decide +kernel
theorem d_SS_pixel_0 : decode b_SS_pixel 0 = .ok (.aload_n 0, 1) := by decide +kernel
theorem d_SS_pixel_1 : decode b_SS_pixel 1 = .ok (.getfield 28, 3) := by decide +kernel
theorem d_SS_pixel_4 : decode b_SS_pixel 4 = .ok (.iload_n 1, 1) := by decide +kernel
theorem d_SS_pixel_5 : decode b_SS_pixel 5 = .ok (.iload_n 2, 1) := by decide +kernel
theorem d_SS_pixel_6 : decode b_SS_pixel 6 = .ok (.invokevirtual 135, 3) := by decide +kernel
theorem d_SS_pixel_9 : decode b_SS_pixel 9 = .ok (.ireturn, 1) := by decide +kernel
theorem d_SS_video_0 : decode b_SS_video 0 = .ok (.iload_n 1, 1) := by decide +kernel
theorem d_SS_video_1 : decode b_SS_video 1 = .ok (.ifCond .lt 21, 3) := by decide +kernel
theorem d_SS_video_4 : decode b_SS_video 4 = .ok (.iload_n 1, 1) := by decide +kernel
theorem d_SS_video_5 : decode b_SS_video 5 = .ok (.sipush 512, 3) := by decide +kernel
theorem d_SS_video_8 : decode b_SS_video 8 = .ok (.if_icmp .ge 14, 3) := by decide +kernel
theorem d_SS_video_11 : decode b_SS_video 11 = .ok (.aload_n 0, 1) := by decide +kernel
theorem d_SS_video_12 : decode b_SS_video 12 = .ok (.getfield 19, 3) := by decide +kernel
theorem d_SS_video_15 : decode b_SS_video 15 = .ok (.iload_n 1, 1) := by decide +kernel
theorem d_SS_video_16 : decode b_SS_video 16 = .ok (.invokevirtual 138, 3) := by decide +kernel
theorem d_SS_video_19 : decode b_SS_video 19 = .ok (.goto 4, 3) := by decide +kernel
theorem d_SS_video_22 : decode b_SS_video 22 = .ok (.iconst (-1), 1) := by decide +kernel
theorem d_SS_video_23 : decode b_SS_video 23 = .ok (.ireturn, 1) := by decide +kernel
theorem d_SS_chip_0 : decode b_SS_chip 0 = .ok (.aload_n 0, 1) := by decide +kernel
theorem d_SS_chip_1 : decode b_SS_chip 1 = .ok (.getfield 19, 3) := by decide +kernel
theorem d_SS_chip_4 : decode b_SS_chip 4 = .ok (.iload_n 1, 1) := by decide +kernel
theorem d_SS_chip_5 : decode b_SS_chip 5 = .ok (.invokevirtual 141, 3) := by decide +kernel
theorem d_SS_chip_8 : decode b_SS_chip 8 = .ok (.ireturn, 1) := by decide +kernel
theorem d_SS_secondary_0 : decode b_SS_secondary 0 = .ok (.iload_n 1, 1) := by decide +kernel
theorem d_SS_secondary_1 : decode b_SS_secondary 1 = .ok (.invokestatic 32, 3) := by decide +kernel
theorem d_SS_secondary_4 : decode b_SS_secondary 4 = .ok (.ifCond .eq 25, 3) := by decide +kernel
theorem d_SS_secondary_7 : decode b_SS_secondary 7 = .ok (.aload_n 0, 1) := by decide +kernel
theorem d_SS_secondary_8 : decode b_SS_secondary 8 = .ok (.getfield 10, 3) := by decide +kernel
theorem d_SS_secondary_11 : decode b_SS_secondary 11 = .ok (.iload_n 1, 1) := by decide +kernel
theorem d_SS_secondary_12 : decode b_SS_secondary 12 = .ok (.invokevirtual 43, 3) := by decide +kernel
theorem d_SS_secondary_15 : decode b_SS_secondary 15 = .ok (.ifCond .eq 14, 3) := by decide +kernel
theorem d_SS_secondary_18 : decode b_SS_secondary 18 = .ok (.aload_n 0, 1) := by decide +kernel
theorem d_SS_secondary_19 : decode b_SS_secondary 19 = .ok (.getfield 10, 3) := by decide +kernel
theorem d_SS_secondary_22 : decode b_SS_secondary 22 = .ok (.iload_n 1, 1) := by decide +kernel
theorem d_SS_secondary_23 : decode b_SS_secondary 23 = .ok (.invokevirtual 144, 3) := by decide +kernel
theorem d_SS_secondary_26 : decode b_SS_secondary 26 = .ok (.goto 4, 3) := by decide +kernel
theorem d_SS_secondary_29 : decode b_SS_secondary 29 = .ok (.iconst (-1), 1) := by decide +kernel
theorem d_SS_secondary_30 : decode b_SS_secondary 30 = .ok (.ireturn, 1) := by decide +kernel
theorem d_SS_calls_0 : decode b_SS_calls 0 = .ok (.aload_n 0, 1) := by decide +kernel
theorem d_SS_calls_1 : decode b_SS_calls 1 = .ok (.getfield 19, 3) := by decide +kernel
theorem d_SS_calls_4 : decode b_SS_calls 4 = .ok (.invokevirtual 147, 3) := by decide +kernel
theorem d_SS_calls_7 : decode b_SS_calls 7 = .ok (.ireturn, 1) := by decide +kernel
theorem d_SS_isSlot_0 : decode b_SS_isSlot 0 = .ok (.iload_n 0, 1) := by decide +kernel
theorem d_SS_isSlot_1 : decode b_SS_isSlot 1 = .ok (.ifCond .lt 12, 3) := by decide +kernel
theorem d_SS_isSlot_4 : decode b_SS_isSlot 4 = .ok (.iload_n 0, 1) := by decide +kernel
theorem d_SS_isSlot_5 : decode b_SS_isSlot 5 = .ok (.iconst 4, 1) := by decide +kernel
theorem d_SS_isSlot_6 : decode b_SS_isSlot 6 = .ok (.if_icmp .ge 7, 3) := by decide +kernel
theorem d_SS_isSlot_9 : decode b_SS_isSlot 9 = .ok (.iconst 1, 1) := by decide +kernel
theorem d_SS_isSlot_10 : decode b_SS_isSlot 10 = .ok (.goto 4, 3) := by decide +kernel
theorem d_SS_isSlot_13 : decode b_SS_isSlot 13 = .ok (.iconst 0, 1) := by decide +kernel
theorem d_SS_isSlot_14 : decode b_SS_isSlot 14 = .ok (.ireturn, 1) := by decide +kernel
theorem d_SS_isPart_0 : decode b_SS_isPart 0 = .ok (.iload_n 0, 1) := by decide +kernel
theorem d_SS_isPart_1 : decode b_SS_isPart 1 = .ok (.ifCond .lt 12, 3) := by decide +kernel
theorem d_SS_isPart_4 : decode b_SS_isPart 4 = .ok (.iload_n 0, 1) := by decide +kernel
theorem d_SS_isPart_5 : decode b_SS_isPart 5 = .ok (.iconst 4, 1) := by decide +kernel
theorem d_SS_isPart_6 : decode b_SS_isPart 6 = .ok (.if_icmp .ge 7, 3) := by decide +kernel
theorem d_SS_isPart_9 : decode b_SS_isPart 9 = .ok (.iconst 1, 1) := by decide +kernel
theorem d_SS_isPart_10 : decode b_SS_isPart 10 = .ok (.goto 4, 3) := by decide +kernel
theorem d_SS_isPart_13 : decode b_SS_isPart 13 = .ok (.iconst 0, 1) := by decide +kernel
theorem d_SS_isPart_14 : decode b_SS_isPart 14 = .ok (.ireturn, 1) := by decide +kernel
theorem d_SS_isAddress_0 : decode b_SS_isAddress 0 = .ok (.iload_n 0, 1) := by decide +kernel
theorem d_SS_isAddress_1 : decode b_SS_isAddress 1 = .ok (.ifCond .lt 14, 3) := by decide +kernel
theorem d_SS_isAddress_4 : decode b_SS_isAddress 4 = .ok (.iload_n 0, 1) := by decide +kernel
theorem d_SS_isAddress_5 : decode b_SS_isAddress 5 = .ok (.sipush 256, 3) := by decide +kernel
theorem d_SS_isAddress_8 : decode b_SS_isAddress 8 = .ok (.if_icmp .ge 7, 3) := by decide +kernel
theorem d_SS_isAddress_11 : decode b_SS_isAddress 11 = .ok (.iconst 1, 1) := by decide +kernel
theorem d_SS_isAddress_12 : decode b_SS_isAddress 12 = .ok (.goto 4, 3) := by decide +kernel
theorem d_SS_isAddress_15 : decode b_SS_isAddress 15 = .ok (.iconst 0, 1) := by decide +kernel
theorem d_SS_isAddress_16 : decode b_SS_isAddress 16 = .ok (.ireturn, 1) := by decide +kernel
theorem d_SS_isByte_0 : decode b_SS_isByte 0 = .ok (.iload_n 0, 1) := by decide +kernel
theorem d_SS_isByte_1 : decode b_SS_isByte 1 = .ok (.ifCond .lt 14, 3) := by decide +kernel
theorem d_SS_isByte_4 : decode b_SS_isByte 4 = .ok (.iload_n 0, 1) := by decide +kernel
theorem d_SS_isByte_5 : decode b_SS_isByte 5 = .ok (.sipush 255, 3) := by decide +kernel
theorem d_SS_isByte_8 : decode b_SS_isByte 8 = .ok (.if_icmp .gt 7, 3) := by decide +kernel
theorem d_SS_isByte_11 : decode b_SS_isByte 11 = .ok (.iconst 1, 1) := by decide +kernel
theorem d_SS_isByte_12 : decode b_SS_isByte 12 = .ok (.goto 4, 3) := by decide +kernel
theorem d_SS_isByte_15 : decode b_SS_isByte 15 = .ok (.iconst 0, 1) := by decide +kernel
theorem d_SS_isByte_16 : decode b_SS_isByte 16 = .ok (.ireturn, 1) := by decide +kernel
theorem d_SS_isDevice_0 : decode b_SS_isDevice 0 = .ok (.iload_n 0, 1) := by decide +kernel
theorem d_SS_isDevice_1 : decode b_SS_isDevice 1 = .ok (.iconst 3, 1) := by decide +kernel
theorem d_SS_isDevice_2 : decode b_SS_isDevice 2 = .ok (.if_icmp .ne 20, 3) := by decide +kernel
theorem d_SS_isDevice_5 : decode b_SS_isDevice 5 = .ok (.iload_n 1, 1) := by decide +kernel
theorem d_SS_isDevice_6 : decode b_SS_isDevice 6 = .ok (.iconst 1, 1) := by decide +kernel
theorem d_SS_isDevice_7 : decode b_SS_isDevice 7 = .ok (.if_icmp .lt 13, 3) := by decide +kernel
theorem d_SS_isDevice_10 : decode b_SS_isDevice 10 = .ok (.iload_n 1, 1) := by decide +kernel
theorem d_SS_isDevice_11 : decode b_SS_isDevice 11 = .ok (.bipush 8, 2) := by decide +kernel
theorem d_SS_isDevice_13 : decode b_SS_isDevice 13 = .ok (.if_icmp .gt 7, 3) := by decide +kernel
theorem d_SS_isDevice_16 : decode b_SS_isDevice 16 = .ok (.iconst 1, 1) := by decide +kernel
theorem d_SS_isDevice_17 : decode b_SS_isDevice 17 = .ok (.goto 4, 3) := by decide +kernel
theorem d_SS_isDevice_20 : decode b_SS_isDevice 20 = .ok (.iconst 0, 1) := by decide +kernel
theorem d_SS_isDevice_21 : decode b_SS_isDevice 21 = .ok (.ireturn, 1) := by decide +kernel
theorem d_SS_isDevice_22 : decode b_SS_isDevice 22 = .ok (.iload_n 0, 1) := by decide +kernel
theorem d_SS_isDevice_23 : decode b_SS_isDevice 23 = .ok (.iconst 1, 1) := by decide +kernel
theorem d_SS_isDevice_24 : decode b_SS_isDevice 24 = .ok (.if_icmp .eq 13, 3) := by decide +kernel
theorem d_SS_isDevice_27 : decode b_SS_isDevice 27 = .ok (.iload_n 0, 1) := by decide +kernel
theorem d_SS_isDevice_28 : decode b_SS_isDevice 28 = .ok (.iconst 2, 1) := by decide +kernel
theorem d_SS_isDevice_29 : decode b_SS_isDevice 29 = .ok (.if_icmp .eq 8, 3) := by decide +kernel
theorem d_SS_isDevice_32 : decode b_SS_isDevice 32 = .ok (.iload_n 0, 1) := by decide +kernel
theorem d_SS_isDevice_33 : decode b_SS_isDevice 33 = .ok (.iconst 4, 1) := by decide +kernel
theorem d_SS_isDevice_34 : decode b_SS_isDevice 34 = .ok (.if_icmp .ne 7, 3) := by decide +kernel
theorem d_SS_isDevice_37 : decode b_SS_isDevice 37 = .ok (.iconst 1, 1) := by decide +kernel
theorem d_SS_isDevice_38 : decode b_SS_isDevice 38 = .ok (.goto 4, 3) := by decide +kernel
theorem d_SS_isDevice_41 : decode b_SS_isDevice 41 = .ok (.iconst 0, 1) := by decide +kernel
theorem d_SS_isDevice_42 : decode b_SS_isDevice 42 = .ok (.ireturn, 1) := by decide +kernel
theorem d_SS_newDevice_0 : decode b_SS_newDevice 0 = .ok (.iload_n 0, 1) := by decide +kernel
theorem d_SS_newDevice_1 : decode b_SS_newDevice 1 = .ok (.tableswitch 55 1 3 #[27, 38, 46], 27) := by decide +kernel
theorem d_SS_newDevice_28 : decode b_SS_newDevice 28 = .ok (.new 151, 3) := by decide +kernel
theorem d_SS_newDevice_31 : decode b_SS_newDevice 31 = .ok (.dup, 1) := by decide +kernel
theorem d_SS_newDevice_32 : decode b_SS_newDevice 32 = .ok (.sipush 256, 3) := by decide +kernel
theorem d_SS_newDevice_35 : decode b_SS_newDevice 35 = .ok (.invokespecial 153, 3) := by decide +kernel
theorem d_SS_newDevice_38 : decode b_SS_newDevice 38 = .ok (.areturn, 1) := by decide +kernel
theorem d_SS_newDevice_39 : decode b_SS_newDevice 39 = .ok (.new 155, 3) := by decide +kernel
theorem d_SS_newDevice_42 : decode b_SS_newDevice 42 = .ok (.dup, 1) := by decide +kernel
theorem d_SS_newDevice_43 : decode b_SS_newDevice 43 = .ok (.invokespecial 157, 3) := by decide +kernel
theorem d_SS_newDevice_46 : decode b_SS_newDevice 46 = .ok (.areturn, 1) := by decide +kernel
theorem d_SS_newDevice_47 : decode b_SS_newDevice 47 = .ok (.new 158, 3) := by decide +kernel
theorem d_SS_newDevice_50 : decode b_SS_newDevice 50 = .ok (.dup, 1) := by decide +kernel
theorem d_SS_newDevice_51 : decode b_SS_newDevice 51 = .ok (.iload_n 1, 1) := by decide +kernel
theorem d_SS_newDevice_52 : decode b_SS_newDevice 52 = .ok (.invokespecial 160, 3) := by decide +kernel
theorem d_SS_newDevice_55 : decode b_SS_newDevice 55 = .ok (.areturn, 1) := by decide +kernel
theorem d_SS_newDevice_56 : decode b_SS_newDevice 56 = .ok (.new 151, 3) := by decide +kernel
theorem d_SS_newDevice_59 : decode b_SS_newDevice 59 = .ok (.dup, 1) := by decide +kernel
theorem d_SS_newDevice_60 : decode b_SS_newDevice 60 = .ok (.bipush 64, 2) := by decide +kernel
theorem d_SS_newDevice_62 : decode b_SS_newDevice 62 = .ok (.invokespecial 153, 3) := by decide +kernel
theorem d_SS_newDevice_65 : decode b_SS_newDevice 65 = .ok (.areturn, 1) := by decide +kernel
theorem d_BK_init_0 : decode b_BK_init 0 = .ok (.aload_n 0, 1) := by decide +kernel
theorem d_BK_init_1 : decode b_BK_init 1 = .ok (.invokespecial 3, 3) := by decide +kernel
theorem d_BK_init_4 : decode b_BK_init 4 = .ok (.aload_n 0, 1) := by decide +kernel
theorem d_BK_init_5 : decode b_BK_init 5 = .ok (.iconst 4, 1) := by decide +kernel
theorem d_BK_init_6 : decode b_BK_init 6 = .ok (.newarray .int, 2) := by decide +kernel
theorem d_BK_init_8 : decode b_BK_init 8 = .ok (.putfield 11, 3) := by decide +kernel
theorem d_BK_init_11 : decode b_BK_init 11 = .ok (.aload_n 0, 1) := by decide +kernel
theorem d_BK_init_12 : decode b_BK_init 12 = .ok (.iload_n 1, 1) := by decide +kernel
theorem d_BK_init_13 : decode b_BK_init 13 = .ok (.putfield 15, 3) := by decide +kernel
theorem d_BK_init_16 : decode b_BK_init 16 = .ok (.aload_n 0, 1) := by decide +kernel
theorem d_BK_init_17 : decode b_BK_init 17 = .ok (.iload_n 1, 1) := by decide +kernel
theorem d_BK_init_18 : decode b_BK_init 18 = .ok (.bipush 32, 2) := by decide +kernel
theorem d_BK_init_20 : decode b_BK_init 20 = .ok (.imul, 1) := by decide +kernel
theorem d_BK_init_21 : decode b_BK_init 21 = .ok (.newarray .int, 2) := by decide +kernel
theorem d_BK_init_23 : decode b_BK_init 23 = .ok (.putfield 19, 3) := by decide +kernel
theorem d_BK_init_26 : decode b_BK_init 26 = .ok (.iconst 0, 1) := by decide +kernel
theorem d_BK_init_27 : decode b_BK_init 27 = .ok (.istore_n 2, 1) := by decide +kernel
theorem d_BK_init_28 : decode b_BK_init 28 = .ok (.iload_n 2, 1) := by decide +kernel
theorem d_BK_init_29 : decode b_BK_init 29 = .ok (.iconst 4, 1) := by decide +kernel
theorem d_BK_init_30 : decode b_BK_init 30 = .ok (.if_icmp .ge 18, 3) := by decide +kernel
theorem d_BK_init_33 : decode b_BK_init 33 = .ok (.aload_n 0, 1) := by decide +kernel
theorem d_BK_init_34 : decode b_BK_init 34 = .ok (.getfield 11, 3) := by decide +kernel
theorem d_BK_init_37 : decode b_BK_init 37 = .ok (.iload_n 2, 1) := by decide +kernel
theorem d_BK_init_38 : decode b_BK_init 38 = .ok (.iload_n 2, 1) := by decide +kernel
theorem d_BK_init_39 : decode b_BK_init 39 = .ok (.iload_n 1, 1) := by decide +kernel
theorem d_BK_init_40 : decode b_BK_init 40 = .ok (.irem, 1) := by decide +kernel
theorem d_BK_init_41 : decode b_BK_init 41 = .ok (.iastore, 1) := by decide +kernel
theorem d_BK_init_42 : decode b_BK_init 42 = .ok (.iinc 2 1, 3) := by decide +kernel
theorem d_BK_init_45 : decode b_BK_init 45 = .ok (.goto (-17), 3) := by decide +kernel
theorem d_BK_init_48 : decode b_BK_init 48 = .ok (.return_, 1) := by decide +kernel
theorem d_BK_byteAt_0 : decode b_BK_byteAt 0 = .ok (.iload_n 1, 1) := by decide +kernel
theorem d_BK_byteAt_1 : decode b_BK_byteAt 1 = .ok (.invokestatic 22, 3) := by decide +kernel
theorem d_BK_byteAt_4 : decode b_BK_byteAt 4 = .ok (.ifCond .ne 7, 3) := by decide +kernel
theorem d_BK_byteAt_7 : decode b_BK_byteAt 7 = .ok (.sipush 255, 3) := by decide +kernel
theorem d_BK_byteAt_10 : decode b_BK_byteAt 10 = .ok (.ireturn, 1) := by decide +kernel
theorem d_BK_byteAt_11 : decode b_BK_byteAt 11 = .ok (.aload_n 0, 1) := by decide +kernel
theorem d_BK_byteAt_12 : decode b_BK_byteAt 12 = .ok (.getfield 19, 3) := by decide +kernel
theorem d_BK_byteAt_15 : decode b_BK_byteAt 15 = .ok (.aload_n 0, 1) := by decide +kernel
theorem d_BK_byteAt_16 : decode b_BK_byteAt 16 = .ok (.getfield 11, 3) := by decide +kernel
theorem d_BK_byteAt_19 : decode b_BK_byteAt 19 = .ok (.iload_n 1, 1) := by decide +kernel
theorem d_BK_byteAt_20 : decode b_BK_byteAt 20 = .ok (.invokestatic 26, 3) := by decide +kernel
theorem d_BK_byteAt_23 : decode b_BK_byteAt 23 = .ok (.iaload, 1) := by decide +kernel
theorem d_BK_byteAt_24 : decode b_BK_byteAt 24 = .ok (.bipush 32, 2) := by decide +kernel
theorem d_BK_byteAt_26 : decode b_BK_byteAt 26 = .ok (.imul, 1) := by decide +kernel
theorem d_BK_byteAt_27 : decode b_BK_byteAt 27 = .ok (.iload_n 1, 1) := by decide +kernel
theorem d_BK_byteAt_28 : decode b_BK_byteAt 28 = .ok (.bipush 32, 2) := by decide +kernel
theorem d_BK_byteAt_30 : decode b_BK_byteAt 30 = .ok (.irem, 1) := by decide +kernel
theorem d_BK_byteAt_31 : decode b_BK_byteAt 31 = .ok (.iadd, 1) := by decide +kernel
theorem d_BK_byteAt_32 : decode b_BK_byteAt 32 = .ok (.iaload, 1) := by decide +kernel
theorem d_BK_byteAt_33 : decode b_BK_byteAt 33 = .ok (.ireturn, 1) := by decide +kernel
theorem d_BK_store_0 : decode b_BK_store 0 = .ok (.iload_n 1, 1) := by decide +kernel
theorem d_BK_store_1 : decode b_BK_store 1 = .ok (.invokestatic 22, 3) := by decide +kernel
theorem d_BK_store_4 : decode b_BK_store 4 = .ok (.ifCond .eq 18, 3) := by decide +kernel
theorem d_BK_store_7 : decode b_BK_store 7 = .ok (.aload_n 0, 1) := by decide +kernel
theorem d_BK_store_8 : decode b_BK_store 8 = .ok (.getfield 11, 3) := by decide +kernel
theorem d_BK_store_11 : decode b_BK_store 11 = .ok (.iload_n 1, 1) := by decide +kernel
theorem d_BK_store_12 : decode b_BK_store 12 = .ok (.invokestatic 26, 3) := by decide +kernel
theorem d_BK_store_15 : decode b_BK_store 15 = .ok (.iload_n 2, 1) := by decide +kernel
theorem d_BK_store_16 : decode b_BK_store 16 = .ok (.aload_n 0, 1) := by decide +kernel
theorem d_BK_store_17 : decode b_BK_store 17 = .ok (.getfield 15, 3) := by decide +kernel
theorem d_BK_store_20 : decode b_BK_store 20 = .ok (.irem, 1) := by decide +kernel
theorem d_BK_store_21 : decode b_BK_store 21 = .ok (.iastore, 1) := by decide +kernel
theorem d_BK_store_22 : decode b_BK_store 22 = .ok (.return_, 1) := by decide +kernel
theorem d_BK_fix_0 : decode b_BK_fix 0 = .ok (.iload_n 1, 1) := by decide +kernel
theorem d_BK_fix_1 : decode b_BK_fix 1 = .ok (.ifCond .lt 12, 3) := by decide +kernel
theorem d_BK_fix_4 : decode b_BK_fix 4 = .ok (.iload_n 1, 1) := by decide +kernel
theorem d_BK_fix_5 : decode b_BK_fix 5 = .ok (.aload_n 0, 1) := by decide +kernel
theorem d_BK_fix_6 : decode b_BK_fix 6 = .ok (.getfield 19, 3) := by decide +kernel
theorem d_BK_fix_9 : decode b_BK_fix 9 = .ok (.arraylength, 1) := by decide +kernel
theorem d_BK_fix_10 : decode b_BK_fix 10 = .ok (.if_icmp .lt 5, 3) := by decide +kernel
theorem d_BK_fix_13 : decode b_BK_fix 13 = .ok (.iconst 0, 1) := by decide +kernel
theorem d_BK_fix_14 : decode b_BK_fix 14 = .ok (.ireturn, 1) := by decide +kernel
theorem d_BK_fix_15 : decode b_BK_fix 15 = .ok (.aload_n 0, 1) := by decide +kernel
theorem d_BK_fix_16 : decode b_BK_fix 16 = .ok (.getfield 19, 3) := by decide +kernel
theorem d_BK_fix_19 : decode b_BK_fix 19 = .ok (.iload_n 1, 1) := by decide +kernel
theorem d_BK_fix_20 : decode b_BK_fix 20 = .ok (.iload_n 2, 1) := by decide +kernel
theorem d_BK_fix_21 : decode b_BK_fix 21 = .ok (.iastore, 1) := by decide +kernel
theorem d_BK_fix_22 : decode b_BK_fix 22 = .ok (.iconst 1, 1) := by decide +kernel
theorem d_BK_fix_23 : decode b_BK_fix 23 = .ok (.ireturn, 1) := by decide +kernel
theorem d_BK_isInWindow_0 : decode b_BK_isInWindow 0 = .ok (.iload_n 0, 1) := by decide +kernel
theorem d_BK_isInWindow_1 : decode b_BK_isInWindow 1 = .ok (.bipush 64, 2) := by decide +kernel
theorem d_BK_isInWindow_3 : decode b_BK_isInWindow 3 = .ok (.if_icmp .lt 14, 3) := by decide +kernel
theorem d_BK_isInWindow_6 : decode b_BK_isInWindow 6 = .ok (.iload_n 0, 1) := by decide +kernel
theorem d_BK_isInWindow_7 : decode b_BK_isInWindow 7 = .ok (.sipush 192, 3) := by decide +kernel
theorem d_BK_isInWindow_10 : decode b_BK_isInWindow 10 = .ok (.if_icmp .ge 7, 3) := by decide +kernel
theorem d_BK_isInWindow_13 : decode b_BK_isInWindow 13 = .ok (.iconst 1, 1) := by decide +kernel
theorem d_BK_isInWindow_14 : decode b_BK_isInWindow 14 = .ok (.goto 4, 3) := by decide +kernel
theorem d_BK_isInWindow_17 : decode b_BK_isInWindow 17 = .ok (.iconst 0, 1) := by decide +kernel
theorem d_BK_isInWindow_18 : decode b_BK_isInWindow 18 = .ok (.ireturn, 1) := by decide +kernel
theorem d_BK_windowOf_0 : decode b_BK_windowOf 0 = .ok (.iload_n 0, 1) := by decide +kernel
theorem d_BK_windowOf_1 : decode b_BK_windowOf 1 = .ok (.bipush 64, 2) := by decide +kernel
theorem d_BK_windowOf_3 : decode b_BK_windowOf 3 = .ok (.isub, 1) := by decide +kernel
theorem d_BK_windowOf_4 : decode b_BK_windowOf 4 = .ok (.bipush 32, 2) := by decide +kernel
theorem d_BK_windowOf_6 : decode b_BK_windowOf 6 = .ok (.idiv, 1) := by decide +kernel
theorem d_BK_windowOf_7 : decode b_BK_windowOf 7 = .ok (.ireturn, 1) := by decide +kernel
theorem d_CH_init_0 : decode b_CH_init 0 = .ok (.aload_n 0, 1) := by decide +kernel
theorem d_CH_init_1 : decode b_CH_init 1 = .ok (.invokespecial 3, 3) := by decide +kernel
theorem d_CH_init_4 : decode b_CH_init 4 = .ok (.aload_n 0, 1) := by decide +kernel
theorem d_CH_init_5 : decode b_CH_init 5 = .ok (.sipush 512, 3) := by decide +kernel
theorem d_CH_init_8 : decode b_CH_init 8 = .ok (.newarray .int, 2) := by decide +kernel
theorem d_CH_init_10 : decode b_CH_init 10 = .ok (.putfield 11, 3) := by decide +kernel
theorem d_CH_init_13 : decode b_CH_init 13 = .ok (.aload_n 0, 1) := by decide +kernel
theorem d_CH_init_14 : decode b_CH_init 14 = .ok (.bipush 8, 2) := by decide +kernel
theorem d_CH_init_16 : decode b_CH_init 16 = .ok (.newarray .int, 2) := by decide +kernel
theorem d_CH_init_18 : decode b_CH_init 18 = .ok (.putfield 15, 3) := by decide +kernel
theorem d_CH_init_21 : decode b_CH_init 21 = .ok (.aload_n 0, 1) := by decide +kernel
theorem d_CH_init_22 : decode b_CH_init 22 = .ok (.iconst (-1), 1) := by decide +kernel
theorem d_CH_init_23 : decode b_CH_init 23 = .ok (.putfield 18, 3) := by decide +kernel
theorem d_CH_init_26 : decode b_CH_init 26 = .ok (.return_, 1) := by decide +kernel
theorem d_CH_byteAt_0 : decode b_CH_byteAt 0 = .ok (.aload_n 0, 1) := by decide +kernel
theorem d_CH_byteAt_1 : decode b_CH_byteAt 1 = .ok (.getfield 11, 3) := by decide +kernel
theorem d_CH_byteAt_4 : decode b_CH_byteAt 4 = .ok (.iload_n 1, 1) := by decide +kernel
theorem d_CH_byteAt_5 : decode b_CH_byteAt 5 = .ok (.sipush 511, 3) := by decide +kernel
theorem d_CH_byteAt_8 : decode b_CH_byteAt 8 = .ok (.iand, 1) := by decide +kernel
theorem d_CH_byteAt_9 : decode b_CH_byteAt 9 = .ok (.iaload, 1) := by decide +kernel
theorem d_CH_byteAt_10 : decode b_CH_byteAt 10 = .ok (.ireturn, 1) := by decide +kernel
theorem d_CH_register_0 : decode b_CH_register 0 = .ok (.aload_n 0, 1) := by decide +kernel
theorem d_CH_register_1 : decode b_CH_register 1 = .ok (.getfield 15, 3) := by decide +kernel
theorem d_CH_register_4 : decode b_CH_register 4 = .ok (.iload_n 1, 1) := by decide +kernel
theorem d_CH_register_5 : decode b_CH_register 5 = .ok (.bipush 7, 2) := by decide +kernel
theorem d_CH_register_7 : decode b_CH_register 7 = .ok (.iand, 1) := by decide +kernel
theorem d_CH_register_8 : decode b_CH_register 8 = .ok (.iaload, 1) := by decide +kernel
theorem d_CH_register_9 : decode b_CH_register 9 = .ok (.ireturn, 1) := by decide +kernel
theorem d_CH_value_0 : decode b_CH_value 0 = .ok (.iload_n 1, 1) := by decide +kernel
theorem d_CH_value_1 : decode b_CH_value 1 = .ok (.ifCond .lt 16, 3) := by decide +kernel
theorem d_CH_value_4 : decode b_CH_value 4 = .ok (.iload_n 1, 1) := by decide +kernel
theorem d_CH_value_5 : decode b_CH_value 5 = .ok (.bipush 8, 2) := by decide +kernel
theorem d_CH_value_7 : decode b_CH_value 7 = .ok (.if_icmp .ge 10, 3) := by decide +kernel
theorem d_CH_value_10 : decode b_CH_value 10 = .ok (.aload_n 0, 1) := by decide +kernel
theorem d_CH_value_11 : decode b_CH_value 11 = .ok (.getfield 15, 3) := by decide +kernel
theorem d_CH_value_14 : decode b_CH_value 14 = .ok (.iload_n 1, 1) := by decide +kernel
theorem d_CH_value_15 : decode b_CH_value 15 = .ok (.iaload, 1) := by decide +kernel
theorem d_CH_value_16 : decode b_CH_value 16 = .ok (.ireturn, 1) := by decide +kernel
theorem d_CH_value_17 : decode b_CH_value 17 = .ok (.iload_n 1, 1) := by decide +kernel
theorem d_CH_value_18 : decode b_CH_value 18 = .ok (.tableswitch 50 8 11 #[30, 35, 40, 45], 30) := by decide +kernel
theorem d_CH_value_48 : decode b_CH_value 48 = .ok (.aload_n 0, 1) := by decide +kernel
theorem d_CH_value_49 : decode b_CH_value 49 = .ok (.getfield 22, 3) := by decide +kernel
theorem d_CH_value_52 : decode b_CH_value 52 = .ok (.ireturn, 1) := by decide +kernel
theorem d_CH_value_53 : decode b_CH_value 53 = .ok (.aload_n 0, 1) := by decide +kernel
theorem d_CH_value_54 : decode b_CH_value 54 = .ok (.getfield 25, 3) := by decide +kernel
theorem d_CH_value_57 : decode b_CH_value 57 = .ok (.ireturn, 1) := by decide +kernel
theorem d_CH_value_58 : decode b_CH_value 58 = .ok (.aload_n 0, 1) := by decide +kernel
theorem d_CH_value_59 : decode b_CH_value 59 = .ok (.getfield 28, 3) := by decide +kernel
theorem d_CH_value_62 : decode b_CH_value 62 = .ok (.ireturn, 1) := by decide +kernel
theorem d_CH_value_63 : decode b_CH_value 63 = .ok (.aload_n 0, 1) := by decide +kernel
theorem d_CH_value_64 : decode b_CH_value 64 = .ok (.getfield 18, 3) := by decide +kernel
theorem d_CH_value_67 : decode b_CH_value 67 = .ok (.ireturn, 1) := by decide +kernel
theorem d_CH_value_68 : decode b_CH_value 68 = .ok (.iconst (-1), 1) := by decide +kernel
theorem d_CH_value_69 : decode b_CH_value 69 = .ok (.ireturn, 1) := by decide +kernel
theorem d_CH_takeData_0 : decode b_CH_takeData 0 = .ok (.aload_n 0, 1) := by decide +kernel
theorem d_CH_takeData_1 : decode b_CH_takeData 1 = .ok (.iconst (-1), 1) := by decide +kernel
theorem d_CH_takeData_2 : decode b_CH_takeData 2 = .ok (.putfield 18, 3) := by decide +kernel
theorem d_CH_takeData_5 : decode b_CH_takeData 5 = .ok (.aload_n 0, 1) := by decide +kernel
theorem d_CH_takeData_6 : decode b_CH_takeData 6 = .ok (.getfield 28, 3) := by decide +kernel
theorem d_CH_takeData_9 : decode b_CH_takeData 9 = .ok (.istore_n 1, 1) := by decide +kernel
theorem d_CH_takeData_10 : decode b_CH_takeData 10 = .ok (.aload_n 0, 1) := by decide +kernel
theorem d_CH_takeData_11 : decode b_CH_takeData 11 = .ok (.invokevirtual 31, 3) := by decide +kernel
theorem d_CH_takeData_14 : decode b_CH_takeData 14 = .ok (.iload_n 1, 1) := by decide +kernel
theorem d_CH_takeData_15 : decode b_CH_takeData 15 = .ok (.ireturn, 1) := by decide +kernel
theorem d_CH_giveData_0 : decode b_CH_giveData 0 = .ok (.aload_n 0, 1) := by decide +kernel
theorem d_CH_giveData_1 : decode b_CH_giveData 1 = .ok (.iconst (-1), 1) := by decide +kernel
theorem d_CH_giveData_2 : decode b_CH_giveData 2 = .ok (.putfield 18, 3) := by decide +kernel
theorem d_CH_giveData_5 : decode b_CH_giveData 5 = .ok (.aload_n 0, 1) := by decide +kernel
theorem d_CH_giveData_6 : decode b_CH_giveData 6 = .ok (.getfield 11, 3) := by decide +kernel
theorem d_CH_giveData_9 : decode b_CH_giveData 9 = .ok (.aload_n 0, 1) := by decide +kernel
theorem d_CH_giveData_10 : decode b_CH_giveData 10 = .ok (.getfield 25, 3) := by decide +kernel
theorem d_CH_giveData_13 : decode b_CH_giveData 13 = .ok (.iload_n 1, 1) := by decide +kernel
theorem d_CH_giveData_14 : decode b_CH_giveData 14 = .ok (.iastore, 1) := by decide +kernel
theorem d_CH_giveData_15 : decode b_CH_giveData 15 = .ok (.aload_n 0, 1) := by decide +kernel
theorem d_CH_giveData_16 : decode b_CH_giveData 16 = .ok (.invokevirtual 31, 3) := by decide +kernel
theorem d_CH_giveData_19 : decode b_CH_giveData 19 = .ok (.return_, 1) := by decide +kernel
theorem d_CH_takeStatus_0 : decode b_CH_takeStatus 0 = .ok (.aload_n 0, 1) := by decide +kernel
theorem d_CH_takeStatus_1 : decode b_CH_takeStatus 1 = .ok (.iconst (-1), 1) := by decide +kernel
theorem d_CH_takeStatus_2 : decode b_CH_takeStatus 2 = .ok (.putfield 18, 3) := by decide +kernel
theorem d_CH_takeStatus_5 : decode b_CH_takeStatus 5 = .ok (.aload_n 0, 1) := by decide +kernel
theorem d_CH_takeStatus_6 : decode b_CH_takeStatus 6 = .ok (.getfield 22, 3) := by decide +kernel
theorem d_CH_takeStatus_9 : decode b_CH_takeStatus 9 = .ok (.istore_n 1, 1) := by decide +kernel
theorem d_CH_takeStatus_10 : decode b_CH_takeStatus 10 = .ok (.aload_n 0, 1) := by decide +kernel
theorem d_CH_takeStatus_11 : decode b_CH_takeStatus 11 = .ok (.iload_n 1, 1) := by decide +kernel
theorem d_CH_takeStatus_12 : decode b_CH_takeStatus 12 = .ok (.bipush 31, 2) := by decide +kernel
theorem d_CH_takeStatus_14 : decode b_CH_takeStatus 14 = .ok (.iand, 1) := by decide +kernel
theorem d_CH_takeStatus_15 : decode b_CH_takeStatus 15 = .ok (.putfield 22, 3) := by decide +kernel
theorem d_CH_takeStatus_18 : decode b_CH_takeStatus 18 = .ok (.iload_n 1, 1) := by decide +kernel
theorem d_CH_takeStatus_19 : decode b_CH_takeStatus 19 = .ok (.ireturn, 1) := by decide +kernel
theorem d_CH_giveControl_0 : decode b_CH_giveControl 0 = .ok (.aload_n 0, 1) := by decide +kernel
theorem d_CH_giveControl_1 : decode b_CH_giveControl 1 = .ok (.getfield 18, 3) := by decide +kernel
theorem d_CH_giveControl_4 : decode b_CH_giveControl 4 = .ok (.iconst (-1), 1) := by decide +kernel
theorem d_CH_giveControl_5 : decode b_CH_giveControl 5 = .ok (.if_icmp .ne 9, 3) := by decide +kernel
theorem d_CH_giveControl_8 : decode b_CH_giveControl 8 = .ok (.aload_n 0, 1) := by decide +kernel
theorem d_CH_giveControl_9 : decode b_CH_giveControl 9 = .ok (.iload_n 1, 1) := by decide +kernel
theorem d_CH_giveControl_10 : decode b_CH_giveControl 10 = .ok (.putfield 18, 3) := by decide +kernel
theorem d_CH_giveControl_13 : decode b_CH_giveControl 13 = .ok (.return_, 1) := by decide +kernel
theorem d_CH_giveControl_14 : decode b_CH_giveControl 14 = .ok (.aload_n 0, 1) := by decide +kernel
theorem d_CH_giveControl_15 : decode b_CH_giveControl 15 = .ok (.getfield 18, 3) := by decide +kernel
theorem d_CH_giveControl_18 : decode b_CH_giveControl 18 = .ok (.istore_n 2, 1) := by decide +kernel
theorem d_CH_giveControl_19 : decode b_CH_giveControl 19 = .ok (.aload_n 0, 1) := by decide +kernel
theorem d_CH_giveControl_20 : decode b_CH_giveControl 20 = .ok (.iconst (-1), 1) := by decide +kernel
theorem d_CH_giveControl_21 : decode b_CH_giveControl 21 = .ok (.putfield 18, 3) := by decide +kernel
theorem d_CH_giveControl_24 : decode b_CH_giveControl 24 = .ok (.iload_n 1, 1) := by decide +kernel
theorem d_CH_giveControl_25 : decode b_CH_giveControl 25 = .ok (.sipush 128, 3) := by decide +kernel
theorem d_CH_giveControl_28 : decode b_CH_giveControl 28 = .ok (.if_icmp .lt 14, 3) := by decide +kernel
theorem d_CH_giveControl_31 : decode b_CH_giveControl 31 = .ok (.aload_n 0, 1) := by decide +kernel
theorem d_CH_giveControl_32 : decode b_CH_giveControl 32 = .ok (.getfield 15, 3) := by decide +kernel
theorem d_CH_giveControl_35 : decode b_CH_giveControl 35 = .ok (.iload_n 1, 1) := by decide +kernel
theorem d_CH_giveControl_36 : decode b_CH_giveControl 36 = .ok (.bipush 8, 2) := by decide +kernel
theorem d_CH_giveControl_38 : decode b_CH_giveControl 38 = .ok (.irem, 1) := by decide +kernel
theorem d_CH_giveControl_39 : decode b_CH_giveControl 39 = .ok (.iload_n 2, 1) := by decide +kernel
theorem d_CH_giveControl_40 : decode b_CH_giveControl 40 = .ok (.iastore, 1) := by decide +kernel
theorem d_CH_giveControl_41 : decode b_CH_giveControl 41 = .ok (.return_, 1) := by decide +kernel
theorem d_CH_giveControl_42 : decode b_CH_giveControl 42 = .ok (.aload_n 0, 1) := by decide +kernel
theorem d_CH_giveControl_43 : decode b_CH_giveControl 43 = .ok (.iload_n 2, 1) := by decide +kernel
theorem d_CH_giveControl_44 : decode b_CH_giveControl 44 = .ok (.sipush 256, 3) := by decide +kernel
theorem d_CH_giveControl_47 : decode b_CH_giveControl 47 = .ok (.iload_n 1, 1) := by decide +kernel
theorem d_CH_giveControl_48 : decode b_CH_giveControl 48 = .ok (.iconst 2, 1) := by decide +kernel
theorem d_CH_giveControl_49 : decode b_CH_giveControl 49 = .ok (.irem, 1) := by decide +kernel
theorem d_CH_giveControl_50 : decode b_CH_giveControl 50 = .ok (.imul, 1) := by decide +kernel
theorem d_CH_giveControl_51 : decode b_CH_giveControl 51 = .ok (.iadd, 1) := by decide +kernel
theorem d_CH_giveControl_52 : decode b_CH_giveControl 52 = .ok (.putfield 25, 3) := by decide +kernel
theorem d_CH_giveControl_55 : decode b_CH_giveControl 55 = .ok (.iload_n 1, 1) := by decide +kernel
theorem d_CH_giveControl_56 : decode b_CH_giveControl 56 = .ok (.bipush 64, 2) := by decide +kernel
theorem d_CH_giveControl_58 : decode b_CH_giveControl 58 = .ok (.if_icmp .ge 7, 3) := by decide +kernel
theorem d_CH_giveControl_61 : decode b_CH_giveControl 61 = .ok (.aload_n 0, 1) := by decide +kernel
theorem d_CH_giveControl_62 : decode b_CH_giveControl 62 = .ok (.invokevirtual 31, 3) := by decide +kernel
theorem d_CH_giveControl_65 : decode b_CH_giveControl 65 = .ok (.return_, 1) := by decide +kernel
theorem d_CH_wantsAttention_0 : decode b_CH_wantsAttention 0 = .ok (.aload_n 0, 1) := by decide +kernel
theorem d_CH_wantsAttention_1 : decode b_CH_wantsAttention 1 = .ok (.getfield 15, 3) := by decide +kernel
theorem d_CH_wantsAttention_4 : decode b_CH_wantsAttention 4 = .ok (.iconst 1, 1) := by decide +kernel
theorem d_CH_wantsAttention_5 : decode b_CH_wantsAttention 5 = .ok (.iaload, 1) := by decide +kernel
theorem d_CH_wantsAttention_6 : decode b_CH_wantsAttention 6 = .ok (.bipush 32, 2) := by decide +kernel
theorem d_CH_wantsAttention_8 : decode b_CH_wantsAttention 8 = .ok (.iand, 1) := by decide +kernel
theorem d_CH_wantsAttention_9 : decode b_CH_wantsAttention 9 = .ok (.ifCond .eq 18, 3) := by decide +kernel
theorem d_CH_wantsAttention_12 : decode b_CH_wantsAttention 12 = .ok (.aload_n 0, 1) := by decide +kernel
theorem d_CH_wantsAttention_13 : decode b_CH_wantsAttention 13 = .ok (.getfield 22, 3) := by decide +kernel
theorem d_CH_wantsAttention_16 : decode b_CH_wantsAttention 16 = .ok (.sipush 128, 3) := by decide +kernel
theorem d_CH_wantsAttention_19 : decode b_CH_wantsAttention 19 = .ok (.iand, 1) := by decide +kernel
theorem d_CH_wantsAttention_20 : decode b_CH_wantsAttention 20 = .ok (.ifCond .eq 7, 3) := by decide +kernel
theorem d_CH_wantsAttention_23 : decode b_CH_wantsAttention 23 = .ok (.iconst 1, 1) := by decide +kernel
theorem d_CH_wantsAttention_24 : decode b_CH_wantsAttention 24 = .ok (.goto 4, 3) := by decide +kernel
theorem d_CH_wantsAttention_27 : decode b_CH_wantsAttention 27 = .ok (.iconst 0, 1) := by decide +kernel
theorem d_CH_wantsAttention_28 : decode b_CH_wantsAttention 28 = .ok (.ireturn, 1) := by decide +kernel
theorem d_CH_noteFrame_0 : decode b_CH_noteFrame 0 = .ok (.aload_n 0, 1) := by decide +kernel
theorem d_CH_noteFrame_1 : decode b_CH_noteFrame 1 = .ok (.dup, 1) := by decide +kernel
theorem d_CH_noteFrame_2 : decode b_CH_noteFrame 2 = .ok (.getfield 22, 3) := by decide +kernel
theorem d_CH_noteFrame_5 : decode b_CH_noteFrame 5 = .ok (.sipush 128, 3) := by decide +kernel
theorem d_CH_noteFrame_8 : decode b_CH_noteFrame 8 = .ok (.ior, 1) := by decide +kernel
theorem d_CH_noteFrame_9 : decode b_CH_noteFrame 9 = .ok (.putfield 22, 3) := by decide +kernel
theorem d_CH_noteFrame_12 : decode b_CH_noteFrame 12 = .ok (.return_, 1) := by decide +kernel
theorem d_CH_noteTouch_0 : decode b_CH_noteTouch 0 = .ok (.aload_n 0, 1) := by decide +kernel
theorem d_CH_noteTouch_1 : decode b_CH_noteTouch 1 = .ok (.dup, 1) := by decide +kernel
theorem d_CH_noteTouch_2 : decode b_CH_noteTouch 2 = .ok (.getfield 22, 3) := by decide +kernel
theorem d_CH_noteTouch_5 : decode b_CH_noteTouch 5 = .ok (.bipush 32, 2) := by decide +kernel
theorem d_CH_noteTouch_7 : decode b_CH_noteTouch 7 = .ok (.ior, 1) := by decide +kernel
theorem d_CH_noteTouch_8 : decode b_CH_noteTouch 8 = .ok (.putfield 22, 3) := by decide +kernel
theorem d_CH_noteTouch_11 : decode b_CH_noteTouch 11 = .ok (.return_, 1) := by decide +kernel
theorem d_CH_noteFifth_0 : decode b_CH_noteFifth 0 = .ok (.aload_n 0, 1) := by decide +kernel
theorem d_CH_noteFifth_1 : decode b_CH_noteFifth 1 = .ok (.getfield 22, 3) := by decide +kernel
theorem d_CH_noteFifth_4 : decode b_CH_noteFifth 4 = .ok (.bipush 64, 2) := by decide +kernel
theorem d_CH_noteFifth_6 : decode b_CH_noteFifth 6 = .ok (.iand, 1) := by decide +kernel
theorem d_CH_noteFifth_7 : decode b_CH_noteFifth 7 = .ok (.ifCond .ne 19, 3) := by decide +kernel
theorem d_CH_noteFifth_10 : decode b_CH_noteFifth 10 = .ok (.aload_n 0, 1) := by decide +kernel
theorem d_CH_noteFifth_11 : decode b_CH_noteFifth 11 = .ok (.aload_n 0, 1) := by decide +kernel
theorem d_CH_noteFifth_12 : decode b_CH_noteFifth 12 = .ok (.getfield 22, 3) := by decide +kernel
theorem d_CH_noteFifth_15 : decode b_CH_noteFifth 15 = .ok (.bipush (-32), 2) := by decide +kernel
theorem d_CH_noteFifth_17 : decode b_CH_noteFifth 17 = .ok (.iand, 1) := by decide +kernel
theorem d_CH_noteFifth_18 : decode b_CH_noteFifth 18 = .ok (.bipush 64, 2) := by decide +kernel
theorem d_CH_noteFifth_20 : decode b_CH_noteFifth 20 = .ok (.ior, 1) := by decide +kernel
theorem d_CH_noteFifth_21 : decode b_CH_noteFifth 21 = .ok (.iload_n 1, 1) := by decide +kernel
theorem d_CH_noteFifth_22 : decode b_CH_noteFifth 22 = .ok (.ior, 1) := by decide +kernel
theorem d_CH_noteFifth_23 : decode b_CH_noteFifth 23 = .ok (.putfield 22, 3) := by decide +kernel
theorem d_CH_noteFifth_26 : decode b_CH_noteFifth 26 = .ok (.return_, 1) := by decide +kernel
theorem d_CH_makeReady_0 : decode b_CH_makeReady 0 = .ok (.aload_n 0, 1) := by decide +kernel
theorem d_CH_makeReady_1 : decode b_CH_makeReady 1 = .ok (.aload_n 0, 1) := by decide +kernel
theorem d_CH_makeReady_2 : decode b_CH_makeReady 2 = .ok (.getfield 11, 3) := by decide +kernel
theorem d_CH_makeReady_5 : decode b_CH_makeReady 5 = .ok (.aload_n 0, 1) := by decide +kernel
theorem d_CH_makeReady_6 : decode b_CH_makeReady 6 = .ok (.getfield 25, 3) := by decide +kernel
theorem d_CH_makeReady_9 : decode b_CH_makeReady 9 = .ok (.iaload, 1) := by decide +kernel
theorem d_CH_makeReady_10 : decode b_CH_makeReady 10 = .ok (.putfield 28, 3) := by decide +kernel
theorem d_CH_makeReady_13 : decode b_CH_makeReady 13 = .ok (.aload_n 0, 1) := by decide +kernel
theorem d_CH_makeReady_14 : decode b_CH_makeReady 14 = .ok (.aload_n 0, 1) := by decide +kernel
theorem d_CH_makeReady_15 : decode b_CH_makeReady 15 = .ok (.getfield 25, 3) := by decide +kernel
theorem d_CH_makeReady_18 : decode b_CH_makeReady 18 = .ok (.iconst 1, 1) := by decide +kernel
theorem d_CH_makeReady_19 : decode b_CH_makeReady 19 = .ok (.iadd, 1) := by decide +kernel
theorem d_CH_makeReady_20 : decode b_CH_makeReady 20 = .ok (.sipush 512, 3) := by decide +kernel
theorem d_CH_makeReady_23 : decode b_CH_makeReady 23 = .ok (.irem, 1) := by decide +kernel
theorem d_CH_makeReady_24 : decode b_CH_makeReady 24 = .ok (.putfield 25, 3) := by decide +kernel
theorem d_CH_makeReady_27 : decode b_CH_makeReady 27 = .ok (.return_, 1) := by decide +kernel
theorem d_DV_init_0 : decode b_DV_init 0 = .ok (.aload_n 0, 1) := by decide +kernel
theorem d_DV_init_1 : decode b_DV_init 1 = .ok (.invokespecial 1, 3) := by decide +kernel
theorem d_DV_init_4 : decode b_DV_init 4 = .ok (.return_, 1) := by decide +kernel
theorem d_DV_fix_0 : decode b_DV_fix 0 = .ok (.iconst 0, 1) := by decide +kernel
theorem d_DV_fix_1 : decode b_DV_fix 1 = .ok (.ireturn, 1) := by decide +kernel
theorem d_RA_init_0 : decode b_RA_init 0 = .ok (.aload_n 0, 1) := by decide +kernel
theorem d_RA_init_1 : decode b_RA_init 1 = .ok (.invokespecial 1, 3) := by decide +kernel
theorem d_RA_init_4 : decode b_RA_init 4 = .ok (.aload_n 0, 1) := by decide +kernel
theorem d_RA_init_5 : decode b_RA_init 5 = .ok (.iload_n 1, 1) := by decide +kernel
theorem d_RA_init_6 : decode b_RA_init 6 = .ok (.newarray .int, 2) := by decide +kernel
theorem d_RA_init_8 : decode b_RA_init 8 = .ok (.putfield 7, 3) := by decide +kernel
theorem d_RA_init_11 : decode b_RA_init 11 = .ok (.aload_n 0, 1) := by decide +kernel
theorem d_RA_init_12 : decode b_RA_init 12 = .ok (.iload_n 1, 1) := by decide +kernel
theorem d_RA_init_13 : decode b_RA_init 13 = .ok (.iconst 1, 1) := by decide +kernel
theorem d_RA_init_14 : decode b_RA_init 14 = .ok (.isub, 1) := by decide +kernel
theorem d_RA_init_15 : decode b_RA_init 15 = .ok (.putfield 13, 3) := by decide +kernel
theorem d_RA_init_18 : decode b_RA_init 18 = .ok (.return_, 1) := by decide +kernel
theorem d_RA_byteAt_0 : decode b_RA_byteAt 0 = .ok (.aload_n 0, 1) := by decide +kernel
theorem d_RA_byteAt_1 : decode b_RA_byteAt 1 = .ok (.getfield 7, 3) := by decide +kernel
theorem d_RA_byteAt_4 : decode b_RA_byteAt 4 = .ok (.iload_n 1, 1) := by decide +kernel
theorem d_RA_byteAt_5 : decode b_RA_byteAt 5 = .ok (.aload_n 0, 1) := by decide +kernel
theorem d_RA_byteAt_6 : decode b_RA_byteAt 6 = .ok (.getfield 13, 3) := by decide +kernel
theorem d_RA_byteAt_9 : decode b_RA_byteAt 9 = .ok (.iand, 1) := by decide +kernel
theorem d_RA_byteAt_10 : decode b_RA_byteAt 10 = .ok (.iaload, 1) := by decide +kernel
theorem d_RA_byteAt_11 : decode b_RA_byteAt 11 = .ok (.ireturn, 1) := by decide +kernel
theorem d_RA_store_0 : decode b_RA_store 0 = .ok (.aload_n 0, 1) := by decide +kernel
theorem d_RA_store_1 : decode b_RA_store 1 = .ok (.getfield 7, 3) := by decide +kernel
theorem d_RA_store_4 : decode b_RA_store 4 = .ok (.iload_n 1, 1) := by decide +kernel
theorem d_RA_store_5 : decode b_RA_store 5 = .ok (.aload_n 0, 1) := by decide +kernel
theorem d_RA_store_6 : decode b_RA_store 6 = .ok (.getfield 13, 3) := by decide +kernel
theorem d_RA_store_9 : decode b_RA_store 9 = .ok (.iand, 1) := by decide +kernel
theorem d_RA_store_10 : decode b_RA_store 10 = .ok (.iload_n 2, 1) := by decide +kernel
theorem d_RA_store_11 : decode b_RA_store 11 = .ok (.iastore, 1) := by decide +kernel
theorem d_RA_store_12 : decode b_RA_store 12 = .ok (.return_, 1) := by decide +kernel
theorem d_RO_init_0 : decode b_RO_init 0 = .ok (.aload_n 0, 1) := by decide +kernel
theorem d_RO_init_1 : decode b_RO_init 1 = .ok (.invokespecial 3, 3) := by decide +kernel
theorem d_RO_init_4 : decode b_RO_init 4 = .ok (.aload_n 0, 1) := by decide +kernel
theorem d_RO_init_5 : decode b_RO_init 5 = .ok (.sipush 256, 3) := by decide +kernel
theorem d_RO_init_8 : decode b_RO_init 8 = .ok (.newarray .int, 2) := by decide +kernel
theorem d_RO_init_10 : decode b_RO_init 10 = .ok (.putfield 9, 3) := by decide +kernel
theorem d_RO_init_13 : decode b_RO_init 13 = .ok (.return_, 1) := by decide +kernel
theorem d_RO_byteAt_0 : decode b_RO_byteAt 0 = .ok (.aload_n 0, 1) := by decide +kernel
theorem d_RO_byteAt_1 : decode b_RO_byteAt 1 = .ok (.getfield 9, 3) := by decide +kernel
theorem d_RO_byteAt_4 : decode b_RO_byteAt 4 = .ok (.iload_n 1, 1) := by decide +kernel
theorem d_RO_byteAt_5 : decode b_RO_byteAt 5 = .ok (.sipush 255, 3) := by decide +kernel
theorem d_RO_byteAt_8 : decode b_RO_byteAt 8 = .ok (.iand, 1) := by decide +kernel
theorem d_RO_byteAt_9 : decode b_RO_byteAt 9 = .ok (.iaload, 1) := by decide +kernel
theorem d_RO_byteAt_10 : decode b_RO_byteAt 10 = .ok (.ireturn, 1) := by decide +kernel
theorem d_RO_store_0 : decode b_RO_store 0 = .ok (.return_, 1) := by decide +kernel
theorem d_RO_fix_0 : decode b_RO_fix 0 = .ok (.iload_n 1, 1) := by decide +kernel
theorem d_RO_fix_1 : decode b_RO_fix 1 = .ok (.invokestatic 15, 3) := by decide +kernel
theorem d_RO_fix_4 : decode b_RO_fix 4 = .ok (.ifCond .ne 5, 3) := by decide +kernel
theorem d_RO_fix_7 : decode b_RO_fix 7 = .ok (.iconst 0, 1) := by decide +kernel
theorem d_RO_fix_8 : decode b_RO_fix 8 = .ok (.ireturn, 1) := by decide +kernel
theorem d_RO_fix_9 : decode b_RO_fix 9 = .ok (.aload_n 0, 1) := by decide +kernel
theorem d_RO_fix_10 : decode b_RO_fix 10 = .ok (.getfield 9, 3) := by decide +kernel
theorem d_RO_fix_13 : decode b_RO_fix 13 = .ok (.iload_n 1, 1) := by decide +kernel
theorem d_RO_fix_14 : decode b_RO_fix 14 = .ok (.iload_n 2, 1) := by decide +kernel
theorem d_RO_fix_15 : decode b_RO_fix 15 = .ok (.iastore, 1) := by decide +kernel
theorem d_RO_fix_16 : decode b_RO_fix 16 = .ok (.iconst 1, 1) := by decide +kernel
theorem d_RO_fix_17 : decode b_RO_fix 17 = .ok (.ireturn, 1) := by decide +kernel
theorem d_SC_init_0 : decode b_SC_init 0 = .ok (.aload_n 0, 1) := by decide +kernel
theorem d_SC_init_1 : decode b_SC_init 1 = .ok (.invokespecial 5, 3) := by decide +kernel
theorem d_SC_init_4 : decode b_SC_init 4 = .ok (.aload_n 0, 1) := by decide +kernel
theorem d_SC_init_5 : decode b_SC_init 5 = .ok (.sipush 2048, 3) := by decide +kernel
theorem d_SC_init_8 : decode b_SC_init 8 = .ok (.newarray .int, 2) := by decide +kernel
theorem d_SC_init_10 : decode b_SC_init 10 = .ok (.putfield 11, 3) := by decide +kernel
theorem d_SC_init_13 : decode b_SC_init 13 = .ok (.aload_n 0, 1) := by decide +kernel
theorem d_SC_init_14 : decode b_SC_init 14 = .ok (.aload_n 1, 1) := by decide +kernel
theorem d_SC_init_15 : decode b_SC_init 15 = .ok (.putfield 15, 3) := by decide +kernel
theorem d_SC_init_18 : decode b_SC_init 18 = .ok (.return_, 1) := by decide +kernel
theorem d_SC_colorAt_0 : decode b_SC_colorAt 0 = .ok (.iload_n 1, 1) := by decide +kernel
theorem d_SC_colorAt_1 : decode b_SC_colorAt 1 = .ok (.ifCond .lt 19, 3) := by decide +kernel
theorem d_SC_colorAt_4 : decode b_SC_colorAt 4 = .ok (.iload_n 1, 1) := by decide +kernel
theorem d_SC_colorAt_5 : decode b_SC_colorAt 5 = .ok (.bipush 64, 2) := by decide +kernel
theorem d_SC_colorAt_7 : decode b_SC_colorAt 7 = .ok (.if_icmp .ge 13, 3) := by decide +kernel
theorem d_SC_colorAt_10 : decode b_SC_colorAt 10 = .ok (.iload_n 2, 1) := by decide +kernel
theorem d_SC_colorAt_11 : decode b_SC_colorAt 11 = .ok (.ifCond .lt 9, 3) := by decide +kernel
theorem d_SC_colorAt_14 : decode b_SC_colorAt 14 = .ok (.iload_n 2, 1) := by decide +kernel
theorem d_SC_colorAt_15 : decode b_SC_colorAt 15 = .ok (.bipush 32, 2) := by decide +kernel
theorem d_SC_colorAt_17 : decode b_SC_colorAt 17 = .ok (.if_icmp .lt 5, 3) := by decide +kernel
theorem d_SC_colorAt_20 : decode b_SC_colorAt 20 = .ok (.iconst (-1), 1) := by decide +kernel
theorem d_SC_colorAt_21 : decode b_SC_colorAt 21 = .ok (.ireturn, 1) := by decide +kernel
theorem d_SC_colorAt_22 : decode b_SC_colorAt 22 = .ok (.aload_n 0, 1) := by decide +kernel
theorem d_SC_colorAt_23 : decode b_SC_colorAt 23 = .ok (.getfield 11, 3) := by decide +kernel
theorem d_SC_colorAt_26 : decode b_SC_colorAt 26 = .ok (.iload_n 2, 1) := by decide +kernel
theorem d_SC_colorAt_27 : decode b_SC_colorAt 27 = .ok (.bipush 64, 2) := by decide +kernel
theorem d_SC_colorAt_29 : decode b_SC_colorAt 29 = .ok (.imul, 1) := by decide +kernel
theorem d_SC_colorAt_30 : decode b_SC_colorAt 30 = .ok (.iload_n 1, 1) := by decide +kernel
theorem d_SC_colorAt_31 : decode b_SC_colorAt 31 = .ok (.iadd, 1) := by decide +kernel
theorem d_SC_colorAt_32 : decode b_SC_colorAt 32 = .ok (.iaload, 1) := by decide +kernel
theorem d_SC_colorAt_33 : decode b_SC_colorAt 33 = .ok (.ireturn, 1) := by decide +kernel
theorem d_SC_drawNextLine_0 : decode b_SC_drawNextLine 0 = .ok (.aload_n 0, 1) := by decide +kernel
theorem d_SC_drawNextLine_1 : decode b_SC_drawNextLine 1 = .ok (.getfield 19, 3) := by decide +kernel
theorem d_SC_drawNextLine_4 : decode b_SC_drawNextLine 4 = .ok (.istore_n 1, 1) := by decide +kernel
theorem d_SC_drawNextLine_5 : decode b_SC_drawNextLine 5 = .ok (.aload_n 0, 1) := by decide +kernel
theorem d_SC_drawNextLine_6 : decode b_SC_drawNextLine 6 = .ok (.getfield 15, 3) := by decide +kernel
theorem d_SC_drawNextLine_9 : decode b_SC_drawNextLine 9 = .ok (.iconst 1, 1) := by decide +kernel
theorem d_SC_drawNextLine_10 : decode b_SC_drawNextLine 10 = .ok (.invokevirtual 23, 3) := by decide +kernel
theorem d_SC_drawNextLine_13 : decode b_SC_drawNextLine 13 = .ok (.bipush 64, 2) := by decide +kernel
theorem d_SC_drawNextLine_15 : decode b_SC_drawNextLine 15 = .ok (.iand, 1) := by decide +kernel
theorem d_SC_drawNextLine_16 : decode b_SC_drawNextLine 16 = .ok (.ifCond .ne 11, 3) := by decide +kernel
theorem d_SC_drawNextLine_19 : decode b_SC_drawNextLine 19 = .ok (.aload_n 0, 1) := by decide +kernel
theorem d_SC_drawNextLine_20 : decode b_SC_drawNextLine 20 = .ok (.iload_n 1, 1) := by decide +kernel
theorem d_SC_drawNextLine_21 : decode b_SC_drawNextLine 21 = .ok (.invokevirtual 29, 3) := by decide +kernel
theorem d_SC_drawNextLine_24 : decode b_SC_drawNextLine 24 = .ok (.goto 13, 3) := by decide +kernel
theorem d_SC_drawNextLine_27 : decode b_SC_drawNextLine 27 = .ok (.aload_n 0, 1) := by decide +kernel
theorem d_SC_drawNextLine_28 : decode b_SC_drawNextLine 28 = .ok (.iload_n 1, 1) := by decide +kernel
theorem d_SC_drawNextLine_29 : decode b_SC_drawNextLine 29 = .ok (.invokevirtual 33, 3) := by decide +kernel
theorem d_SC_drawNextLine_32 : decode b_SC_drawNextLine 32 = .ok (.aload_n 0, 1) := by decide +kernel
theorem d_SC_drawNextLine_33 : decode b_SC_drawNextLine 33 = .ok (.iload_n 1, 1) := by decide +kernel
theorem d_SC_drawNextLine_34 : decode b_SC_drawNextLine 34 = .ok (.invokevirtual 36, 3) := by decide +kernel
theorem d_SC_drawNextLine_37 : decode b_SC_drawNextLine 37 = .ok (.aload_n 0, 1) := by decide +kernel
theorem d_SC_drawNextLine_38 : decode b_SC_drawNextLine 38 = .ok (.iload_n 1, 1) := by decide +kernel
theorem d_SC_drawNextLine_39 : decode b_SC_drawNextLine 39 = .ok (.iconst 1, 1) := by decide +kernel
theorem d_SC_drawNextLine_40 : decode b_SC_drawNextLine 40 = .ok (.iadd, 1) := by decide +kernel
theorem d_SC_drawNextLine_41 : decode b_SC_drawNextLine 41 = .ok (.bipush 32, 2) := by decide +kernel
theorem d_SC_drawNextLine_43 : decode b_SC_drawNextLine 43 = .ok (.irem, 1) := by decide +kernel
theorem d_SC_drawNextLine_44 : decode b_SC_drawNextLine 44 = .ok (.putfield 19, 3) := by decide +kernel
theorem d_SC_drawNextLine_47 : decode b_SC_drawNextLine 47 = .ok (.aload_n 0, 1) := by decide +kernel
theorem d_SC_drawNextLine_48 : decode b_SC_drawNextLine 48 = .ok (.getfield 19, 3) := by decide +kernel
theorem d_SC_drawNextLine_51 : decode b_SC_drawNextLine 51 = .ok (.ifCond .ne 10, 3) := by decide +kernel
theorem d_SC_drawNextLine_54 : decode b_SC_drawNextLine 54 = .ok (.aload_n 0, 1) := by decide +kernel
theorem d_SC_drawNextLine_55 : decode b_SC_drawNextLine 55 = .ok (.getfield 15, 3) := by decide +kernel
theorem d_SC_drawNextLine_58 : decode b_SC_drawNextLine 58 = .ok (.invokevirtual 39, 3) := by decide +kernel
theorem d_SC_drawNextLine_61 : decode b_SC_drawNextLine 61 = .ok (.iload_n 1, 1) := by decide +kernel
theorem d_SC_drawNextLine_62 : decode b_SC_drawNextLine 62 = .ok (.ireturn, 1) := by decide +kernel
theorem d_SC_drawBack_0 : decode b_SC_drawBack 0 = .ok (.aload_n 0, 1) := by decide +kernel
theorem d_SC_drawBack_1 : decode b_SC_drawBack 1 = .ok (.invokevirtual 42, 3) := by decide +kernel
theorem d_SC_drawBack_4 : decode b_SC_drawBack 4 = .ok (.istore_n 2, 1) := by decide +kernel
theorem d_SC_drawBack_5 : decode b_SC_drawBack 5 = .ok (.iconst 0, 1) := by decide +kernel
theorem d_SC_drawBack_6 : decode b_SC_drawBack 6 = .ok (.istore_n 3, 1) := by decide +kernel
theorem d_SC_drawBack_7 : decode b_SC_drawBack 7 = .ok (.iload_n 3, 1) := by decide +kernel
theorem d_SC_drawBack_8 : decode b_SC_drawBack 8 = .ok (.bipush 64, 2) := by decide +kernel
theorem d_SC_drawBack_10 : decode b_SC_drawBack 10 = .ok (.if_icmp .ge 21, 3) := by decide +kernel
theorem d_SC_drawBack_13 : decode b_SC_drawBack 13 = .ok (.aload_n 0, 1) := by decide +kernel
theorem d_SC_drawBack_14 : decode b_SC_drawBack 14 = .ok (.getfield 11, 3) := by decide +kernel
theorem d_SC_drawBack_17 : decode b_SC_drawBack 17 = .ok (.iload_n 1, 1) := by decide +kernel
theorem d_SC_drawBack_18 : decode b_SC_drawBack 18 = .ok (.bipush 64, 2) := by decide +kernel
theorem d_SC_drawBack_20 : decode b_SC_drawBack 20 = .ok (.imul, 1) := by decide +kernel
theorem d_SC_drawBack_21 : decode b_SC_drawBack 21 = .ok (.iload_n 3, 1) := by decide +kernel
theorem d_SC_drawBack_22 : decode b_SC_drawBack 22 = .ok (.iadd, 1) := by decide +kernel
theorem d_SC_drawBack_23 : decode b_SC_drawBack 23 = .ok (.iload_n 2, 1) := by decide +kernel
theorem d_SC_drawBack_24 : decode b_SC_drawBack 24 = .ok (.iastore, 1) := by decide +kernel
theorem d_SC_drawBack_25 : decode b_SC_drawBack 25 = .ok (.iinc 3 1, 3) := by decide +kernel
theorem d_SC_drawBack_28 : decode b_SC_drawBack 28 = .ok (.goto (-21), 3) := by decide +kernel
theorem d_SC_drawBack_31 : decode b_SC_drawBack 31 = .ok (.return_, 1) := by decide +kernel
theorem d_SC_drawTiles_0 : decode b_SC_drawTiles 0 = .ok (.bipush 32, 2) := by decide +kernel
theorem d_SC_drawTiles_2 : decode b_SC_drawTiles 2 = .ok (.aload_n 0, 1) := by decide +kernel
theorem d_SC_drawTiles_3 : decode b_SC_drawTiles 3 = .ok (.getfield 15, 3) := by decide +kernel
theorem d_SC_drawTiles_6 : decode b_SC_drawTiles 6 = .ok (.iconst 2, 1) := by decide +kernel
theorem d_SC_drawTiles_7 : decode b_SC_drawTiles 7 = .ok (.invokevirtual 23, 3) := by decide +kernel
theorem d_SC_drawTiles_10 : decode b_SC_drawTiles 10 = .ok (.bipush 16, 2) := by decide +kernel
theorem d_SC_drawTiles_12 : decode b_SC_drawTiles 12 = .ok (.irem, 1) := by decide +kernel
theorem d_SC_drawTiles_13 : decode b_SC_drawTiles 13 = .ok (.imul, 1) := by decide +kernel
theorem d_SC_drawTiles_14 : decode b_SC_drawTiles 14 = .ok (.iload_n 1, 1) := by decide +kernel
theorem d_SC_drawTiles_15 : decode b_SC_drawTiles 15 = .ok (.bipush 8, 2) := by decide +kernel
theorem d_SC_drawTiles_17 : decode b_SC_drawTiles 17 = .ok (.idiv, 1) := by decide +kernel
theorem d_SC_drawTiles_18 : decode b_SC_drawTiles 18 = .ok (.bipush 8, 2) := by decide +kernel
theorem d_SC_drawTiles_20 : decode b_SC_drawTiles 20 = .ok (.imul, 1) := by decide +kernel
theorem d_SC_drawTiles_21 : decode b_SC_drawTiles 21 = .ok (.iadd, 1) := by decide +kernel
theorem d_SC_drawTiles_22 : decode b_SC_drawTiles 22 = .ok (.istore_n 2, 1) := by decide +kernel
theorem d_SC_drawTiles_23 : decode b_SC_drawTiles 23 = .ok (.iconst 4, 1) := by decide +kernel
theorem d_SC_drawTiles_24 : decode b_SC_drawTiles 24 = .ok (.aload_n 0, 1) := by decide +kernel
theorem d_SC_drawTiles_25 : decode b_SC_drawTiles 25 = .ok (.getfield 15, 3) := by decide +kernel
theorem d_SC_drawTiles_28 : decode b_SC_drawTiles 28 = .ok (.iconst 3, 1) := by decide +kernel
theorem d_SC_drawTiles_29 : decode b_SC_drawTiles 29 = .ok (.invokevirtual 23, 3) := by decide +kernel
theorem d_SC_drawTiles_32 : decode b_SC_drawTiles 32 = .ok (.sipush 128, 3) := by decide +kernel
theorem d_SC_drawTiles_35 : decode b_SC_drawTiles 35 = .ok (.irem, 1) := by decide +kernel
theorem d_SC_drawTiles_36 : decode b_SC_drawTiles 36 = .ok (.imul, 1) := by decide +kernel
theorem d_SC_drawTiles_37 : decode b_SC_drawTiles 37 = .ok (.istore_n 3, 1) := by decide +kernel
theorem d_SC_drawTiles_38 : decode b_SC_drawTiles 38 = .ok (.sipush 256, 3) := by decide +kernel
theorem d_SC_drawTiles_41 : decode b_SC_drawTiles 41 = .ok (.aload_n 0, 1) := by decide +kernel
theorem d_SC_drawTiles_42 : decode b_SC_drawTiles 42 = .ok (.getfield 15, 3) := by decide +kernel
theorem d_SC_drawTiles_45 : decode b_SC_drawTiles 45 = .ok (.iconst 4, 1) := by decide +kernel
theorem d_SC_drawTiles_46 : decode b_SC_drawTiles 46 = .ok (.invokevirtual 23, 3) := by decide +kernel
theorem d_SC_drawTiles_49 : decode b_SC_drawTiles 49 = .ok (.iconst 2, 1) := by decide +kernel
theorem d_SC_drawTiles_50 : decode b_SC_drawTiles 50 = .ok (.irem, 1) := by decide +kernel
theorem d_SC_drawTiles_51 : decode b_SC_drawTiles 51 = .ok (.imul, 1) := by decide +kernel
theorem d_SC_drawTiles_52 : decode b_SC_drawTiles 52 = .ok (.iload_n 1, 1) := by decide +kernel
theorem d_SC_drawTiles_53 : decode b_SC_drawTiles 53 = .ok (.bipush 8, 2) := by decide +kernel
theorem d_SC_drawTiles_55 : decode b_SC_drawTiles 55 = .ok (.irem, 1) := by decide +kernel
theorem d_SC_drawTiles_56 : decode b_SC_drawTiles 56 = .ok (.iadd, 1) := by decide +kernel
theorem d_SC_drawTiles_57 : decode b_SC_drawTiles 57 = .ok (.istore 4, 2) := by decide +kernel
theorem d_SC_drawTiles_59 : decode b_SC_drawTiles 59 = .ok (.iconst 0, 1) := by decide +kernel
theorem d_SC_drawTiles_60 : decode b_SC_drawTiles 60 = .ok (.istore 5, 2) := by decide +kernel
theorem d_SC_drawTiles_62 : decode b_SC_drawTiles 62 = .ok (.iload 5, 2) := by decide +kernel
theorem d_SC_drawTiles_64 : decode b_SC_drawTiles 64 = .ok (.bipush 8, 2) := by decide +kernel
theorem d_SC_drawTiles_66 : decode b_SC_drawTiles 66 = .ok (.if_icmp .ge 76, 3) := by decide +kernel
theorem d_SC_drawTiles_69 : decode b_SC_drawTiles 69 = .ok (.aload_n 0, 1) := by decide +kernel
theorem d_SC_drawTiles_70 : decode b_SC_drawTiles 70 = .ok (.getfield 15, 3) := by decide +kernel
theorem d_SC_drawTiles_73 : decode b_SC_drawTiles 73 = .ok (.iload_n 2, 1) := by decide +kernel
theorem d_SC_drawTiles_74 : decode b_SC_drawTiles 74 = .ok (.iload 5, 2) := by decide +kernel
theorem d_SC_drawTiles_76 : decode b_SC_drawTiles 76 = .ok (.iadd, 1) := by decide +kernel
theorem d_SC_drawTiles_77 : decode b_SC_drawTiles 77 = .ok (.invokevirtual 46, 3) := by decide +kernel
theorem d_SC_drawTiles_80 : decode b_SC_drawTiles 80 = .ok (.bipush 32, 2) := by decide +kernel
theorem d_SC_drawTiles_82 : decode b_SC_drawTiles 82 = .ok (.irem, 1) := by decide +kernel
theorem d_SC_drawTiles_83 : decode b_SC_drawTiles 83 = .ok (.istore 6, 2) := by decide +kernel
theorem d_SC_drawTiles_85 : decode b_SC_drawTiles 85 = .ok (.aload_n 0, 1) := by decide +kernel
theorem d_SC_drawTiles_86 : decode b_SC_drawTiles 86 = .ok (.getfield 15, 3) := by decide +kernel
theorem d_SC_drawTiles_89 : decode b_SC_drawTiles 89 = .ok (.iload 4, 2) := by decide +kernel
theorem d_SC_drawTiles_91 : decode b_SC_drawTiles 91 = .ok (.bipush 8, 2) := by decide +kernel
theorem d_SC_drawTiles_93 : decode b_SC_drawTiles 93 = .ok (.iload 6, 2) := by decide +kernel
theorem d_SC_drawTiles_95 : decode b_SC_drawTiles 95 = .ok (.imul, 1) := by decide +kernel
theorem d_SC_drawTiles_96 : decode b_SC_drawTiles 96 = .ok (.iadd, 1) := by decide +kernel
theorem d_SC_drawTiles_97 : decode b_SC_drawTiles 97 = .ok (.invokevirtual 46, 3) := by decide +kernel
theorem d_SC_drawTiles_100 : decode b_SC_drawTiles 100 = .ok (.istore 7, 2) := by decide +kernel
theorem d_SC_drawTiles_102 : decode b_SC_drawTiles 102 = .ok (.aload_n 0, 1) := by decide +kernel
theorem d_SC_drawTiles_103 : decode b_SC_drawTiles 103 = .ok (.getfield 15, 3) := by decide +kernel
theorem d_SC_drawTiles_106 : decode b_SC_drawTiles 106 = .ok (.iload_n 3, 1) := by decide +kernel
theorem d_SC_drawTiles_107 : decode b_SC_drawTiles 107 = .ok (.iload 6, 2) := by decide +kernel
theorem d_SC_drawTiles_109 : decode b_SC_drawTiles 109 = .ok (.bipush 8, 2) := by decide +kernel
theorem d_SC_drawTiles_111 : decode b_SC_drawTiles 111 = .ok (.idiv, 1) := by decide +kernel
theorem d_SC_drawTiles_112 : decode b_SC_drawTiles 112 = .ok (.iadd, 1) := by decide +kernel
theorem d_SC_drawTiles_113 : decode b_SC_drawTiles 113 = .ok (.invokevirtual 46, 3) := by decide +kernel
theorem d_SC_drawTiles_116 : decode b_SC_drawTiles 116 = .ok (.istore 8, 2) := by decide +kernel
theorem d_SC_drawTiles_118 : decode b_SC_drawTiles 118 = .ok (.aload_n 0, 1) := by decide +kernel
theorem d_SC_drawTiles_119 : decode b_SC_drawTiles 119 = .ok (.iload_n 1, 1) := by decide +kernel
theorem d_SC_drawTiles_120 : decode b_SC_drawTiles 120 = .ok (.bipush 64, 2) := by decide +kernel
theorem d_SC_drawTiles_122 : decode b_SC_drawTiles 122 = .ok (.imul, 1) := by decide +kernel
theorem d_SC_drawTiles_123 : decode b_SC_drawTiles 123 = .ok (.iload 5, 2) := by decide +kernel
theorem d_SC_drawTiles_125 : decode b_SC_drawTiles 125 = .ok (.bipush 8, 2) := by decide +kernel
theorem d_SC_drawTiles_127 : decode b_SC_drawTiles 127 = .ok (.imul, 1) := by decide +kernel
theorem d_SC_drawTiles_128 : decode b_SC_drawTiles 128 = .ok (.iadd, 1) := by decide +kernel
theorem d_SC_drawTiles_129 : decode b_SC_drawTiles 129 = .ok (.iload 7, 2) := by decide +kernel
theorem d_SC_drawTiles_131 : decode b_SC_drawTiles 131 = .ok (.iload 8, 2) := by decide +kernel
theorem d_SC_drawTiles_133 : decode b_SC_drawTiles 133 = .ok (.invokevirtual 49, 3) := by decide +kernel
theorem d_SC_drawTiles_136 : decode b_SC_drawTiles 136 = .ok (.iinc 5 1, 3) := by decide +kernel
theorem d_SC_drawTiles_139 : decode b_SC_drawTiles 139 = .ok (.goto (-77), 3) := by decide +kernel
theorem d_SC_drawTiles_142 : decode b_SC_drawTiles 142 = .ok (.return_, 1) := by decide +kernel
theorem d_SC_drawTileRow_0 : decode b_SC_drawTileRow 0 = .ok (.aload_n 0, 1) := by decide +kernel
theorem d_SC_drawTileRow_1 : decode b_SC_drawTileRow 1 = .ok (.iload_n 3, 1) := by decide +kernel
theorem d_SC_drawTileRow_2 : decode b_SC_drawTileRow 2 = .ok (.bipush 16, 2) := by decide +kernel
theorem d_SC_drawTileRow_4 : decode b_SC_drawTileRow 4 = .ok (.idiv, 1) := by decide +kernel
theorem d_SC_drawTileRow_5 : decode b_SC_drawTileRow 5 = .ok (.invokevirtual 53, 3) := by decide +kernel
theorem d_SC_drawTileRow_8 : decode b_SC_drawTileRow 8 = .ok (.istore 4, 2) := by decide +kernel
theorem d_SC_drawTileRow_10 : decode b_SC_drawTileRow 10 = .ok (.aload_n 0, 1) := by decide +kernel
theorem d_SC_drawTileRow_11 : decode b_SC_drawTileRow 11 = .ok (.iload_n 3, 1) := by decide +kernel
theorem d_SC_drawTileRow_12 : decode b_SC_drawTileRow 12 = .ok (.bipush 16, 2) := by decide +kernel
theorem d_SC_drawTileRow_14 : decode b_SC_drawTileRow 14 = .ok (.irem, 1) := by decide +kernel
theorem d_SC_drawTileRow_15 : decode b_SC_drawTileRow 15 = .ok (.invokevirtual 53, 3) := by decide +kernel
theorem d_SC_drawTileRow_18 : decode b_SC_drawTileRow 18 = .ok (.istore 5, 2) := by decide +kernel
theorem d_SC_drawTileRow_20 : decode b_SC_drawTileRow 20 = .ok (.iconst 0, 1) := by decide +kernel
theorem d_SC_drawTileRow_21 : decode b_SC_drawTileRow 21 = .ok (.istore 6, 2) := by decide +kernel
theorem d_SC_drawTileRow_23 : decode b_SC_drawTileRow 23 = .ok (.iload 6, 2) := by decide +kernel
theorem d_SC_drawTileRow_25 : decode b_SC_drawTileRow 25 = .ok (.bipush 8, 2) := by decide +kernel
theorem d_SC_drawTileRow_27 : decode b_SC_drawTileRow 27 = .ok (.if_icmp .ge 38, 3) := by decide +kernel
theorem d_SC_drawTileRow_30 : decode b_SC_drawTileRow 30 = .ok (.aload_n 0, 1) := by decide +kernel
theorem d_SC_drawTileRow_31 : decode b_SC_drawTileRow 31 = .ok (.getfield 11, 3) := by decide +kernel
theorem d_SC_drawTileRow_34 : decode b_SC_drawTileRow 34 = .ok (.iload_n 1, 1) := by decide +kernel
theorem d_SC_drawTileRow_35 : decode b_SC_drawTileRow 35 = .ok (.iload 6, 2) := by decide +kernel
theorem d_SC_drawTileRow_37 : decode b_SC_drawTileRow 37 = .ok (.iadd, 1) := by decide +kernel
theorem d_SC_drawTileRow_38 : decode b_SC_drawTileRow 38 = .ok (.iload_n 2, 1) := by decide +kernel
theorem d_SC_drawTileRow_39 : decode b_SC_drawTileRow 39 = .ok (.bipush 7, 2) := by decide +kernel
theorem d_SC_drawTileRow_41 : decode b_SC_drawTileRow 41 = .ok (.iload 6, 2) := by decide +kernel
theorem d_SC_drawTileRow_43 : decode b_SC_drawTileRow 43 = .ok (.isub, 1) := by decide +kernel
theorem d_SC_drawTileRow_44 : decode b_SC_drawTileRow 44 = .ok (.ishr, 1) := by decide +kernel
theorem d_SC_drawTileRow_45 : decode b_SC_drawTileRow 45 = .ok (.iconst 1, 1) := by decide +kernel
theorem d_SC_drawTileRow_46 : decode b_SC_drawTileRow 46 = .ok (.iand, 1) := by decide +kernel
theorem d_SC_drawTileRow_47 : decode b_SC_drawTileRow 47 = .ok (.iconst 1, 1) := by decide +kernel
theorem d_SC_drawTileRow_48 : decode b_SC_drawTileRow 48 = .ok (.if_icmp .ne 8, 3) := by decide +kernel
theorem d_SC_drawTileRow_51 : decode b_SC_drawTileRow 51 = .ok (.iload 4, 2) := by decide +kernel
theorem d_SC_drawTileRow_53 : decode b_SC_drawTileRow 53 = .ok (.goto 5, 3) := by decide +kernel
theorem d_SC_drawTileRow_56 : decode b_SC_drawTileRow 56 = .ok (.iload 5, 2) := by decide +kernel
theorem d_SC_drawTileRow_58 : decode b_SC_drawTileRow 58 = .ok (.iastore, 1) := by decide +kernel
theorem d_SC_drawTileRow_59 : decode b_SC_drawTileRow 59 = .ok (.iinc 6 1, 3) := by decide +kernel
theorem d_SC_drawTileRow_62 : decode b_SC_drawTileRow 62 = .ok (.goto (-39), 3) := by decide +kernel
theorem d_SC_drawTileRow_65 : decode b_SC_drawTileRow 65 = .ok (.return_, 1) := by decide +kernel
theorem d_SC_backColor_0 : decode b_SC_backColor 0 = .ok (.aload_n 0, 1) := by decide +kernel
theorem d_SC_backColor_1 : decode b_SC_backColor 1 = .ok (.getfield 15, 3) := by decide +kernel
theorem d_SC_backColor_4 : decode b_SC_backColor 4 = .ok (.bipush 7, 2) := by decide +kernel
theorem d_SC_backColor_6 : decode b_SC_backColor 6 = .ok (.invokevirtual 23, 3) := by decide +kernel
theorem d_SC_backColor_9 : decode b_SC_backColor 9 = .ok (.bipush 16, 2) := by decide +kernel
theorem d_SC_backColor_11 : decode b_SC_backColor 11 = .ok (.irem, 1) := by decide +kernel
theorem d_SC_backColor_12 : decode b_SC_backColor 12 = .ok (.ireturn, 1) := by decide +kernel
theorem d_SC_orBack_0 : decode b_SC_orBack 0 = .ok (.iload_n 1, 1) := by decide +kernel
theorem d_SC_orBack_1 : decode b_SC_orBack 1 = .ok (.ifCond .ne 10, 3) := by decide +kernel
theorem d_SC_orBack_4 : decode b_SC_orBack 4 = .ok (.aload_n 0, 1) := by decide +kernel
theorem d_SC_orBack_5 : decode b_SC_orBack 5 = .ok (.invokevirtual 42, 3) := by decide +kernel
theorem d_SC_orBack_8 : decode b_SC_orBack 8 = .ok (.goto 4, 3) := by decide +kernel
theorem d_SC_orBack_11 : decode b_SC_orBack 11 = .ok (.iload_n 1, 1) := by decide +kernel
theorem d_SC_orBack_12 : decode b_SC_orBack 12 = .ok (.ireturn, 1) := by decide +kernel
theorem d_SC_drawSprites_0 : decode b_SC_drawSprites 0 = .ok (.aload_n 0, 1) := by decide +kernel
theorem d_SC_drawSprites_1 : decode b_SC_drawSprites 1 = .ok (.lconst 0, 1) := by decide +kernel
theorem d_SC_drawSprites_2 : decode b_SC_drawSprites 2 = .ok (.putfield 56, 3) := by decide +kernel
theorem d_SC_drawSprites_5 : decode b_SC_drawSprites 5 = .ok (.aload_n 0, 1) := by decide +kernel
theorem d_SC_drawSprites_6 : decode b_SC_drawSprites 6 = .ok (.lconst 0, 1) := by decide +kernel
theorem d_SC_drawSprites_7 : decode b_SC_drawSprites 7 = .ok (.putfield 60, 3) := by decide +kernel
theorem d_SC_drawSprites_10 : decode b_SC_drawSprites 10 = .ok (.bipush 32, 2) := by decide +kernel
theorem d_SC_drawSprites_12 : decode b_SC_drawSprites 12 = .ok (.aload_n 0, 1) := by decide +kernel
theorem d_SC_drawSprites_13 : decode b_SC_drawSprites 13 = .ok (.getfield 15, 3) := by decide +kernel
theorem d_SC_drawSprites_16 : decode b_SC_drawSprites 16 = .ok (.iconst 5, 1) := by decide +kernel
theorem d_SC_drawSprites_17 : decode b_SC_drawSprites 17 = .ok (.invokevirtual 23, 3) := by decide +kernel
theorem d_SC_drawSprites_20 : decode b_SC_drawSprites 20 = .ok (.bipush 16, 2) := by decide +kernel
theorem d_SC_drawSprites_22 : decode b_SC_drawSprites 22 = .ok (.irem, 1) := by decide +kernel
theorem d_SC_drawSprites_23 : decode b_SC_drawSprites 23 = .ok (.imul, 1) := by decide +kernel
theorem d_SC_drawSprites_24 : decode b_SC_drawSprites 24 = .ok (.istore_n 2, 1) := by decide +kernel
theorem d_SC_drawSprites_25 : decode b_SC_drawSprites 25 = .ok (.aload_n 0, 1) := by decide +kernel
theorem d_SC_drawSprites_26 : decode b_SC_drawSprites 26 = .ok (.invokevirtual 63, 3) := by decide +kernel
theorem d_SC_drawSprites_29 : decode b_SC_drawSprites 29 = .ok (.aload_n 0, 1) := by decide +kernel
theorem d_SC_drawSprites_30 : decode b_SC_drawSprites 30 = .ok (.invokevirtual 66, 3) := by decide +kernel
theorem d_SC_drawSprites_33 : decode b_SC_drawSprites 33 = .ok (.imul, 1) := by decide +kernel
theorem d_SC_drawSprites_34 : decode b_SC_drawSprites 34 = .ok (.istore_n 3, 1) := by decide +kernel
theorem d_SC_drawSprites_35 : decode b_SC_drawSprites 35 = .ok (.iconst 0, 1) := by decide +kernel
theorem d_SC_drawSprites_36 : decode b_SC_drawSprites 36 = .ok (.istore 4, 2) := by decide +kernel
theorem d_SC_drawSprites_38 : decode b_SC_drawSprites 38 = .ok (.iconst 0, 1) := by decide +kernel
theorem d_SC_drawSprites_39 : decode b_SC_drawSprites 39 = .ok (.istore 5, 2) := by decide +kernel
theorem d_SC_drawSprites_41 : decode b_SC_drawSprites 41 = .ok (.iload 5, 2) := by decide +kernel
theorem d_SC_drawSprites_43 : decode b_SC_drawSprites 43 = .ok (.bipush 8, 2) := by decide +kernel
theorem d_SC_drawSprites_45 : decode b_SC_drawSprites 45 = .ok (.if_icmp .ge 93, 3) := by decide +kernel
theorem d_SC_drawSprites_48 : decode b_SC_drawSprites 48 = .ok (.iload_n 2, 1) := by decide +kernel
theorem d_SC_drawSprites_49 : decode b_SC_drawSprites 49 = .ok (.iconst 4, 1) := by decide +kernel
theorem d_SC_drawSprites_50 : decode b_SC_drawSprites 50 = .ok (.iload 5, 2) := by decide +kernel
theorem d_SC_drawSprites_52 : decode b_SC_drawSprites 52 = .ok (.imul, 1) := by decide +kernel
theorem d_SC_drawSprites_53 : decode b_SC_drawSprites 53 = .ok (.iadd, 1) := by decide +kernel
theorem d_SC_drawSprites_54 : decode b_SC_drawSprites 54 = .ok (.istore 6, 2) := by decide +kernel
theorem d_SC_drawSprites_56 : decode b_SC_drawSprites 56 = .ok (.aload_n 0, 1) := by decide +kernel
theorem d_SC_drawSprites_57 : decode b_SC_drawSprites 57 = .ok (.getfield 15, 3) := by decide +kernel
theorem d_SC_drawSprites_60 : decode b_SC_drawSprites 60 = .ok (.iload 6, 2) := by decide +kernel
theorem d_SC_drawSprites_62 : decode b_SC_drawSprites 62 = .ok (.invokevirtual 46, 3) := by decide +kernel
theorem d_SC_drawSprites_65 : decode b_SC_drawSprites 65 = .ok (.istore 7, 2) := by decide +kernel
theorem d_SC_drawSprites_67 : decode b_SC_drawSprites 67 = .ok (.iload 7, 2) := by decide +kernel
theorem d_SC_drawSprites_69 : decode b_SC_drawSprites 69 = .ok (.sipush 208, 3) := by decide +kernel
theorem d_SC_drawSprites_72 : decode b_SC_drawSprites 72 = .ok (.if_icmp .ne 4, 3) := by decide +kernel
theorem d_SC_drawSprites_75 : decode b_SC_drawSprites 75 = .ok (.return_, 1) := by decide +kernel
theorem d_SC_drawSprites_76 : decode b_SC_drawSprites 76 = .ok (.iload_n 1, 1) := by decide +kernel
theorem d_SC_drawSprites_77 : decode b_SC_drawSprites 77 = .ok (.iload 7, 2) := by decide +kernel
theorem d_SC_drawSprites_79 : decode b_SC_drawSprites 79 = .ok (.invokestatic 69, 3) := by decide +kernel
theorem d_SC_drawSprites_82 : decode b_SC_drawSprites 82 = .ok (.isub, 1) := by decide +kernel
theorem d_SC_drawSprites_83 : decode b_SC_drawSprites 83 = .ok (.istore 8, 2) := by decide +kernel
theorem d_SC_drawSprites_85 : decode b_SC_drawSprites 85 = .ok (.iload 8, 2) := by decide +kernel
theorem d_SC_drawSprites_87 : decode b_SC_drawSprites 87 = .ok (.ifCond .lt 45, 3) := by decide +kernel
theorem d_SC_drawSprites_90 : decode b_SC_drawSprites 90 = .ok (.iload 8, 2) := by decide +kernel
theorem d_SC_drawSprites_92 : decode b_SC_drawSprites 92 = .ok (.iload_n 3, 1) := by decide +kernel
theorem d_SC_drawSprites_93 : decode b_SC_drawSprites 93 = .ok (.if_icmp .lt 6, 3) := by decide +kernel
theorem d_SC_drawSprites_96 : decode b_SC_drawSprites 96 = .ok (.goto 36, 3) := by decide +kernel
theorem d_SC_drawSprites_99 : decode b_SC_drawSprites 99 = .ok (.iload 4, 2) := by decide +kernel
theorem d_SC_drawSprites_101 : decode b_SC_drawSprites 101 = .ok (.iconst 4, 1) := by decide +kernel
theorem d_SC_drawSprites_102 : decode b_SC_drawSprites 102 = .ok (.if_icmp .ne 13, 3) := by decide +kernel
theorem d_SC_drawSprites_105 : decode b_SC_drawSprites 105 = .ok (.aload_n 0, 1) := by decide +kernel
theorem d_SC_drawSprites_106 : decode b_SC_drawSprites 106 = .ok (.getfield 15, 3) := by decide +kernel
theorem d_SC_drawSprites_109 : decode b_SC_drawSprites 109 = .ok (.iload 5, 2) := by decide +kernel
theorem d_SC_drawSprites_111 : decode b_SC_drawSprites 111 = .ok (.invokevirtual 72, 3) := by decide +kernel
theorem d_SC_drawSprites_114 : decode b_SC_drawSprites 114 = .ok (.return_, 1) := by decide +kernel
theorem d_SC_drawSprites_115 : decode b_SC_drawSprites 115 = .ok (.iinc 4 1, 3) := by decide +kernel
theorem d_SC_drawSprites_118 : decode b_SC_drawSprites 118 = .ok (.aload_n 0, 1) := by decide +kernel
theorem d_SC_drawSprites_119 : decode b_SC_drawSprites 119 = .ok (.iload_n 1, 1) := by decide +kernel
theorem d_SC_drawSprites_120 : decode b_SC_drawSprites 120 = .ok (.iload 6, 2) := by decide +kernel
theorem d_SC_drawSprites_122 : decode b_SC_drawSprites 122 = .ok (.iload 8, 2) := by decide +kernel
theorem d_SC_drawSprites_124 : decode b_SC_drawSprites 124 = .ok (.aload_n 0, 1) := by decide +kernel
theorem d_SC_drawSprites_125 : decode b_SC_drawSprites 125 = .ok (.invokevirtual 66, 3) := by decide +kernel
theorem d_SC_drawSprites_128 : decode b_SC_drawSprites 128 = .ok (.idiv, 1) := by decide +kernel
theorem d_SC_drawSprites_129 : decode b_SC_drawSprites 129 = .ok (.invokevirtual 75, 3) := by decide +kernel
theorem d_SC_drawSprites_132 : decode b_SC_drawSprites 132 = .ok (.iinc 5 1, 3) := by decide +kernel
theorem d_SC_drawSprites_135 : decode b_SC_drawSprites 135 = .ok (.goto (-94), 3) := by decide +kernel
theorem d_SC_drawSprites_138 : decode b_SC_drawSprites 138 = .ok (.return_, 1) := by decide +kernel
theorem d_SC_topLine_0 : decode b_SC_topLine 0 = .ok (.iload_n 0, 1) := by decide +kernel
theorem d_SC_topLine_1 : decode b_SC_topLine 1 = .ok (.sipush 224, 3) := by decide +kernel
theorem d_SC_topLine_4 : decode b_SC_topLine 4 = .ok (.if_icmp .ge 9, 3) := by decide +kernel
theorem d_SC_topLine_7 : decode b_SC_topLine 7 = .ok (.iload_n 0, 1) := by decide +kernel
theorem d_SC_topLine_8 : decode b_SC_topLine 8 = .ok (.iconst 1, 1) := by decide +kernel
theorem d_SC_topLine_9 : decode b_SC_topLine 9 = .ok (.iadd, 1) := by decide +kernel
theorem d_SC_topLine_10 : decode b_SC_topLine 10 = .ok (.goto 8, 3) := by decide +kernel
theorem d_SC_topLine_13 : decode b_SC_topLine 13 = .ok (.iload_n 0, 1) := by decide +kernel
theorem d_SC_topLine_14 : decode b_SC_topLine 14 = .ok (.sipush 255, 3) := by decide +kernel
theorem d_SC_topLine_17 : decode b_SC_topLine 17 = .ok (.isub, 1) := by decide +kernel
theorem d_SC_topLine_18 : decode b_SC_topLine 18 = .ok (.ireturn, 1) := by decide +kernel
theorem d_SC_spriteSide_0 : decode b_SC_spriteSide 0 = .ok (.aload_n 0, 1) := by decide +kernel
theorem d_SC_spriteSide_1 : decode b_SC_spriteSide 1 = .ok (.getfield 15, 3) := by decide +kernel
theorem d_SC_spriteSide_4 : decode b_SC_spriteSide 4 = .ok (.iconst 1, 1) := by decide +kernel
theorem d_SC_spriteSide_5 : decode b_SC_spriteSide 5 = .ok (.invokevirtual 23, 3) := by decide +kernel
theorem d_SC_spriteSide_8 : decode b_SC_spriteSide 8 = .ok (.iconst 2, 1) := by decide +kernel
theorem d_SC_spriteSide_9 : decode b_SC_spriteSide 9 = .ok (.iand, 1) := by decide +kernel
theorem d_SC_spriteSide_10 : decode b_SC_spriteSide 10 = .ok (.ifCond .ne 8, 3) := by decide +kernel
theorem d_SC_spriteSide_13 : decode b_SC_spriteSide 13 = .ok (.bipush 8, 2) := by decide +kernel
theorem d_SC_spriteSide_15 : decode b_SC_spriteSide 15 = .ok (.goto 5, 3) := by decide +kernel
theorem d_SC_spriteSide_18 : decode b_SC_spriteSide 18 = .ok (.bipush 16, 2) := by decide +kernel
theorem d_SC_spriteSide_20 : decode b_SC_spriteSide 20 = .ok (.ireturn, 1) := by decide +kernel
theorem d_SC_spriteZoom_0 : decode b_SC_spriteZoom 0 = .ok (.aload_n 0, 1) := by decide +kernel
theorem d_SC_spriteZoom_1 : decode b_SC_spriteZoom 1 = .ok (.getfield 15, 3) := by decide +kernel
theorem d_SC_spriteZoom_4 : decode b_SC_spriteZoom 4 = .ok (.iconst 1, 1) := by decide +kernel
theorem d_SC_spriteZoom_5 : decode b_SC_spriteZoom 5 = .ok (.invokevirtual 23, 3) := by decide +kernel
theorem d_SC_spriteZoom_8 : decode b_SC_spriteZoom 8 = .ok (.iconst 1, 1) := by decide +kernel
theorem d_SC_spriteZoom_9 : decode b_SC_spriteZoom 9 = .ok (.iand, 1) := by decide +kernel
theorem d_SC_spriteZoom_10 : decode b_SC_spriteZoom 10 = .ok (.ifCond .ne 7, 3) := by decide +kernel
theorem d_SC_spriteZoom_13 : decode b_SC_spriteZoom 13 = .ok (.iconst 1, 1) := by decide +kernel
theorem d_SC_spriteZoom_14 : decode b_SC_spriteZoom 14 = .ok (.goto 4, 3) := by decide +kernel
theorem d_SC_spriteZoom_17 : decode b_SC_spriteZoom 17 = .ok (.iconst 2, 1) := by decide +kernel
theorem d_SC_spriteZoom_18 : decode b_SC_spriteZoom 18 = .ok (.ireturn, 1) := by decide +kernel
theorem d_SC_drawSpriteRow_0 : decode b_SC_drawSpriteRow 0 = .ok (.aload_n 0, 1) := by decide +kernel
theorem d_SC_drawSpriteRow_1 : decode b_SC_drawSpriteRow 1 = .ok (.getfield 15, 3) := by decide +kernel
theorem d_SC_drawSpriteRow_4 : decode b_SC_drawSpriteRow 4 = .ok (.iload_n 2, 1) := by decide +kernel
theorem d_SC_drawSpriteRow_5 : decode b_SC_drawSpriteRow 5 = .ok (.iconst 3, 1) := by decide +kernel
theorem d_SC_drawSpriteRow_6 : decode b_SC_drawSpriteRow 6 = .ok (.iadd, 1) := by decide +kernel
theorem d_SC_drawSpriteRow_7 : decode b_SC_drawSpriteRow 7 = .ok (.invokevirtual 46, 3) := by decide +kernel
theorem d_SC_drawSpriteRow_10 : decode b_SC_drawSpriteRow 10 = .ok (.istore 4, 2) := by decide +kernel
theorem d_SC_drawSpriteRow_12 : decode b_SC_drawSpriteRow 12 = .ok (.aload_n 0, 1) := by decide +kernel
theorem d_SC_drawSpriteRow_13 : decode b_SC_drawSpriteRow 13 = .ok (.getfield 15, 3) := by decide +kernel
theorem d_SC_drawSpriteRow_16 : decode b_SC_drawSpriteRow 16 = .ok (.iload_n 2, 1) := by decide +kernel
theorem d_SC_drawSpriteRow_17 : decode b_SC_drawSpriteRow 17 = .ok (.iconst 1, 1) := by decide +kernel
theorem d_SC_drawSpriteRow_18 : decode b_SC_drawSpriteRow 18 = .ok (.iadd, 1) := by decide +kernel
theorem d_SC_drawSpriteRow_19 : decode b_SC_drawSpriteRow 19 = .ok (.invokevirtual 46, 3) := by decide +kernel
theorem d_SC_drawSpriteRow_22 : decode b_SC_drawSpriteRow 22 = .ok (.iload 4, 2) := by decide +kernel
theorem d_SC_drawSpriteRow_24 : decode b_SC_drawSpriteRow 24 = .ok (.sipush 128, 3) := by decide +kernel
theorem d_SC_drawSpriteRow_27 : decode b_SC_drawSpriteRow 27 = .ok (.if_icmp .lt 8, 3) := by decide +kernel
theorem d_SC_drawSpriteRow_30 : decode b_SC_drawSpriteRow 30 = .ok (.bipush 32, 2) := by decide +kernel
theorem d_SC_drawSpriteRow_32 : decode b_SC_drawSpriteRow 32 = .ok (.goto 4, 3) := by decide +kernel
theorem d_SC_drawSpriteRow_35 : decode b_SC_drawSpriteRow 35 = .ok (.iconst 0, 1) := by decide +kernel
theorem d_SC_drawSpriteRow_36 : decode b_SC_drawSpriteRow 36 = .ok (.isub, 1) := by decide +kernel
theorem d_SC_drawSpriteRow_37 : decode b_SC_drawSpriteRow 37 = .ok (.istore 5, 2) := by decide +kernel
theorem d_SC_drawSpriteRow_39 : decode b_SC_drawSpriteRow 39 = .ok (.aload_n 0, 1) := by decide +kernel
theorem d_SC_drawSpriteRow_40 : decode b_SC_drawSpriteRow 40 = .ok (.aload_n 0, 1) := by decide +kernel
theorem d_SC_drawSpriteRow_41 : decode b_SC_drawSpriteRow 41 = .ok (.getfield 15, 3) := by decide +kernel
theorem d_SC_drawSpriteRow_44 : decode b_SC_drawSpriteRow 44 = .ok (.iload_n 2, 1) := by decide +kernel
theorem d_SC_drawSpriteRow_45 : decode b_SC_drawSpriteRow 45 = .ok (.iconst 2, 1) := by decide +kernel
theorem d_SC_drawSpriteRow_46 : decode b_SC_drawSpriteRow 46 = .ok (.iadd, 1) := by decide +kernel
theorem d_SC_drawSpriteRow_47 : decode b_SC_drawSpriteRow 47 = .ok (.invokevirtual 46, 3) := by decide +kernel
theorem d_SC_drawSpriteRow_50 : decode b_SC_drawSpriteRow 50 = .ok (.bipush 16, 2) := by decide +kernel
theorem d_SC_drawSpriteRow_52 : decode b_SC_drawSpriteRow 52 = .ok (.irem, 1) := by decide +kernel
theorem d_SC_drawSpriteRow_53 : decode b_SC_drawSpriteRow 53 = .ok (.iload_n 3, 1) := by decide +kernel
theorem d_SC_drawSpriteRow_54 : decode b_SC_drawSpriteRow 54 = .ok (.invokevirtual 78, 3) := by decide +kernel
theorem d_SC_drawSpriteRow_57 : decode b_SC_drawSpriteRow 57 = .ok (.istore 6, 2) := by decide +kernel
theorem d_SC_drawSpriteRow_59 : decode b_SC_drawSpriteRow 59 = .ok (.aload_n 0, 1) := by decide +kernel
theorem d_SC_drawSpriteRow_60 : decode b_SC_drawSpriteRow 60 = .ok (.invokevirtual 63, 3) := by decide +kernel
theorem d_SC_drawSpriteRow_63 : decode b_SC_drawSpriteRow 63 = .ok (.istore 7, 2) := by decide +kernel
theorem d_SC_drawSpriteRow_65 : decode b_SC_drawSpriteRow 65 = .ok (.aload_n 0, 1) := by decide +kernel
theorem d_SC_drawSpriteRow_66 : decode b_SC_drawSpriteRow 66 = .ok (.invokevirtual 66, 3) := by decide +kernel
theorem d_SC_drawSpriteRow_69 : decode b_SC_drawSpriteRow 69 = .ok (.istore 8, 2) := by decide +kernel
theorem d_SC_drawSpriteRow_71 : decode b_SC_drawSpriteRow 71 = .ok (.iconst 0, 1) := by decide +kernel
theorem d_SC_drawSpriteRow_72 : decode b_SC_drawSpriteRow 72 = .ok (.istore 9, 2) := by decide +kernel
theorem d_SC_drawSpriteRow_74 : decode b_SC_drawSpriteRow 74 = .ok (.iload 9, 2) := by decide +kernel
theorem d_SC_drawSpriteRow_76 : decode b_SC_drawSpriteRow 76 = .ok (.iload 7, 2) := by decide +kernel
theorem d_SC_drawSpriteRow_78 : decode b_SC_drawSpriteRow 78 = .ok (.iload 8, 2) := by decide +kernel
theorem d_SC_drawSpriteRow_80 : decode b_SC_drawSpriteRow 80 = .ok (.imul, 1) := by decide +kernel
theorem d_SC_drawSpriteRow_81 : decode b_SC_drawSpriteRow 81 = .ok (.if_icmp .ge 59, 3) := by decide +kernel
theorem d_SC_drawSpriteRow_84 : decode b_SC_drawSpriteRow 84 = .ok (.iload 5, 2) := by decide +kernel
theorem d_SC_drawSpriteRow_86 : decode b_SC_drawSpriteRow 86 = .ok (.iload 9, 2) := by decide +kernel
theorem d_SC_drawSpriteRow_88 : decode b_SC_drawSpriteRow 88 = .ok (.iadd, 1) := by decide +kernel
theorem d_SC_drawSpriteRow_89 : decode b_SC_drawSpriteRow 89 = .ok (.istore 10, 2) := by decide +kernel
theorem d_SC_drawSpriteRow_91 : decode b_SC_drawSpriteRow 91 = .ok (.iload 10, 2) := by decide +kernel
theorem d_SC_drawSpriteRow_93 : decode b_SC_drawSpriteRow 93 = .ok (.ifCond .lt 41, 3) := by decide +kernel
theorem d_SC_drawSpriteRow_96 : decode b_SC_drawSpriteRow 96 = .ok (.iload 10, 2) := by decide +kernel
theorem d_SC_drawSpriteRow_98 : decode b_SC_drawSpriteRow 98 = .ok (.bipush 64, 2) := by decide +kernel
theorem d_SC_drawSpriteRow_100 : decode b_SC_drawSpriteRow 100 = .ok (.if_icmp .ge 34, 3) := by decide +kernel
theorem d_SC_drawSpriteRow_103 : decode b_SC_drawSpriteRow 103 = .ok (.iload 6, 2) := by decide +kernel
theorem d_SC_drawSpriteRow_105 : decode b_SC_drawSpriteRow 105 = .ok (.iload 7, 2) := by decide +kernel
theorem d_SC_drawSpriteRow_107 : decode b_SC_drawSpriteRow 107 = .ok (.iconst 1, 1) := by decide +kernel
theorem d_SC_drawSpriteRow_108 : decode b_SC_drawSpriteRow 108 = .ok (.isub, 1) := by decide +kernel
theorem d_SC_drawSpriteRow_109 : decode b_SC_drawSpriteRow 109 = .ok (.iload 9, 2) := by decide +kernel
theorem d_SC_drawSpriteRow_111 : decode b_SC_drawSpriteRow 111 = .ok (.iload 8, 2) := by decide +kernel
theorem d_SC_drawSpriteRow_113 : decode b_SC_drawSpriteRow 113 = .ok (.idiv, 1) := by decide +kernel
theorem d_SC_drawSpriteRow_114 : decode b_SC_drawSpriteRow 114 = .ok (.isub, 1) := by decide +kernel
theorem d_SC_drawSpriteRow_115 : decode b_SC_drawSpriteRow 115 = .ok (.ishr, 1) := by decide +kernel
theorem d_SC_drawSpriteRow_116 : decode b_SC_drawSpriteRow 116 = .ok (.iconst 1, 1) := by decide +kernel
theorem d_SC_drawSpriteRow_117 : decode b_SC_drawSpriteRow 117 = .ok (.iand, 1) := by decide +kernel
theorem d_SC_drawSpriteRow_118 : decode b_SC_drawSpriteRow 118 = .ok (.iconst 1, 1) := by decide +kernel
theorem d_SC_drawSpriteRow_119 : decode b_SC_drawSpriteRow 119 = .ok (.if_icmp .ne 15, 3) := by decide +kernel
theorem d_SC_drawSpriteRow_122 : decode b_SC_drawSpriteRow 122 = .ok (.aload_n 0, 1) := by decide +kernel
theorem d_SC_drawSpriteRow_123 : decode b_SC_drawSpriteRow 123 = .ok (.iload_n 1, 1) := by decide +kernel
theorem d_SC_drawSpriteRow_124 : decode b_SC_drawSpriteRow 124 = .ok (.iload 10, 2) := by decide +kernel
theorem d_SC_drawSpriteRow_126 : decode b_SC_drawSpriteRow 126 = .ok (.iload 4, 2) := by decide +kernel
theorem d_SC_drawSpriteRow_128 : decode b_SC_drawSpriteRow 128 = .ok (.bipush 16, 2) := by decide +kernel
theorem d_SC_drawSpriteRow_130 : decode b_SC_drawSpriteRow 130 = .ok (.irem, 1) := by decide +kernel
theorem d_SC_drawSpriteRow_131 : decode b_SC_drawSpriteRow 131 = .ok (.invokevirtual 82, 3) := by decide +kernel
theorem d_SC_drawSpriteRow_134 : decode b_SC_drawSpriteRow 134 = .ok (.iinc 9 1, 3) := by decide +kernel
theorem d_SC_drawSpriteRow_137 : decode b_SC_drawSpriteRow 137 = .ok (.goto (-63), 3) := by decide +kernel
theorem d_SC_drawSpriteRow_140 : decode b_SC_drawSpriteRow 140 = .ok (.return_, 1) := by decide +kernel
theorem d_SC_spriteBits_0 : decode b_SC_spriteBits 0 = .ok (.sipush 128, 3) := by decide +kernel
theorem d_SC_spriteBits_3 : decode b_SC_spriteBits 3 = .ok (.aload_n 0, 1) := by decide +kernel
theorem d_SC_spriteBits_4 : decode b_SC_spriteBits 4 = .ok (.getfield 15, 3) := by decide +kernel
theorem d_SC_spriteBits_7 : decode b_SC_spriteBits 7 = .ok (.bipush 6, 2) := by decide +kernel
theorem d_SC_spriteBits_9 : decode b_SC_spriteBits 9 = .ok (.invokevirtual 23, 3) := by decide +kernel
theorem d_SC_spriteBits_12 : decode b_SC_spriteBits 12 = .ok (.iconst 4, 1) := by decide +kernel
theorem d_SC_spriteBits_13 : decode b_SC_spriteBits 13 = .ok (.irem, 1) := by decide +kernel
theorem d_SC_spriteBits_14 : decode b_SC_spriteBits 14 = .ok (.imul, 1) := by decide +kernel
theorem d_SC_spriteBits_15 : decode b_SC_spriteBits 15 = .ok (.iload_n 2, 1) := by decide +kernel
theorem d_SC_spriteBits_16 : decode b_SC_spriteBits 16 = .ok (.iadd, 1) := by decide +kernel
theorem d_SC_spriteBits_17 : decode b_SC_spriteBits 17 = .ok (.istore_n 3, 1) := by decide +kernel
theorem d_SC_spriteBits_18 : decode b_SC_spriteBits 18 = .ok (.aload_n 0, 1) := by decide +kernel
theorem d_SC_spriteBits_19 : decode b_SC_spriteBits 19 = .ok (.invokevirtual 63, 3) := by decide +kernel
theorem d_SC_spriteBits_22 : decode b_SC_spriteBits 22 = .ok (.bipush 8, 2) := by decide +kernel
theorem d_SC_spriteBits_24 : decode b_SC_spriteBits 24 = .ok (.if_icmp .ne 17, 3) := by decide +kernel
theorem d_SC_spriteBits_27 : decode b_SC_spriteBits 27 = .ok (.aload_n 0, 1) := by decide +kernel
theorem d_SC_spriteBits_28 : decode b_SC_spriteBits 28 = .ok (.getfield 15, 3) := by decide +kernel
theorem d_SC_spriteBits_31 : decode b_SC_spriteBits 31 = .ok (.iload_n 3, 1) := by decide +kernel
theorem d_SC_spriteBits_32 : decode b_SC_spriteBits 32 = .ok (.bipush 8, 2) := by decide +kernel
theorem d_SC_spriteBits_34 : decode b_SC_spriteBits 34 = .ok (.iload_n 1, 1) := by decide +kernel
theorem d_SC_spriteBits_35 : decode b_SC_spriteBits 35 = .ok (.imul, 1) := by decide +kernel
theorem d_SC_spriteBits_36 : decode b_SC_spriteBits 36 = .ok (.iadd, 1) := by decide +kernel
theorem d_SC_spriteBits_37 : decode b_SC_spriteBits 37 = .ok (.invokevirtual 46, 3) := by decide +kernel
theorem d_SC_spriteBits_40 : decode b_SC_spriteBits 40 = .ok (.ireturn, 1) := by decide +kernel
theorem d_SC_spriteBits_41 : decode b_SC_spriteBits 41 = .ok (.iload_n 3, 1) := by decide +kernel
theorem d_SC_spriteBits_42 : decode b_SC_spriteBits 42 = .ok (.bipush 8, 2) := by decide +kernel
theorem d_SC_spriteBits_44 : decode b_SC_spriteBits 44 = .ok (.iload_n 1, 1) := by decide +kernel
theorem d_SC_spriteBits_45 : decode b_SC_spriteBits 45 = .ok (.bipush (-4), 2) := by decide +kernel
theorem d_SC_spriteBits_47 : decode b_SC_spriteBits 47 = .ok (.iand, 1) := by decide +kernel
theorem d_SC_spriteBits_48 : decode b_SC_spriteBits 48 = .ok (.imul, 1) := by decide +kernel
theorem d_SC_spriteBits_49 : decode b_SC_spriteBits 49 = .ok (.iadd, 1) := by decide +kernel
theorem d_SC_spriteBits_50 : decode b_SC_spriteBits 50 = .ok (.istore 4, 2) := by decide +kernel
theorem d_SC_spriteBits_52 : decode b_SC_spriteBits 52 = .ok (.aload_n 0, 1) := by decide +kernel
theorem d_SC_spriteBits_53 : decode b_SC_spriteBits 53 = .ok (.getfield 15, 3) := by decide +kernel
theorem d_SC_spriteBits_56 : decode b_SC_spriteBits 56 = .ok (.iload 4, 2) := by decide +kernel
theorem d_SC_spriteBits_58 : decode b_SC_spriteBits 58 = .ok (.invokevirtual 46, 3) := by decide +kernel
theorem d_SC_spriteBits_61 : decode b_SC_spriteBits 61 = .ok (.bipush 8, 2) := by decide +kernel
theorem d_SC_spriteBits_63 : decode b_SC_spriteBits 63 = .ok (.ishl, 1) := by decide +kernel
theorem d_SC_spriteBits_64 : decode b_SC_spriteBits 64 = .ok (.aload_n 0, 1) := by decide +kernel
theorem d_SC_spriteBits_65 : decode b_SC_spriteBits 65 = .ok (.getfield 15, 3) := by decide +kernel
theorem d_SC_spriteBits_68 : decode b_SC_spriteBits 68 = .ok (.iload 4, 2) := by decide +kernel
theorem d_SC_spriteBits_70 : decode b_SC_spriteBits 70 = .ok (.bipush 16, 2) := by decide +kernel
theorem d_SC_spriteBits_72 : decode b_SC_spriteBits 72 = .ok (.iadd, 1) := by decide +kernel
theorem d_SC_spriteBits_73 : decode b_SC_spriteBits 73 = .ok (.invokevirtual 46, 3) := by decide +kernel
theorem d_SC_spriteBits_76 : decode b_SC_spriteBits 76 = .ok (.ior, 1) := by decide +kernel
theorem d_SC_spriteBits_77 : decode b_SC_spriteBits 77 = .ok (.ireturn, 1) := by decide +kernel
theorem d_SC_coverPixel_0 : decode b_SC_coverPixel 0 = .ok (.lconst 1, 1) := by decide +kernel
theorem d_SC_coverPixel_1 : decode b_SC_coverPixel 1 = .ok (.iload_n 2, 1) := by decide +kernel
theorem d_SC_coverPixel_2 : decode b_SC_coverPixel 2 = .ok (.lshl, 1) := by decide +kernel
theorem d_SC_coverPixel_3 : decode b_SC_coverPixel 3 = .ok (.lstore 4, 2) := by decide +kernel
theorem d_SC_coverPixel_5 : decode b_SC_coverPixel 5 = .ok (.aload_n 0, 1) := by decide +kernel
theorem d_SC_coverPixel_6 : decode b_SC_coverPixel 6 = .ok (.getfield 56, 3) := by decide +kernel
theorem d_SC_coverPixel_9 : decode b_SC_coverPixel 9 = .ok (.lload 4, 2) := by decide +kernel
theorem d_SC_coverPixel_11 : decode b_SC_coverPixel 11 = .ok (.land, 1) := by decide +kernel
theorem d_SC_coverPixel_12 : decode b_SC_coverPixel 12 = .ok (.lconst 0, 1) := by decide +kernel
theorem d_SC_coverPixel_13 : decode b_SC_coverPixel 13 = .ok (.lcmp, 1) := by decide +kernel
theorem d_SC_coverPixel_14 : decode b_SC_coverPixel 14 = .ok (.ifCond .eq 10, 3) := by decide +kernel
theorem d_SC_coverPixel_17 : decode b_SC_coverPixel 17 = .ok (.aload_n 0, 1) := by decide +kernel
theorem d_SC_coverPixel_18 : decode b_SC_coverPixel 18 = .ok (.getfield 15, 3) := by decide +kernel
theorem d_SC_coverPixel_21 : decode b_SC_coverPixel 21 = .ok (.invokevirtual 85, 3) := by decide +kernel
theorem d_SC_coverPixel_24 : decode b_SC_coverPixel 24 = .ok (.aload_n 0, 1) := by decide +kernel
theorem d_SC_coverPixel_25 : decode b_SC_coverPixel 25 = .ok (.dup, 1) := by decide +kernel
theorem d_SC_coverPixel_26 : decode b_SC_coverPixel 26 = .ok (.getfield 56, 3) := by decide +kernel
theorem d_SC_coverPixel_29 : decode b_SC_coverPixel 29 = .ok (.lload 4, 2) := by decide +kernel
theorem d_SC_coverPixel_31 : decode b_SC_coverPixel 31 = .ok (.lor, 1) := by decide +kernel
theorem d_SC_coverPixel_32 : decode b_SC_coverPixel 32 = .ok (.putfield 56, 3) := by decide +kernel
theorem d_SC_coverPixel_35 : decode b_SC_coverPixel 35 = .ok (.iload_n 3, 1) := by decide +kernel
theorem d_SC_coverPixel_36 : decode b_SC_coverPixel 36 = .ok (.ifCond .eq 38, 3) := by decide +kernel
theorem d_SC_coverPixel_39 : decode b_SC_coverPixel 39 = .ok (.aload_n 0, 1) := by decide +kernel
theorem d_SC_coverPixel_40 : decode b_SC_coverPixel 40 = .ok (.getfield 60, 3) := by decide +kernel
theorem d_SC_coverPixel_43 : decode b_SC_coverPixel 43 = .ok (.lload 4, 2) := by decide +kernel
theorem d_SC_coverPixel_45 : decode b_SC_coverPixel 45 = .ok (.land, 1) := by decide +kernel
theorem d_SC_coverPixel_46 : decode b_SC_coverPixel 46 = .ok (.lconst 0, 1) := by decide +kernel
theorem d_SC_coverPixel_47 : decode b_SC_coverPixel 47 = .ok (.lcmp, 1) := by decide +kernel
theorem d_SC_coverPixel_48 : decode b_SC_coverPixel 48 = .ok (.ifCond .ne 26, 3) := by decide +kernel
theorem d_SC_coverPixel_51 : decode b_SC_coverPixel 51 = .ok (.aload_n 0, 1) := by decide +kernel
theorem d_SC_coverPixel_52 : decode b_SC_coverPixel 52 = .ok (.dup, 1) := by decide +kernel
theorem d_SC_coverPixel_53 : decode b_SC_coverPixel 53 = .ok (.getfield 60, 3) := by decide +kernel
theorem d_SC_coverPixel_56 : decode b_SC_coverPixel 56 = .ok (.lload 4, 2) := by decide +kernel
theorem d_SC_coverPixel_58 : decode b_SC_coverPixel 58 = .ok (.lor, 1) := by decide +kernel
theorem d_SC_coverPixel_59 : decode b_SC_coverPixel 59 = .ok (.putfield 60, 3) := by decide +kernel
theorem d_SC_coverPixel_62 : decode b_SC_coverPixel 62 = .ok (.aload_n 0, 1) := by decide +kernel
theorem d_SC_coverPixel_63 : decode b_SC_coverPixel 63 = .ok (.getfield 11, 3) := by decide +kernel
theorem d_SC_coverPixel_66 : decode b_SC_coverPixel 66 = .ok (.iload_n 1, 1) := by decide +kernel
theorem d_SC_coverPixel_67 : decode b_SC_coverPixel 67 = .ok (.bipush 64, 2) := by decide +kernel
theorem d_SC_coverPixel_69 : decode b_SC_coverPixel 69 = .ok (.imul, 1) := by decide +kernel
theorem d_SC_coverPixel_70 : decode b_SC_coverPixel 70 = .ok (.iload_n 2, 1) := by decide +kernel
theorem d_SC_coverPixel_71 : decode b_SC_coverPixel 71 = .ok (.iadd, 1) := by decide +kernel
theorem d_SC_coverPixel_72 : decode b_SC_coverPixel 72 = .ok (.iload_n 3, 1) := by decide +kernel
theorem d_SC_coverPixel_73 : decode b_SC_coverPixel 73 = .ok (.iastore, 1) := by decide +kernel
theorem d_SC_coverPixel_74 : decode b_SC_coverPixel 74 = .ok (.return_, 1) := by decide +kernel
theorem d_SL_init_0 : decode b_SL_init 0 = .ok (.aload_n 0, 1) := by decide +kernel
theorem d_SL_init_1 : decode b_SL_init 1 = .ok (.invokespecial 3, 3) := by decide +kernel
theorem d_SL_init_4 : decode b_SL_init 4 = .ok (.aload_n 0, 1) := by decide +kernel
theorem d_SL_init_5 : decode b_SL_init 5 = .ok (.bipush 16, 2) := by decide +kernel
theorem d_SL_init_7 : decode b_SL_init 7 = .ok (.anewarray 9, 3) := by decide +kernel
theorem d_SL_init_10 : decode b_SL_init 10 = .ok (.putfield 11, 3) := by decide +kernel
theorem d_SL_init_13 : decode b_SL_init 13 = .ok (.aload_n 0, 1) := by decide +kernel
theorem d_SL_init_14 : decode b_SL_init 14 = .ok (.iconst 4, 1) := by decide +kernel
theorem d_SL_init_15 : decode b_SL_init 15 = .ok (.newarray .boolean, 2) := by decide +kernel
theorem d_SL_init_17 : decode b_SL_init 17 = .ok (.putfield 17, 3) := by decide +kernel
theorem d_SL_init_20 : decode b_SL_init 20 = .ok (.aload_n 0, 1) := by decide +kernel
theorem d_SL_init_21 : decode b_SL_init 21 = .ok (.iconst 4, 1) := by decide +kernel
theorem d_SL_init_22 : decode b_SL_init 22 = .ok (.newarray .int, 2) := by decide +kernel
theorem d_SL_init_24 : decode b_SL_init 24 = .ok (.putfield 21, 3) := by decide +kernel
theorem d_SL_init_27 : decode b_SL_init 27 = .ok (.return_, 1) := by decide +kernel
theorem d_SL_isWide_0 : decode b_SL_isWide 0 = .ok (.aload_n 0, 1) := by decide +kernel
theorem d_SL_isWide_1 : decode b_SL_isWide 1 = .ok (.getfield 17, 3) := by decide +kernel
theorem d_SL_isWide_4 : decode b_SL_isWide 4 = .ok (.iload_n 1, 1) := by decide +kernel
theorem d_SL_isWide_5 : decode b_SL_isWide 5 = .ok (.baload, 1) := by decide +kernel
theorem d_SL_isWide_6 : decode b_SL_isWide 6 = .ok (.ireturn, 1) := by decide +kernel
theorem d_SL_makeWide_0 : decode b_SL_makeWide 0 = .ok (.aload_n 0, 1) := by decide +kernel
theorem d_SL_makeWide_1 : decode b_SL_makeWide 1 = .ok (.getfield 17, 3) := by decide +kernel
theorem d_SL_makeWide_4 : decode b_SL_makeWide 4 = .ok (.iload_n 1, 1) := by decide +kernel
theorem d_SL_makeWide_5 : decode b_SL_makeWide 5 = .ok (.iconst 1, 1) := by decide +kernel
theorem d_SL_makeWide_6 : decode b_SL_makeWide 6 = .ok (.bastore, 1) := by decide +kernel
theorem d_SL_makeWide_7 : decode b_SL_makeWide 7 = .ok (.return_, 1) := by decide +kernel
theorem d_SL_hasPart_0 : decode b_SL_hasPart 0 = .ok (.iload_n 2, 1) := by decide +kernel
theorem d_SL_hasPart_1 : decode b_SL_hasPart 1 = .ok (.ifCond .eq 12, 3) := by decide +kernel
theorem d_SL_hasPart_4 : decode b_SL_hasPart 4 = .ok (.aload_n 0, 1) := by decide +kernel
theorem d_SL_hasPart_5 : decode b_SL_hasPart 5 = .ok (.getfield 17, 3) := by decide +kernel
theorem d_SL_hasPart_8 : decode b_SL_hasPart 8 = .ok (.iload_n 1, 1) := by decide +kernel
theorem d_SL_hasPart_9 : decode b_SL_hasPart 9 = .ok (.baload, 1) := by decide +kernel
theorem d_SL_hasPart_10 : decode b_SL_hasPart 10 = .ok (.ifCond .eq 7, 3) := by decide +kernel
theorem d_SL_hasPart_13 : decode b_SL_hasPart 13 = .ok (.iconst 1, 1) := by decide +kernel
theorem d_SL_hasPart_14 : decode b_SL_hasPart 14 = .ok (.goto 4, 3) := by decide +kernel
theorem d_SL_hasPart_17 : decode b_SL_hasPart 17 = .ok (.iconst 0, 1) := by decide +kernel
theorem d_SL_hasPart_18 : decode b_SL_hasPart 18 = .ok (.ireturn, 1) := by decide +kernel
theorem d_SL_deviceIn_0 : decode b_SL_deviceIn 0 = .ok (.aload_n 0, 1) := by decide +kernel
theorem d_SL_deviceIn_1 : decode b_SL_deviceIn 1 = .ok (.getfield 11, 3) := by decide +kernel
theorem d_SL_deviceIn_4 : decode b_SL_deviceIn 4 = .ok (.iload_n 1, 1) := by decide +kernel
theorem d_SL_deviceIn_5 : decode b_SL_deviceIn 5 = .ok (.iconst 4, 1) := by decide +kernel
theorem d_SL_deviceIn_6 : decode b_SL_deviceIn 6 = .ok (.imul, 1) := by decide +kernel
theorem d_SL_deviceIn_7 : decode b_SL_deviceIn 7 = .ok (.iload_n 2, 1) := by decide +kernel
theorem d_SL_deviceIn_8 : decode b_SL_deviceIn 8 = .ok (.iadd, 1) := by decide +kernel
theorem d_SL_deviceIn_9 : decode b_SL_deviceIn 9 = .ok (.aaload, 1) := by decide +kernel
theorem d_SL_deviceIn_10 : decode b_SL_deviceIn 10 = .ok (.areturn, 1) := by decide +kernel
theorem d_SL_put_0 : decode b_SL_put 0 = .ok (.aload_n 0, 1) := by decide +kernel
theorem d_SL_put_1 : decode b_SL_put 1 = .ok (.getfield 11, 3) := by decide +kernel
theorem d_SL_put_4 : decode b_SL_put 4 = .ok (.iload_n 1, 1) := by decide +kernel
theorem d_SL_put_5 : decode b_SL_put 5 = .ok (.iconst 4, 1) := by decide +kernel
theorem d_SL_put_6 : decode b_SL_put 6 = .ok (.imul, 1) := by decide +kernel
theorem d_SL_put_7 : decode b_SL_put 7 = .ok (.iload_n 2, 1) := by decide +kernel
theorem d_SL_put_8 : decode b_SL_put 8 = .ok (.iadd, 1) := by decide +kernel
theorem d_SL_put_9 : decode b_SL_put 9 = .ok (.aload_n 3, 1) := by decide +kernel
theorem d_SL_put_10 : decode b_SL_put 10 = .ok (.aastore, 1) := by decide +kernel
theorem d_SL_put_11 : decode b_SL_put 11 = .ok (.return_, 1) := by decide +kernel
theorem d_SL_primary_0 : decode b_SL_primary 0 = .ok (.aload_n 0, 1) := by decide +kernel
theorem d_SL_primary_1 : decode b_SL_primary 1 = .ok (.getfield 25, 3) := by decide +kernel
theorem d_SL_primary_4 : decode b_SL_primary 4 = .ok (.ireturn, 1) := by decide +kernel
theorem d_SL_setPrimary_0 : decode b_SL_setPrimary 0 = .ok (.aload_n 0, 1) := by decide +kernel
theorem d_SL_setPrimary_1 : decode b_SL_setPrimary 1 = .ok (.iload_n 1, 1) := by decide +kernel
theorem d_SL_setPrimary_2 : decode b_SL_setPrimary 2 = .ok (.putfield 25, 3) := by decide +kernel
theorem d_SL_setPrimary_5 : decode b_SL_setPrimary 5 = .ok (.return_, 1) := by decide +kernel
theorem d_SL_secondaryOf_0 : decode b_SL_secondaryOf 0 = .ok (.aload_n 0, 1) := by decide +kernel
theorem d_SL_secondaryOf_1 : decode b_SL_secondaryOf 1 = .ok (.getfield 21, 3) := by decide +kernel
theorem d_SL_secondaryOf_4 : decode b_SL_secondaryOf 4 = .ok (.iload_n 1, 1) := by decide +kernel
theorem d_SL_secondaryOf_5 : decode b_SL_secondaryOf 5 = .ok (.iaload, 1) := by decide +kernel
theorem d_SL_secondaryOf_6 : decode b_SL_secondaryOf 6 = .ok (.ireturn, 1) := by decide +kernel
theorem d_SL_slotAt_0 : decode b_SL_slotAt 0 = .ok (.aload_n 0, 1) := by decide +kernel
theorem d_SL_slotAt_1 : decode b_SL_slotAt 1 = .ok (.getfield 25, 3) := by decide +kernel
theorem d_SL_slotAt_4 : decode b_SL_slotAt 4 = .ok (.iload_n 1, 1) := by decide +kernel
theorem d_SL_slotAt_5 : decode b_SL_slotAt 5 = .ok (.invokestatic 29, 3) := by decide +kernel
theorem d_SL_slotAt_8 : decode b_SL_slotAt 8 = .ok (.ireturn, 1) := by decide +kernel
theorem d_SL_partAt_0 : decode b_SL_partAt 0 = .ok (.aload_n 0, 1) := by decide +kernel
theorem d_SL_partAt_1 : decode b_SL_partAt 1 = .ok (.getfield 17, 3) := by decide +kernel
theorem d_SL_partAt_4 : decode b_SL_partAt 4 = .ok (.iload_n 1, 1) := by decide +kernel
theorem d_SL_partAt_5 : decode b_SL_partAt 5 = .ok (.baload, 1) := by decide +kernel
theorem d_SL_partAt_6 : decode b_SL_partAt 6 = .ok (.ifCond .eq 16, 3) := by decide +kernel
theorem d_SL_partAt_9 : decode b_SL_partAt 9 = .ok (.aload_n 0, 1) := by decide +kernel
theorem d_SL_partAt_10 : decode b_SL_partAt 10 = .ok (.getfield 21, 3) := by decide +kernel
theorem d_SL_partAt_13 : decode b_SL_partAt 13 = .ok (.iload_n 1, 1) := by decide +kernel
theorem d_SL_partAt_14 : decode b_SL_partAt 14 = .ok (.iaload, 1) := by decide +kernel
theorem d_SL_partAt_15 : decode b_SL_partAt 15 = .ok (.iload_n 2, 1) := by decide +kernel
theorem d_SL_partAt_16 : decode b_SL_partAt 16 = .ok (.invokestatic 29, 3) := by decide +kernel
theorem d_SL_partAt_19 : decode b_SL_partAt 19 = .ok (.goto 4, 3) := by decide +kernel
theorem d_SL_partAt_22 : decode b_SL_partAt 22 = .ok (.iconst 0, 1) := by decide +kernel
theorem d_SL_partAt_23 : decode b_SL_partAt 23 = .ok (.ireturn, 1) := by decide +kernel
theorem d_SL_byteIn_0 : decode b_SL_byteIn 0 = .ok (.aload_n 0, 1) := by decide +kernel
theorem d_SL_byteIn_1 : decode b_SL_byteIn 1 = .ok (.getfield 17, 3) := by decide +kernel
theorem d_SL_byteIn_4 : decode b_SL_byteIn 4 = .ok (.iload_n 1, 1) := by decide +kernel
theorem d_SL_byteIn_5 : decode b_SL_byteIn 5 = .ok (.baload, 1) := by decide +kernel
theorem d_SL_byteIn_6 : decode b_SL_byteIn 6 = .ok (.ifCond .eq 29, 3) := by decide +kernel
theorem d_SL_byteIn_9 : decode b_SL_byteIn 9 = .ok (.iload_n 3, 1) := by decide +kernel
theorem d_SL_byteIn_10 : decode b_SL_byteIn 10 = .ok (.sipush 255, 3) := by decide +kernel
theorem d_SL_byteIn_13 : decode b_SL_byteIn 13 = .ok (.if_icmp .ne 22, 3) := by decide +kernel
theorem d_SL_byteIn_16 : decode b_SL_byteIn 16 = .ok (.sipush 255, 3) := by decide +kernel
theorem d_SL_byteIn_19 : decode b_SL_byteIn 19 = .ok (.aload_n 0, 1) := by decide +kernel
theorem d_SL_byteIn_20 : decode b_SL_byteIn 20 = .ok (.getfield 21, 3) := by decide +kernel
theorem d_SL_byteIn_23 : decode b_SL_byteIn 23 = .ok (.iload_n 1, 1) := by decide +kernel
theorem d_SL_byteIn_24 : decode b_SL_byteIn 24 = .ok (.iaload, 1) := by decide +kernel
theorem d_SL_byteIn_25 : decode b_SL_byteIn 25 = .ok (.bipush 63, 2) := by decide +kernel
theorem d_SL_byteIn_27 : decode b_SL_byteIn 27 = .ok (.iand, 1) := by decide +kernel
theorem d_SL_byteIn_28 : decode b_SL_byteIn 28 = .ok (.iload_n 2, 1) := by decide +kernel
theorem d_SL_byteIn_29 : decode b_SL_byteIn 29 = .ok (.bipush 6, 2) := by decide +kernel
theorem d_SL_byteIn_31 : decode b_SL_byteIn 31 = .ok (.ishl, 1) := by decide +kernel
theorem d_SL_byteIn_32 : decode b_SL_byteIn 32 = .ok (.ior, 1) := by decide +kernel
theorem d_SL_byteIn_33 : decode b_SL_byteIn 33 = .ok (.isub, 1) := by decide +kernel
theorem d_SL_byteIn_34 : decode b_SL_byteIn 34 = .ok (.ireturn, 1) := by decide +kernel
theorem d_SL_byteIn_35 : decode b_SL_byteIn 35 = .ok (.aload_n 0, 1) := by decide +kernel
theorem d_SL_byteIn_36 : decode b_SL_byteIn 36 = .ok (.iload_n 1, 1) := by decide +kernel
theorem d_SL_byteIn_37 : decode b_SL_byteIn 37 = .ok (.aload_n 0, 1) := by decide +kernel
theorem d_SL_byteIn_38 : decode b_SL_byteIn 38 = .ok (.getfield 17, 3) := by decide +kernel
theorem d_SL_byteIn_41 : decode b_SL_byteIn 41 = .ok (.iload_n 1, 1) := by decide +kernel
theorem d_SL_byteIn_42 : decode b_SL_byteIn 42 = .ok (.baload, 1) := by decide +kernel
theorem d_SL_byteIn_43 : decode b_SL_byteIn 43 = .ok (.ifCond .eq 7, 3) := by decide +kernel
theorem d_SL_byteIn_46 : decode b_SL_byteIn 46 = .ok (.iload_n 2, 1) := by decide +kernel
theorem d_SL_byteIn_47 : decode b_SL_byteIn 47 = .ok (.goto 4, 3) := by decide +kernel
theorem d_SL_byteIn_50 : decode b_SL_byteIn 50 = .ok (.iconst 0, 1) := by decide +kernel
theorem d_SL_byteIn_51 : decode b_SL_byteIn 51 = .ok (.invokevirtual 33, 3) := by decide +kernel
theorem d_SL_byteIn_54 : decode b_SL_byteIn 54 = .ok (.astore 4, 2) := by decide +kernel
theorem d_SL_byteIn_56 : decode b_SL_byteIn 56 = .ok (.aload 4, 2) := by decide +kernel
theorem d_SL_byteIn_58 : decode b_SL_byteIn 58 = .ok (.ifnonnull 9, 3) := by decide +kernel
theorem d_SL_byteIn_61 : decode b_SL_byteIn 61 = .ok (.sipush 255, 3) := by decide +kernel
theorem d_SL_byteIn_64 : decode b_SL_byteIn 64 = .ok (.goto 9, 3) := by decide +kernel
theorem d_SL_byteIn_67 : decode b_SL_byteIn 67 = .ok (.aload 4, 2) := by decide +kernel
theorem d_SL_byteIn_69 : decode b_SL_byteIn 69 = .ok (.iload_n 3, 1) := by decide +kernel
theorem d_SL_byteIn_70 : decode b_SL_byteIn 70 = .ok (.invokevirtual 37, 3) := by decide +kernel
theorem d_SL_byteIn_73 : decode b_SL_byteIn 73 = .ok (.ireturn, 1) := by decide +kernel
theorem d_SL_store_0 : decode b_SL_store 0 = .ok (.aload_n 0, 1) := by decide +kernel
theorem d_SL_store_1 : decode b_SL_store 1 = .ok (.iload_n 1, 1) := by decide +kernel
theorem d_SL_store_2 : decode b_SL_store 2 = .ok (.invokevirtual 41, 3) := by decide +kernel
theorem d_SL_store_5 : decode b_SL_store 5 = .ok (.istore_n 3, 1) := by decide +kernel
theorem d_SL_store_6 : decode b_SL_store 6 = .ok (.aload_n 0, 1) := by decide +kernel
theorem d_SL_store_7 : decode b_SL_store 7 = .ok (.getfield 17, 3) := by decide +kernel
theorem d_SL_store_10 : decode b_SL_store 10 = .ok (.iload_n 3, 1) := by decide +kernel
theorem d_SL_store_11 : decode b_SL_store 11 = .ok (.baload, 1) := by decide +kernel
theorem d_SL_store_12 : decode b_SL_store 12 = .ok (.ifCond .eq 18, 3) := by decide +kernel
theorem d_SL_store_15 : decode b_SL_store 15 = .ok (.iload_n 1, 1) := by decide +kernel
theorem d_SL_store_16 : decode b_SL_store 16 = .ok (.sipush 255, 3) := by decide +kernel
theorem d_SL_store_19 : decode b_SL_store 19 = .ok (.if_icmp .ne 11, 3) := by decide +kernel
theorem d_SL_store_22 : decode b_SL_store 22 = .ok (.aload_n 0, 1) := by decide +kernel
theorem d_SL_store_23 : decode b_SL_store 23 = .ok (.getfield 21, 3) := by decide +kernel
theorem d_SL_store_26 : decode b_SL_store 26 = .ok (.iload_n 3, 1) := by decide +kernel
theorem d_SL_store_27 : decode b_SL_store 27 = .ok (.iload_n 2, 1) := by decide +kernel
theorem d_SL_store_28 : decode b_SL_store 28 = .ok (.iastore, 1) := by decide +kernel
theorem d_SL_store_29 : decode b_SL_store 29 = .ok (.return_, 1) := by decide +kernel
theorem d_SL_store_30 : decode b_SL_store 30 = .ok (.aload_n 0, 1) := by decide +kernel
theorem d_SL_store_31 : decode b_SL_store 31 = .ok (.iload_n 3, 1) := by decide +kernel
theorem d_SL_store_32 : decode b_SL_store 32 = .ok (.aload_n 0, 1) := by decide +kernel
theorem d_SL_store_33 : decode b_SL_store 33 = .ok (.iload_n 3, 1) := by decide +kernel
theorem d_SL_store_34 : decode b_SL_store 34 = .ok (.iload_n 1, 1) := by decide +kernel
theorem d_SL_store_35 : decode b_SL_store 35 = .ok (.invokevirtual 44, 3) := by decide +kernel
theorem d_SL_store_38 : decode b_SL_store 38 = .ok (.invokevirtual 33, 3) := by decide +kernel
theorem d_SL_store_41 : decode b_SL_store 41 = .ok (.astore 4, 2) := by decide +kernel
theorem d_SL_store_43 : decode b_SL_store 43 = .ok (.aload 4, 2) := by decide +kernel
theorem d_SL_store_45 : decode b_SL_store 45 = .ok (.ifnull 10, 3) := by decide +kernel
theorem d_SL_store_48 : decode b_SL_store 48 = .ok (.aload 4, 2) := by decide +kernel
theorem d_SL_store_50 : decode b_SL_store 50 = .ok (.iload_n 1, 1) := by decide +kernel
theorem d_SL_store_51 : decode b_SL_store 51 = .ok (.iload_n 2, 1) := by decide +kernel
theorem d_SL_store_52 : decode b_SL_store 52 = .ok (.invokevirtual 47, 3) := by decide +kernel
theorem d_SL_store_55 : decode b_SL_store 55 = .ok (.return_, 1) := by decide +kernel
theorem d_SL_pageBits_0 : decode b_SL_pageBits 0 = .ok (.iload_n 1, 1) := by decide +kernel
theorem d_SL_pageBits_1 : decode b_SL_pageBits 1 = .ok (.bipush 64, 2) := by decide +kernel
theorem d_SL_pageBits_3 : decode b_SL_pageBits 3 = .ok (.idiv, 1) := by decide +kernel
theorem d_SL_pageBits_4 : decode b_SL_pageBits 4 = .ok (.istore_n 2, 1) := by decide +kernel
theorem d_SL_pageBits_5 : decode b_SL_pageBits 5 = .ok (.iload_n 0, 1) := by decide +kernel
theorem d_SL_pageBits_6 : decode b_SL_pageBits 6 = .ok (.iconst 2, 1) := by decide +kernel
theorem d_SL_pageBits_7 : decode b_SL_pageBits 7 = .ok (.iload_n 2, 1) := by decide +kernel
theorem d_SL_pageBits_8 : decode b_SL_pageBits 8 = .ok (.imul, 1) := by decide +kernel
theorem d_SL_pageBits_9 : decode b_SL_pageBits 9 = .ok (.ishr, 1) := by decide +kernel
theorem d_SL_pageBits_10 : decode b_SL_pageBits 10 = .ok (.iconst 3, 1) := by decide +kernel
theorem d_SL_pageBits_11 : decode b_SL_pageBits 11 = .ok (.iand, 1) := by decide +kernel
theorem d_SL_pageBits_12 : decode b_SL_pageBits 12 = .ok (.ireturn, 1) := by decide +kernel
