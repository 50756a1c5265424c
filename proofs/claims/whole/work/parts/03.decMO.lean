/-! DECODE rows -/
theorem d_MO_init_0 : decode b_MO_init 0 = .ok (.aload_n 0, 1) := by decide +kernel
theorem d_MO_init_1 : decode b_MO_init 1 = .ok (.invokespecial 1, 3) := by decide +kernel
theorem d_MO_init_4 : decode b_MO_init 4 = .ok (.aload_n 0, 1) := by decide +kernel
theorem d_MO_init_5 : decode b_MO_init 5 = .ok (.iconst 4, 1) := by decide +kernel
theorem d_MO_init_6 : decode b_MO_init 6 = .ok (.newarray .boolean, 2) := by decide +kernel
theorem d_MO_init_8 : decode b_MO_init 8 = .ok (.putfield 7, 3) := by decide +kernel
theorem d_MO_init_11 : decode b_MO_init 11 = .ok (.aload_n 0, 1) := by decide +kernel
theorem d_MO_init_12 : decode b_MO_init 12 = .ok (.iconst 4, 1) := by decide +kernel
theorem d_MO_init_13 : decode b_MO_init 13 = .ok (.newarray .int, 2) := by decide +kernel
theorem d_MO_init_15 : decode b_MO_init 15 = .ok (.putfield 13, 3) := by decide +kernel
theorem d_MO_init_18 : decode b_MO_init 18 = .ok (.aload_n 0, 1) := by decide +kernel
theorem d_MO_init_19 : decode b_MO_init 19 = .ok (.bipush 16, 2) := by decide +kernel
theorem d_MO_init_21 : decode b_MO_init 21 = .ok (.newarray .int, 2) := by decide +kernel
theorem d_MO_init_23 : decode b_MO_init 23 = .ok (.putfield 17, 3) := by decide +kernel
theorem d_MO_init_26 : decode b_MO_init 26 = .ok (.aload_n 0, 1) := by decide +kernel
theorem d_MO_init_27 : decode b_MO_init 27 = .ok (.bipush 16, 2) := by decide +kernel
theorem d_MO_init_29 : decode b_MO_init 29 = .ok (.newarray .int, 2) := by decide +kernel
theorem d_MO_init_31 : decode b_MO_init 31 = .ok (.putfield 20, 3) := by decide +kernel
theorem d_MO_init_34 : decode b_MO_init 34 = .ok (.aload_n 0, 1) := by decide +kernel
theorem d_MO_init_35 : decode b_MO_init 35 = .ok (.bipush 64, 2) := by decide +kernel
theorem d_MO_init_37 : decode b_MO_init 37 = .ok (.newarray .int, 2) := by decide +kernel
theorem d_MO_init_39 : decode b_MO_init 39 = .ok (.putfield 23, 3) := by decide +kernel
theorem d_MO_init_42 : decode b_MO_init 42 = .ok (.aload_n 0, 1) := by decide +kernel
theorem d_MO_init_43 : decode b_MO_init 43 = .ok (.sipush 4096, 3) := by decide +kernel
theorem d_MO_init_46 : decode b_MO_init 46 = .ok (.newarray .int, 2) := by decide +kernel
theorem d_MO_init_48 : decode b_MO_init 48 = .ok (.putfield 26, 3) := by decide +kernel
theorem d_MO_init_51 : decode b_MO_init 51 = .ok (.aload_n 0, 1) := by decide +kernel
theorem d_MO_init_52 : decode b_MO_init 52 = .ok (.sipush 512, 3) := by decide +kernel
theorem d_MO_init_55 : decode b_MO_init 55 = .ok (.newarray .int, 2) := by decide +kernel
theorem d_MO_init_57 : decode b_MO_init 57 = .ok (.putfield 29, 3) := by decide +kernel
theorem d_MO_init_60 : decode b_MO_init 60 = .ok (.aload_n 0, 1) := by decide +kernel
theorem d_MO_init_61 : decode b_MO_init 61 = .ok (.bipush 8, 2) := by decide +kernel
theorem d_MO_init_63 : decode b_MO_init 63 = .ok (.newarray .int, 2) := by decide +kernel
theorem d_MO_init_65 : decode b_MO_init 65 = .ok (.putfield 32, 3) := by decide +kernel
theorem d_MO_init_68 : decode b_MO_init 68 = .ok (.aload_n 0, 1) := by decide +kernel
theorem d_MO_init_69 : decode b_MO_init 69 = .ok (.iconst (-1), 1) := by decide +kernel
theorem d_MO_init_70 : decode b_MO_init 70 = .ok (.putfield 35, 3) := by decide +kernel
theorem d_MO_init_73 : decode b_MO_init 73 = .ok (.aload_n 0, 1) := by decide +kernel
theorem d_MO_init_74 : decode b_MO_init 74 = .ok (.sipush 2048, 3) := by decide +kernel
theorem d_MO_init_77 : decode b_MO_init 77 = .ok (.newarray .int, 2) := by decide +kernel
theorem d_MO_init_79 : decode b_MO_init 79 = .ok (.putfield 39, 3) := by decide +kernel
theorem d_MO_init_82 : decode b_MO_init 82 = .ok (.return_, 1) := by decide +kernel
theorem d_MO_thrown_0 : decode b_MO_thrown 0 = .ok (.aload_n 0, 1) := by decide +kernel
theorem d_MO_thrown_1 : decode b_MO_thrown 1 = .ok (.getfield 42, 3) := by decide +kernel
theorem d_MO_thrown_4 : decode b_MO_thrown 4 = .ok (.ireturn, 1) := by decide +kernel
theorem d_MO_within_0 : decode b_MO_within 0 = .ok (.iload_n 0, 1) := by decide +kernel
theorem d_MO_within_1 : decode b_MO_within 1 = .ok (.iload_n 1, 1) := by decide +kernel
theorem d_MO_within_2 : decode b_MO_within 2 = .ok (.if_icmp .lt 12, 3) := by decide +kernel
theorem d_MO_within_5 : decode b_MO_within 5 = .ok (.iload_n 0, 1) := by decide +kernel
theorem d_MO_within_6 : decode b_MO_within 6 = .ok (.iload_n 2, 1) := by decide +kernel
theorem d_MO_within_7 : decode b_MO_within 7 = .ok (.if_icmp .gt 7, 3) := by decide +kernel
theorem d_MO_within_10 : decode b_MO_within 10 = .ok (.iconst 1, 1) := by decide +kernel
theorem d_MO_within_11 : decode b_MO_within 11 = .ok (.goto 4, 3) := by decide +kernel
theorem d_MO_within_14 : decode b_MO_within 14 = .ok (.iconst 0, 1) := by decide +kernel
theorem d_MO_within_15 : decode b_MO_within 15 = .ok (.ireturn, 1) := by decide +kernel
theorem d_MO_widen_0 : decode b_MO_widen 0 = .ok (.aload_n 0, 1) := by decide +kernel
theorem d_MO_widen_1 : decode b_MO_widen 1 = .ok (.iload_n 1, 1) := by decide +kernel
theorem d_MO_widen_2 : decode b_MO_widen 2 = .ok (.iconst 0, 1) := by decide +kernel
theorem d_MO_widen_3 : decode b_MO_widen 3 = .ok (.iconst 3, 1) := by decide +kernel
theorem d_MO_widen_4 : decode b_MO_widen 4 = .ok (.invokestatic 45, 3) := by decide +kernel
theorem d_MO_widen_7 : decode b_MO_widen 7 = .ok (.ifCond .eq 7, 3) := by decide +kernel
theorem d_MO_widen_10 : decode b_MO_widen 10 = .ok (.iconst 0, 1) := by decide +kernel
theorem d_MO_widen_11 : decode b_MO_widen 11 = .ok (.goto 4, 3) := by decide +kernel
theorem d_MO_widen_14 : decode b_MO_widen 14 = .ok (.iconst 1, 1) := by decide +kernel
theorem d_MO_widen_15 : decode b_MO_widen 15 = .ok (.putfield 42, 3) := by decide +kernel
theorem d_MO_widen_18 : decode b_MO_widen 18 = .ok (.aload_n 0, 1) := by decide +kernel
theorem d_MO_widen_19 : decode b_MO_widen 19 = .ok (.getfield 42, 3) := by decide +kernel
theorem d_MO_widen_22 : decode b_MO_widen 22 = .ok (.ifCond .eq 4, 3) := by decide +kernel
theorem d_MO_widen_25 : decode b_MO_widen 25 = .ok (.return_, 1) := by decide +kernel
theorem d_MO_widen_26 : decode b_MO_widen 26 = .ok (.aload_n 0, 1) := by decide +kernel
theorem d_MO_widen_27 : decode b_MO_widen 27 = .ok (.getfield 7, 3) := by decide +kernel
theorem d_MO_widen_30 : decode b_MO_widen 30 = .ok (.iload_n 1, 1) := by decide +kernel
theorem d_MO_widen_31 : decode b_MO_widen 31 = .ok (.baload, 1) := by decide +kernel
theorem d_MO_widen_32 : decode b_MO_widen 32 = .ok (.ifCond .ne 14, 3) := by decide +kernel
theorem d_MO_widen_35 : decode b_MO_widen 35 = .ok (.aload_n 0, 1) := by decide +kernel
theorem d_MO_widen_36 : decode b_MO_widen 36 = .ok (.getfield 17, 3) := by decide +kernel
theorem d_MO_widen_39 : decode b_MO_widen 39 = .ok (.iconst 4, 1) := by decide +kernel
theorem d_MO_widen_40 : decode b_MO_widen 40 = .ok (.iload_n 1, 1) := by decide +kernel
theorem d_MO_widen_41 : decode b_MO_widen 41 = .ok (.imul, 1) := by decide +kernel
theorem d_MO_widen_42 : decode b_MO_widen 42 = .ok (.iaload, 1) := by decide +kernel
theorem d_MO_widen_43 : decode b_MO_widen 43 = .ok (.ifCond .eq 9, 3) := by decide +kernel
theorem d_MO_widen_46 : decode b_MO_widen 46 = .ok (.aload_n 0, 1) := by decide +kernel
theorem d_MO_widen_47 : decode b_MO_widen 47 = .ok (.iconst 2, 1) := by decide +kernel
theorem d_MO_widen_48 : decode b_MO_widen 48 = .ok (.putfield 42, 3) := by decide +kernel
theorem d_MO_widen_51 : decode b_MO_widen 51 = .ok (.return_, 1) := by decide +kernel
theorem d_MO_widen_52 : decode b_MO_widen 52 = .ok (.aload_n 0, 1) := by decide +kernel
theorem d_MO_widen_53 : decode b_MO_widen 53 = .ok (.getfield 7, 3) := by decide +kernel
theorem d_MO_widen_56 : decode b_MO_widen 56 = .ok (.iload_n 1, 1) := by decide +kernel
theorem d_MO_widen_57 : decode b_MO_widen 57 = .ok (.iconst 1, 1) := by decide +kernel
theorem d_MO_widen_58 : decode b_MO_widen 58 = .ok (.bastore, 1) := by decide +kernel
theorem d_MO_widen_59 : decode b_MO_widen 59 = .ok (.return_, 1) := by decide +kernel
theorem d_MO_plug_0 : decode b_MO_plug 0 = .ok (.aload_n 0, 1) := by decide +kernel
theorem d_MO_plug_1 : decode b_MO_plug 1 = .ok (.iload_n 1, 1) := by decide +kernel
theorem d_MO_plug_2 : decode b_MO_plug 2 = .ok (.iconst 0, 1) := by decide +kernel
theorem d_MO_plug_3 : decode b_MO_plug 3 = .ok (.iconst 3, 1) := by decide +kernel
theorem d_MO_plug_4 : decode b_MO_plug 4 = .ok (.invokestatic 45, 3) := by decide +kernel
theorem d_MO_plug_7 : decode b_MO_plug 7 = .ok (.ifCond .eq 41, 3) := by decide +kernel
theorem d_MO_plug_10 : decode b_MO_plug 10 = .ok (.iload_n 2, 1) := by decide +kernel
theorem d_MO_plug_11 : decode b_MO_plug 11 = .ok (.iconst 0, 1) := by decide +kernel
theorem d_MO_plug_12 : decode b_MO_plug 12 = .ok (.iconst 3, 1) := by decide +kernel
theorem d_MO_plug_13 : decode b_MO_plug 13 = .ok (.invokestatic 45, 3) := by decide +kernel
theorem d_MO_plug_16 : decode b_MO_plug 16 = .ok (.ifCond .eq 32, 3) := by decide +kernel
theorem d_MO_plug_19 : decode b_MO_plug 19 = .ok (.iload_n 3, 1) := by decide +kernel
theorem d_MO_plug_20 : decode b_MO_plug 20 = .ok (.iconst 1, 1) := by decide +kernel
theorem d_MO_plug_21 : decode b_MO_plug 21 = .ok (.iconst 4, 1) := by decide +kernel
theorem d_MO_plug_22 : decode b_MO_plug 22 = .ok (.invokestatic 45, 3) := by decide +kernel
theorem d_MO_plug_25 : decode b_MO_plug 25 = .ok (.ifCond .eq 23, 3) := by decide +kernel
theorem d_MO_plug_28 : decode b_MO_plug 28 = .ok (.iload_n 3, 1) := by decide +kernel
theorem d_MO_plug_29 : decode b_MO_plug 29 = .ok (.iconst 3, 1) := by decide +kernel
theorem d_MO_plug_30 : decode b_MO_plug 30 = .ok (.if_icmp .ne 14, 3) := by decide +kernel
theorem d_MO_plug_33 : decode b_MO_plug 33 = .ok (.iload 4, 2) := by decide +kernel
theorem d_MO_plug_35 : decode b_MO_plug 35 = .ok (.iconst 1, 1) := by decide +kernel
theorem d_MO_plug_36 : decode b_MO_plug 36 = .ok (.bipush 8, 2) := by decide +kernel
theorem d_MO_plug_38 : decode b_MO_plug 38 = .ok (.invokestatic 45, 3) := by decide +kernel
theorem d_MO_plug_41 : decode b_MO_plug 41 = .ok (.ifCond .eq 7, 3) := by decide +kernel
theorem d_MO_plug_44 : decode b_MO_plug 44 = .ok (.iconst 0, 1) := by decide +kernel
theorem d_MO_plug_45 : decode b_MO_plug 45 = .ok (.goto 4, 3) := by decide +kernel
theorem d_MO_plug_48 : decode b_MO_plug 48 = .ok (.iconst 1, 1) := by decide +kernel
theorem d_MO_plug_49 : decode b_MO_plug 49 = .ok (.putfield 42, 3) := by decide +kernel
theorem d_MO_plug_52 : decode b_MO_plug 52 = .ok (.aload_n 0, 1) := by decide +kernel
theorem d_MO_plug_53 : decode b_MO_plug 53 = .ok (.getfield 42, 3) := by decide +kernel
theorem d_MO_plug_56 : decode b_MO_plug 56 = .ok (.ifCond .eq 4, 3) := by decide +kernel
theorem d_MO_plug_59 : decode b_MO_plug 59 = .ok (.return_, 1) := by decide +kernel
theorem d_MO_plug_60 : decode b_MO_plug 60 = .ok (.iconst 4, 1) := by decide +kernel
theorem d_MO_plug_61 : decode b_MO_plug 61 = .ok (.iload_n 1, 1) := by decide +kernel
theorem d_MO_plug_62 : decode b_MO_plug 62 = .ok (.imul, 1) := by decide +kernel
theorem d_MO_plug_63 : decode b_MO_plug 63 = .ok (.iload_n 2, 1) := by decide +kernel
theorem d_MO_plug_64 : decode b_MO_plug 64 = .ok (.iadd, 1) := by decide +kernel
theorem d_MO_plug_65 : decode b_MO_plug 65 = .ok (.istore 5, 2) := by decide +kernel
theorem d_MO_plug_67 : decode b_MO_plug 67 = .ok (.aload_n 0, 1) := by decide +kernel
theorem d_MO_plug_68 : decode b_MO_plug 68 = .ok (.getfield 7, 3) := by decide +kernel
theorem d_MO_plug_71 : decode b_MO_plug 71 = .ok (.iload_n 1, 1) := by decide +kernel
theorem d_MO_plug_72 : decode b_MO_plug 72 = .ok (.baload, 1) := by decide +kernel
theorem d_MO_plug_73 : decode b_MO_plug 73 = .ok (.ifCond .ne 7, 3) := by decide +kernel
theorem d_MO_plug_76 : decode b_MO_plug 76 = .ok (.iload_n 2, 1) := by decide +kernel
theorem d_MO_plug_77 : decode b_MO_plug 77 = .ok (.ifCond .gt 13, 3) := by decide +kernel
theorem d_MO_plug_80 : decode b_MO_plug 80 = .ok (.aload_n 0, 1) := by decide +kernel
theorem d_MO_plug_81 : decode b_MO_plug 81 = .ok (.getfield 17, 3) := by decide +kernel
theorem d_MO_plug_84 : decode b_MO_plug 84 = .ok (.iload 5, 2) := by decide +kernel
theorem d_MO_plug_86 : decode b_MO_plug 86 = .ok (.iaload, 1) := by decide +kernel
theorem d_MO_plug_87 : decode b_MO_plug 87 = .ok (.ifCond .eq 9, 3) := by decide +kernel
theorem d_MO_plug_90 : decode b_MO_plug 90 = .ok (.aload_n 0, 1) := by decide +kernel
theorem d_MO_plug_91 : decode b_MO_plug 91 = .ok (.iconst 2, 1) := by decide +kernel
theorem d_MO_plug_92 : decode b_MO_plug 92 = .ok (.putfield 42, 3) := by decide +kernel
theorem d_MO_plug_95 : decode b_MO_plug 95 = .ok (.return_, 1) := by decide +kernel
theorem d_MO_plug_96 : decode b_MO_plug 96 = .ok (.aload_n 0, 1) := by decide +kernel
theorem d_MO_plug_97 : decode b_MO_plug 97 = .ok (.getfield 17, 3) := by decide +kernel
theorem d_MO_plug_100 : decode b_MO_plug 100 = .ok (.iload 5, 2) := by decide +kernel
theorem d_MO_plug_102 : decode b_MO_plug 102 = .ok (.iload_n 3, 1) := by decide +kernel
theorem d_MO_plug_103 : decode b_MO_plug 103 = .ok (.iastore, 1) := by decide +kernel
theorem d_MO_plug_104 : decode b_MO_plug 104 = .ok (.aload_n 0, 1) := by decide +kernel
theorem d_MO_plug_105 : decode b_MO_plug 105 = .ok (.getfield 20, 3) := by decide +kernel
theorem d_MO_plug_108 : decode b_MO_plug 108 = .ok (.iload 5, 2) := by decide +kernel
theorem d_MO_plug_110 : decode b_MO_plug 110 = .ok (.iload 4, 2) := by decide +kernel
theorem d_MO_plug_112 : decode b_MO_plug 112 = .ok (.iastore, 1) := by decide +kernel
theorem d_MO_plug_113 : decode b_MO_plug 113 = .ok (.iconst 0, 1) := by decide +kernel
theorem d_MO_plug_114 : decode b_MO_plug 114 = .ok (.istore 6, 2) := by decide +kernel
theorem d_MO_plug_116 : decode b_MO_plug 116 = .ok (.iload 6, 2) := by decide +kernel
theorem d_MO_plug_118 : decode b_MO_plug 118 = .ok (.iconst 4, 1) := by decide +kernel
theorem d_MO_plug_119 : decode b_MO_plug 119 = .ok (.if_icmp .ge 31, 3) := by decide +kernel
theorem d_MO_plug_122 : decode b_MO_plug 122 = .ok (.iload_n 3, 1) := by decide +kernel
theorem d_MO_plug_123 : decode b_MO_plug 123 = .ok (.iconst 3, 1) := by decide +kernel
theorem d_MO_plug_124 : decode b_MO_plug 124 = .ok (.if_icmp .ne 26, 3) := by decide +kernel
theorem d_MO_plug_127 : decode b_MO_plug 127 = .ok (.aload_n 0, 1) := by decide +kernel
theorem d_MO_plug_128 : decode b_MO_plug 128 = .ok (.getfield 23, 3) := by decide +kernel
theorem d_MO_plug_131 : decode b_MO_plug 131 = .ok (.iconst 4, 1) := by decide +kernel
theorem d_MO_plug_132 : decode b_MO_plug 132 = .ok (.iload 5, 2) := by decide +kernel
theorem d_MO_plug_134 : decode b_MO_plug 134 = .ok (.imul, 1) := by decide +kernel
theorem d_MO_plug_135 : decode b_MO_plug 135 = .ok (.iload 6, 2) := by decide +kernel
theorem d_MO_plug_137 : decode b_MO_plug 137 = .ok (.iadd, 1) := by decide +kernel
theorem d_MO_plug_138 : decode b_MO_plug 138 = .ok (.iload 6, 2) := by decide +kernel
theorem d_MO_plug_140 : decode b_MO_plug 140 = .ok (.iload 4, 2) := by decide +kernel
theorem d_MO_plug_142 : decode b_MO_plug 142 = .ok (.irem, 1) := by decide +kernel
theorem d_MO_plug_143 : decode b_MO_plug 143 = .ok (.iastore, 1) := by decide +kernel
theorem d_MO_plug_144 : decode b_MO_plug 144 = .ok (.iinc 6 1, 3) := by decide +kernel
theorem d_MO_plug_147 : decode b_MO_plug 147 = .ok (.goto (-31), 3) := by decide +kernel
theorem d_MO_plug_150 : decode b_MO_plug 150 = .ok (.return_, 1) := by decide +kernel
theorem d_MO_burn_0 : decode b_MO_burn 0 = .ok (.aload_n 0, 1) := by decide +kernel
theorem d_MO_burn_1 : decode b_MO_burn 1 = .ok (.iconst 0, 1) := by decide +kernel
theorem d_MO_burn_2 : decode b_MO_burn 2 = .ok (.putfield 42, 3) := by decide +kernel
theorem d_MO_burn_5 : decode b_MO_burn 5 = .ok (.iload_n 1, 1) := by decide +kernel
theorem d_MO_burn_6 : decode b_MO_burn 6 = .ok (.iconst 0, 1) := by decide +kernel
theorem d_MO_burn_7 : decode b_MO_burn 7 = .ok (.iconst 3, 1) := by decide +kernel
theorem d_MO_burn_8 : decode b_MO_burn 8 = .ok (.invokestatic 45, 3) := by decide +kernel
theorem d_MO_burn_11 : decode b_MO_burn 11 = .ok (.ifCond .eq 24, 3) := by decide +kernel
theorem d_MO_burn_14 : decode b_MO_burn 14 = .ok (.iload_n 2, 1) := by decide +kernel
theorem d_MO_burn_15 : decode b_MO_burn 15 = .ok (.iconst 0, 1) := by decide +kernel
theorem d_MO_burn_16 : decode b_MO_burn 16 = .ok (.iconst 3, 1) := by decide +kernel
theorem d_MO_burn_17 : decode b_MO_burn 17 = .ok (.invokestatic 45, 3) := by decide +kernel
theorem d_MO_burn_20 : decode b_MO_burn 20 = .ok (.ifCond .eq 15, 3) := by decide +kernel
theorem d_MO_burn_23 : decode b_MO_burn 23 = .ok (.iload 4, 2) := by decide +kernel
theorem d_MO_burn_25 : decode b_MO_burn 25 = .ok (.iconst 0, 1) := by decide +kernel
theorem d_MO_burn_26 : decode b_MO_burn 26 = .ok (.sipush 255, 3) := by decide +kernel
theorem d_MO_burn_29 : decode b_MO_burn 29 = .ok (.invokestatic 45, 3) := by decide +kernel
theorem d_MO_burn_32 : decode b_MO_burn 32 = .ok (.ifCond .ne 5, 3) := by decide +kernel
theorem d_MO_burn_35 : decode b_MO_burn 35 = .ok (.iconst 0, 1) := by decide +kernel
theorem d_MO_burn_36 : decode b_MO_burn 36 = .ok (.ireturn, 1) := by decide +kernel
theorem d_MO_burn_37 : decode b_MO_burn 37 = .ok (.iconst 4, 1) := by decide +kernel
theorem d_MO_burn_38 : decode b_MO_burn 38 = .ok (.iload_n 1, 1) := by decide +kernel
theorem d_MO_burn_39 : decode b_MO_burn 39 = .ok (.imul, 1) := by decide +kernel
theorem d_MO_burn_40 : decode b_MO_burn 40 = .ok (.iload_n 2, 1) := by decide +kernel
theorem d_MO_burn_41 : decode b_MO_burn 41 = .ok (.iadd, 1) := by decide +kernel
theorem d_MO_burn_42 : decode b_MO_burn 42 = .ok (.istore 5, 2) := by decide +kernel
theorem d_MO_burn_44 : decode b_MO_burn 44 = .ok (.aload_n 0, 1) := by decide +kernel
theorem d_MO_burn_45 : decode b_MO_burn 45 = .ok (.getfield 17, 3) := by decide +kernel
theorem d_MO_burn_48 : decode b_MO_burn 48 = .ok (.iload 5, 2) := by decide +kernel
theorem d_MO_burn_50 : decode b_MO_burn 50 = .ok (.iaload, 1) := by decide +kernel
theorem d_MO_burn_51 : decode b_MO_burn 51 = .ok (.iconst 2, 1) := by decide +kernel
theorem d_MO_burn_52 : decode b_MO_burn 52 = .ok (.if_icmp .ne 9, 3) := by decide +kernel
theorem d_MO_burn_55 : decode b_MO_burn 55 = .ok (.sipush 256, 3) := by decide +kernel
theorem d_MO_burn_58 : decode b_MO_burn 58 = .ok (.goto 28, 3) := by decide +kernel
theorem d_MO_burn_61 : decode b_MO_burn 61 = .ok (.aload_n 0, 1) := by decide +kernel
theorem d_MO_burn_62 : decode b_MO_burn 62 = .ok (.getfield 17, 3) := by decide +kernel
theorem d_MO_burn_65 : decode b_MO_burn 65 = .ok (.iload 5, 2) := by decide +kernel
theorem d_MO_burn_67 : decode b_MO_burn 67 = .ok (.iaload, 1) := by decide +kernel
theorem d_MO_burn_68 : decode b_MO_burn 68 = .ok (.iconst 3, 1) := by decide +kernel
theorem d_MO_burn_69 : decode b_MO_burn 69 = .ok (.if_icmp .ne 16, 3) := by decide +kernel
theorem d_MO_burn_72 : decode b_MO_burn 72 = .ok (.bipush 32, 2) := by decide +kernel
theorem d_MO_burn_74 : decode b_MO_burn 74 = .ok (.aload_n 0, 1) := by decide +kernel
theorem d_MO_burn_75 : decode b_MO_burn 75 = .ok (.getfield 20, 3) := by decide +kernel
theorem d_MO_burn_78 : decode b_MO_burn 78 = .ok (.iload 5, 2) := by decide +kernel
theorem d_MO_burn_80 : decode b_MO_burn 80 = .ok (.iaload, 1) := by decide +kernel
theorem d_MO_burn_81 : decode b_MO_burn 81 = .ok (.imul, 1) := by decide +kernel
theorem d_MO_burn_82 : decode b_MO_burn 82 = .ok (.goto 4, 3) := by decide +kernel
theorem d_MO_burn_85 : decode b_MO_burn 85 = .ok (.iconst 0, 1) := by decide +kernel
theorem d_MO_burn_86 : decode b_MO_burn 86 = .ok (.istore 6, 2) := by decide +kernel
theorem d_MO_burn_88 : decode b_MO_burn 88 = .ok (.iload_n 3, 1) := by decide +kernel
theorem d_MO_burn_89 : decode b_MO_burn 89 = .ok (.ifCond .lt 9, 3) := by decide +kernel
theorem d_MO_burn_92 : decode b_MO_burn 92 = .ok (.iload_n 3, 1) := by decide +kernel
theorem d_MO_burn_93 : decode b_MO_burn 93 = .ok (.iload 6, 2) := by decide +kernel
theorem d_MO_burn_95 : decode b_MO_burn 95 = .ok (.if_icmp .lt 5, 3) := by decide +kernel
theorem d_MO_burn_98 : decode b_MO_burn 98 = .ok (.iconst 0, 1) := by decide +kernel
theorem d_MO_burn_99 : decode b_MO_burn 99 = .ok (.ireturn, 1) := by decide +kernel
theorem d_MO_burn_100 : decode b_MO_burn 100 = .ok (.aload_n 0, 1) := by decide +kernel
theorem d_MO_burn_101 : decode b_MO_burn 101 = .ok (.getfield 26, 3) := by decide +kernel
theorem d_MO_burn_104 : decode b_MO_burn 104 = .ok (.sipush 256, 3) := by decide +kernel
theorem d_MO_burn_107 : decode b_MO_burn 107 = .ok (.iload 5, 2) := by decide +kernel
theorem d_MO_burn_109 : decode b_MO_burn 109 = .ok (.imul, 1) := by decide +kernel
theorem d_MO_burn_110 : decode b_MO_burn 110 = .ok (.iload_n 3, 1) := by decide +kernel
theorem d_MO_burn_111 : decode b_MO_burn 111 = .ok (.iadd, 1) := by decide +kernel
theorem d_MO_burn_112 : decode b_MO_burn 112 = .ok (.iload 4, 2) := by decide +kernel
theorem d_MO_burn_114 : decode b_MO_burn 114 = .ok (.iastore, 1) := by decide +kernel
theorem d_MO_burn_115 : decode b_MO_burn 115 = .ok (.iconst 1, 1) := by decide +kernel
theorem d_MO_burn_116 : decode b_MO_burn 116 = .ok (.ireturn, 1) := by decide +kernel
theorem d_MO_placeOf_0 : decode b_MO_placeOf 0 = .ok (.aload_n 0, 1) := by decide +kernel
theorem d_MO_placeOf_1 : decode b_MO_placeOf 1 = .ok (.getfield 17, 3) := by decide +kernel
theorem d_MO_placeOf_4 : decode b_MO_placeOf 4 = .ok (.iload_n 1, 1) := by decide +kernel
theorem d_MO_placeOf_5 : decode b_MO_placeOf 5 = .ok (.iaload, 1) := by decide +kernel
theorem d_MO_placeOf_6 : decode b_MO_placeOf 6 = .ok (.tableswitch 95 1 4 #[30, 30, 38, 84], 30) := by decide +kernel
theorem d_MO_placeOf_36 : decode b_MO_placeOf 36 = .ok (.sipush 256, 3) := by decide +kernel
theorem d_MO_placeOf_39 : decode b_MO_placeOf 39 = .ok (.iload_n 1, 1) := by decide +kernel
theorem d_MO_placeOf_40 : decode b_MO_placeOf 40 = .ok (.imul, 1) := by decide +kernel
theorem d_MO_placeOf_41 : decode b_MO_placeOf 41 = .ok (.iload_n 2, 1) := by decide +kernel
theorem d_MO_placeOf_42 : decode b_MO_placeOf 42 = .ok (.iadd, 1) := by decide +kernel
theorem d_MO_placeOf_43 : decode b_MO_placeOf 43 = .ok (.ireturn, 1) := by decide +kernel
theorem d_MO_placeOf_44 : decode b_MO_placeOf 44 = .ok (.iload_n 2, 1) := by decide +kernel
theorem d_MO_placeOf_45 : decode b_MO_placeOf 45 = .ok (.bipush 64, 2) := by decide +kernel
theorem d_MO_placeOf_47 : decode b_MO_placeOf 47 = .ok (.sipush 191, 3) := by decide +kernel
theorem d_MO_placeOf_50 : decode b_MO_placeOf 50 = .ok (.invokestatic 45, 3) := by decide +kernel
theorem d_MO_placeOf_53 : decode b_MO_placeOf 53 = .ok (.ifCond .eq 35, 3) := by decide +kernel
theorem d_MO_placeOf_56 : decode b_MO_placeOf 56 = .ok (.sipush 256, 3) := by decide +kernel
theorem d_MO_placeOf_59 : decode b_MO_placeOf 59 = .ok (.iload_n 1, 1) := by decide +kernel
theorem d_MO_placeOf_60 : decode b_MO_placeOf 60 = .ok (.imul, 1) := by decide +kernel
theorem d_MO_placeOf_61 : decode b_MO_placeOf 61 = .ok (.bipush 32, 2) := by decide +kernel
theorem d_MO_placeOf_63 : decode b_MO_placeOf 63 = .ok (.aload_n 0, 1) := by decide +kernel
theorem d_MO_placeOf_64 : decode b_MO_placeOf 64 = .ok (.getfield 23, 3) := by decide +kernel
theorem d_MO_placeOf_67 : decode b_MO_placeOf 67 = .ok (.iconst 4, 1) := by decide +kernel
theorem d_MO_placeOf_68 : decode b_MO_placeOf 68 = .ok (.iload_n 1, 1) := by decide +kernel
theorem d_MO_placeOf_69 : decode b_MO_placeOf 69 = .ok (.imul, 1) := by decide +kernel
theorem d_MO_placeOf_70 : decode b_MO_placeOf 70 = .ok (.iload_n 2, 1) := by decide +kernel
theorem d_MO_placeOf_71 : decode b_MO_placeOf 71 = .ok (.bipush 32, 2) := by decide +kernel
theorem d_MO_placeOf_73 : decode b_MO_placeOf 73 = .ok (.idiv, 1) := by decide +kernel
theorem d_MO_placeOf_74 : decode b_MO_placeOf 74 = .ok (.iadd, 1) := by decide +kernel
theorem d_MO_placeOf_75 : decode b_MO_placeOf 75 = .ok (.iconst 2, 1) := by decide +kernel
theorem d_MO_placeOf_76 : decode b_MO_placeOf 76 = .ok (.isub, 1) := by decide +kernel
theorem d_MO_placeOf_77 : decode b_MO_placeOf 77 = .ok (.iaload, 1) := by decide +kernel
theorem d_MO_placeOf_78 : decode b_MO_placeOf 78 = .ok (.imul, 1) := by decide +kernel
theorem d_MO_placeOf_79 : decode b_MO_placeOf 79 = .ok (.iadd, 1) := by decide +kernel
theorem d_MO_placeOf_80 : decode b_MO_placeOf 80 = .ok (.iload_n 2, 1) := by decide +kernel
theorem d_MO_placeOf_81 : decode b_MO_placeOf 81 = .ok (.bipush 32, 2) := by decide +kernel
theorem d_MO_placeOf_83 : decode b_MO_placeOf 83 = .ok (.irem, 1) := by decide +kernel
theorem d_MO_placeOf_84 : decode b_MO_placeOf 84 = .ok (.iadd, 1) := by decide +kernel
theorem d_MO_placeOf_85 : decode b_MO_placeOf 85 = .ok (.goto 4, 3) := by decide +kernel
theorem d_MO_placeOf_88 : decode b_MO_placeOf 88 = .ok (.iconst (-1), 1) := by decide +kernel
theorem d_MO_placeOf_89 : decode b_MO_placeOf 89 = .ok (.ireturn, 1) := by decide +kernel
theorem d_MO_placeOf_90 : decode b_MO_placeOf 90 = .ok (.sipush 256, 3) := by decide +kernel
theorem d_MO_placeOf_93 : decode b_MO_placeOf 93 = .ok (.iload_n 1, 1) := by decide +kernel
theorem d_MO_placeOf_94 : decode b_MO_placeOf 94 = .ok (.imul, 1) := by decide +kernel
theorem d_MO_placeOf_95 : decode b_MO_placeOf 95 = .ok (.iload_n 2, 1) := by decide +kernel
theorem d_MO_placeOf_96 : decode b_MO_placeOf 96 = .ok (.bipush 64, 2) := by decide +kernel
theorem d_MO_placeOf_98 : decode b_MO_placeOf 98 = .ok (.irem, 1) := by decide +kernel
theorem d_MO_placeOf_99 : decode b_MO_placeOf 99 = .ok (.iadd, 1) := by decide +kernel
theorem d_MO_placeOf_100 : decode b_MO_placeOf 100 = .ok (.ireturn, 1) := by decide +kernel
theorem d_MO_placeOf_101 : decode b_MO_placeOf 101 = .ok (.iconst (-1), 1) := by decide +kernel
theorem d_MO_placeOf_102 : decode b_MO_placeOf 102 = .ok (.ireturn, 1) := by decide +kernel
theorem d_MO_get_0 : decode b_MO_get 0 = .ok (.aload_n 0, 1) := by decide +kernel
theorem d_MO_get_1 : decode b_MO_get 1 = .ok (.iload_n 1, 1) := by decide +kernel
theorem d_MO_get_2 : decode b_MO_get 2 = .ok (.iload_n 2, 1) := by decide +kernel
theorem d_MO_get_3 : decode b_MO_get 3 = .ok (.invokevirtual 49, 3) := by decide +kernel
theorem d_MO_get_6 : decode b_MO_get 6 = .ok (.istore_n 3, 1) := by decide +kernel
theorem d_MO_get_7 : decode b_MO_get 7 = .ok (.iload_n 3, 1) := by decide +kernel
theorem d_MO_get_8 : decode b_MO_get 8 = .ok (.ifCond .ge 9, 3) := by decide +kernel
theorem d_MO_get_11 : decode b_MO_get 11 = .ok (.sipush 255, 3) := by decide +kernel
theorem d_MO_get_14 : decode b_MO_get 14 = .ok (.goto 9, 3) := by decide +kernel
theorem d_MO_get_17 : decode b_MO_get 17 = .ok (.aload_n 0, 1) := by decide +kernel
theorem d_MO_get_18 : decode b_MO_get 18 = .ok (.getfield 26, 3) := by decide +kernel
theorem d_MO_get_21 : decode b_MO_get 21 = .ok (.iload_n 3, 1) := by decide +kernel
theorem d_MO_get_22 : decode b_MO_get 22 = .ok (.iaload, 1) := by decide +kernel
theorem d_MO_get_23 : decode b_MO_get 23 = .ok (.ireturn, 1) := by decide +kernel
theorem d_MO_slotOf_0 : decode b_MO_slotOf 0 = .ok (.aload_n 0, 1) := by decide +kernel
theorem d_MO_slotOf_1 : decode b_MO_slotOf 1 = .ok (.getfield 53, 3) := by decide +kernel
theorem d_MO_slotOf_4 : decode b_MO_slotOf 4 = .ok (.iload_n 1, 1) := by decide +kernel
theorem d_MO_slotOf_5 : decode b_MO_slotOf 5 = .ok (.bipush 64, 2) := by decide +kernel
theorem d_MO_slotOf_7 : decode b_MO_slotOf 7 = .ok (.idiv, 1) := by decide +kernel
theorem d_MO_slotOf_8 : decode b_MO_slotOf 8 = .ok (.invokestatic 56, 3) := by decide +kernel
theorem d_MO_slotOf_11 : decode b_MO_slotOf 11 = .ok (.ireturn, 1) := by decide +kernel
theorem d_MO_bits_0 : decode b_MO_bits 0 = .ok (.iload_n 0, 1) := by decide +kernel
theorem d_MO_bits_1 : decode b_MO_bits 1 = .ok (.istore_n 2, 1) := by decide +kernel
theorem d_MO_bits_2 : decode b_MO_bits 2 = .ok (.iconst 0, 1) := by decide +kernel
theorem d_MO_bits_3 : decode b_MO_bits 3 = .ok (.istore_n 3, 1) := by decide +kernel
theorem d_MO_bits_4 : decode b_MO_bits 4 = .ok (.iload_n 3, 1) := by decide +kernel
theorem d_MO_bits_5 : decode b_MO_bits 5 = .ok (.iload_n 1, 1) := by decide +kernel
theorem d_MO_bits_6 : decode b_MO_bits 6 = .ok (.if_icmp .ge 13, 3) := by decide +kernel
theorem d_MO_bits_9 : decode b_MO_bits 9 = .ok (.iload_n 2, 1) := by decide +kernel
theorem d_MO_bits_10 : decode b_MO_bits 10 = .ok (.iconst 4, 1) := by decide +kernel
theorem d_MO_bits_11 : decode b_MO_bits 11 = .ok (.idiv, 1) := by decide +kernel
theorem d_MO_bits_12 : decode b_MO_bits 12 = .ok (.istore_n 2, 1) := by decide +kernel
theorem d_MO_bits_13 : decode b_MO_bits 13 = .ok (.iinc 3 1, 3) := by decide +kernel
theorem d_MO_bits_16 : decode b_MO_bits 16 = .ok (.goto (-12), 3) := by decide +kernel
theorem d_MO_bits_19 : decode b_MO_bits 19 = .ok (.iload_n 2, 1) := by decide +kernel
theorem d_MO_bits_20 : decode b_MO_bits 20 = .ok (.iconst 4, 1) := by decide +kernel
theorem d_MO_bits_21 : decode b_MO_bits 21 = .ok (.irem, 1) := by decide +kernel
theorem d_MO_bits_22 : decode b_MO_bits 22 = .ok (.ireturn, 1) := by decide +kernel
theorem d_MO_deviceAt_0 : decode b_MO_deviceAt 0 = .ok (.aload_n 0, 1) := by decide +kernel
theorem d_MO_deviceAt_1 : decode b_MO_deviceAt 1 = .ok (.iload_n 1, 1) := by decide +kernel
theorem d_MO_deviceAt_2 : decode b_MO_deviceAt 2 = .ok (.invokevirtual 59, 3) := by decide +kernel
theorem d_MO_deviceAt_5 : decode b_MO_deviceAt 5 = .ok (.istore_n 2, 1) := by decide +kernel
theorem d_MO_deviceAt_6 : decode b_MO_deviceAt 6 = .ok (.iconst 4, 1) := by decide +kernel
theorem d_MO_deviceAt_7 : decode b_MO_deviceAt 7 = .ok (.iload_n 2, 1) := by decide +kernel
theorem d_MO_deviceAt_8 : decode b_MO_deviceAt 8 = .ok (.imul, 1) := by decide +kernel
theorem d_MO_deviceAt_9 : decode b_MO_deviceAt 9 = .ok (.aload_n 0, 1) := by decide +kernel
theorem d_MO_deviceAt_10 : decode b_MO_deviceAt 10 = .ok (.getfield 7, 3) := by decide +kernel
theorem d_MO_deviceAt_13 : decode b_MO_deviceAt 13 = .ok (.iload_n 2, 1) := by decide +kernel
theorem d_MO_deviceAt_14 : decode b_MO_deviceAt 14 = .ok (.baload, 1) := by decide +kernel
theorem d_MO_deviceAt_15 : decode b_MO_deviceAt 15 = .ok (.ifCond .eq 19, 3) := by decide +kernel
theorem d_MO_deviceAt_18 : decode b_MO_deviceAt 18 = .ok (.aload_n 0, 1) := by decide +kernel
theorem d_MO_deviceAt_19 : decode b_MO_deviceAt 19 = .ok (.getfield 13, 3) := by decide +kernel
theorem d_MO_deviceAt_22 : decode b_MO_deviceAt 22 = .ok (.iload_n 2, 1) := by decide +kernel
theorem d_MO_deviceAt_23 : decode b_MO_deviceAt 23 = .ok (.iaload, 1) := by decide +kernel
theorem d_MO_deviceAt_24 : decode b_MO_deviceAt 24 = .ok (.iload_n 1, 1) := by decide +kernel
theorem d_MO_deviceAt_25 : decode b_MO_deviceAt 25 = .ok (.bipush 64, 2) := by decide +kernel
theorem d_MO_deviceAt_27 : decode b_MO_deviceAt 27 = .ok (.idiv, 1) := by decide +kernel
theorem d_MO_deviceAt_28 : decode b_MO_deviceAt 28 = .ok (.invokestatic 56, 3) := by decide +kernel
theorem d_MO_deviceAt_31 : decode b_MO_deviceAt 31 = .ok (.goto 4, 3) := by decide +kernel
theorem d_MO_deviceAt_34 : decode b_MO_deviceAt 34 = .ok (.iconst 0, 1) := by decide +kernel
theorem d_MO_deviceAt_35 : decode b_MO_deviceAt 35 = .ok (.iadd, 1) := by decide +kernel
theorem d_MO_deviceAt_36 : decode b_MO_deviceAt 36 = .ok (.ireturn, 1) := by decide +kernel
theorem d_MO_read_0 : decode b_MO_read 0 = .ok (.aload_n 0, 1) := by decide +kernel
theorem d_MO_read_1 : decode b_MO_read 1 = .ok (.iload_n 1, 1) := by decide +kernel
theorem d_MO_read_2 : decode b_MO_read 2 = .ok (.iconst 0, 1) := by decide +kernel
theorem d_MO_read_3 : decode b_MO_read 3 = .ok (.sipush 255, 3) := by decide +kernel
theorem d_MO_read_6 : decode b_MO_read 6 = .ok (.invokestatic 45, 3) := by decide +kernel
theorem d_MO_read_9 : decode b_MO_read 9 = .ok (.ifCond .eq 7, 3) := by decide +kernel
theorem d_MO_read_12 : decode b_MO_read 12 = .ok (.iconst 0, 1) := by decide +kernel
theorem d_MO_read_13 : decode b_MO_read 13 = .ok (.goto 4, 3) := by decide +kernel
theorem d_MO_read_16 : decode b_MO_read 16 = .ok (.iconst 1, 1) := by decide +kernel
theorem d_MO_read_17 : decode b_MO_read 17 = .ok (.putfield 42, 3) := by decide +kernel
theorem d_MO_read_20 : decode b_MO_read 20 = .ok (.aload_n 0, 1) := by decide +kernel
theorem d_MO_read_21 : decode b_MO_read 21 = .ok (.getfield 42, 3) := by decide +kernel
theorem d_MO_read_24 : decode b_MO_read 24 = .ok (.ifCond .eq 5, 3) := by decide +kernel
theorem d_MO_read_27 : decode b_MO_read 27 = .ok (.iconst 0, 1) := by decide +kernel
theorem d_MO_read_28 : decode b_MO_read 28 = .ok (.ireturn, 1) := by decide +kernel
theorem d_MO_read_29 : decode b_MO_read 29 = .ok (.aload_n 0, 1) := by decide +kernel
theorem d_MO_read_30 : decode b_MO_read 30 = .ok (.iload_n 1, 1) := by decide +kernel
theorem d_MO_read_31 : decode b_MO_read 31 = .ok (.invokevirtual 59, 3) := by decide +kernel
theorem d_MO_read_34 : decode b_MO_read 34 = .ok (.istore_n 2, 1) := by decide +kernel
theorem d_MO_read_35 : decode b_MO_read 35 = .ok (.iload_n 1, 1) := by decide +kernel
theorem d_MO_read_36 : decode b_MO_read 36 = .ok (.sipush 255, 3) := by decide +kernel
theorem d_MO_read_39 : decode b_MO_read 39 = .ok (.if_icmp .ne 25, 3) := by decide +kernel
theorem d_MO_read_42 : decode b_MO_read 42 = .ok (.aload_n 0, 1) := by decide +kernel
theorem d_MO_read_43 : decode b_MO_read 43 = .ok (.getfield 7, 3) := by decide +kernel
theorem d_MO_read_46 : decode b_MO_read 46 = .ok (.iload_n 2, 1) := by decide +kernel
theorem d_MO_read_47 : decode b_MO_read 47 = .ok (.baload, 1) := by decide +kernel
theorem d_MO_read_48 : decode b_MO_read 48 = .ok (.ifCond .eq 16, 3) := by decide +kernel
theorem d_MO_read_51 : decode b_MO_read 51 = .ok (.sipush 255, 3) := by decide +kernel
theorem d_MO_read_54 : decode b_MO_read 54 = .ok (.aload_n 0, 1) := by decide +kernel
theorem d_MO_read_55 : decode b_MO_read 55 = .ok (.getfield 13, 3) := by decide +kernel
theorem d_MO_read_58 : decode b_MO_read 58 = .ok (.iload_n 2, 1) := by decide +kernel
theorem d_MO_read_59 : decode b_MO_read 59 = .ok (.iaload, 1) := by decide +kernel
theorem d_MO_read_60 : decode b_MO_read 60 = .ok (.isub, 1) := by decide +kernel
theorem d_MO_read_61 : decode b_MO_read 61 = .ok (.goto 13, 3) := by decide +kernel
theorem d_MO_read_64 : decode b_MO_read 64 = .ok (.aload_n 0, 1) := by decide +kernel
theorem d_MO_read_65 : decode b_MO_read 65 = .ok (.aload_n 0, 1) := by decide +kernel
theorem d_MO_read_66 : decode b_MO_read 66 = .ok (.iload_n 1, 1) := by decide +kernel
theorem d_MO_read_67 : decode b_MO_read 67 = .ok (.invokevirtual 63, 3) := by decide +kernel
theorem d_MO_read_70 : decode b_MO_read 70 = .ok (.iload_n 1, 1) := by decide +kernel
theorem d_MO_read_71 : decode b_MO_read 71 = .ok (.invokevirtual 66, 3) := by decide +kernel
theorem d_MO_read_74 : decode b_MO_read 74 = .ok (.ireturn, 1) := by decide +kernel
theorem d_MO_write_0 : decode b_MO_write 0 = .ok (.aload_n 0, 1) := by decide +kernel
theorem d_MO_write_1 : decode b_MO_write 1 = .ok (.iload_n 1, 1) := by decide +kernel
theorem d_MO_write_2 : decode b_MO_write 2 = .ok (.iconst 0, 1) := by decide +kernel
theorem d_MO_write_3 : decode b_MO_write 3 = .ok (.sipush 255, 3) := by decide +kernel
theorem d_MO_write_6 : decode b_MO_write 6 = .ok (.invokestatic 45, 3) := by decide +kernel
theorem d_MO_write_9 : decode b_MO_write 9 = .ok (.ifCond .eq 18, 3) := by decide +kernel
theorem d_MO_write_12 : decode b_MO_write 12 = .ok (.iload_n 2, 1) := by decide +kernel
theorem d_MO_write_13 : decode b_MO_write 13 = .ok (.iconst 0, 1) := by decide +kernel
theorem d_MO_write_14 : decode b_MO_write 14 = .ok (.sipush 255, 3) := by decide +kernel
theorem d_MO_write_17 : decode b_MO_write 17 = .ok (.invokestatic 45, 3) := by decide +kernel
theorem d_MO_write_20 : decode b_MO_write 20 = .ok (.ifCond .eq 7, 3) := by decide +kernel
theorem d_MO_write_23 : decode b_MO_write 23 = .ok (.iconst 0, 1) := by decide +kernel
theorem d_MO_write_24 : decode b_MO_write 24 = .ok (.goto 4, 3) := by decide +kernel
theorem d_MO_write_27 : decode b_MO_write 27 = .ok (.iconst 1, 1) := by decide +kernel
theorem d_MO_write_28 : decode b_MO_write 28 = .ok (.putfield 42, 3) := by decide +kernel
theorem d_MO_write_31 : decode b_MO_write 31 = .ok (.aload_n 0, 1) := by decide +kernel
theorem d_MO_write_32 : decode b_MO_write 32 = .ok (.getfield 42, 3) := by decide +kernel
theorem d_MO_write_35 : decode b_MO_write 35 = .ok (.ifCond .eq 4, 3) := by decide +kernel
theorem d_MO_write_38 : decode b_MO_write 38 = .ok (.return_, 1) := by decide +kernel
theorem d_MO_write_39 : decode b_MO_write 39 = .ok (.aload_n 0, 1) := by decide +kernel
theorem d_MO_write_40 : decode b_MO_write 40 = .ok (.iload_n 1, 1) := by decide +kernel
theorem d_MO_write_41 : decode b_MO_write 41 = .ok (.invokevirtual 59, 3) := by decide +kernel
theorem d_MO_write_44 : decode b_MO_write 44 = .ok (.istore_n 3, 1) := by decide +kernel
theorem d_MO_write_45 : decode b_MO_write 45 = .ok (.aload_n 0, 1) := by decide +kernel
theorem d_MO_write_46 : decode b_MO_write 46 = .ok (.iload_n 1, 1) := by decide +kernel
theorem d_MO_write_47 : decode b_MO_write 47 = .ok (.invokevirtual 63, 3) := by decide +kernel
theorem d_MO_write_50 : decode b_MO_write 50 = .ok (.istore 4, 2) := by decide +kernel
theorem d_MO_write_52 : decode b_MO_write 52 = .ok (.iload_n 1, 1) := by decide +kernel
theorem d_MO_write_53 : decode b_MO_write 53 = .ok (.sipush 255, 3) := by decide +kernel
theorem d_MO_write_56 : decode b_MO_write 56 = .ok (.if_icmp .ne 22, 3) := by decide +kernel
theorem d_MO_write_59 : decode b_MO_write 59 = .ok (.aload_n 0, 1) := by decide +kernel
theorem d_MO_write_60 : decode b_MO_write 60 = .ok (.getfield 7, 3) := by decide +kernel
theorem d_MO_write_63 : decode b_MO_write 63 = .ok (.iload_n 3, 1) := by decide +kernel
theorem d_MO_write_64 : decode b_MO_write 64 = .ok (.baload, 1) := by decide +kernel
theorem d_MO_write_65 : decode b_MO_write 65 = .ok (.ifCond .eq 13, 3) := by decide +kernel
theorem d_MO_write_68 : decode b_MO_write 68 = .ok (.aload_n 0, 1) := by decide +kernel
theorem d_MO_write_69 : decode b_MO_write 69 = .ok (.getfield 13, 3) := by decide +kernel
theorem d_MO_write_72 : decode b_MO_write 72 = .ok (.iload_n 3, 1) := by decide +kernel
theorem d_MO_write_73 : decode b_MO_write 73 = .ok (.iload_n 2, 1) := by decide +kernel
theorem d_MO_write_74 : decode b_MO_write 74 = .ok (.iastore, 1) := by decide +kernel
theorem d_MO_write_75 : decode b_MO_write 75 = .ok (.goto 89, 3) := by decide +kernel
theorem d_MO_write_78 : decode b_MO_write 78 = .ok (.aload_n 0, 1) := by decide +kernel
theorem d_MO_write_79 : decode b_MO_write 79 = .ok (.getfield 17, 3) := by decide +kernel
theorem d_MO_write_82 : decode b_MO_write 82 = .ok (.iload 4, 2) := by decide +kernel
theorem d_MO_write_84 : decode b_MO_write 84 = .ok (.iaload, 1) := by decide +kernel
theorem d_MO_write_85 : decode b_MO_write 85 = .ok (.iconst 3, 1) := by decide +kernel
theorem d_MO_write_86 : decode b_MO_write 86 = .ok (.if_icmp .ne 43, 3) := by decide +kernel
theorem d_MO_write_89 : decode b_MO_write 89 = .ok (.iload_n 1, 1) := by decide +kernel
theorem d_MO_write_90 : decode b_MO_write 90 = .ok (.bipush 64, 2) := by decide +kernel
theorem d_MO_write_92 : decode b_MO_write 92 = .ok (.sipush 191, 3) := by decide +kernel
theorem d_MO_write_95 : decode b_MO_write 95 = .ok (.invokestatic 45, 3) := by decide +kernel
theorem d_MO_write_98 : decode b_MO_write 98 = .ok (.ifCond .eq 66, 3) := by decide +kernel
theorem d_MO_write_101 : decode b_MO_write 101 = .ok (.aload_n 0, 1) := by decide +kernel
theorem d_MO_write_102 : decode b_MO_write 102 = .ok (.getfield 23, 3) := by decide +kernel
theorem d_MO_write_105 : decode b_MO_write 105 = .ok (.iconst 4, 1) := by decide +kernel
theorem d_MO_write_106 : decode b_MO_write 106 = .ok (.iload 4, 2) := by decide +kernel
theorem d_MO_write_108 : decode b_MO_write 108 = .ok (.imul, 1) := by decide +kernel
theorem d_MO_write_109 : decode b_MO_write 109 = .ok (.iload_n 1, 1) := by decide +kernel
theorem d_MO_write_110 : decode b_MO_write 110 = .ok (.bipush 32, 2) := by decide +kernel
theorem d_MO_write_112 : decode b_MO_write 112 = .ok (.idiv, 1) := by decide +kernel
theorem d_MO_write_113 : decode b_MO_write 113 = .ok (.iadd, 1) := by decide +kernel
theorem d_MO_write_114 : decode b_MO_write 114 = .ok (.iconst 2, 1) := by decide +kernel
theorem d_MO_write_115 : decode b_MO_write 115 = .ok (.isub, 1) := by decide +kernel
theorem d_MO_write_116 : decode b_MO_write 116 = .ok (.iload_n 2, 1) := by decide +kernel
theorem d_MO_write_117 : decode b_MO_write 117 = .ok (.aload_n 0, 1) := by decide +kernel
theorem d_MO_write_118 : decode b_MO_write 118 = .ok (.getfield 20, 3) := by decide +kernel
theorem d_MO_write_121 : decode b_MO_write 121 = .ok (.iload 4, 2) := by decide +kernel
theorem d_MO_write_123 : decode b_MO_write 123 = .ok (.iaload, 1) := by decide +kernel
theorem d_MO_write_124 : decode b_MO_write 124 = .ok (.irem, 1) := by decide +kernel
theorem d_MO_write_125 : decode b_MO_write 125 = .ok (.iastore, 1) := by decide +kernel
theorem d_MO_write_126 : decode b_MO_write 126 = .ok (.goto 38, 3) := by decide +kernel
theorem d_MO_write_129 : decode b_MO_write 129 = .ok (.aload_n 0, 1) := by decide +kernel
theorem d_MO_write_130 : decode b_MO_write 130 = .ok (.getfield 17, 3) := by decide +kernel
theorem d_MO_write_133 : decode b_MO_write 133 = .ok (.iload 4, 2) := by decide +kernel
theorem d_MO_write_135 : decode b_MO_write 135 = .ok (.iaload, 1) := by decide +kernel
theorem d_MO_write_136 : decode b_MO_write 136 = .ok (.iconst 1, 1) := by decide +kernel
theorem d_MO_write_137 : decode b_MO_write 137 = .ok (.if_icmp .eq 14, 3) := by decide +kernel
theorem d_MO_write_140 : decode b_MO_write 140 = .ok (.aload_n 0, 1) := by decide +kernel
theorem d_MO_write_141 : decode b_MO_write 141 = .ok (.getfield 17, 3) := by decide +kernel
theorem d_MO_write_144 : decode b_MO_write 144 = .ok (.iload 4, 2) := by decide +kernel
theorem d_MO_write_146 : decode b_MO_write 146 = .ok (.iaload, 1) := by decide +kernel
theorem d_MO_write_147 : decode b_MO_write 147 = .ok (.iconst 4, 1) := by decide +kernel
theorem d_MO_write_148 : decode b_MO_write 148 = .ok (.if_icmp .ne 16, 3) := by decide +kernel
theorem d_MO_write_151 : decode b_MO_write 151 = .ok (.aload_n 0, 1) := by decide +kernel
theorem d_MO_write_152 : decode b_MO_write 152 = .ok (.getfield 26, 3) := by decide +kernel
theorem d_MO_write_155 : decode b_MO_write 155 = .ok (.aload_n 0, 1) := by decide +kernel
theorem d_MO_write_156 : decode b_MO_write 156 = .ok (.iload 4, 2) := by decide +kernel
theorem d_MO_write_158 : decode b_MO_write 158 = .ok (.iload_n 1, 1) := by decide +kernel
theorem d_MO_write_159 : decode b_MO_write 159 = .ok (.invokevirtual 49, 3) := by decide +kernel
theorem d_MO_write_162 : decode b_MO_write 162 = .ok (.iload_n 2, 1) := by decide +kernel
theorem d_MO_write_163 : decode b_MO_write 163 = .ok (.iastore, 1) := by decide +kernel
theorem d_MO_write_164 : decode b_MO_write 164 = .ok (.return_, 1) := by decide +kernel
theorem d_MO_far_0 : decode b_MO_far 0 = .ok (.aload_n 0, 1) := by decide +kernel
theorem d_MO_far_1 : decode b_MO_far 1 = .ok (.iload_n 1, 1) := by decide +kernel
theorem d_MO_far_2 : decode b_MO_far 2 = .ok (.iconst 0, 1) := by decide +kernel
theorem d_MO_far_3 : decode b_MO_far 3 = .ok (.iconst 3, 1) := by decide +kernel
theorem d_MO_far_4 : decode b_MO_far 4 = .ok (.invokestatic 45, 3) := by decide +kernel
theorem d_MO_far_7 : decode b_MO_far 7 = .ok (.ifCond .eq 27, 3) := by decide +kernel
theorem d_MO_far_10 : decode b_MO_far 10 = .ok (.iload_n 2, 1) := by decide +kernel
theorem d_MO_far_11 : decode b_MO_far 11 = .ok (.iconst 0, 1) := by decide +kernel
theorem d_MO_far_12 : decode b_MO_far 12 = .ok (.iconst 3, 1) := by decide +kernel
theorem d_MO_far_13 : decode b_MO_far 13 = .ok (.invokestatic 45, 3) := by decide +kernel
theorem d_MO_far_16 : decode b_MO_far 16 = .ok (.ifCond .eq 18, 3) := by decide +kernel
theorem d_MO_far_19 : decode b_MO_far 19 = .ok (.iload_n 3, 1) := by decide +kernel
theorem d_MO_far_20 : decode b_MO_far 20 = .ok (.iconst 0, 1) := by decide +kernel
theorem d_MO_far_21 : decode b_MO_far 21 = .ok (.sipush 255, 3) := by decide +kernel
theorem d_MO_far_24 : decode b_MO_far 24 = .ok (.invokestatic 45, 3) := by decide +kernel
theorem d_MO_far_27 : decode b_MO_far 27 = .ok (.ifCond .eq 7, 3) := by decide +kernel
theorem d_MO_far_30 : decode b_MO_far 30 = .ok (.iconst 0, 1) := by decide +kernel
theorem d_MO_far_31 : decode b_MO_far 31 = .ok (.goto 4, 3) := by decide +kernel
theorem d_MO_far_34 : decode b_MO_far 34 = .ok (.iconst 1, 1) := by decide +kernel
theorem d_MO_far_35 : decode b_MO_far 35 = .ok (.putfield 42, 3) := by decide +kernel
theorem d_MO_far_38 : decode b_MO_far 38 = .ok (.aload_n 0, 1) := by decide +kernel
theorem d_MO_far_39 : decode b_MO_far 39 = .ok (.getfield 42, 3) := by decide +kernel
theorem d_MO_far_42 : decode b_MO_far 42 = .ok (.ifCond .eq 5, 3) := by decide +kernel
theorem d_MO_far_45 : decode b_MO_far 45 = .ok (.iconst 0, 1) := by decide +kernel
theorem d_MO_far_46 : decode b_MO_far 46 = .ok (.ireturn, 1) := by decide +kernel
theorem d_MO_far_47 : decode b_MO_far 47 = .ok (.iload_n 3, 1) := by decide +kernel
theorem d_MO_far_48 : decode b_MO_far 48 = .ok (.sipush 255, 3) := by decide +kernel
theorem d_MO_far_51 : decode b_MO_far 51 = .ok (.if_icmp .ne 31, 3) := by decide +kernel
theorem d_MO_far_54 : decode b_MO_far 54 = .ok (.aload_n 0, 1) := by decide +kernel
theorem d_MO_far_55 : decode b_MO_far 55 = .ok (.getfield 7, 3) := by decide +kernel
theorem d_MO_far_58 : decode b_MO_far 58 = .ok (.iload_n 1, 1) := by decide +kernel
theorem d_MO_far_59 : decode b_MO_far 59 = .ok (.baload, 1) := by decide +kernel
theorem d_MO_far_60 : decode b_MO_far 60 = .ok (.ifCond .eq 22, 3) := by decide +kernel
theorem d_MO_far_63 : decode b_MO_far 63 = .ok (.sipush 255, 3) := by decide +kernel
theorem d_MO_far_66 : decode b_MO_far 66 = .ok (.aload_n 0, 1) := by decide +kernel
theorem d_MO_far_67 : decode b_MO_far 67 = .ok (.getfield 13, 3) := by decide +kernel
theorem d_MO_far_70 : decode b_MO_far 70 = .ok (.iload_n 1, 1) := by decide +kernel
theorem d_MO_far_71 : decode b_MO_far 71 = .ok (.iaload, 1) := by decide +kernel
theorem d_MO_far_72 : decode b_MO_far 72 = .ok (.bipush 64, 2) := by decide +kernel
theorem d_MO_far_74 : decode b_MO_far 74 = .ok (.irem, 1) := by decide +kernel
theorem d_MO_far_75 : decode b_MO_far 75 = .ok (.bipush 64, 2) := by decide +kernel
theorem d_MO_far_77 : decode b_MO_far 77 = .ok (.iload_n 2, 1) := by decide +kernel
theorem d_MO_far_78 : decode b_MO_far 78 = .ok (.imul, 1) := by decide +kernel
theorem d_MO_far_79 : decode b_MO_far 79 = .ok (.iadd, 1) := by decide +kernel
theorem d_MO_far_80 : decode b_MO_far 80 = .ok (.isub, 1) := by decide +kernel
theorem d_MO_far_81 : decode b_MO_far 81 = .ok (.ireturn, 1) := by decide +kernel
theorem d_MO_far_82 : decode b_MO_far 82 = .ok (.aload_n 0, 1) := by decide +kernel
theorem d_MO_far_83 : decode b_MO_far 83 = .ok (.iconst 4, 1) := by decide +kernel
theorem d_MO_far_84 : decode b_MO_far 84 = .ok (.iload_n 1, 1) := by decide +kernel
theorem d_MO_far_85 : decode b_MO_far 85 = .ok (.imul, 1) := by decide +kernel
theorem d_MO_far_86 : decode b_MO_far 86 = .ok (.aload_n 0, 1) := by decide +kernel
theorem d_MO_far_87 : decode b_MO_far 87 = .ok (.getfield 7, 3) := by decide +kernel
theorem d_MO_far_90 : decode b_MO_far 90 = .ok (.iload_n 1, 1) := by decide +kernel
theorem d_MO_far_91 : decode b_MO_far 91 = .ok (.baload, 1) := by decide +kernel
theorem d_MO_far_92 : decode b_MO_far 92 = .ok (.ifCond .eq 7, 3) := by decide +kernel
theorem d_MO_far_95 : decode b_MO_far 95 = .ok (.iload_n 2, 1) := by decide +kernel
theorem d_MO_far_96 : decode b_MO_far 96 = .ok (.goto 4, 3) := by decide +kernel
theorem d_MO_far_99 : decode b_MO_far 99 = .ok (.iconst 0, 1) := by decide +kernel
theorem d_MO_far_100 : decode b_MO_far 100 = .ok (.iadd, 1) := by decide +kernel
theorem d_MO_far_101 : decode b_MO_far 101 = .ok (.iload_n 3, 1) := by decide +kernel
theorem d_MO_far_102 : decode b_MO_far 102 = .ok (.invokevirtual 66, 3) := by decide +kernel
theorem d_MO_far_105 : decode b_MO_far 105 = .ok (.ireturn, 1) := by decide +kernel
theorem d_MO_goOn_0 : decode b_MO_goOn 0 = .ok (.aload_n 0, 1) := by decide +kernel
theorem d_MO_goOn_1 : decode b_MO_goOn 1 = .ok (.aload_n 0, 1) := by decide +kernel
theorem d_MO_goOn_2 : decode b_MO_goOn 2 = .ok (.getfield 69, 3) := by decide +kernel
theorem d_MO_goOn_5 : decode b_MO_goOn 5 = .ok (.sipush 511, 3) := by decide +kernel
theorem d_MO_goOn_8 : decode b_MO_goOn 8 = .ok (.if_icmp .ne 7, 3) := by decide +kernel
theorem d_MO_goOn_11 : decode b_MO_goOn 11 = .ok (.iconst 0, 1) := by decide +kernel
theorem d_MO_goOn_12 : decode b_MO_goOn 12 = .ok (.goto 9, 3) := by decide +kernel
theorem d_MO_goOn_15 : decode b_MO_goOn 15 = .ok (.aload_n 0, 1) := by decide +kernel
theorem d_MO_goOn_16 : decode b_MO_goOn 16 = .ok (.getfield 69, 3) := by decide +kernel
theorem d_MO_goOn_19 : decode b_MO_goOn 19 = .ok (.iconst 1, 1) := by decide +kernel
theorem d_MO_goOn_20 : decode b_MO_goOn 20 = .ok (.iadd, 1) := by decide +kernel
theorem d_MO_goOn_21 : decode b_MO_goOn 21 = .ok (.putfield 69, 3) := by decide +kernel
theorem d_MO_goOn_24 : decode b_MO_goOn 24 = .ok (.return_, 1) := by decide +kernel
theorem d_MO_fetch_0 : decode b_MO_fetch 0 = .ok (.aload_n 0, 1) := by decide +kernel
theorem d_MO_fetch_1 : decode b_MO_fetch 1 = .ok (.aload_n 0, 1) := by decide +kernel
theorem d_MO_fetch_2 : decode b_MO_fetch 2 = .ok (.getfield 29, 3) := by decide +kernel
theorem d_MO_fetch_5 : decode b_MO_fetch 5 = .ok (.aload_n 0, 1) := by decide +kernel
theorem d_MO_fetch_6 : decode b_MO_fetch 6 = .ok (.getfield 69, 3) := by decide +kernel
theorem d_MO_fetch_9 : decode b_MO_fetch 9 = .ok (.iaload, 1) := by decide +kernel
theorem d_MO_fetch_10 : decode b_MO_fetch 10 = .ok (.putfield 72, 3) := by decide +kernel
theorem d_MO_fetch_13 : decode b_MO_fetch 13 = .ok (.aload_n 0, 1) := by decide +kernel
theorem d_MO_fetch_14 : decode b_MO_fetch 14 = .ok (.invokevirtual 75, 3) := by decide +kernel
theorem d_MO_fetch_17 : decode b_MO_fetch 17 = .ok (.return_, 1) := by decide +kernel
theorem d_MO_in_0 : decode b_MO_in 0 = .ok (.aload_n 0, 1) := by decide +kernel
theorem d_MO_in_1 : decode b_MO_in 1 = .ok (.iconst 0, 1) := by decide +kernel
theorem d_MO_in_2 : decode b_MO_in 2 = .ok (.putfield 42, 3) := by decide +kernel
theorem d_MO_in_5 : decode b_MO_in 5 = .ok (.iload_n 1, 1) := by decide +kernel
theorem d_MO_in_6 : decode b_MO_in 6 = .ok (.iconst 2, 1) := by decide +kernel
theorem d_MO_in_7 : decode b_MO_in 7 = .ok (.if_icmp .ne 8, 3) := by decide +kernel
theorem d_MO_in_10 : decode b_MO_in 10 = .ok (.aload_n 0, 1) := by decide +kernel
theorem d_MO_in_11 : decode b_MO_in 11 = .ok (.getfield 53, 3) := by decide +kernel
theorem d_MO_in_14 : decode b_MO_in 14 = .ok (.ireturn, 1) := by decide +kernel
theorem d_MO_in_15 : decode b_MO_in 15 = .ok (.iload_n 1, 1) := by decide +kernel
theorem d_MO_in_16 : decode b_MO_in 16 = .ok (.ifCond .eq 12, 3) := by decide +kernel
theorem d_MO_in_19 : decode b_MO_in 19 = .ok (.iload_n 1, 1) := by decide +kernel
theorem d_MO_in_20 : decode b_MO_in 20 = .ok (.iconst 1, 1) := by decide +kernel
theorem d_MO_in_21 : decode b_MO_in 21 = .ok (.if_icmp .eq 7, 3) := by decide +kernel
theorem d_MO_in_24 : decode b_MO_in 24 = .ok (.sipush 255, 3) := by decide +kernel
theorem d_MO_in_27 : decode b_MO_in 27 = .ok (.ireturn, 1) := by decide +kernel
theorem d_MO_in_28 : decode b_MO_in 28 = .ok (.aload_n 0, 1) := by decide +kernel
theorem d_MO_in_29 : decode b_MO_in 29 = .ok (.iconst (-1), 1) := by decide +kernel
theorem d_MO_in_30 : decode b_MO_in 30 = .ok (.putfield 35, 3) := by decide +kernel
theorem d_MO_in_33 : decode b_MO_in 33 = .ok (.iload_n 1, 1) := by decide +kernel
theorem d_MO_in_34 : decode b_MO_in 34 = .ok (.ifCond .ne 10, 3) := by decide +kernel
theorem d_MO_in_37 : decode b_MO_in 37 = .ok (.aload_n 0, 1) := by decide +kernel
theorem d_MO_in_38 : decode b_MO_in 38 = .ok (.getfield 72, 3) := by decide +kernel
theorem d_MO_in_41 : decode b_MO_in 41 = .ok (.goto 7, 3) := by decide +kernel
theorem d_MO_in_44 : decode b_MO_in 44 = .ok (.aload_n 0, 1) := by decide +kernel
theorem d_MO_in_45 : decode b_MO_in 45 = .ok (.getfield 78, 3) := by decide +kernel
theorem d_MO_in_48 : decode b_MO_in 48 = .ok (.istore_n 2, 1) := by decide +kernel
theorem d_MO_in_49 : decode b_MO_in 49 = .ok (.iload_n 1, 1) := by decide +kernel
theorem d_MO_in_50 : decode b_MO_in 50 = .ok (.ifCond .ne 10, 3) := by decide +kernel
theorem d_MO_in_53 : decode b_MO_in 53 = .ok (.aload_n 0, 1) := by decide +kernel
theorem d_MO_in_54 : decode b_MO_in 54 = .ok (.invokevirtual 81, 3) := by decide +kernel
theorem d_MO_in_57 : decode b_MO_in 57 = .ok (.goto 14, 3) := by decide +kernel
theorem d_MO_in_60 : decode b_MO_in 60 = .ok (.aload_n 0, 1) := by decide +kernel
theorem d_MO_in_61 : decode b_MO_in 61 = .ok (.aload_n 0, 1) := by decide +kernel
theorem d_MO_in_62 : decode b_MO_in 62 = .ok (.getfield 78, 3) := by decide +kernel
theorem d_MO_in_65 : decode b_MO_in 65 = .ok (.bipush 32, 2) := by decide +kernel
theorem d_MO_in_67 : decode b_MO_in 67 = .ok (.irem, 1) := by decide +kernel
theorem d_MO_in_68 : decode b_MO_in 68 = .ok (.putfield 78, 3) := by decide +kernel
theorem d_MO_in_71 : decode b_MO_in 71 = .ok (.iload_n 2, 1) := by decide +kernel
theorem d_MO_in_72 : decode b_MO_in 72 = .ok (.ireturn, 1) := by decide +kernel
theorem d_MO_control_0 : decode b_MO_control 0 = .ok (.aload_n 0, 1) := by decide +kernel
theorem d_MO_control_1 : decode b_MO_control 1 = .ok (.getfield 35, 3) := by decide +kernel
theorem d_MO_control_4 : decode b_MO_control 4 = .ok (.ifCond .ge 9, 3) := by decide +kernel
theorem d_MO_control_7 : decode b_MO_control 7 = .ok (.aload_n 0, 1) := by decide +kernel
theorem d_MO_control_8 : decode b_MO_control 8 = .ok (.iload_n 1, 1) := by decide +kernel
theorem d_MO_control_9 : decode b_MO_control 9 = .ok (.putfield 35, 3) := by decide +kernel
theorem d_MO_control_12 : decode b_MO_control 12 = .ok (.return_, 1) := by decide +kernel
theorem d_MO_control_13 : decode b_MO_control 13 = .ok (.iload_n 1, 1) := by decide +kernel
theorem d_MO_control_14 : decode b_MO_control 14 = .ok (.bipush 127, 2) := by decide +kernel
theorem d_MO_control_16 : decode b_MO_control 16 = .ok (.if_icmp .le 19, 3) := by decide +kernel
theorem d_MO_control_19 : decode b_MO_control 19 = .ok (.aload_n 0, 1) := by decide +kernel
theorem d_MO_control_20 : decode b_MO_control 20 = .ok (.getfield 32, 3) := by decide +kernel
theorem d_MO_control_23 : decode b_MO_control 23 = .ok (.iload_n 1, 1) := by decide +kernel
theorem d_MO_control_24 : decode b_MO_control 24 = .ok (.bipush 8, 2) := by decide +kernel
theorem d_MO_control_26 : decode b_MO_control 26 = .ok (.irem, 1) := by decide +kernel
theorem d_MO_control_27 : decode b_MO_control 27 = .ok (.aload_n 0, 1) := by decide +kernel
theorem d_MO_control_28 : decode b_MO_control 28 = .ok (.getfield 35, 3) := by decide +kernel
theorem d_MO_control_31 : decode b_MO_control 31 = .ok (.iastore, 1) := by decide +kernel
theorem d_MO_control_32 : decode b_MO_control 32 = .ok (.goto 29, 3) := by decide +kernel
theorem d_MO_control_35 : decode b_MO_control 35 = .ok (.aload_n 0, 1) := by decide +kernel
theorem d_MO_control_36 : decode b_MO_control 36 = .ok (.aload_n 0, 1) := by decide +kernel
theorem d_MO_control_37 : decode b_MO_control 37 = .ok (.getfield 35, 3) := by decide +kernel
theorem d_MO_control_40 : decode b_MO_control 40 = .ok (.sipush 256, 3) := by decide +kernel
theorem d_MO_control_43 : decode b_MO_control 43 = .ok (.iload_n 1, 1) := by decide +kernel
theorem d_MO_control_44 : decode b_MO_control 44 = .ok (.iconst 2, 1) := by decide +kernel
theorem d_MO_control_45 : decode b_MO_control 45 = .ok (.irem, 1) := by decide +kernel
theorem d_MO_control_46 : decode b_MO_control 46 = .ok (.imul, 1) := by decide +kernel
theorem d_MO_control_47 : decode b_MO_control 47 = .ok (.iadd, 1) := by decide +kernel
theorem d_MO_control_48 : decode b_MO_control 48 = .ok (.putfield 69, 3) := by decide +kernel
theorem d_MO_control_51 : decode b_MO_control 51 = .ok (.iload_n 1, 1) := by decide +kernel
theorem d_MO_control_52 : decode b_MO_control 52 = .ok (.bipush 64, 2) := by decide +kernel
theorem d_MO_control_54 : decode b_MO_control 54 = .ok (.if_icmp .ge 7, 3) := by decide +kernel
theorem d_MO_control_57 : decode b_MO_control 57 = .ok (.aload_n 0, 1) := by decide +kernel
theorem d_MO_control_58 : decode b_MO_control 58 = .ok (.invokevirtual 81, 3) := by decide +kernel
theorem d_MO_control_61 : decode b_MO_control 61 = .ok (.aload_n 0, 1) := by decide +kernel
theorem d_MO_control_62 : decode b_MO_control 62 = .ok (.iconst (-1), 1) := by decide +kernel
theorem d_MO_control_63 : decode b_MO_control 63 = .ok (.putfield 35, 3) := by decide +kernel
theorem d_MO_control_66 : decode b_MO_control 66 = .ok (.return_, 1) := by decide +kernel
theorem d_MO_out_0 : decode b_MO_out 0 = .ok (.aload_n 0, 1) := by decide +kernel
theorem d_MO_out_1 : decode b_MO_out 1 = .ok (.iconst 0, 1) := by decide +kernel
theorem d_MO_out_2 : decode b_MO_out 2 = .ok (.putfield 42, 3) := by decide +kernel
theorem d_MO_out_5 : decode b_MO_out 5 = .ok (.iload_n 2, 1) := by decide +kernel
theorem d_MO_out_6 : decode b_MO_out 6 = .ok (.iconst 0, 1) := by decide +kernel
theorem d_MO_out_7 : decode b_MO_out 7 = .ok (.sipush 255, 3) := by decide +kernel
theorem d_MO_out_10 : decode b_MO_out 10 = .ok (.invokestatic 45, 3) := by decide +kernel
theorem d_MO_out_13 : decode b_MO_out 13 = .ok (.ifCond .ne 5, 3) := by decide +kernel
theorem d_MO_out_16 : decode b_MO_out 16 = .ok (.iconst 0, 1) := by decide +kernel
theorem d_MO_out_17 : decode b_MO_out 17 = .ok (.ireturn, 1) := by decide +kernel
theorem d_MO_out_18 : decode b_MO_out 18 = .ok (.iload_n 1, 1) := by decide +kernel
theorem d_MO_out_19 : decode b_MO_out 19 = .ok (.ifCond .ne 30, 3) := by decide +kernel
theorem d_MO_out_22 : decode b_MO_out 22 = .ok (.aload_n 0, 1) := by decide +kernel
theorem d_MO_out_23 : decode b_MO_out 23 = .ok (.getfield 29, 3) := by decide +kernel
theorem d_MO_out_26 : decode b_MO_out 26 = .ok (.aload_n 0, 1) := by decide +kernel
theorem d_MO_out_27 : decode b_MO_out 27 = .ok (.getfield 69, 3) := by decide +kernel
theorem d_MO_out_30 : decode b_MO_out 30 = .ok (.iload_n 2, 1) := by decide +kernel
theorem d_MO_out_31 : decode b_MO_out 31 = .ok (.iastore, 1) := by decide +kernel
theorem d_MO_out_32 : decode b_MO_out 32 = .ok (.aload_n 0, 1) := by decide +kernel
theorem d_MO_out_33 : decode b_MO_out 33 = .ok (.iload_n 2, 1) := by decide +kernel
theorem d_MO_out_34 : decode b_MO_out 34 = .ok (.putfield 72, 3) := by decide +kernel
theorem d_MO_out_37 : decode b_MO_out 37 = .ok (.aload_n 0, 1) := by decide +kernel
theorem d_MO_out_38 : decode b_MO_out 38 = .ok (.invokevirtual 75, 3) := by decide +kernel
theorem d_MO_out_41 : decode b_MO_out 41 = .ok (.aload_n 0, 1) := by decide +kernel
theorem d_MO_out_42 : decode b_MO_out 42 = .ok (.iconst (-1), 1) := by decide +kernel
theorem d_MO_out_43 : decode b_MO_out 43 = .ok (.putfield 35, 3) := by decide +kernel
theorem d_MO_out_46 : decode b_MO_out 46 = .ok (.goto 26, 3) := by decide +kernel
theorem d_MO_out_49 : decode b_MO_out 49 = .ok (.iload_n 1, 1) := by decide +kernel
theorem d_MO_out_50 : decode b_MO_out 50 = .ok (.iconst 1, 1) := by decide +kernel
theorem d_MO_out_51 : decode b_MO_out 51 = .ok (.if_icmp .ne 11, 3) := by decide +kernel
theorem d_MO_out_54 : decode b_MO_out 54 = .ok (.aload_n 0, 1) := by decide +kernel
theorem d_MO_out_55 : decode b_MO_out 55 = .ok (.iload_n 2, 1) := by decide +kernel
theorem d_MO_out_56 : decode b_MO_out 56 = .ok (.invokevirtual 84, 3) := by decide +kernel
theorem d_MO_out_59 : decode b_MO_out 59 = .ok (.goto 13, 3) := by decide +kernel
theorem d_MO_out_62 : decode b_MO_out 62 = .ok (.iload_n 1, 1) := by decide +kernel
theorem d_MO_out_63 : decode b_MO_out 63 = .ok (.iconst 2, 1) := by decide +kernel
theorem d_MO_out_64 : decode b_MO_out 64 = .ok (.if_icmp .ne 8, 3) := by decide +kernel
theorem d_MO_out_67 : decode b_MO_out 67 = .ok (.aload_n 0, 1) := by decide +kernel
theorem d_MO_out_68 : decode b_MO_out 68 = .ok (.iload_n 2, 1) := by decide +kernel
theorem d_MO_out_69 : decode b_MO_out 69 = .ok (.putfield 53, 3) := by decide +kernel
theorem d_MO_out_72 : decode b_MO_out 72 = .ok (.iconst 1, 1) := by decide +kernel
theorem d_MO_out_73 : decode b_MO_out 73 = .ok (.ireturn, 1) := by decide +kernel
theorem d_MO_bit_0 : decode b_MO_bit 0 = .ok (.iload_n 1, 1) := by decide +kernel
theorem d_MO_bit_1 : decode b_MO_bit 1 = .ok (.iload_n 2, 1) := by decide +kernel
theorem d_MO_bit_2 : decode b_MO_bit 2 = .ok (.ishr, 1) := by decide +kernel
theorem d_MO_bit_3 : decode b_MO_bit 3 = .ok (.iconst 1, 1) := by decide +kernel
theorem d_MO_bit_4 : decode b_MO_bit 4 = .ok (.iand, 1) := by decide +kernel
theorem d_MO_bit_5 : decode b_MO_bit 5 = .ok (.iconst 1, 1) := by decide +kernel
theorem d_MO_bit_6 : decode b_MO_bit 6 = .ok (.if_icmp .ne 7, 3) := by decide +kernel
theorem d_MO_bit_9 : decode b_MO_bit 9 = .ok (.iconst 1, 1) := by decide +kernel
theorem d_MO_bit_10 : decode b_MO_bit 10 = .ok (.goto 4, 3) := by decide +kernel
theorem d_MO_bit_13 : decode b_MO_bit 13 = .ok (.iconst 0, 1) := by decide +kernel
theorem d_MO_bit_14 : decode b_MO_bit 14 = .ok (.ireturn, 1) := by decide +kernel
theorem d_MO_sprite_0 : decode b_MO_sprite 0 = .ok (.aload_n 0, 1) := by decide +kernel
theorem d_MO_sprite_1 : decode b_MO_sprite 1 = .ok (.getfield 29, 3) := by decide +kernel
theorem d_MO_sprite_4 : decode b_MO_sprite 4 = .ok (.bipush 32, 2) := by decide +kernel
theorem d_MO_sprite_6 : decode b_MO_sprite 6 = .ok (.aload_n 0, 1) := by decide +kernel
theorem d_MO_sprite_7 : decode b_MO_sprite 7 = .ok (.getfield 32, 3) := by decide +kernel
theorem d_MO_sprite_10 : decode b_MO_sprite 10 = .ok (.iconst 5, 1) := by decide +kernel
theorem d_MO_sprite_11 : decode b_MO_sprite 11 = .ok (.iaload, 1) := by decide +kernel
theorem d_MO_sprite_12 : decode b_MO_sprite 12 = .ok (.bipush 16, 2) := by decide +kernel
theorem d_MO_sprite_14 : decode b_MO_sprite 14 = .ok (.irem, 1) := by decide +kernel
theorem d_MO_sprite_15 : decode b_MO_sprite 15 = .ok (.imul, 1) := by decide +kernel
theorem d_MO_sprite_16 : decode b_MO_sprite 16 = .ok (.iconst 4, 1) := by decide +kernel
theorem d_MO_sprite_17 : decode b_MO_sprite 17 = .ok (.iload_n 1, 1) := by decide +kernel
theorem d_MO_sprite_18 : decode b_MO_sprite 18 = .ok (.imul, 1) := by decide +kernel
theorem d_MO_sprite_19 : decode b_MO_sprite 19 = .ok (.iadd, 1) := by decide +kernel
theorem d_MO_sprite_20 : decode b_MO_sprite 20 = .ok (.iload_n 2, 1) := by decide +kernel
theorem d_MO_sprite_21 : decode b_MO_sprite 21 = .ok (.iadd, 1) := by decide +kernel
theorem d_MO_sprite_22 : decode b_MO_sprite 22 = .ok (.iaload, 1) := by decide +kernel
theorem d_MO_sprite_23 : decode b_MO_sprite 23 = .ok (.ireturn, 1) := by decide +kernel
theorem d_MO_size_0 : decode b_MO_size 0 = .ok (.aload_n 0, 1) := by decide +kernel
theorem d_MO_size_1 : decode b_MO_size 1 = .ok (.aload_n 0, 1) := by decide +kernel
theorem d_MO_size_2 : decode b_MO_size 2 = .ok (.getfield 32, 3) := by decide +kernel
theorem d_MO_size_5 : decode b_MO_size 5 = .ok (.iconst 1, 1) := by decide +kernel
theorem d_MO_size_6 : decode b_MO_size 6 = .ok (.iaload, 1) := by decide +kernel
theorem d_MO_size_7 : decode b_MO_size 7 = .ok (.iconst 1, 1) := by decide +kernel
theorem d_MO_size_8 : decode b_MO_size 8 = .ok (.invokevirtual 88, 3) := by decide +kernel
theorem d_MO_size_11 : decode b_MO_size 11 = .ok (.ifCond .eq 8, 3) := by decide +kernel
theorem d_MO_size_14 : decode b_MO_size 14 = .ok (.bipush 16, 2) := by decide +kernel
theorem d_MO_size_16 : decode b_MO_size 16 = .ok (.goto 5, 3) := by decide +kernel
theorem d_MO_size_19 : decode b_MO_size 19 = .ok (.bipush 8, 2) := by decide +kernel
theorem d_MO_size_21 : decode b_MO_size 21 = .ok (.aload_n 0, 1) := by decide +kernel
theorem d_MO_size_22 : decode b_MO_size 22 = .ok (.invokevirtual 92, 3) := by decide +kernel
theorem d_MO_size_25 : decode b_MO_size 25 = .ok (.imul, 1) := by decide +kernel
theorem d_MO_size_26 : decode b_MO_size 26 = .ok (.ireturn, 1) := by decide +kernel
theorem d_MO_times_0 : decode b_MO_times 0 = .ok (.aload_n 0, 1) := by decide +kernel
theorem d_MO_times_1 : decode b_MO_times 1 = .ok (.aload_n 0, 1) := by decide +kernel
theorem d_MO_times_2 : decode b_MO_times 2 = .ok (.getfield 32, 3) := by decide +kernel
theorem d_MO_times_5 : decode b_MO_times 5 = .ok (.iconst 1, 1) := by decide +kernel
theorem d_MO_times_6 : decode b_MO_times 6 = .ok (.iaload, 1) := by decide +kernel
theorem d_MO_times_7 : decode b_MO_times 7 = .ok (.iconst 0, 1) := by decide +kernel
theorem d_MO_times_8 : decode b_MO_times 8 = .ok (.invokevirtual 88, 3) := by decide +kernel
theorem d_MO_times_11 : decode b_MO_times 11 = .ok (.ifCond .eq 7, 3) := by decide +kernel
theorem d_MO_times_14 : decode b_MO_times 14 = .ok (.iconst 2, 1) := by decide +kernel
theorem d_MO_times_15 : decode b_MO_times 15 = .ok (.goto 4, 3) := by decide +kernel
theorem d_MO_times_18 : decode b_MO_times 18 = .ok (.iconst 1, 1) := by decide +kernel
theorem d_MO_times_19 : decode b_MO_times 19 = .ok (.ireturn, 1) := by decide +kernel
theorem d_MO_rowOn_0 : decode b_MO_rowOn 0 = .ok (.aload_n 0, 1) := by decide +kernel
theorem d_MO_rowOn_1 : decode b_MO_rowOn 1 = .ok (.iload_n 1, 1) := by decide +kernel
theorem d_MO_rowOn_2 : decode b_MO_rowOn 2 = .ok (.iconst 0, 1) := by decide +kernel
theorem d_MO_rowOn_3 : decode b_MO_rowOn 3 = .ok (.invokevirtual 96, 3) := by decide +kernel
theorem d_MO_rowOn_6 : decode b_MO_rowOn 6 = .ok (.sipush 224, 3) := by decide +kernel
theorem d_MO_rowOn_9 : decode b_MO_rowOn 9 = .ok (.if_icmp .ge 14, 3) := by decide +kernel
theorem d_MO_rowOn_12 : decode b_MO_rowOn 12 = .ok (.aload_n 0, 1) := by decide +kernel
theorem d_MO_rowOn_13 : decode b_MO_rowOn 13 = .ok (.iload_n 1, 1) := by decide +kernel
theorem d_MO_rowOn_14 : decode b_MO_rowOn 14 = .ok (.iconst 0, 1) := by decide +kernel
theorem d_MO_rowOn_15 : decode b_MO_rowOn 15 = .ok (.invokevirtual 96, 3) := by decide +kernel
theorem d_MO_rowOn_18 : decode b_MO_rowOn 18 = .ok (.iconst 1, 1) := by decide +kernel
theorem d_MO_rowOn_19 : decode b_MO_rowOn 19 = .ok (.iadd, 1) := by decide +kernel
theorem d_MO_rowOn_20 : decode b_MO_rowOn 20 = .ok (.goto 13, 3) := by decide +kernel
theorem d_MO_rowOn_23 : decode b_MO_rowOn 23 = .ok (.aload_n 0, 1) := by decide +kernel
theorem d_MO_rowOn_24 : decode b_MO_rowOn 24 = .ok (.iload_n 1, 1) := by decide +kernel
theorem d_MO_rowOn_25 : decode b_MO_rowOn 25 = .ok (.iconst 0, 1) := by decide +kernel
theorem d_MO_rowOn_26 : decode b_MO_rowOn 26 = .ok (.invokevirtual 96, 3) := by decide +kernel
theorem d_MO_rowOn_29 : decode b_MO_rowOn 29 = .ok (.sipush 255, 3) := by decide +kernel
theorem d_MO_rowOn_32 : decode b_MO_rowOn 32 = .ok (.isub, 1) := by decide +kernel
theorem d_MO_rowOn_33 : decode b_MO_rowOn 33 = .ok (.istore_n 3, 1) := by decide +kernel
theorem d_MO_rowOn_34 : decode b_MO_rowOn 34 = .ok (.iload_n 2, 1) := by decide +kernel
theorem d_MO_rowOn_35 : decode b_MO_rowOn 35 = .ok (.iload_n 3, 1) := by decide +kernel
theorem d_MO_rowOn_36 : decode b_MO_rowOn 36 = .ok (.if_icmp .lt 24, 3) := by decide +kernel
theorem d_MO_rowOn_39 : decode b_MO_rowOn 39 = .ok (.iload_n 2, 1) := by decide +kernel
theorem d_MO_rowOn_40 : decode b_MO_rowOn 40 = .ok (.iload_n 3, 1) := by decide +kernel
theorem d_MO_rowOn_41 : decode b_MO_rowOn 41 = .ok (.aload_n 0, 1) := by decide +kernel
theorem d_MO_rowOn_42 : decode b_MO_rowOn 42 = .ok (.invokevirtual 99, 3) := by decide +kernel
theorem d_MO_rowOn_45 : decode b_MO_rowOn 45 = .ok (.iadd, 1) := by decide +kernel
theorem d_MO_rowOn_46 : decode b_MO_rowOn 46 = .ok (.if_icmp .ge 14, 3) := by decide +kernel
theorem d_MO_rowOn_49 : decode b_MO_rowOn 49 = .ok (.iload_n 2, 1) := by decide +kernel
theorem d_MO_rowOn_50 : decode b_MO_rowOn 50 = .ok (.iload_n 3, 1) := by decide +kernel
theorem d_MO_rowOn_51 : decode b_MO_rowOn 51 = .ok (.isub, 1) := by decide +kernel
theorem d_MO_rowOn_52 : decode b_MO_rowOn 52 = .ok (.aload_n 0, 1) := by decide +kernel
theorem d_MO_rowOn_53 : decode b_MO_rowOn 53 = .ok (.invokevirtual 92, 3) := by decide +kernel
theorem d_MO_rowOn_56 : decode b_MO_rowOn 56 = .ok (.idiv, 1) := by decide +kernel
theorem d_MO_rowOn_57 : decode b_MO_rowOn 57 = .ok (.goto 4, 3) := by decide +kernel
theorem d_MO_rowOn_60 : decode b_MO_rowOn 60 = .ok (.iconst (-1), 1) := by decide +kernel
theorem d_MO_rowOn_61 : decode b_MO_rowOn 61 = .ok (.ireturn, 1) := by decide +kernel
theorem d_MO_there_0 : decode b_MO_there 0 = .ok (.iconst 0, 1) := by decide +kernel
theorem d_MO_there_1 : decode b_MO_there 1 = .ok (.istore_n 1, 1) := by decide +kernel
theorem d_MO_there_2 : decode b_MO_there 2 = .ok (.iload_n 1, 1) := by decide +kernel
theorem d_MO_there_3 : decode b_MO_there 3 = .ok (.bipush 8, 2) := by decide +kernel
theorem d_MO_there_5 : decode b_MO_there 5 = .ok (.if_icmp .ge 21, 3) := by decide +kernel
theorem d_MO_there_8 : decode b_MO_there 8 = .ok (.aload_n 0, 1) := by decide +kernel
theorem d_MO_there_9 : decode b_MO_there 9 = .ok (.iload_n 1, 1) := by decide +kernel
theorem d_MO_there_10 : decode b_MO_there 10 = .ok (.iconst 0, 1) := by decide +kernel
theorem d_MO_there_11 : decode b_MO_there 11 = .ok (.invokevirtual 96, 3) := by decide +kernel
theorem d_MO_there_14 : decode b_MO_there 14 = .ok (.sipush 208, 3) := by decide +kernel
theorem d_MO_there_17 : decode b_MO_there 17 = .ok (.if_icmp .eq 9, 3) := by decide +kernel
theorem d_MO_there_20 : decode b_MO_there 20 = .ok (.iinc 1 1, 3) := by decide +kernel
theorem d_MO_there_23 : decode b_MO_there 23 = .ok (.goto (-21), 3) := by decide +kernel
theorem d_MO_there_26 : decode b_MO_there 26 = .ok (.iload_n 1, 1) := by decide +kernel
theorem d_MO_there_27 : decode b_MO_there 27 = .ok (.ireturn, 1) := by decide +kernel
theorem d_MO_has_0 : decode b_MO_has 0 = .ok (.aload_n 0, 1) := by decide +kernel
theorem d_MO_has_1 : decode b_MO_has 1 = .ok (.iload_n 1, 1) := by decide +kernel
theorem d_MO_has_2 : decode b_MO_has 2 = .ok (.iconst 1, 1) := by decide +kernel
theorem d_MO_has_3 : decode b_MO_has 3 = .ok (.invokevirtual 96, 3) := by decide +kernel
theorem d_MO_has_6 : decode b_MO_has 6 = .ok (.aload_n 0, 1) := by decide +kernel
theorem d_MO_has_7 : decode b_MO_has 7 = .ok (.iload_n 1, 1) := by decide +kernel
theorem d_MO_has_8 : decode b_MO_has 8 = .ok (.iconst 3, 1) := by decide +kernel
theorem d_MO_has_9 : decode b_MO_has 9 = .ok (.invokevirtual 96, 3) := by decide +kernel
theorem d_MO_has_12 : decode b_MO_has 12 = .ok (.bipush 127, 2) := by decide +kernel
theorem d_MO_has_14 : decode b_MO_has 14 = .ok (.if_icmp .le 8, 3) := by decide +kernel
theorem d_MO_has_17 : decode b_MO_has 17 = .ok (.bipush 32, 2) := by decide +kernel
theorem d_MO_has_19 : decode b_MO_has 19 = .ok (.goto 4, 3) := by decide +kernel
theorem d_MO_has_22 : decode b_MO_has 22 = .ok (.iconst 0, 1) := by decide +kernel
theorem d_MO_has_23 : decode b_MO_has 23 = .ok (.isub, 1) := by decide +kernel
theorem d_MO_has_24 : decode b_MO_has 24 = .ok (.istore 4, 2) := by decide +kernel
theorem d_MO_has_26 : decode b_MO_has 26 = .ok (.iload_n 3, 1) := by decide +kernel
theorem d_MO_has_27 : decode b_MO_has 27 = .ok (.iload 4, 2) := by decide +kernel
theorem d_MO_has_29 : decode b_MO_has 29 = .ok (.if_icmp .lt 14, 3) := by decide +kernel
theorem d_MO_has_32 : decode b_MO_has 32 = .ok (.iload_n 3, 1) := by decide +kernel
theorem d_MO_has_33 : decode b_MO_has 33 = .ok (.iload 4, 2) := by decide +kernel
theorem d_MO_has_35 : decode b_MO_has 35 = .ok (.aload_n 0, 1) := by decide +kernel
theorem d_MO_has_36 : decode b_MO_has 36 = .ok (.invokevirtual 99, 3) := by decide +kernel
theorem d_MO_has_39 : decode b_MO_has 39 = .ok (.iadd, 1) := by decide +kernel
theorem d_MO_has_40 : decode b_MO_has 40 = .ok (.if_icmp .lt 5, 3) := by decide +kernel
theorem d_MO_has_43 : decode b_MO_has 43 = .ok (.iconst 0, 1) := by decide +kernel
theorem d_MO_has_44 : decode b_MO_has 44 = .ok (.ireturn, 1) := by decide +kernel
theorem d_MO_has_45 : decode b_MO_has 45 = .ok (.iload_n 3, 1) := by decide +kernel
theorem d_MO_has_46 : decode b_MO_has 46 = .ok (.iload 4, 2) := by decide +kernel
theorem d_MO_has_48 : decode b_MO_has 48 = .ok (.isub, 1) := by decide +kernel
theorem d_MO_has_49 : decode b_MO_has 49 = .ok (.aload_n 0, 1) := by decide +kernel
theorem d_MO_has_50 : decode b_MO_has 50 = .ok (.invokevirtual 92, 3) := by decide +kernel
theorem d_MO_has_53 : decode b_MO_has 53 = .ok (.idiv, 1) := by decide +kernel
theorem d_MO_has_54 : decode b_MO_has 54 = .ok (.istore 5, 2) := by decide +kernel
theorem d_MO_has_56 : decode b_MO_has 56 = .ok (.aload_n 0, 1) := by decide +kernel
theorem d_MO_has_57 : decode b_MO_has 57 = .ok (.iload_n 1, 1) := by decide +kernel
theorem d_MO_has_58 : decode b_MO_has 58 = .ok (.iconst 2, 1) := by decide +kernel
theorem d_MO_has_59 : decode b_MO_has 59 = .ok (.invokevirtual 96, 3) := by decide +kernel
theorem d_MO_has_62 : decode b_MO_has 62 = .ok (.bipush 16, 2) := by decide +kernel
theorem d_MO_has_64 : decode b_MO_has 64 = .ok (.irem, 1) := by decide +kernel
theorem d_MO_has_65 : decode b_MO_has 65 = .ok (.istore 6, 2) := by decide +kernel
theorem d_MO_has_67 : decode b_MO_has 67 = .ok (.sipush 128, 3) := by decide +kernel
theorem d_MO_has_70 : decode b_MO_has 70 = .ok (.aload_n 0, 1) := by decide +kernel
theorem d_MO_has_71 : decode b_MO_has 71 = .ok (.getfield 32, 3) := by decide +kernel
theorem d_MO_has_74 : decode b_MO_has 74 = .ok (.bipush 6, 2) := by decide +kernel
theorem d_MO_has_76 : decode b_MO_has 76 = .ok (.iaload, 1) := by decide +kernel
theorem d_MO_has_77 : decode b_MO_has 77 = .ok (.iconst 4, 1) := by decide +kernel
theorem d_MO_has_78 : decode b_MO_has 78 = .ok (.irem, 1) := by decide +kernel
theorem d_MO_has_79 : decode b_MO_has 79 = .ok (.imul, 1) := by decide +kernel
theorem d_MO_has_80 : decode b_MO_has 80 = .ok (.istore 7, 2) := by decide +kernel
theorem d_MO_has_82 : decode b_MO_has 82 = .ok (.aload_n 0, 1) := by decide +kernel
theorem d_MO_has_83 : decode b_MO_has 83 = .ok (.aload_n 0, 1) := by decide +kernel
theorem d_MO_has_84 : decode b_MO_has 84 = .ok (.getfield 32, 3) := by decide +kernel
theorem d_MO_has_87 : decode b_MO_has 87 = .ok (.iconst 1, 1) := by decide +kernel
theorem d_MO_has_88 : decode b_MO_has 88 = .ok (.iaload, 1) := by decide +kernel
theorem d_MO_has_89 : decode b_MO_has 89 = .ok (.iconst 1, 1) := by decide +kernel
theorem d_MO_has_90 : decode b_MO_has 90 = .ok (.invokevirtual 88, 3) := by decide +kernel
theorem d_MO_has_93 : decode b_MO_has 93 = .ok (.ifCond .eq 34, 3) := by decide +kernel
theorem d_MO_has_96 : decode b_MO_has 96 = .ok (.iload 7, 2) := by decide +kernel
theorem d_MO_has_98 : decode b_MO_has 98 = .ok (.bipush 8, 2) := by decide +kernel
theorem d_MO_has_100 : decode b_MO_has 100 = .ok (.iload 6, 2) := by decide +kernel
theorem d_MO_has_102 : decode b_MO_has 102 = .ok (.iconst 4, 1) := by decide +kernel
theorem d_MO_has_103 : decode b_MO_has 103 = .ok (.idiv, 1) := by decide +kernel
theorem d_MO_has_104 : decode b_MO_has 104 = .ok (.iconst 4, 1) := by decide +kernel
theorem d_MO_has_105 : decode b_MO_has 105 = .ok (.imul, 1) := by decide +kernel
theorem d_MO_has_106 : decode b_MO_has 106 = .ok (.imul, 1) := by decide +kernel
theorem d_MO_has_107 : decode b_MO_has 107 = .ok (.iadd, 1) := by decide +kernel
theorem d_MO_has_108 : decode b_MO_has 108 = .ok (.iload_n 2, 1) := by decide +kernel
theorem d_MO_has_109 : decode b_MO_has 109 = .ok (.iadd, 1) := by decide +kernel
theorem d_MO_has_110 : decode b_MO_has 110 = .ok (.iload 5, 2) := by decide +kernel
theorem d_MO_has_112 : decode b_MO_has 112 = .ok (.bipush 7, 2) := by decide +kernel
theorem d_MO_has_114 : decode b_MO_has 114 = .ok (.if_icmp .le 8, 3) := by decide +kernel
theorem d_MO_has_117 : decode b_MO_has 117 = .ok (.bipush 16, 2) := by decide +kernel
theorem d_MO_has_119 : decode b_MO_has 119 = .ok (.goto 4, 3) := by decide +kernel
theorem d_MO_has_122 : decode b_MO_has 122 = .ok (.iconst 0, 1) := by decide +kernel
theorem d_MO_has_123 : decode b_MO_has 123 = .ok (.iadd, 1) := by decide +kernel
theorem d_MO_has_124 : decode b_MO_has 124 = .ok (.goto 13, 3) := by decide +kernel
theorem d_MO_has_127 : decode b_MO_has 127 = .ok (.iload 7, 2) := by decide +kernel
theorem d_MO_has_129 : decode b_MO_has 129 = .ok (.bipush 8, 2) := by decide +kernel
theorem d_MO_has_131 : decode b_MO_has 131 = .ok (.iload 6, 2) := by decide +kernel
theorem d_MO_has_133 : decode b_MO_has 133 = .ok (.imul, 1) := by decide +kernel
theorem d_MO_has_134 : decode b_MO_has 134 = .ok (.iadd, 1) := by decide +kernel
theorem d_MO_has_135 : decode b_MO_has 135 = .ok (.iload_n 2, 1) := by decide +kernel
theorem d_MO_has_136 : decode b_MO_has 136 = .ok (.iadd, 1) := by decide +kernel
theorem d_MO_has_137 : decode b_MO_has 137 = .ok (.istore 8, 2) := by decide +kernel
theorem d_MO_has_139 : decode b_MO_has 139 = .ok (.aload_n 0, 1) := by decide +kernel
theorem d_MO_has_140 : decode b_MO_has 140 = .ok (.aload_n 0, 1) := by decide +kernel
theorem d_MO_has_141 : decode b_MO_has 141 = .ok (.getfield 29, 3) := by decide +kernel
theorem d_MO_has_144 : decode b_MO_has 144 = .ok (.iload 8, 2) := by decide +kernel
theorem d_MO_has_146 : decode b_MO_has 146 = .ok (.iaload, 1) := by decide +kernel
theorem d_MO_has_147 : decode b_MO_has 147 = .ok (.bipush 7, 2) := by decide +kernel
theorem d_MO_has_149 : decode b_MO_has 149 = .ok (.iload 5, 2) := by decide +kernel
theorem d_MO_has_151 : decode b_MO_has 151 = .ok (.bipush 8, 2) := by decide +kernel
theorem d_MO_has_153 : decode b_MO_has 153 = .ok (.irem, 1) := by decide +kernel
theorem d_MO_has_154 : decode b_MO_has 154 = .ok (.isub, 1) := by decide +kernel
theorem d_MO_has_155 : decode b_MO_has 155 = .ok (.invokevirtual 88, 3) := by decide +kernel
theorem d_MO_has_158 : decode b_MO_has 158 = .ok (.ireturn, 1) := by decide +kernel
theorem d_MO_tile_0 : decode b_MO_tile 0 = .ok (.aload_n 0, 1) := by decide +kernel
theorem d_MO_tile_1 : decode b_MO_tile 1 = .ok (.getfield 29, 3) := by decide +kernel
theorem d_MO_tile_4 : decode b_MO_tile 4 = .ok (.bipush 32, 2) := by decide +kernel
theorem d_MO_tile_6 : decode b_MO_tile 6 = .ok (.aload_n 0, 1) := by decide +kernel
theorem d_MO_tile_7 : decode b_MO_tile 7 = .ok (.getfield 32, 3) := by decide +kernel
theorem d_MO_tile_10 : decode b_MO_tile 10 = .ok (.iconst 2, 1) := by decide +kernel
theorem d_MO_tile_11 : decode b_MO_tile 11 = .ok (.iaload, 1) := by decide +kernel
theorem d_MO_tile_12 : decode b_MO_tile 12 = .ok (.bipush 16, 2) := by decide +kernel
theorem d_MO_tile_14 : decode b_MO_tile 14 = .ok (.irem, 1) := by decide +kernel
theorem d_MO_tile_15 : decode b_MO_tile 15 = .ok (.imul, 1) := by decide +kernel
theorem d_MO_tile_16 : decode b_MO_tile 16 = .ok (.iload_n 2, 1) := by decide +kernel
theorem d_MO_tile_17 : decode b_MO_tile 17 = .ok (.bipush 8, 2) := by decide +kernel
theorem d_MO_tile_19 : decode b_MO_tile 19 = .ok (.idiv, 1) := by decide +kernel
theorem d_MO_tile_20 : decode b_MO_tile 20 = .ok (.bipush 8, 2) := by decide +kernel
theorem d_MO_tile_22 : decode b_MO_tile 22 = .ok (.imul, 1) := by decide +kernel
theorem d_MO_tile_23 : decode b_MO_tile 23 = .ok (.iadd, 1) := by decide +kernel
theorem d_MO_tile_24 : decode b_MO_tile 24 = .ok (.iload_n 1, 1) := by decide +kernel
theorem d_MO_tile_25 : decode b_MO_tile 25 = .ok (.bipush 8, 2) := by decide +kernel
theorem d_MO_tile_27 : decode b_MO_tile 27 = .ok (.idiv, 1) := by decide +kernel
theorem d_MO_tile_28 : decode b_MO_tile 28 = .ok (.iadd, 1) := by decide +kernel
theorem d_MO_tile_29 : decode b_MO_tile 29 = .ok (.iaload, 1) := by decide +kernel
theorem d_MO_tile_30 : decode b_MO_tile 30 = .ok (.bipush 32, 2) := by decide +kernel
theorem d_MO_tile_32 : decode b_MO_tile 32 = .ok (.irem, 1) := by decide +kernel
theorem d_MO_tile_33 : decode b_MO_tile 33 = .ok (.istore_n 3, 1) := by decide +kernel
theorem d_MO_tile_34 : decode b_MO_tile 34 = .ok (.aload_n 0, 1) := by decide +kernel
theorem d_MO_tile_35 : decode b_MO_tile 35 = .ok (.getfield 29, 3) := by decide +kernel
theorem d_MO_tile_38 : decode b_MO_tile 38 = .ok (.sipush 256, 3) := by decide +kernel
theorem d_MO_tile_41 : decode b_MO_tile 41 = .ok (.aload_n 0, 1) := by decide +kernel
theorem d_MO_tile_42 : decode b_MO_tile 42 = .ok (.getfield 32, 3) := by decide +kernel
theorem d_MO_tile_45 : decode b_MO_tile 45 = .ok (.iconst 4, 1) := by decide +kernel
theorem d_MO_tile_46 : decode b_MO_tile 46 = .ok (.iaload, 1) := by decide +kernel
theorem d_MO_tile_47 : decode b_MO_tile 47 = .ok (.iconst 2, 1) := by decide +kernel
theorem d_MO_tile_48 : decode b_MO_tile 48 = .ok (.irem, 1) := by decide +kernel
theorem d_MO_tile_49 : decode b_MO_tile 49 = .ok (.imul, 1) := by decide +kernel
theorem d_MO_tile_50 : decode b_MO_tile 50 = .ok (.bipush 8, 2) := by decide +kernel
theorem d_MO_tile_52 : decode b_MO_tile 52 = .ok (.iload_n 3, 1) := by decide +kernel
theorem d_MO_tile_53 : decode b_MO_tile 53 = .ok (.imul, 1) := by decide +kernel
theorem d_MO_tile_54 : decode b_MO_tile 54 = .ok (.iadd, 1) := by decide +kernel
theorem d_MO_tile_55 : decode b_MO_tile 55 = .ok (.iload_n 2, 1) := by decide +kernel
theorem d_MO_tile_56 : decode b_MO_tile 56 = .ok (.bipush 8, 2) := by decide +kernel
theorem d_MO_tile_58 : decode b_MO_tile 58 = .ok (.irem, 1) := by decide +kernel
theorem d_MO_tile_59 : decode b_MO_tile 59 = .ok (.iadd, 1) := by decide +kernel
theorem d_MO_tile_60 : decode b_MO_tile 60 = .ok (.iaload, 1) := by decide +kernel
theorem d_MO_tile_61 : decode b_MO_tile 61 = .ok (.istore 4, 2) := by decide +kernel
theorem d_MO_tile_63 : decode b_MO_tile 63 = .ok (.aload_n 0, 1) := by decide +kernel
theorem d_MO_tile_64 : decode b_MO_tile 64 = .ok (.getfield 29, 3) := by decide +kernel
theorem d_MO_tile_67 : decode b_MO_tile 67 = .ok (.iconst 4, 1) := by decide +kernel
theorem d_MO_tile_68 : decode b_MO_tile 68 = .ok (.aload_n 0, 1) := by decide +kernel
theorem d_MO_tile_69 : decode b_MO_tile 69 = .ok (.getfield 32, 3) := by decide +kernel
theorem d_MO_tile_72 : decode b_MO_tile 72 = .ok (.iconst 3, 1) := by decide +kernel
theorem d_MO_tile_73 : decode b_MO_tile 73 = .ok (.iaload, 1) := by decide +kernel
theorem d_MO_tile_74 : decode b_MO_tile 74 = .ok (.sipush 128, 3) := by decide +kernel
theorem d_MO_tile_77 : decode b_MO_tile 77 = .ok (.irem, 1) := by decide +kernel
theorem d_MO_tile_78 : decode b_MO_tile 78 = .ok (.imul, 1) := by decide +kernel
theorem d_MO_tile_79 : decode b_MO_tile 79 = .ok (.iload_n 3, 1) := by decide +kernel
theorem d_MO_tile_80 : decode b_MO_tile 80 = .ok (.bipush 8, 2) := by decide +kernel
theorem d_MO_tile_82 : decode b_MO_tile 82 = .ok (.idiv, 1) := by decide +kernel
theorem d_MO_tile_83 : decode b_MO_tile 83 = .ok (.iadd, 1) := by decide +kernel
theorem d_MO_tile_84 : decode b_MO_tile 84 = .ok (.iaload, 1) := by decide +kernel
theorem d_MO_tile_85 : decode b_MO_tile 85 = .ok (.istore 5, 2) := by decide +kernel
theorem d_MO_tile_87 : decode b_MO_tile 87 = .ok (.aload_n 0, 1) := by decide +kernel
theorem d_MO_tile_88 : decode b_MO_tile 88 = .ok (.iload 4, 2) := by decide +kernel
theorem d_MO_tile_90 : decode b_MO_tile 90 = .ok (.bipush 7, 2) := by decide +kernel
theorem d_MO_tile_92 : decode b_MO_tile 92 = .ok (.iload_n 1, 1) := by decide +kernel
theorem d_MO_tile_93 : decode b_MO_tile 93 = .ok (.bipush 8, 2) := by decide +kernel
theorem d_MO_tile_95 : decode b_MO_tile 95 = .ok (.irem, 1) := by decide +kernel
theorem d_MO_tile_96 : decode b_MO_tile 96 = .ok (.isub, 1) := by decide +kernel
theorem d_MO_tile_97 : decode b_MO_tile 97 = .ok (.invokevirtual 88, 3) := by decide +kernel
theorem d_MO_tile_100 : decode b_MO_tile 100 = .ok (.ifCond .eq 11, 3) := by decide +kernel
theorem d_MO_tile_103 : decode b_MO_tile 103 = .ok (.iload 5, 2) := by decide +kernel
theorem d_MO_tile_105 : decode b_MO_tile 105 = .ok (.bipush 16, 2) := by decide +kernel
theorem d_MO_tile_107 : decode b_MO_tile 107 = .ok (.idiv, 1) := by decide +kernel
theorem d_MO_tile_108 : decode b_MO_tile 108 = .ok (.goto 8, 3) := by decide +kernel
theorem d_MO_tile_111 : decode b_MO_tile 111 = .ok (.iload 5, 2) := by decide +kernel
theorem d_MO_tile_113 : decode b_MO_tile 113 = .ok (.bipush 16, 2) := by decide +kernel
theorem d_MO_tile_115 : decode b_MO_tile 115 = .ok (.irem, 1) := by decide +kernel
theorem d_MO_tile_116 : decode b_MO_tile 116 = .ok (.ireturn, 1) := by decide +kernel
theorem d_MO_color_0 : decode b_MO_color 0 = .ok (.iconst 0, 1) := by decide +kernel
theorem d_MO_color_1 : decode b_MO_color 1 = .ok (.istore_n 3, 1) := by decide +kernel
theorem d_MO_color_2 : decode b_MO_color 2 = .ok (.iconst 0, 1) := by decide +kernel
theorem d_MO_color_3 : decode b_MO_color 3 = .ok (.istore 4, 2) := by decide +kernel
theorem d_MO_color_5 : decode b_MO_color 5 = .ok (.iconst 0, 1) := by decide +kernel
theorem d_MO_color_6 : decode b_MO_color 6 = .ok (.istore 5, 2) := by decide +kernel
theorem d_MO_color_8 : decode b_MO_color 8 = .ok (.iconst 0, 1) := by decide +kernel
theorem d_MO_color_9 : decode b_MO_color 9 = .ok (.istore 6, 2) := by decide +kernel
theorem d_MO_color_11 : decode b_MO_color 11 = .ok (.iload 6, 2) := by decide +kernel
theorem d_MO_color_13 : decode b_MO_color 13 = .ok (.iload_n 2, 1) := by decide +kernel
theorem d_MO_color_14 : decode b_MO_color 14 = .ok (.if_icmp .ge 71, 3) := by decide +kernel
theorem d_MO_color_17 : decode b_MO_color 17 = .ok (.iload 5, 2) := by decide +kernel
theorem d_MO_color_19 : decode b_MO_color 19 = .ok (.iconst 4, 1) := by decide +kernel
theorem d_MO_color_20 : decode b_MO_color 20 = .ok (.if_icmp .ge 65, 3) := by decide +kernel
theorem d_MO_color_23 : decode b_MO_color 23 = .ok (.aload_n 0, 1) := by decide +kernel
theorem d_MO_color_24 : decode b_MO_color 24 = .ok (.iload 6, 2) := by decide +kernel
theorem d_MO_color_26 : decode b_MO_color 26 = .ok (.aload_n 0, 1) := by decide +kernel
theorem d_MO_color_27 : decode b_MO_color 27 = .ok (.getfield 102, 3) := by decide +kernel
theorem d_MO_color_30 : decode b_MO_color 30 = .ok (.invokevirtual 105, 3) := by decide +kernel
theorem d_MO_color_33 : decode b_MO_color 33 = .ok (.istore 7, 2) := by decide +kernel
theorem d_MO_color_35 : decode b_MO_color 35 = .ok (.iload 7, 2) := by decide +kernel
theorem d_MO_color_37 : decode b_MO_color 37 = .ok (.ifCond .ge 6, 3) := by decide +kernel
theorem d_MO_color_40 : decode b_MO_color 40 = .ok (.goto 39, 3) := by decide +kernel
theorem d_MO_color_43 : decode b_MO_color 43 = .ok (.iinc 5 1, 3) := by decide +kernel
theorem d_MO_color_46 : decode b_MO_color 46 = .ok (.aload_n 0, 1) := by decide +kernel
theorem d_MO_color_47 : decode b_MO_color 47 = .ok (.iload 6, 2) := by decide +kernel
theorem d_MO_color_49 : decode b_MO_color 49 = .ok (.iload 7, 2) := by decide +kernel
theorem d_MO_color_51 : decode b_MO_color 51 = .ok (.iload_n 1, 1) := by decide +kernel
theorem d_MO_color_52 : decode b_MO_color 52 = .ok (.invokevirtual 108, 3) := by decide +kernel
theorem d_MO_color_55 : decode b_MO_color 55 = .ok (.ifCond .ne 6, 3) := by decide +kernel
theorem d_MO_color_58 : decode b_MO_color 58 = .ok (.goto 21, 3) := by decide +kernel
theorem d_MO_color_61 : decode b_MO_color 61 = .ok (.iinc 4 1, 3) := by decide +kernel
theorem d_MO_color_64 : decode b_MO_color 64 = .ok (.iload_n 3, 1) := by decide +kernel
theorem d_MO_color_65 : decode b_MO_color 65 = .ok (.ifCond .ne 14, 3) := by decide +kernel
theorem d_MO_color_68 : decode b_MO_color 68 = .ok (.aload_n 0, 1) := by decide +kernel
theorem d_MO_color_69 : decode b_MO_color 69 = .ok (.iload 6, 2) := by decide +kernel
theorem d_MO_color_71 : decode b_MO_color 71 = .ok (.iconst 3, 1) := by decide +kernel
theorem d_MO_color_72 : decode b_MO_color 72 = .ok (.invokevirtual 96, 3) := by decide +kernel
theorem d_MO_color_75 : decode b_MO_color 75 = .ok (.bipush 16, 2) := by decide +kernel
theorem d_MO_color_77 : decode b_MO_color 77 = .ok (.irem, 1) := by decide +kernel
theorem d_MO_color_78 : decode b_MO_color 78 = .ok (.istore_n 3, 1) := by decide +kernel
theorem d_MO_color_79 : decode b_MO_color 79 = .ok (.iinc 6 1, 3) := by decide +kernel
theorem d_MO_color_82 : decode b_MO_color 82 = .ok (.goto (-71), 3) := by decide +kernel
theorem d_MO_color_85 : decode b_MO_color 85 = .ok (.iload 4, 2) := by decide +kernel
theorem d_MO_color_87 : decode b_MO_color 87 = .ok (.iconst 1, 1) := by decide +kernel
theorem d_MO_color_88 : decode b_MO_color 88 = .ok (.if_icmp .le 14, 3) := by decide +kernel
theorem d_MO_color_91 : decode b_MO_color 91 = .ok (.aload_n 0, 1) := by decide +kernel
theorem d_MO_color_92 : decode b_MO_color 92 = .ok (.aload_n 0, 1) := by decide +kernel
theorem d_MO_color_93 : decode b_MO_color 93 = .ok (.getfield 78, 3) := by decide +kernel
theorem d_MO_color_96 : decode b_MO_color 96 = .ok (.bipush 32, 2) := by decide +kernel
theorem d_MO_color_98 : decode b_MO_color 98 = .ok (.ior, 1) := by decide +kernel
theorem d_MO_color_99 : decode b_MO_color 99 = .ok (.putfield 78, 3) := by decide +kernel
theorem d_MO_color_102 : decode b_MO_color 102 = .ok (.iload_n 3, 1) := by decide +kernel
theorem d_MO_color_103 : decode b_MO_color 103 = .ok (.ifCond .ne 13, 3) := by decide +kernel
theorem d_MO_color_106 : decode b_MO_color 106 = .ok (.aload_n 0, 1) := by decide +kernel
theorem d_MO_color_107 : decode b_MO_color 107 = .ok (.iload_n 1, 1) := by decide +kernel
theorem d_MO_color_108 : decode b_MO_color 108 = .ok (.aload_n 0, 1) := by decide +kernel
theorem d_MO_color_109 : decode b_MO_color 109 = .ok (.getfield 102, 3) := by decide +kernel
theorem d_MO_color_112 : decode b_MO_color 112 = .ok (.invokevirtual 111, 3) := by decide +kernel
theorem d_MO_color_115 : decode b_MO_color 115 = .ok (.istore_n 3, 1) := by decide +kernel
theorem d_MO_color_116 : decode b_MO_color 116 = .ok (.iload_n 3, 1) := by decide +kernel
theorem d_MO_color_117 : decode b_MO_color 117 = .ok (.ifCond .ne 16, 3) := by decide +kernel
theorem d_MO_color_120 : decode b_MO_color 120 = .ok (.aload_n 0, 1) := by decide +kernel
theorem d_MO_color_121 : decode b_MO_color 121 = .ok (.getfield 32, 3) := by decide +kernel
theorem d_MO_color_124 : decode b_MO_color 124 = .ok (.bipush 7, 2) := by decide +kernel
theorem d_MO_color_126 : decode b_MO_color 126 = .ok (.iaload, 1) := by decide +kernel
theorem d_MO_color_127 : decode b_MO_color 127 = .ok (.bipush 16, 2) := by decide +kernel
theorem d_MO_color_129 : decode b_MO_color 129 = .ok (.irem, 1) := by decide +kernel
theorem d_MO_color_130 : decode b_MO_color 130 = .ok (.goto 4, 3) := by decide +kernel
theorem d_MO_color_133 : decode b_MO_color 133 = .ok (.iload_n 3, 1) := by decide +kernel
theorem d_MO_color_134 : decode b_MO_color 134 = .ok (.ireturn, 1) := by decide +kernel
theorem d_MO_tellFifth_0 : decode b_MO_tellFifth 0 = .ok (.iconst 0, 1) := by decide +kernel
theorem d_MO_tellFifth_1 : decode b_MO_tellFifth 1 = .ok (.istore_n 2, 1) := by decide +kernel
theorem d_MO_tellFifth_2 : decode b_MO_tellFifth 2 = .ok (.iconst 0, 1) := by decide +kernel
theorem d_MO_tellFifth_3 : decode b_MO_tellFifth 3 = .ok (.istore_n 3, 1) := by decide +kernel
theorem d_MO_tellFifth_4 : decode b_MO_tellFifth 4 = .ok (.iload_n 3, 1) := by decide +kernel
theorem d_MO_tellFifth_5 : decode b_MO_tellFifth 5 = .ok (.iload_n 1, 1) := by decide +kernel
theorem d_MO_tellFifth_6 : decode b_MO_tellFifth 6 = .ok (.if_icmp .ge 74, 3) := by decide +kernel
theorem d_MO_tellFifth_9 : decode b_MO_tellFifth 9 = .ok (.aload_n 0, 1) := by decide +kernel
theorem d_MO_tellFifth_10 : decode b_MO_tellFifth 10 = .ok (.iload_n 3, 1) := by decide +kernel
theorem d_MO_tellFifth_11 : decode b_MO_tellFifth 11 = .ok (.aload_n 0, 1) := by decide +kernel
theorem d_MO_tellFifth_12 : decode b_MO_tellFifth 12 = .ok (.getfield 102, 3) := by decide +kernel
theorem d_MO_tellFifth_15 : decode b_MO_tellFifth 15 = .ok (.invokevirtual 105, 3) := by decide +kernel
theorem d_MO_tellFifth_18 : decode b_MO_tellFifth 18 = .ok (.ifCond .ge 6, 3) := by decide +kernel
theorem d_MO_tellFifth_21 : decode b_MO_tellFifth 21 = .ok (.goto 53, 3) := by decide +kernel
theorem d_MO_tellFifth_24 : decode b_MO_tellFifth 24 = .ok (.iinc 2 1, 3) := by decide +kernel
theorem d_MO_tellFifth_27 : decode b_MO_tellFifth 27 = .ok (.iload_n 2, 1) := by decide +kernel
theorem d_MO_tellFifth_28 : decode b_MO_tellFifth 28 = .ok (.iconst 5, 1) := by decide +kernel
theorem d_MO_tellFifth_29 : decode b_MO_tellFifth 29 = .ok (.if_icmp .ne 45, 3) := by decide +kernel
theorem d_MO_tellFifth_32 : decode b_MO_tellFifth 32 = .ok (.aload_n 0, 1) := by decide +kernel
theorem d_MO_tellFifth_33 : decode b_MO_tellFifth 33 = .ok (.aload_n 0, 1) := by decide +kernel
theorem d_MO_tellFifth_34 : decode b_MO_tellFifth 34 = .ok (.getfield 78, 3) := by decide +kernel
theorem d_MO_tellFifth_37 : decode b_MO_tellFifth 37 = .ok (.bipush 6, 2) := by decide +kernel
theorem d_MO_tellFifth_39 : decode b_MO_tellFifth 39 = .ok (.invokevirtual 88, 3) := by decide +kernel
theorem d_MO_tellFifth_42 : decode b_MO_tellFifth 42 = .ok (.ifCond .ne 32, 3) := by decide +kernel
theorem d_MO_tellFifth_45 : decode b_MO_tellFifth 45 = .ok (.aload_n 0, 1) := by decide +kernel
theorem d_MO_tellFifth_46 : decode b_MO_tellFifth 46 = .ok (.aload_n 0, 1) := by decide +kernel
theorem d_MO_tellFifth_47 : decode b_MO_tellFifth 47 = .ok (.getfield 78, 3) := by decide +kernel
theorem d_MO_tellFifth_50 : decode b_MO_tellFifth 50 = .ok (.sipush 128, 3) := by decide +kernel
theorem d_MO_tellFifth_53 : decode b_MO_tellFifth 53 = .ok (.idiv, 1) := by decide +kernel
theorem d_MO_tellFifth_54 : decode b_MO_tellFifth 54 = .ok (.sipush 128, 3) := by decide +kernel
theorem d_MO_tellFifth_57 : decode b_MO_tellFifth 57 = .ok (.imul, 1) := by decide +kernel
theorem d_MO_tellFifth_58 : decode b_MO_tellFifth 58 = .ok (.aload_n 0, 1) := by decide +kernel
theorem d_MO_tellFifth_59 : decode b_MO_tellFifth 59 = .ok (.getfield 78, 3) := by decide +kernel
theorem d_MO_tellFifth_62 : decode b_MO_tellFifth 62 = .ok (.bipush 32, 2) := by decide +kernel
theorem d_MO_tellFifth_64 : decode b_MO_tellFifth 64 = .ok (.iand, 1) := by decide +kernel
theorem d_MO_tellFifth_65 : decode b_MO_tellFifth 65 = .ok (.iadd, 1) := by decide +kernel
theorem d_MO_tellFifth_66 : decode b_MO_tellFifth 66 = .ok (.bipush 64, 2) := by decide +kernel
theorem d_MO_tellFifth_68 : decode b_MO_tellFifth 68 = .ok (.iadd, 1) := by decide +kernel
theorem d_MO_tellFifth_69 : decode b_MO_tellFifth 69 = .ok (.iload_n 3, 1) := by decide +kernel
theorem d_MO_tellFifth_70 : decode b_MO_tellFifth 70 = .ok (.iadd, 1) := by decide +kernel
theorem d_MO_tellFifth_71 : decode b_MO_tellFifth 71 = .ok (.putfield 78, 3) := by decide +kernel
theorem d_MO_tellFifth_74 : decode b_MO_tellFifth 74 = .ok (.iinc 3 1, 3) := by decide +kernel
theorem d_MO_tellFifth_77 : decode b_MO_tellFifth 77 = .ok (.goto (-73), 3) := by decide +kernel
theorem d_MO_tellFifth_80 : decode b_MO_tellFifth 80 = .ok (.return_, 1) := by decide +kernel
theorem d_MO_scan_0 : decode b_MO_scan 0 = .ok (.aload_n 0, 1) := by decide +kernel
theorem d_MO_scan_1 : decode b_MO_scan 1 = .ok (.iconst 0, 1) := by decide +kernel
theorem d_MO_scan_2 : decode b_MO_scan 2 = .ok (.putfield 42, 3) := by decide +kernel
theorem d_MO_scan_5 : decode b_MO_scan 5 = .ok (.aload_n 0, 1) := by decide +kernel
theorem d_MO_scan_6 : decode b_MO_scan 6 = .ok (.aload_n 0, 1) := by decide +kernel
theorem d_MO_scan_7 : decode b_MO_scan 7 = .ok (.getfield 32, 3) := by decide +kernel
theorem d_MO_scan_10 : decode b_MO_scan 10 = .ok (.iconst 1, 1) := by decide +kernel
theorem d_MO_scan_11 : decode b_MO_scan 11 = .ok (.iaload, 1) := by decide +kernel
theorem d_MO_scan_12 : decode b_MO_scan 12 = .ok (.bipush 6, 2) := by decide +kernel
theorem d_MO_scan_14 : decode b_MO_scan 14 = .ok (.invokevirtual 88, 3) := by decide +kernel
theorem d_MO_scan_17 : decode b_MO_scan 17 = .ok (.istore_n 1, 1) := by decide +kernel
theorem d_MO_scan_18 : decode b_MO_scan 18 = .ok (.aload_n 0, 1) := by decide +kernel
theorem d_MO_scan_19 : decode b_MO_scan 19 = .ok (.invokevirtual 114, 3) := by decide +kernel
theorem d_MO_scan_22 : decode b_MO_scan 22 = .ok (.istore_n 2, 1) := by decide +kernel
theorem d_MO_scan_23 : decode b_MO_scan 23 = .ok (.iload_n 1, 1) := by decide +kernel
theorem d_MO_scan_24 : decode b_MO_scan 24 = .ok (.ifCond .eq 8, 3) := by decide +kernel
theorem d_MO_scan_27 : decode b_MO_scan 27 = .ok (.aload_n 0, 1) := by decide +kernel
theorem d_MO_scan_28 : decode b_MO_scan 28 = .ok (.iload_n 2, 1) := by decide +kernel
theorem d_MO_scan_29 : decode b_MO_scan 29 = .ok (.invokevirtual 117, 3) := by decide +kernel
theorem d_MO_scan_32 : decode b_MO_scan 32 = .ok (.iconst 0, 1) := by decide +kernel
theorem d_MO_scan_33 : decode b_MO_scan 33 = .ok (.istore_n 3, 1) := by decide +kernel
theorem d_MO_scan_34 : decode b_MO_scan 34 = .ok (.iload_n 3, 1) := by decide +kernel
theorem d_MO_scan_35 : decode b_MO_scan 35 = .ok (.bipush 64, 2) := by decide +kernel
theorem d_MO_scan_37 : decode b_MO_scan 37 = .ok (.if_icmp .ge 46, 3) := by decide +kernel
theorem d_MO_scan_40 : decode b_MO_scan 40 = .ok (.aload_n 0, 1) := by decide +kernel
theorem d_MO_scan_41 : decode b_MO_scan 41 = .ok (.getfield 39, 3) := by decide +kernel
theorem d_MO_scan_44 : decode b_MO_scan 44 = .ok (.bipush 64, 2) := by decide +kernel
theorem d_MO_scan_46 : decode b_MO_scan 46 = .ok (.aload_n 0, 1) := by decide +kernel
theorem d_MO_scan_47 : decode b_MO_scan 47 = .ok (.getfield 102, 3) := by decide +kernel
theorem d_MO_scan_50 : decode b_MO_scan 50 = .ok (.imul, 1) := by decide +kernel
theorem d_MO_scan_51 : decode b_MO_scan 51 = .ok (.iload_n 3, 1) := by decide +kernel
theorem d_MO_scan_52 : decode b_MO_scan 52 = .ok (.iadd, 1) := by decide +kernel
theorem d_MO_scan_53 : decode b_MO_scan 53 = .ok (.iload_n 1, 1) := by decide +kernel
theorem d_MO_scan_54 : decode b_MO_scan 54 = .ok (.ifCond .eq 12, 3) := by decide +kernel
theorem d_MO_scan_57 : decode b_MO_scan 57 = .ok (.aload_n 0, 1) := by decide +kernel
theorem d_MO_scan_58 : decode b_MO_scan 58 = .ok (.iload_n 3, 1) := by decide +kernel
theorem d_MO_scan_59 : decode b_MO_scan 59 = .ok (.iload_n 2, 1) := by decide +kernel
theorem d_MO_scan_60 : decode b_MO_scan 60 = .ok (.invokevirtual 120, 3) := by decide +kernel
theorem d_MO_scan_63 : decode b_MO_scan 63 = .ok (.goto 13, 3) := by decide +kernel
theorem d_MO_scan_66 : decode b_MO_scan 66 = .ok (.aload_n 0, 1) := by decide +kernel
theorem d_MO_scan_67 : decode b_MO_scan 67 = .ok (.getfield 32, 3) := by decide +kernel
theorem d_MO_scan_70 : decode b_MO_scan 70 = .ok (.bipush 7, 2) := by decide +kernel
theorem d_MO_scan_72 : decode b_MO_scan 72 = .ok (.iaload, 1) := by decide +kernel
theorem d_MO_scan_73 : decode b_MO_scan 73 = .ok (.bipush 16, 2) := by decide +kernel
theorem d_MO_scan_75 : decode b_MO_scan 75 = .ok (.irem, 1) := by decide +kernel
theorem d_MO_scan_76 : decode b_MO_scan 76 = .ok (.iastore, 1) := by decide +kernel
theorem d_MO_scan_77 : decode b_MO_scan 77 = .ok (.iinc 3 1, 3) := by decide +kernel
theorem d_MO_scan_80 : decode b_MO_scan 80 = .ok (.goto (-46), 3) := by decide +kernel
theorem d_MO_scan_83 : decode b_MO_scan 83 = .ok (.aload_n 0, 1) := by decide +kernel
theorem d_MO_scan_84 : decode b_MO_scan 84 = .ok (.getfield 102, 3) := by decide +kernel
theorem d_MO_scan_87 : decode b_MO_scan 87 = .ok (.istore_n 3, 1) := by decide +kernel
theorem d_MO_scan_88 : decode b_MO_scan 88 = .ok (.aload_n 0, 1) := by decide +kernel
theorem d_MO_scan_89 : decode b_MO_scan 89 = .ok (.aload_n 0, 1) := by decide +kernel
theorem d_MO_scan_90 : decode b_MO_scan 90 = .ok (.getfield 102, 3) := by decide +kernel
theorem d_MO_scan_93 : decode b_MO_scan 93 = .ok (.bipush 31, 2) := by decide +kernel
theorem d_MO_scan_95 : decode b_MO_scan 95 = .ok (.if_icmp .ne 7, 3) := by decide +kernel
theorem d_MO_scan_98 : decode b_MO_scan 98 = .ok (.iconst 0, 1) := by decide +kernel
theorem d_MO_scan_99 : decode b_MO_scan 99 = .ok (.goto 9, 3) := by decide +kernel
theorem d_MO_scan_102 : decode b_MO_scan 102 = .ok (.aload_n 0, 1) := by decide +kernel
theorem d_MO_scan_103 : decode b_MO_scan 103 = .ok (.getfield 102, 3) := by decide +kernel
theorem d_MO_scan_106 : decode b_MO_scan 106 = .ok (.iconst 1, 1) := by decide +kernel
theorem d_MO_scan_107 : decode b_MO_scan 107 = .ok (.iadd, 1) := by decide +kernel
theorem d_MO_scan_108 : decode b_MO_scan 108 = .ok (.putfield 102, 3) := by decide +kernel
theorem d_MO_scan_111 : decode b_MO_scan 111 = .ok (.aload_n 0, 1) := by decide +kernel
theorem d_MO_scan_112 : decode b_MO_scan 112 = .ok (.getfield 102, 3) := by decide +kernel
theorem d_MO_scan_115 : decode b_MO_scan 115 = .ok (.ifCond .ne 15, 3) := by decide +kernel
theorem d_MO_scan_118 : decode b_MO_scan 118 = .ok (.aload_n 0, 1) := by decide +kernel
theorem d_MO_scan_119 : decode b_MO_scan 119 = .ok (.aload_n 0, 1) := by decide +kernel
theorem d_MO_scan_120 : decode b_MO_scan 120 = .ok (.getfield 78, 3) := by decide +kernel
theorem d_MO_scan_123 : decode b_MO_scan 123 = .ok (.sipush 128, 3) := by decide +kernel
theorem d_MO_scan_126 : decode b_MO_scan 126 = .ok (.ior, 1) := by decide +kernel
theorem d_MO_scan_127 : decode b_MO_scan 127 = .ok (.putfield 78, 3) := by decide +kernel
theorem d_MO_scan_130 : decode b_MO_scan 130 = .ok (.iload_n 3, 1) := by decide +kernel
theorem d_MO_scan_131 : decode b_MO_scan 131 = .ok (.ireturn, 1) := by decide +kernel
theorem d_MO_pixel_0 : decode b_MO_pixel 0 = .ok (.aload_n 0, 1) := by decide +kernel
theorem d_MO_pixel_1 : decode b_MO_pixel 1 = .ok (.iconst 0, 1) := by decide +kernel
theorem d_MO_pixel_2 : decode b_MO_pixel 2 = .ok (.putfield 42, 3) := by decide +kernel
theorem d_MO_pixel_5 : decode b_MO_pixel 5 = .ok (.iload_n 1, 1) := by decide +kernel
theorem d_MO_pixel_6 : decode b_MO_pixel 6 = .ok (.iconst 0, 1) := by decide +kernel
theorem d_MO_pixel_7 : decode b_MO_pixel 7 = .ok (.bipush 63, 2) := by decide +kernel
theorem d_MO_pixel_9 : decode b_MO_pixel 9 = .ok (.invokestatic 45, 3) := by decide +kernel
theorem d_MO_pixel_12 : decode b_MO_pixel 12 = .ok (.ifCond .eq 27, 3) := by decide +kernel
theorem d_MO_pixel_15 : decode b_MO_pixel 15 = .ok (.iload_n 2, 1) := by decide +kernel
theorem d_MO_pixel_16 : decode b_MO_pixel 16 = .ok (.iconst 0, 1) := by decide +kernel
theorem d_MO_pixel_17 : decode b_MO_pixel 17 = .ok (.bipush 31, 2) := by decide +kernel
theorem d_MO_pixel_19 : decode b_MO_pixel 19 = .ok (.invokestatic 45, 3) := by decide +kernel
theorem d_MO_pixel_22 : decode b_MO_pixel 22 = .ok (.ifCond .eq 17, 3) := by decide +kernel
theorem d_MO_pixel_25 : decode b_MO_pixel 25 = .ok (.aload_n 0, 1) := by decide +kernel
theorem d_MO_pixel_26 : decode b_MO_pixel 26 = .ok (.getfield 39, 3) := by decide +kernel
theorem d_MO_pixel_29 : decode b_MO_pixel 29 = .ok (.bipush 64, 2) := by decide +kernel
theorem d_MO_pixel_31 : decode b_MO_pixel 31 = .ok (.iload_n 2, 1) := by decide +kernel
theorem d_MO_pixel_32 : decode b_MO_pixel 32 = .ok (.imul, 1) := by decide +kernel
theorem d_MO_pixel_33 : decode b_MO_pixel 33 = .ok (.iload_n 1, 1) := by decide +kernel
theorem d_MO_pixel_34 : decode b_MO_pixel 34 = .ok (.iadd, 1) := by decide +kernel
theorem d_MO_pixel_35 : decode b_MO_pixel 35 = .ok (.iaload, 1) := by decide +kernel
theorem d_MO_pixel_36 : decode b_MO_pixel 36 = .ok (.goto 4, 3) := by decide +kernel
theorem d_MO_pixel_39 : decode b_MO_pixel 39 = .ok (.iconst (-1), 1) := by decide +kernel
theorem d_MO_pixel_40 : decode b_MO_pixel 40 = .ok (.ireturn, 1) := by decide +kernel
theorem d_MO_video_0 : decode b_MO_video 0 = .ok (.aload_n 0, 1) := by decide +kernel
theorem d_MO_video_1 : decode b_MO_video 1 = .ok (.iconst 0, 1) := by decide +kernel
theorem d_MO_video_2 : decode b_MO_video 2 = .ok (.putfield 42, 3) := by decide +kernel
theorem d_MO_video_5 : decode b_MO_video 5 = .ok (.iload_n 1, 1) := by decide +kernel
theorem d_MO_video_6 : decode b_MO_video 6 = .ok (.iconst 0, 1) := by decide +kernel
theorem d_MO_video_7 : decode b_MO_video 7 = .ok (.sipush 511, 3) := by decide +kernel
theorem d_MO_video_10 : decode b_MO_video 10 = .ok (.invokestatic 45, 3) := by decide +kernel
theorem d_MO_video_13 : decode b_MO_video 13 = .ok (.ifCond .eq 12, 3) := by decide +kernel
theorem d_MO_video_16 : decode b_MO_video 16 = .ok (.aload_n 0, 1) := by decide +kernel
theorem d_MO_video_17 : decode b_MO_video 17 = .ok (.getfield 29, 3) := by decide +kernel
theorem d_MO_video_20 : decode b_MO_video 20 = .ok (.iload_n 1, 1) := by decide +kernel
theorem d_MO_video_21 : decode b_MO_video 21 = .ok (.iaload, 1) := by decide +kernel
theorem d_MO_video_22 : decode b_MO_video 22 = .ok (.goto 4, 3) := by decide +kernel
theorem d_MO_video_25 : decode b_MO_video 25 = .ok (.iconst (-1), 1) := by decide +kernel
theorem d_MO_video_26 : decode b_MO_video 26 = .ok (.ireturn, 1) := by decide +kernel
theorem d_MO_chip_0 : decode b_MO_chip 0 = .ok (.aload_n 0, 1) := by decide +kernel
theorem d_MO_chip_1 : decode b_MO_chip 1 = .ok (.iconst 0, 1) := by decide +kernel
theorem d_MO_chip_2 : decode b_MO_chip 2 = .ok (.putfield 42, 3) := by decide +kernel
theorem d_MO_chip_5 : decode b_MO_chip 5 = .ok (.iload_n 1, 1) := by decide +kernel
theorem d_MO_chip_6 : decode b_MO_chip 6 = .ok (.iconst 0, 1) := by decide +kernel
theorem d_MO_chip_7 : decode b_MO_chip 7 = .ok (.bipush 7, 2) := by decide +kernel
theorem d_MO_chip_9 : decode b_MO_chip 9 = .ok (.invokestatic 45, 3) := by decide +kernel
theorem d_MO_chip_12 : decode b_MO_chip 12 = .ok (.ifCond .eq 10, 3) := by decide +kernel
theorem d_MO_chip_15 : decode b_MO_chip 15 = .ok (.aload_n 0, 1) := by decide +kernel
theorem d_MO_chip_16 : decode b_MO_chip 16 = .ok (.getfield 32, 3) := by decide +kernel
theorem d_MO_chip_19 : decode b_MO_chip 19 = .ok (.iload_n 1, 1) := by decide +kernel
theorem d_MO_chip_20 : decode b_MO_chip 20 = .ok (.iaload, 1) := by decide +kernel
theorem d_MO_chip_21 : decode b_MO_chip 21 = .ok (.ireturn, 1) := by decide +kernel
theorem d_MO_chip_22 : decode b_MO_chip 22 = .ok (.iload_n 1, 1) := by decide +kernel
theorem d_MO_chip_23 : decode b_MO_chip 23 = .ok (.bipush 8, 2) := by decide +kernel
theorem d_MO_chip_25 : decode b_MO_chip 25 = .ok (.if_icmp .ne 10, 3) := by decide +kernel
theorem d_MO_chip_28 : decode b_MO_chip 28 = .ok (.aload_n 0, 1) := by decide +kernel
theorem d_MO_chip_29 : decode b_MO_chip 29 = .ok (.getfield 78, 3) := by decide +kernel
theorem d_MO_chip_32 : decode b_MO_chip 32 = .ok (.goto 43, 3) := by decide +kernel
theorem d_MO_chip_35 : decode b_MO_chip 35 = .ok (.iload_n 1, 1) := by decide +kernel
theorem d_MO_chip_36 : decode b_MO_chip 36 = .ok (.bipush 9, 2) := by decide +kernel
theorem d_MO_chip_38 : decode b_MO_chip 38 = .ok (.if_icmp .ne 10, 3) := by decide +kernel
theorem d_MO_chip_41 : decode b_MO_chip 41 = .ok (.aload_n 0, 1) := by decide +kernel
theorem d_MO_chip_42 : decode b_MO_chip 42 = .ok (.getfield 69, 3) := by decide +kernel
theorem d_MO_chip_45 : decode b_MO_chip 45 = .ok (.goto 30, 3) := by decide +kernel
theorem d_MO_chip_48 : decode b_MO_chip 48 = .ok (.iload_n 1, 1) := by decide +kernel
theorem d_MO_chip_49 : decode b_MO_chip 49 = .ok (.bipush 10, 2) := by decide +kernel
theorem d_MO_chip_51 : decode b_MO_chip 51 = .ok (.if_icmp .ne 10, 3) := by decide +kernel
theorem d_MO_chip_54 : decode b_MO_chip 54 = .ok (.aload_n 0, 1) := by decide +kernel
theorem d_MO_chip_55 : decode b_MO_chip 55 = .ok (.getfield 72, 3) := by decide +kernel
theorem d_MO_chip_58 : decode b_MO_chip 58 = .ok (.goto 17, 3) := by decide +kernel
theorem d_MO_chip_61 : decode b_MO_chip 61 = .ok (.iload_n 1, 1) := by decide +kernel
theorem d_MO_chip_62 : decode b_MO_chip 62 = .ok (.bipush 11, 2) := by decide +kernel
theorem d_MO_chip_64 : decode b_MO_chip 64 = .ok (.if_icmp .ne 10, 3) := by decide +kernel
theorem d_MO_chip_67 : decode b_MO_chip 67 = .ok (.aload_n 0, 1) := by decide +kernel
theorem d_MO_chip_68 : decode b_MO_chip 68 = .ok (.getfield 35, 3) := by decide +kernel
theorem d_MO_chip_71 : decode b_MO_chip 71 = .ok (.goto 4, 3) := by decide +kernel
theorem d_MO_chip_74 : decode b_MO_chip 74 = .ok (.iconst (-1), 1) := by decide +kernel
theorem d_MO_chip_75 : decode b_MO_chip 75 = .ok (.ireturn, 1) := by decide +kernel
theorem d_MO_secondary_0 : decode b_MO_secondary 0 = .ok (.aload_n 0, 1) := by decide +kernel
theorem d_MO_secondary_1 : decode b_MO_secondary 1 = .ok (.iconst 0, 1) := by decide +kernel
theorem d_MO_secondary_2 : decode b_MO_secondary 2 = .ok (.putfield 42, 3) := by decide +kernel
theorem d_MO_secondary_5 : decode b_MO_secondary 5 = .ok (.iload_n 1, 1) := by decide +kernel
theorem d_MO_secondary_6 : decode b_MO_secondary 6 = .ok (.iconst 0, 1) := by decide +kernel
theorem d_MO_secondary_7 : decode b_MO_secondary 7 = .ok (.iconst 3, 1) := by decide +kernel
theorem d_MO_secondary_8 : decode b_MO_secondary 8 = .ok (.invokestatic 45, 3) := by decide +kernel
theorem d_MO_secondary_11 : decode b_MO_secondary 11 = .ok (.ifCond .eq 21, 3) := by decide +kernel
theorem d_MO_secondary_14 : decode b_MO_secondary 14 = .ok (.aload_n 0, 1) := by decide +kernel
theorem d_MO_secondary_15 : decode b_MO_secondary 15 = .ok (.getfield 7, 3) := by decide +kernel
theorem d_MO_secondary_18 : decode b_MO_secondary 18 = .ok (.iload_n 1, 1) := by decide +kernel
theorem d_MO_secondary_19 : decode b_MO_secondary 19 = .ok (.baload, 1) := by decide +kernel
theorem d_MO_secondary_20 : decode b_MO_secondary 20 = .ok (.ifCond .eq 12, 3) := by decide +kernel
theorem d_MO_secondary_23 : decode b_MO_secondary 23 = .ok (.aload_n 0, 1) := by decide +kernel
theorem d_MO_secondary_24 : decode b_MO_secondary 24 = .ok (.getfield 13, 3) := by decide +kernel
theorem d_MO_secondary_27 : decode b_MO_secondary 27 = .ok (.iload_n 1, 1) := by decide +kernel
theorem d_MO_secondary_28 : decode b_MO_secondary 28 = .ok (.iaload, 1) := by decide +kernel
theorem d_MO_secondary_29 : decode b_MO_secondary 29 = .ok (.goto 4, 3) := by decide +kernel
theorem d_MO_secondary_32 : decode b_MO_secondary 32 = .ok (.iconst (-1), 1) := by decide +kernel
theorem d_MO_secondary_33 : decode b_MO_secondary 33 = .ok (.ireturn, 1) := by decide +kernel
theorem d_MO_calls_0 : decode b_MO_calls 0 = .ok (.aload_n 0, 1) := by decide +kernel
theorem d_MO_calls_1 : decode b_MO_calls 1 = .ok (.iconst 0, 1) := by decide +kernel
theorem d_MO_calls_2 : decode b_MO_calls 2 = .ok (.putfield 42, 3) := by decide +kernel
theorem d_MO_calls_5 : decode b_MO_calls 5 = .ok (.aload_n 0, 1) := by decide +kernel
theorem d_MO_calls_6 : decode b_MO_calls 6 = .ok (.aload_n 0, 1) := by decide +kernel
theorem d_MO_calls_7 : decode b_MO_calls 7 = .ok (.getfield 32, 3) := by decide +kernel
theorem d_MO_calls_10 : decode b_MO_calls 10 = .ok (.iconst 1, 1) := by decide +kernel
theorem d_MO_calls_11 : decode b_MO_calls 11 = .ok (.iaload, 1) := by decide +kernel
theorem d_MO_calls_12 : decode b_MO_calls 12 = .ok (.iconst 5, 1) := by decide +kernel
theorem d_MO_calls_13 : decode b_MO_calls 13 = .ok (.invokevirtual 88, 3) := by decide +kernel
theorem d_MO_calls_16 : decode b_MO_calls 16 = .ok (.ifCond .eq 16, 3) := by decide +kernel
theorem d_MO_calls_19 : decode b_MO_calls 19 = .ok (.aload_n 0, 1) := by decide +kernel
theorem d_MO_calls_20 : decode b_MO_calls 20 = .ok (.getfield 78, 3) := by decide +kernel
theorem d_MO_calls_23 : decode b_MO_calls 23 = .ok (.bipush 127, 2) := by decide +kernel
theorem d_MO_calls_25 : decode b_MO_calls 25 = .ok (.if_icmp .le 7, 3) := by decide +kernel
theorem d_MO_calls_28 : decode b_MO_calls 28 = .ok (.iconst 1, 1) := by decide +kernel
theorem d_MO_calls_29 : decode b_MO_calls 29 = .ok (.goto 4, 3) := by decide +kernel
theorem d_MO_calls_32 : decode b_MO_calls 32 = .ok (.iconst 0, 1) := by decide +kernel
theorem d_MO_calls_33 : decode b_MO_calls 33 = .ok (.ireturn, 1) := by decide +kernel
