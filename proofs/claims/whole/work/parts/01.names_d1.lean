theorem dX4_garmentOf_57 : decode cX4_garmentOf 57 = .ok (.getfield 10, 3) := by decide +kernel
theorem dX4_garmentOf_60 : decode cX4_garmentOf 60 = .ok (.getfield 136, 3) := by decide +kernel
theorem dX4_garmentOf_63 : decode cX4_garmentOf 63 = .ok (.iload_n 1, 1) := by decide +kernel
theorem dX4_garmentOf_64 : decode cX4_garmentOf 64 = .ok (.iaload, 1) := by decide +kernel
theorem dX4_garmentOf_65 : decode cX4_garmentOf 65 = .ok (.ireturn, 1) := by decide +kernel
theorem dX4_garmentOf_66 : decode cX4_garmentOf 66 = .ok (.aload_n 0, 1) := by decide +kernel
theorem dX4_garmentOf_67 : decode cX4_garmentOf 67 = .ok (.getfield 10, 3) := by decide +kernel
theorem dX4_garmentOf_70 : decode cX4_garmentOf 70 = .ok (.getfield 139, 3) := by decide +kernel
theorem dX4_garmentOf_73 : decode cX4_garmentOf 73 = .ok (.iload_n 1, 1) := by decide +kernel
theorem dX4_garmentOf_74 : decode cX4_garmentOf 74 = .ok (.iaload, 1) := by decide +kernel
theorem dX4_garmentOf_75 : decode cX4_garmentOf 75 = .ok (.ireturn, 1) := by decide +kernel
theorem dX4_garmentOf_76 : decode cX4_garmentOf 76 = .ok (.aload_n 0, 1) := by decide +kernel
theorem dX4_garmentOf_77 : decode cX4_garmentOf 77 = .ok (.getfield 10, 3) := by decide +kernel
theorem dX4_garmentOf_80 : decode cX4_garmentOf 80 = .ok (.getfield 142, 3) := by decide +kernel
theorem dX4_garmentOf_83 : decode cX4_garmentOf 83 = .ok (.iload_n 1, 1) := by decide +kernel
theorem dX4_garmentOf_84 : decode cX4_garmentOf 84 = .ok (.iaload, 1) := by decide +kernel
theorem dX4_garmentOf_85 : decode cX4_garmentOf 85 = .ok (.ireturn, 1) := by decide +kernel
theorem dX4_garmentOf_86 : decode cX4_garmentOf 86 = .ok (.aload_n 0, 1) := by decide +kernel
theorem dX4_garmentOf_87 : decode cX4_garmentOf 87 = .ok (.getfield 10, 3) := by decide +kernel
theorem dX4_garmentOf_90 : decode cX4_garmentOf 90 = .ok (.getfield 145, 3) := by decide +kernel
theorem dX4_garmentOf_93 : decode cX4_garmentOf 93 = .ok (.iload_n 1, 1) := by decide +kernel
theorem dX4_garmentOf_94 : decode cX4_garmentOf 94 = .ok (.iaload, 1) := by decide +kernel
theorem dX4_garmentOf_95 : decode cX4_garmentOf 95 = .ok (.ireturn, 1) := by decide +kernel
theorem dX4_garmentOf_96 : decode cX4_garmentOf 96 = .ok (.aload_n 0, 1) := by decide +kernel
theorem dX4_garmentOf_97 : decode cX4_garmentOf 97 = .ok (.getfield 10, 3) := by decide +kernel
theorem dX4_garmentOf_100 : decode cX4_garmentOf 100 = .ok (.iload_n 1, 1) := by decide +kernel
theorem dX4_garmentOf_101 : decode cX4_garmentOf 101 = .ok (.invokevirtual 148, 3) := by decide +kernel
theorem dX4_garmentOf_104 : decode cX4_garmentOf 104 = .ok (.ireturn, 1) := by decide +kernel
theorem dX4_garmentOf_105 : decode cX4_garmentOf 105 = .ok (.aload_n 0, 1) := by decide +kernel
theorem dX4_garmentOf_106 : decode cX4_garmentOf 106 = .ok (.getfield 10, 3) := by decide +kernel
theorem dX4_garmentOf_109 : decode cX4_garmentOf 109 = .ok (.iload_n 1, 1) := by decide +kernel
theorem dX4_garmentOf_110 : decode cX4_garmentOf 110 = .ok (.invokevirtual 151, 3) := by decide +kernel
theorem dX4_garmentOf_113 : decode cX4_garmentOf 113 = .ok (.ireturn, 1) := by decide +kernel
theorem dX4_garmentOf_114 : decode cX4_garmentOf 114 = .ok (.aload_n 0, 1) := by decide +kernel
theorem dX4_garmentOf_115 : decode cX4_garmentOf 115 = .ok (.iconst 0, 1) := by decide +kernel
theorem dX4_garmentOf_116 : decode cX4_garmentOf 116 = .ok (.invokevirtual 57, 3) := by decide +kernel
theorem dX4_garmentOf_119 : decode cX4_garmentOf 119 = .ok (.ireturn, 1) := by decide +kernel
theorem dX4_sew_0 : decode cX4_sew 0 = .ok (.aload_n 0, 1) := by decide +kernel
theorem dX4_sew_1 : decode cX4_sew 1 = .ok (.getfield 10, 3) := by decide +kernel
theorem dX4_sew_4 : decode cX4_sew 4 = .ok (.iload_n 1, 1) := by decide +kernel
theorem dX4_sew_5 : decode cX4_sew 5 = .ok (.invokevirtual 116, 3) := by decide +kernel
theorem dX4_sew_8 : decode cX4_sew 8 = .ok (.ifCond .ne 9, 3) := by decide +kernel
theorem dX4_sew_11 : decode cX4_sew 11 = .ok (.aload_n 0, 1) := by decide +kernel
theorem dX4_sew_12 : decode cX4_sew 12 = .ok (.iconst 0, 1) := by decide +kernel
theorem dX4_sew_13 : decode cX4_sew 13 = .ok (.invokevirtual 57, 3) := by decide +kernel
theorem dX4_sew_16 : decode cX4_sew 16 = .ok (.ireturn, 1) := by decide +kernel
theorem dX4_sew_17 : decode cX4_sew 17 = .ok (.iload_n 2, 1) := by decide +kernel
theorem dX4_sew_18 : decode cX4_sew 18 = .ok (.tableswitch 111 0 3 #[30, 54, 70, 87], 30) := by decide +kernel
theorem dX4_sew_48 : decode cX4_sew 48 = .ok (.aload_n 0, 1) := by decide +kernel
theorem dX4_sew_49 : decode cX4_sew 49 = .ok (.aload_n 0, 1) := by decide +kernel
theorem dX4_sew_50 : decode cX4_sew 50 = .ok (.getfield 10, 3) := by decide +kernel
theorem dX4_sew_53 : decode cX4_sew 53 = .ok (.getfield 136, 3) := by decide +kernel
theorem dX4_sew_56 : decode cX4_sew 56 = .ok (.iload_n 1, 1) := by decide +kernel
theorem dX4_sew_57 : decode cX4_sew 57 = .ok (.iload_n 3, 1) := by decide +kernel
theorem dX4_sew_58 : decode cX4_sew 58 = .ok (.iconst 0, 1) := by decide +kernel
theorem dX4_sew_59 : decode cX4_sew 59 = .ok (.aload_n 0, 1) := by decide +kernel
theorem dX4_sew_60 : decode cX4_sew 60 = .ok (.getfield 10, 3) := by decide +kernel
theorem dX4_sew_63 : decode cX4_sew 63 = .ok (.getfield 85, 3) := by decide +kernel
theorem dX4_sew_66 : decode cX4_sew 66 = .ok (.iconst 1, 1) := by decide +kernel
theorem dX4_sew_67 : decode cX4_sew 67 = .ok (.isub, 1) := by decide +kernel
theorem dX4_sew_68 : decode cX4_sew 68 = .ok (.invokevirtual 112, 3) := by decide +kernel
theorem dX4_sew_71 : decode cX4_sew 71 = .ok (.ireturn, 1) := by decide +kernel
theorem dX4_sew_72 : decode cX4_sew 72 = .ok (.aload_n 0, 1) := by decide +kernel
theorem dX4_sew_73 : decode cX4_sew 73 = .ok (.aload_n 0, 1) := by decide +kernel
theorem dX4_sew_74 : decode cX4_sew 74 = .ok (.getfield 10, 3) := by decide +kernel
theorem dX4_sew_77 : decode cX4_sew 77 = .ok (.getfield 139, 3) := by decide +kernel
theorem dX4_sew_80 : decode cX4_sew 80 = .ok (.iload_n 1, 1) := by decide +kernel
theorem dX4_sew_81 : decode cX4_sew 81 = .ok (.iload_n 3, 1) := by decide +kernel
theorem dX4_sew_82 : decode cX4_sew 82 = .ok (.iconst 0, 1) := by decide +kernel
theorem dX4_sew_83 : decode cX4_sew 83 = .ok (.iconst 2, 1) := by decide +kernel
theorem dX4_sew_84 : decode cX4_sew 84 = .ok (.invokevirtual 112, 3) := by decide +kernel
theorem dX4_sew_87 : decode cX4_sew 87 = .ok (.ireturn, 1) := by decide +kernel
theorem dX4_sew_88 : decode cX4_sew 88 = .ok (.aload_n 0, 1) := by decide +kernel
theorem dX4_sew_89 : decode cX4_sew 89 = .ok (.aload_n 0, 1) := by decide +kernel
theorem dX4_sew_90 : decode cX4_sew 90 = .ok (.getfield 10, 3) := by decide +kernel
theorem dX4_sew_93 : decode cX4_sew 93 = .ok (.getfield 142, 3) := by decide +kernel
theorem dX4_sew_96 : decode cX4_sew 96 = .ok (.iload_n 1, 1) := by decide +kernel
theorem dX4_sew_97 : decode cX4_sew 97 = .ok (.iload_n 3, 1) := by decide +kernel
theorem dX4_sew_98 : decode cX4_sew 98 = .ok (.iconst 0, 1) := by decide +kernel
theorem dX4_sew_99 : decode cX4_sew 99 = .ok (.bipush 99, 2) := by decide +kernel
theorem dX4_sew_101 : decode cX4_sew 101 = .ok (.invokevirtual 112, 3) := by decide +kernel
theorem dX4_sew_104 : decode cX4_sew 104 = .ok (.ireturn, 1) := by decide +kernel
theorem dX4_sew_105 : decode cX4_sew 105 = .ok (.aload_n 0, 1) := by decide +kernel
theorem dX4_sew_106 : decode cX4_sew 106 = .ok (.aload_n 0, 1) := by decide +kernel
theorem dX4_sew_107 : decode cX4_sew 107 = .ok (.getfield 10, 3) := by decide +kernel
theorem dX4_sew_110 : decode cX4_sew 110 = .ok (.getfield 145, 3) := by decide +kernel
theorem dX4_sew_113 : decode cX4_sew 113 = .ok (.iload_n 1, 1) := by decide +kernel
theorem dX4_sew_114 : decode cX4_sew 114 = .ok (.iload_n 3, 1) := by decide +kernel
theorem dX4_sew_115 : decode cX4_sew 115 = .ok (.iconst (-1), 1) := by decide +kernel
theorem dX4_sew_116 : decode cX4_sew 116 = .ok (.aload_n 0, 1) := by decide +kernel
theorem dX4_sew_117 : decode cX4_sew 117 = .ok (.getfield 10, 3) := by decide +kernel
theorem dX4_sew_120 : decode cX4_sew 120 = .ok (.getfield 85, 3) := by decide +kernel
theorem dX4_sew_123 : decode cX4_sew 123 = .ok (.iconst 1, 1) := by decide +kernel
theorem dX4_sew_124 : decode cX4_sew 124 = .ok (.isub, 1) := by decide +kernel
theorem dX4_sew_125 : decode cX4_sew 125 = .ok (.invokevirtual 112, 3) := by decide +kernel
theorem dX4_sew_128 : decode cX4_sew 128 = .ok (.ireturn, 1) := by decide +kernel
theorem dX4_sew_129 : decode cX4_sew 129 = .ok (.aload_n 0, 1) := by decide +kernel
theorem dX4_sew_130 : decode cX4_sew 130 = .ok (.iconst 0, 1) := by decide +kernel
theorem dX4_sew_131 : decode cX4_sew 131 = .ok (.invokevirtual 57, 3) := by decide +kernel
theorem dX4_sew_134 : decode cX4_sew 134 = .ok (.ireturn, 1) := by decide +kernel
theorem dX4_weeks_0 : decode cX4_weeks 0 = .ok (.iload_n 1, 1) := by decide +kernel
theorem dX4_weeks_1 : decode cX4_weeks 1 = .ok (.iconst 1, 1) := by decide +kernel
theorem dX4_weeks_2 : decode cX4_weeks 2 = .ok (.bipush 60, 2) := by decide +kernel
theorem dX4_weeks_4 : decode cX4_weeks 4 = .ok (.invokestatic 53, 3) := by decide +kernel
theorem dX4_weeks_7 : decode cX4_weeks 7 = .ok (.ifCond .ne 9, 3) := by decide +kernel
theorem dX4_weeks_10 : decode cX4_weeks 10 = .ok (.aload_n 0, 1) := by decide +kernel
theorem dX4_weeks_11 : decode cX4_weeks 11 = .ok (.iconst 0, 1) := by decide +kernel
theorem dX4_weeks_12 : decode cX4_weeks 12 = .ok (.invokevirtual 57, 3) := by decide +kernel
theorem dX4_weeks_15 : decode cX4_weeks 15 = .ok (.ireturn, 1) := by decide +kernel
theorem dX4_weeks_16 : decode cX4_weeks 16 = .ok (.aload_n 0, 1) := by decide +kernel
theorem dX4_weeks_17 : decode cX4_weeks 17 = .ok (.getfield 10, 3) := by decide +kernel
theorem dX4_weeks_20 : decode cX4_weeks 20 = .ok (.getfield 65, 3) := by decide +kernel
theorem dX4_weeks_23 : decode cX4_weeks 23 = .ok (.iload_n 1, 1) := by decide +kernel
theorem dX4_weeks_24 : decode cX4_weeks 24 = .ok (.iadd, 1) := by decide +kernel
theorem dX4_weeks_25 : decode cX4_weeks 25 = .ok (.ldc 154, 2) := by decide +kernel
theorem dX4_weeks_27 : decode cX4_weeks 27 = .ok (.if_icmp .le 9, 3) := by decide +kernel
theorem dX4_weeks_30 : decode cX4_weeks 30 = .ok (.aload_n 0, 1) := by decide +kernel
theorem dX4_weeks_31 : decode cX4_weeks 31 = .ok (.iconst 4, 1) := by decide +kernel
theorem dX4_weeks_32 : decode cX4_weeks 32 = .ok (.invokevirtual 57, 3) := by decide +kernel
theorem dX4_weeks_35 : decode cX4_weeks 35 = .ok (.ireturn, 1) := by decide +kernel
theorem dX4_weeks_36 : decode cX4_weeks 36 = .ok (.aload_n 0, 1) := by decide +kernel
theorem dX4_weeks_37 : decode cX4_weeks 37 = .ok (.getfield 10, 3) := by decide +kernel
theorem dX4_weeks_40 : decode cX4_weeks 40 = .ok (.iload_n 1, 1) := by decide +kernel
theorem dX4_weeks_41 : decode cX4_weeks 41 = .ok (.invokevirtual 155, 3) := by decide +kernel
theorem dX4_weeks_44 : decode cX4_weeks 44 = .ok (.aload_n 0, 1) := by decide +kernel
theorem dX4_weeks_45 : decode cX4_weeks 45 = .ok (.getfield 10, 3) := by decide +kernel
theorem dX4_weeks_48 : decode cX4_weeks 48 = .ok (.invokevirtual 71, 3) := by decide +kernel
theorem dX4_weeks_51 : decode cX4_weeks 51 = .ok (.ireturn, 1) := by decide +kernel
theorem dX4_on_0 : decode cX4_on 0 = .ok (.aload_n 0, 1) := by decide +kernel
theorem dX4_on_1 : decode cX4_on 1 = .ok (.getfield 10, 3) := by decide +kernel
theorem dX4_on_4 : decode cX4_on 4 = .ok (.iload_n 1, 1) := by decide +kernel
theorem dX4_on_5 : decode cX4_on 5 = .ok (.invokevirtual 116, 3) := by decide +kernel
theorem dX4_on_8 : decode cX4_on 8 = .ok (.ifCond .eq 22, 3) := by decide +kernel
theorem dX4_on_11 : decode cX4_on 11 = .ok (.iload_n 2, 1) := by decide +kernel
theorem dX4_on_12 : decode cX4_on 12 = .ok (.iconst 0, 1) := by decide +kernel
theorem dX4_on_13 : decode cX4_on 13 = .ok (.bipush 100, 2) := by decide +kernel
theorem dX4_on_15 : decode cX4_on 15 = .ok (.invokestatic 53, 3) := by decide +kernel
theorem dX4_on_18 : decode cX4_on 18 = .ok (.ifCond .eq 12, 3) := by decide +kernel
theorem dX4_on_21 : decode cX4_on 21 = .ok (.iload_n 3, 1) := by decide +kernel
theorem dX4_on_22 : decode cX4_on 22 = .ok (.iconst 0, 1) := by decide +kernel
theorem dX4_on_23 : decode cX4_on 23 = .ok (.iconst 1, 1) := by decide +kernel
theorem dX4_on_24 : decode cX4_on 24 = .ok (.invokestatic 53, 3) := by decide +kernel
theorem dX4_on_27 : decode cX4_on 27 = .ok (.ifCond .ne 9, 3) := by decide +kernel
theorem dX4_on_30 : decode cX4_on 30 = .ok (.aload_n 0, 1) := by decide +kernel
theorem dX4_on_31 : decode cX4_on 31 = .ok (.iconst 0, 1) := by decide +kernel
theorem dX4_on_32 : decode cX4_on 32 = .ok (.invokevirtual 57, 3) := by decide +kernel
theorem dX4_on_35 : decode cX4_on 35 = .ok (.ireturn, 1) := by decide +kernel
theorem dX4_on_36 : decode cX4_on 36 = .ok (.aload_n 0, 1) := by decide +kernel
theorem dX4_on_37 : decode cX4_on 37 = .ok (.invokevirtual 159, 3) := by decide +kernel
theorem dX4_on_40 : decode cX4_on 40 = .ok (.aload_n 0, 1) := by decide +kernel
theorem dX4_on_41 : decode cX4_on 41 = .ok (.getfield 16, 3) := by decide +kernel
theorem dX4_on_44 : decode cX4_on 44 = .ok (.iload_n 2, 1) := by decide +kernel
theorem dX4_on_45 : decode cX4_on 45 = .ok (.invokevirtual 155, 3) := by decide +kernel
theorem dX4_on_48 : decode cX4_on 48 = .ok (.iload_n 3, 1) := by decide +kernel
theorem dX4_on_49 : decode cX4_on 49 = .ok (.ifCond .ne 15, 3) := by decide +kernel
theorem dX4_on_52 : decode cX4_on 52 = .ok (.aload_n 0, 1) := by decide +kernel
theorem dX4_on_53 : decode cX4_on 53 = .ok (.getfield 16, 3) := by decide +kernel
theorem dX4_on_56 : decode cX4_on 56 = .ok (.getfield 142, 3) := by decide +kernel
theorem dX4_on_59 : decode cX4_on 59 = .ok (.iload_n 1, 1) := by decide +kernel
theorem dX4_on_60 : decode cX4_on 60 = .ok (.iaload, 1) := by decide +kernel
theorem dX4_on_61 : decode cX4_on 61 = .ok (.goto 12, 3) := by decide +kernel
theorem dX4_on_64 : decode cX4_on 64 = .ok (.aload_n 0, 1) := by decide +kernel
theorem dX4_on_65 : decode cX4_on 65 = .ok (.getfield 16, 3) := by decide +kernel
theorem dX4_on_68 : decode cX4_on 68 = .ok (.getfield 145, 3) := by decide +kernel
theorem dX4_on_71 : decode cX4_on 71 = .ok (.iload_n 1, 1) := by decide +kernel
theorem dX4_on_72 : decode cX4_on 72 = .ok (.iaload, 1) := by decide +kernel
theorem dX4_on_73 : decode cX4_on 73 = .ok (.ireturn, 1) := by decide +kernel
theorem dX4_then_0 : decode cX4_then 0 = .ok (.aload_n 0, 1) := by decide +kernel
theorem dX4_then_1 : decode cX4_then 1 = .ok (.getfield 10, 3) := by decide +kernel
theorem dX4_then_4 : decode cX4_then 4 = .ok (.iload_n 1, 1) := by decide +kernel
theorem dX4_then_5 : decode cX4_then 5 = .ok (.invokevirtual 91, 3) := by decide +kernel
theorem dX4_then_8 : decode cX4_then 8 = .ok (.ifCond .eq 13, 3) := by decide +kernel
theorem dX4_then_11 : decode cX4_then 11 = .ok (.iload_n 2, 1) := by decide +kernel
theorem dX4_then_12 : decode cX4_then 12 = .ok (.iconst 0, 1) := by decide +kernel
theorem dX4_then_13 : decode cX4_then 13 = .ok (.bipush 100, 2) := by decide +kernel
theorem dX4_then_15 : decode cX4_then 15 = .ok (.invokestatic 53, 3) := by decide +kernel
theorem dX4_then_18 : decode cX4_then 18 = .ok (.ifCond .ne 9, 3) := by decide +kernel
theorem dX4_then_21 : decode cX4_then 21 = .ok (.aload_n 0, 1) := by decide +kernel
theorem dX4_then_22 : decode cX4_then 22 = .ok (.iconst 0, 1) := by decide +kernel
theorem dX4_then_23 : decode cX4_then 23 = .ok (.invokevirtual 57, 3) := by decide +kernel
theorem dX4_then_26 : decode cX4_then 26 = .ok (.ireturn, 1) := by decide +kernel
theorem dX4_then_27 : decode cX4_then 27 = .ok (.aload_n 0, 1) := by decide +kernel
theorem dX4_then_28 : decode cX4_then 28 = .ok (.invokevirtual 159, 3) := by decide +kernel
theorem dX4_then_31 : decode cX4_then 31 = .ok (.aload_n 0, 1) := by decide +kernel
theorem dX4_then_32 : decode cX4_then 32 = .ok (.getfield 16, 3) := by decide +kernel
theorem dX4_then_35 : decode cX4_then 35 = .ok (.iload_n 2, 1) := by decide +kernel
theorem dX4_then_36 : decode cX4_then 36 = .ok (.invokevirtual 155, 3) := by decide +kernel
theorem dX4_then_39 : decode cX4_then 39 = .ok (.sipush 1000, 3) := by decide +kernel
theorem dX4_then_42 : decode cX4_then 42 = .ok (.aload_n 0, 1) := by decide +kernel
theorem dX4_then_43 : decode cX4_then 43 = .ok (.getfield 16, 3) := by decide +kernel
theorem dX4_then_46 : decode cX4_then 46 = .ok (.getfield 100, 3) := by decide +kernel
theorem dX4_then_49 : decode cX4_then 49 = .ok (.iload_n 1, 1) := by decide +kernel
theorem dX4_then_50 : decode cX4_then 50 = .ok (.iaload, 1) := by decide +kernel
theorem dX4_then_51 : decode cX4_then 51 = .ok (.iadd, 1) := by decide +kernel
theorem dX4_then_52 : decode cX4_then 52 = .ok (.ireturn, 1) := by decide +kernel
theorem dX4_lost_0 : decode cX4_lost 0 = .ok (.aload_n 0, 1) := by decide +kernel
theorem dX4_lost_1 : decode cX4_lost 1 = .ok (.getfield 10, 3) := by decide +kernel
theorem dX4_lost_4 : decode cX4_lost 4 = .ok (.iload_n 1, 1) := by decide +kernel
theorem dX4_lost_5 : decode cX4_lost 5 = .ok (.invokevirtual 116, 3) := by decide +kernel
theorem dX4_lost_8 : decode cX4_lost 8 = .ok (.ifCond .ne 9, 3) := by decide +kernel
theorem dX4_lost_11 : decode cX4_lost 11 = .ok (.aload_n 0, 1) := by decide +kernel
theorem dX4_lost_12 : decode cX4_lost 12 = .ok (.iconst 0, 1) := by decide +kernel
theorem dX4_lost_13 : decode cX4_lost 13 = .ok (.invokevirtual 57, 3) := by decide +kernel
theorem dX4_lost_16 : decode cX4_lost 16 = .ok (.ireturn, 1) := by decide +kernel
theorem dX4_lost_17 : decode cX4_lost 17 = .ok (.aload_n 0, 1) := by decide +kernel
theorem dX4_lost_18 : decode cX4_lost 18 = .ok (.invokevirtual 159, 3) := by decide +kernel
theorem dX4_lost_21 : decode cX4_lost 21 = .ok (.iconst 0, 1) := by decide +kernel
theorem dX4_lost_22 : decode cX4_lost 22 = .ok (.istore_n 2, 1) := by decide +kernel
theorem dX4_lost_23 : decode cX4_lost 23 = .ok (.iload_n 2, 1) := by decide +kernel
theorem dX4_lost_24 : decode cX4_lost 24 = .ok (.bipush 100, 2) := by decide +kernel
theorem dX4_lost_26 : decode cX4_lost 26 = .ok (.if_icmp .gt 30, 3) := by decide +kernel
theorem dX4_lost_29 : decode cX4_lost 29 = .ok (.aload_n 0, 1) := by decide +kernel
theorem dX4_lost_30 : decode cX4_lost 30 = .ok (.getfield 16, 3) := by decide +kernel
theorem dX4_lost_33 : decode cX4_lost 33 = .ok (.iload_n 1, 1) := by decide +kernel
theorem dX4_lost_34 : decode cX4_lost 34 = .ok (.invokevirtual 162, 3) := by decide +kernel
theorem dX4_lost_37 : decode cX4_lost 37 = .ok (.ifCond .ne 5, 3) := by decide +kernel
theorem dX4_lost_40 : decode cX4_lost 40 = .ok (.iload_n 2, 1) := by decide +kernel
theorem dX4_lost_41 : decode cX4_lost 41 = .ok (.ireturn, 1) := by decide +kernel
theorem dX4_lost_42 : decode cX4_lost 42 = .ok (.aload_n 0, 1) := by decide +kernel
theorem dX4_lost_43 : decode cX4_lost 43 = .ok (.getfield 16, 3) := by decide +kernel
theorem dX4_lost_46 : decode cX4_lost 46 = .ok (.iconst 1, 1) := by decide +kernel
theorem dX4_lost_47 : decode cX4_lost 47 = .ok (.invokevirtual 155, 3) := by decide +kernel
theorem dX4_lost_50 : decode cX4_lost 50 = .ok (.iinc 2 1, 3) := by decide +kernel
theorem dX4_lost_53 : decode cX4_lost 53 = .ok (.goto (-30), 3) := by decide +kernel
theorem dX4_lost_56 : decode cX4_lost 56 = .ok (.aload_n 0, 1) := by decide +kernel
theorem dX4_lost_57 : decode cX4_lost 57 = .ok (.iconst 3, 1) := by decide +kernel
theorem dX4_lost_58 : decode cX4_lost 58 = .ok (.invokevirtual 57, 3) := by decide +kernel
theorem dX4_lost_61 : decode cX4_lost 61 = .ok (.ireturn, 1) := by decide +kernel
theorem dX4_comes_0 : decode cX4_comes 0 = .ok (.aload_n 0, 1) := by decide +kernel
theorem dX4_comes_1 : decode cX4_comes 1 = .ok (.getfield 10, 3) := by decide +kernel
theorem dX4_comes_4 : decode cX4_comes 4 = .ok (.iload_n 1, 1) := by decide +kernel
theorem dX4_comes_5 : decode cX4_comes 5 = .ok (.invokevirtual 116, 3) := by decide +kernel
theorem dX4_comes_8 : decode cX4_comes 8 = .ok (.ifCond .eq 14, 3) := by decide +kernel
theorem dX4_comes_11 : decode cX4_comes 11 = .ok (.aload_n 0, 1) := by decide +kernel
theorem dX4_comes_12 : decode cX4_comes 12 = .ok (.getfield 10, 3) := by decide +kernel
theorem dX4_comes_15 : decode cX4_comes 15 = .ok (.iload_n 2, 1) := by decide +kernel
theorem dX4_comes_16 : decode cX4_comes 16 = .ok (.invokevirtual 91, 3) := by decide +kernel
theorem dX4_comes_19 : decode cX4_comes 19 = .ok (.ifCond .ne 9, 3) := by decide +kernel
theorem dX4_comes_22 : decode cX4_comes 22 = .ok (.aload_n 0, 1) := by decide +kernel
theorem dX4_comes_23 : decode cX4_comes 23 = .ok (.iconst 0, 1) := by decide +kernel
theorem dX4_comes_24 : decode cX4_comes 24 = .ok (.invokevirtual 57, 3) := by decide +kernel
theorem dX4_comes_27 : decode cX4_comes 27 = .ok (.ireturn, 1) := by decide +kernel
theorem dX4_comes_28 : decode cX4_comes 28 = .ok (.aload_n 0, 1) := by decide +kernel
theorem dX4_comes_29 : decode cX4_comes 29 = .ok (.invokevirtual 159, 3) := by decide +kernel
theorem dX4_comes_32 : decode cX4_comes 32 = .ok (.iconst 0, 1) := by decide +kernel
theorem dX4_comes_33 : decode cX4_comes 33 = .ok (.istore_n 3, 1) := by decide +kernel
theorem dX4_comes_34 : decode cX4_comes 34 = .ok (.iload_n 3, 1) := by decide +kernel
theorem dX4_comes_35 : decode cX4_comes 35 = .ok (.bipush 100, 2) := by decide +kernel
theorem dX4_comes_37 : decode cX4_comes 37 = .ok (.if_icmp .gt 32, 3) := by decide +kernel
theorem dX4_comes_40 : decode cX4_comes 40 = .ok (.aload_n 0, 1) := by decide +kernel
theorem dX4_comes_41 : decode cX4_comes 41 = .ok (.getfield 16, 3) := by decide +kernel
theorem dX4_comes_44 : decode cX4_comes 44 = .ok (.getfield 145, 3) := by decide +kernel
theorem dX4_comes_47 : decode cX4_comes 47 = .ok (.iload_n 1, 1) := by decide +kernel
theorem dX4_comes_48 : decode cX4_comes 48 = .ok (.iaload, 1) := by decide +kernel
theorem dX4_comes_49 : decode cX4_comes 49 = .ok (.iload_n 2, 1) := by decide +kernel
theorem dX4_comes_50 : decode cX4_comes 50 = .ok (.if_icmp .ne 5, 3) := by decide +kernel
theorem dX4_comes_53 : decode cX4_comes 53 = .ok (.iload_n 3, 1) := by decide +kernel
theorem dX4_comes_54 : decode cX4_comes 54 = .ok (.ireturn, 1) := by decide +kernel
theorem dX4_comes_55 : decode cX4_comes 55 = .ok (.aload_n 0, 1) := by decide +kernel
theorem dX4_comes_56 : decode cX4_comes 56 = .ok (.getfield 16, 3) := by decide +kernel
theorem dX4_comes_59 : decode cX4_comes 59 = .ok (.iconst 1, 1) := by decide +kernel
theorem dX4_comes_60 : decode cX4_comes 60 = .ok (.invokevirtual 155, 3) := by decide +kernel
theorem dX4_comes_63 : decode cX4_comes 63 = .ok (.iinc 3 1, 3) := by decide +kernel
theorem dX4_comes_66 : decode cX4_comes 66 = .ok (.goto (-32), 3) := by decide +kernel
theorem dX4_comes_69 : decode cX4_comes 69 = .ok (.aload_n 0, 1) := by decide +kernel
theorem dX4_comes_70 : decode cX4_comes 70 = .ok (.iconst 3, 1) := by decide +kernel
theorem dX4_comes_71 : decode cX4_comes 71 = .ok (.invokevirtual 57, 3) := by decide +kernel
theorem dX4_comes_74 : decode cX4_comes 74 = .ok (.ireturn, 1) := by decide +kernel
theorem dX4_mark_0 : decode cX4_mark 0 = .ok (.aload_n 0, 1) := by decide +kernel
theorem dX4_mark_1 : decode cX4_mark 1 = .ok (.getfield 10, 3) := by decide +kernel
theorem dX4_mark_4 : decode cX4_mark 4 = .ok (.iload_n 1, 1) := by decide +kernel
theorem dX4_mark_5 : decode cX4_mark 5 = .ok (.invokevirtual 116, 3) := by decide +kernel
theorem dX4_mark_8 : decode cX4_mark 8 = .ok (.ifCond .eq 13, 3) := by decide +kernel
theorem dX4_mark_11 : decode cX4_mark 11 = .ok (.iload_n 2, 1) := by decide +kernel
theorem dX4_mark_12 : decode cX4_mark 12 = .ok (.iconst 1, 1) := by decide +kernel
theorem dX4_mark_13 : decode cX4_mark 13 = .ok (.bipush 40, 2) := by decide +kernel
theorem dX4_mark_15 : decode cX4_mark 15 = .ok (.invokestatic 53, 3) := by decide +kernel
theorem dX4_mark_18 : decode cX4_mark 18 = .ok (.ifCond .ne 9, 3) := by decide +kernel
theorem dX4_mark_21 : decode cX4_mark 21 = .ok (.aload_n 0, 1) := by decide +kernel
theorem dX4_mark_22 : decode cX4_mark 22 = .ok (.iconst 0, 1) := by decide +kernel
theorem dX4_mark_23 : decode cX4_mark 23 = .ok (.invokevirtual 57, 3) := by decide +kernel
theorem dX4_mark_26 : decode cX4_mark 26 = .ok (.ireturn, 1) := by decide +kernel
theorem dX4_mark_27 : decode cX4_mark 27 = .ok (.iconst 0, 1) := by decide +kernel
theorem dX4_mark_28 : decode cX4_mark 28 = .ok (.istore_n 3, 1) := by decide +kernel
theorem dX4_mark_29 : decode cX4_mark 29 = .ok (.iconst (-1), 1) := by decide +kernel
theorem dX4_mark_30 : decode cX4_mark 30 = .ok (.istore 4, 2) := by decide +kernel
theorem dX4_mark_32 : decode cX4_mark 32 = .ok (.iconst 0, 1) := by decide +kernel
theorem dX4_mark_33 : decode cX4_mark 33 = .ok (.istore 5, 2) := by decide +kernel
theorem dX4_mark_35 : decode cX4_mark 35 = .ok (.iload 5, 2) := by decide +kernel
theorem dX4_mark_37 : decode cX4_mark 37 = .ok (.iconst 3, 1) := by decide +kernel
theorem dX4_mark_38 : decode cX4_mark 38 = .ok (.if_icmp .ge 49, 3) := by decide +kernel
theorem dX4_mark_41 : decode cX4_mark 41 = .ok (.aload_n 0, 1) := by decide +kernel
theorem dX4_mark_42 : decode cX4_mark 42 = .ok (.invokevirtual 159, 3) := by decide +kernel
theorem dX4_mark_45 : decode cX4_mark 45 = .ok (.aload_n 0, 1) := by decide +kernel
theorem dX4_mark_46 : decode cX4_mark 46 = .ok (.getfield 16, 3) := by decide +kernel
theorem dX4_mark_49 : decode cX4_mark 49 = .ok (.getfield 139, 3) := by decide +kernel
theorem dX4_mark_52 : decode cX4_mark 52 = .ok (.iload_n 1, 1) := by decide +kernel
theorem dX4_mark_53 : decode cX4_mark 53 = .ok (.iload 5, 2) := by decide +kernel
theorem dX4_mark_55 : decode cX4_mark 55 = .ok (.iastore, 1) := by decide +kernel
theorem dX4_mark_56 : decode cX4_mark 56 = .ok (.aload_n 0, 1) := by decide +kernel
theorem dX4_mark_57 : decode cX4_mark 57 = .ok (.getfield 16, 3) := by decide +kernel
theorem dX4_mark_60 : decode cX4_mark 60 = .ok (.iload_n 1, 1) := by decide +kernel
theorem dX4_mark_61 : decode cX4_mark 61 = .ok (.iload_n 2, 1) := by decide +kernel
theorem dX4_mark_62 : decode cX4_mark 62 = .ok (.invokevirtual 165, 3) := by decide +kernel
theorem dX4_mark_65 : decode cX4_mark 65 = .ok (.istore 6, 2) := by decide +kernel
theorem dX4_mark_67 : decode cX4_mark 67 = .ok (.iload 6, 2) := by decide +kernel
theorem dX4_mark_69 : decode cX4_mark 69 = .ok (.iload 4, 2) := by decide +kernel
theorem dX4_mark_71 : decode cX4_mark 71 = .ok (.if_icmp .le 10, 3) := by decide +kernel
theorem dX4_mark_74 : decode cX4_mark 74 = .ok (.iload 6, 2) := by decide +kernel
theorem dX4_mark_76 : decode cX4_mark 76 = .ok (.istore 4, 2) := by decide +kernel
theorem dX4_mark_78 : decode cX4_mark 78 = .ok (.iload 5, 2) := by decide +kernel
theorem dX4_mark_80 : decode cX4_mark 80 = .ok (.istore_n 3, 1) := by decide +kernel
theorem dX4_mark_81 : decode cX4_mark 81 = .ok (.iinc 5 1, 3) := by decide +kernel
theorem dX4_mark_84 : decode cX4_mark 84 = .ok (.goto (-49), 3) := by decide +kernel
theorem dX4_mark_87 : decode cX4_mark 87 = .ok (.iload_n 3, 1) := by decide +kernel
theorem dX4_mark_88 : decode cX4_mark 88 = .ok (.ireturn, 1) := by decide +kernel
theorem dX4_kind_0 : decode cX4_kind 0 = .ok (.aload_n 0, 1) := by decide +kernel
theorem dX4_kind_1 : decode cX4_kind 1 = .ok (.getfield 10, 3) := by decide +kernel
theorem dX4_kind_4 : decode cX4_kind 4 = .ok (.iload_n 1, 1) := by decide +kernel
theorem dX4_kind_5 : decode cX4_kind 5 = .ok (.invokevirtual 91, 3) := by decide +kernel
theorem dX4_kind_8 : decode cX4_kind 8 = .ok (.ifCond .eq 13, 3) := by decide +kernel
theorem dX4_kind_11 : decode cX4_kind 11 = .ok (.iload_n 2, 1) := by decide +kernel
theorem dX4_kind_12 : decode cX4_kind 12 = .ok (.iconst 1, 1) := by decide +kernel
theorem dX4_kind_13 : decode cX4_kind 13 = .ok (.bipush 60, 2) := by decide +kernel
theorem dX4_kind_15 : decode cX4_kind 15 = .ok (.invokestatic 53, 3) := by decide +kernel
theorem dX4_kind_18 : decode cX4_kind 18 = .ok (.ifCond .ne 9, 3) := by decide +kernel
theorem dX4_kind_21 : decode cX4_kind 21 = .ok (.aload_n 0, 1) := by decide +kernel
theorem dX4_kind_22 : decode cX4_kind 22 = .ok (.iconst 0, 1) := by decide +kernel
theorem dX4_kind_23 : decode cX4_kind 23 = .ok (.invokevirtual 57, 3) := by decide +kernel
theorem dX4_kind_26 : decode cX4_kind 26 = .ok (.ireturn, 1) := by decide +kernel
theorem dX4_kind_27 : decode cX4_kind 27 = .ok (.iconst 0, 1) := by decide +kernel
theorem dX4_kind_28 : decode cX4_kind 28 = .ok (.istore_n 3, 1) := by decide +kernel
theorem dX4_kind_29 : decode cX4_kind 29 = .ok (.iconst (-1), 1) := by decide +kernel
theorem dX4_kind_30 : decode cX4_kind 30 = .ok (.istore 4, 2) := by decide +kernel
theorem dX4_kind_32 : decode cX4_kind 32 = .ok (.iconst 0, 1) := by decide +kernel
theorem dX4_kind_33 : decode cX4_kind 33 = .ok (.istore 5, 2) := by decide +kernel
theorem dX4_kind_35 : decode cX4_kind 35 = .ok (.iload 5, 2) := by decide +kernel
theorem dX4_kind_37 : decode cX4_kind 37 = .ok (.bipush 6, 2) := by decide +kernel
theorem dX4_kind_39 : decode cX4_kind 39 = .ok (.if_icmp .ge 67, 3) := by decide +kernel
theorem dX4_kind_42 : decode cX4_kind 42 = .ok (.aload_n 0, 1) := by decide +kernel
theorem dX4_kind_43 : decode cX4_kind 43 = .ok (.invokevirtual 159, 3) := by decide +kernel
theorem dX4_kind_46 : decode cX4_kind 46 = .ok (.aload_n 0, 1) := by decide +kernel
theorem dX4_kind_47 : decode cX4_kind 47 = .ok (.getfield 16, 3) := by decide +kernel
theorem dX4_kind_50 : decode cX4_kind 50 = .ok (.getfield 94, 3) := by decide +kernel
theorem dX4_kind_53 : decode cX4_kind 53 = .ok (.iload_n 1, 1) := by decide +kernel
theorem dX4_kind_54 : decode cX4_kind 54 = .ok (.iload 5, 2) := by decide +kernel
theorem dX4_kind_56 : decode cX4_kind 56 = .ok (.iastore, 1) := by decide +kernel
theorem dX4_kind_57 : decode cX4_kind 57 = .ok (.aload_n 0, 1) := by decide +kernel
theorem dX4_kind_58 : decode cX4_kind 58 = .ok (.getfield 16, 3) := by decide +kernel
theorem dX4_kind_61 : decode cX4_kind 61 = .ok (.iload_n 2, 1) := by decide +kernel
theorem dX4_kind_62 : decode cX4_kind 62 = .ok (.invokevirtual 155, 3) := by decide +kernel
theorem dX4_kind_65 : decode cX4_kind 65 = .ok (.aload_n 0, 1) := by decide +kernel
theorem dX4_kind_66 : decode cX4_kind 66 = .ok (.getfield 16, 3) := by decide +kernel
theorem dX4_kind_69 : decode cX4_kind 69 = .ok (.invokevirtual 71, 3) := by decide +kernel
theorem dX4_kind_72 : decode cX4_kind 72 = .ok (.aload_n 0, 1) := by decide +kernel
theorem dX4_kind_73 : decode cX4_kind 73 = .ok (.getfield 16, 3) := by decide +kernel
theorem dX4_kind_76 : decode cX4_kind 76 = .ok (.iload_n 1, 1) := by decide +kernel
theorem dX4_kind_77 : decode cX4_kind 77 = .ok (.invokevirtual 68, 3) := by decide +kernel
theorem dX4_kind_80 : decode cX4_kind 80 = .ok (.iand, 1) := by decide +kernel
theorem dX4_kind_81 : decode cX4_kind 81 = .ok (.invokestatic 168, 3) := by decide +kernel
theorem dX4_kind_84 : decode cX4_kind 84 = .ok (.istore 6, 2) := by decide +kernel
theorem dX4_kind_86 : decode cX4_kind 86 = .ok (.iload 6, 2) := by decide +kernel
theorem dX4_kind_88 : decode cX4_kind 88 = .ok (.iload 4, 2) := by decide +kernel
theorem dX4_kind_90 : decode cX4_kind 90 = .ok (.if_icmp .le 10, 3) := by decide +kernel
theorem dX4_kind_93 : decode cX4_kind 93 = .ok (.iload 6, 2) := by decide +kernel
theorem dX4_kind_95 : decode cX4_kind 95 = .ok (.istore 4, 2) := by decide +kernel
theorem dX4_kind_97 : decode cX4_kind 97 = .ok (.iload 5, 2) := by decide +kernel
theorem dX4_kind_99 : decode cX4_kind 99 = .ok (.istore_n 3, 1) := by decide +kernel
theorem dX4_kind_100 : decode cX4_kind 100 = .ok (.iinc 5 1, 3) := by decide +kernel
theorem dX4_kind_103 : decode cX4_kind 103 = .ok (.goto (-68), 3) := by decide +kernel
theorem dX4_kind_106 : decode cX4_kind 106 = .ok (.iload_n 3, 1) := by decide +kernel
theorem dX4_kind_107 : decode cX4_kind 107 = .ok (.ireturn, 1) := by decide +kernel
theorem dX4_warmest_0 : decode cX4_warmest 0 = .ok (.aload_n 0, 1) := by decide +kernel
theorem dX4_warmest_1 : decode cX4_warmest 1 = .ok (.getfield 10, 3) := by decide +kernel
theorem dX4_warmest_4 : decode cX4_warmest 4 = .ok (.iload_n 1, 1) := by decide +kernel
theorem dX4_warmest_5 : decode cX4_warmest 5 = .ok (.invokevirtual 116, 3) := by decide +kernel
theorem dX4_warmest_8 : decode cX4_warmest 8 = .ok (.ifCond .eq 13, 3) := by decide +kernel
theorem dX4_warmest_11 : decode cX4_warmest 11 = .ok (.iload_n 2, 1) := by decide +kernel
theorem dX4_warmest_12 : decode cX4_warmest 12 = .ok (.iconst 1, 1) := by decide +kernel
theorem dX4_warmest_13 : decode cX4_warmest 13 = .ok (.bipush 40, 2) := by decide +kernel
theorem dX4_warmest_15 : decode cX4_warmest 15 = .ok (.invokestatic 53, 3) := by decide +kernel
theorem dX4_warmest_18 : decode cX4_warmest 18 = .ok (.ifCond .ne 9, 3) := by decide +kernel
theorem dX4_warmest_21 : decode cX4_warmest 21 = .ok (.aload_n 0, 1) := by decide +kernel
theorem dX4_warmest_22 : decode cX4_warmest 22 = .ok (.iconst 0, 1) := by decide +kernel
theorem dX4_warmest_23 : decode cX4_warmest 23 = .ok (.invokevirtual 57, 3) := by decide +kernel
theorem dX4_warmest_26 : decode cX4_warmest 26 = .ok (.ireturn, 1) := by decide +kernel
theorem dX4_warmest_27 : decode cX4_warmest 27 = .ok (.bipush 90, 2) := by decide +kernel
theorem dX4_warmest_29 : decode cX4_warmest 29 = .ok (.istore_n 3, 1) := by decide +kernel
theorem dX4_warmest_30 : decode cX4_warmest 30 = .ok (.iload_n 3, 1) := by decide +kernel
theorem dX4_warmest_31 : decode cX4_warmest 31 = .ok (.bipush 20, 2) := by decide +kernel
theorem dX4_warmest_33 : decode cX4_warmest 33 = .ok (.if_icmp .lt 42, 3) := by decide +kernel
theorem dX4_warmest_36 : decode cX4_warmest 36 = .ok (.aload_n 0, 1) := by decide +kernel
theorem dX4_warmest_37 : decode cX4_warmest 37 = .ok (.invokevirtual 159, 3) := by decide +kernel
theorem dX4_warmest_40 : decode cX4_warmest 40 = .ok (.aload_n 0, 1) := by decide +kernel
theorem dX4_warmest_41 : decode cX4_warmest 41 = .ok (.getfield 16, 3) := by decide +kernel
theorem dX4_warmest_44 : decode cX4_warmest 44 = .ok (.iload_n 3, 1) := by decide +kernel
theorem dX4_warmest_45 : decode cX4_warmest 45 = .ok (.putfield 61, 3) := by decide +kernel
theorem dX4_warmest_48 : decode cX4_warmest 48 = .ok (.aload_n 0, 1) := by decide +kernel
theorem dX4_warmest_49 : decode cX4_warmest 49 = .ok (.getfield 16, 3) := by decide +kernel
theorem dX4_warmest_52 : decode cX4_warmest 52 = .ok (.iload_n 2, 1) := by decide +kernel
theorem dX4_warmest_53 : decode cX4_warmest 53 = .ok (.invokevirtual 155, 3) := by decide +kernel
theorem dX4_warmest_56 : decode cX4_warmest 56 = .ok (.aload_n 0, 1) := by decide +kernel
theorem dX4_warmest_57 : decode cX4_warmest 57 = .ok (.getfield 16, 3) := by decide +kernel
theorem dX4_warmest_60 : decode cX4_warmest 60 = .ok (.iload_n 1, 1) := by decide +kernel
theorem dX4_warmest_61 : decode cX4_warmest 61 = .ok (.invokevirtual 162, 3) := by decide +kernel
theorem dX4_warmest_64 : decode cX4_warmest 64 = .ok (.ifCond .eq 5, 3) := by decide +kernel
theorem dX4_warmest_67 : decode cX4_warmest 67 = .ok (.iload_n 3, 1) := by decide +kernel
theorem dX4_warmest_68 : decode cX4_warmest 68 = .ok (.ireturn, 1) := by decide +kernel
theorem dX4_warmest_69 : decode cX4_warmest 69 = .ok (.iinc 3 (-1), 3) := by decide +kernel
theorem dX4_warmest_72 : decode cX4_warmest 72 = .ok (.goto (-42), 3) := by decide +kernel
theorem dX4_warmest_75 : decode cX4_warmest 75 = .ok (.aload_n 0, 1) := by decide +kernel
theorem dX4_warmest_76 : decode cX4_warmest 76 = .ok (.iconst 3, 1) := by decide +kernel
theorem dX4_warmest_77 : decode cX4_warmest 77 = .ok (.invokevirtual 57, 3) := by decide +kernel
theorem dX4_warmest_80 : decode cX4_warmest 80 = .ok (.ireturn, 1) := by decide +kernel
theorem dX4_plain_0 : decode cX4_plain 0 = .ok (.aload_n 0, 1) := by decide +kernel
theorem dX4_plain_1 : decode cX4_plain 1 = .ok (.getfield 10, 3) := by decide +kernel
theorem dX4_plain_4 : decode cX4_plain 4 = .ok (.iload_n 1, 1) := by decide +kernel
theorem dX4_plain_5 : decode cX4_plain 5 = .ok (.invokevirtual 116, 3) := by decide +kernel
theorem dX4_plain_8 : decode cX4_plain 8 = .ok (.ifCond .eq 13, 3) := by decide +kernel
theorem dX4_plain_11 : decode cX4_plain 11 = .ok (.iload_n 2, 1) := by decide +kernel
theorem dX4_plain_12 : decode cX4_plain 12 = .ok (.iconst 1, 1) := by decide +kernel
theorem dX4_plain_13 : decode cX4_plain 13 = .ok (.bipush 60, 2) := by decide +kernel
theorem dX4_plain_15 : decode cX4_plain 15 = .ok (.invokestatic 53, 3) := by decide +kernel
theorem dX4_plain_18 : decode cX4_plain 18 = .ok (.ifCond .ne 9, 3) := by decide +kernel
theorem dX4_plain_21 : decode cX4_plain 21 = .ok (.aload_n 0, 1) := by decide +kernel
theorem dX4_plain_22 : decode cX4_plain 22 = .ok (.iconst 0, 1) := by decide +kernel
theorem dX4_plain_23 : decode cX4_plain 23 = .ok (.invokevirtual 57, 3) := by decide +kernel
theorem dX4_plain_26 : decode cX4_plain 26 = .ok (.ireturn, 1) := by decide +kernel
theorem dX4_plain_27 : decode cX4_plain 27 = .ok (.iconst 0, 1) := by decide +kernel
theorem dX4_plain_28 : decode cX4_plain 28 = .ok (.istore_n 3, 1) := by decide +kernel
theorem dX4_plain_29 : decode cX4_plain 29 = .ok (.iload_n 3, 1) := by decide +kernel
theorem dX4_plain_30 : decode cX4_plain 30 = .ok (.bipush 99, 2) := by decide +kernel
theorem dX4_plain_32 : decode cX4_plain 32 = .ok (.if_icmp .gt 44, 3) := by decide +kernel
theorem dX4_plain_35 : decode cX4_plain 35 = .ok (.aload_n 0, 1) := by decide +kernel
theorem dX4_plain_36 : decode cX4_plain 36 = .ok (.invokevirtual 159, 3) := by decide +kernel
theorem dX4_plain_39 : decode cX4_plain 39 = .ok (.aload_n 0, 1) := by decide +kernel
theorem dX4_plain_40 : decode cX4_plain 40 = .ok (.getfield 16, 3) := by decide +kernel
theorem dX4_plain_43 : decode cX4_plain 43 = .ok (.getfield 142, 3) := by decide +kernel
theorem dX4_plain_46 : decode cX4_plain 46 = .ok (.iload_n 1, 1) := by decide +kernel
theorem dX4_plain_47 : decode cX4_plain 47 = .ok (.iload_n 3, 1) := by decide +kernel
theorem dX4_plain_48 : decode cX4_plain 48 = .ok (.iastore, 1) := by decide +kernel
theorem dX4_plain_49 : decode cX4_plain 49 = .ok (.aload_n 0, 1) := by decide +kernel
theorem dX4_plain_50 : decode cX4_plain 50 = .ok (.getfield 16, 3) := by decide +kernel
theorem dX4_plain_53 : decode cX4_plain 53 = .ok (.iload_n 2, 1) := by decide +kernel
theorem dX4_plain_54 : decode cX4_plain 54 = .ok (.invokevirtual 155, 3) := by decide +kernel
theorem dX4_plain_57 : decode cX4_plain 57 = .ok (.aload_n 0, 1) := by decide +kernel
theorem dX4_plain_58 : decode cX4_plain 58 = .ok (.getfield 16, 3) := by decide +kernel
theorem dX4_plain_61 : decode cX4_plain 61 = .ok (.iload_n 1, 1) := by decide +kernel
theorem dX4_plain_62 : decode cX4_plain 62 = .ok (.invokevirtual 162, 3) := by decide +kernel
theorem dX4_plain_65 : decode cX4_plain 65 = .ok (.ifCond .eq 5, 3) := by decide +kernel
theorem dX4_plain_68 : decode cX4_plain 68 = .ok (.iload_n 3, 1) := by decide +kernel
theorem dX4_plain_69 : decode cX4_plain 69 = .ok (.ireturn, 1) := by decide +kernel
theorem dX4_plain_70 : decode cX4_plain 70 = .ok (.iinc 3 1, 3) := by decide +kernel
theorem dX4_plain_73 : decode cX4_plain 73 = .ok (.goto (-44), 3) := by decide +kernel
theorem dX4_plain_76 : decode cX4_plain 76 = .ok (.aload_n 0, 1) := by decide +kernel
theorem dX4_plain_77 : decode cX4_plain 77 = .ok (.iconst 3, 1) := by decide +kernel
theorem dX4_plain_78 : decode cX4_plain 78 = .ok (.invokevirtual 57, 3) := by decide +kernel
theorem dX4_plain_81 : decode cX4_plain 81 = .ok (.ireturn, 1) := by decide +kernel
theorem dX4_teach_0 : decode cX4_teach 0 = .ok (.iload_n 1, 1) := by decide +kernel
theorem dX4_teach_1 : decode cX4_teach 1 = .ok (.iconst 1, 1) := by decide +kernel
theorem dX4_teach_2 : decode cX4_teach 2 = .ok (.bipush 60, 2) := by decide +kernel
theorem dX4_teach_4 : decode cX4_teach 4 = .ok (.invokestatic 53, 3) := by decide +kernel
theorem dX4_teach_7 : decode cX4_teach 7 = .ok (.ifCond .ne 9, 3) := by decide +kernel
theorem dX4_teach_10 : decode cX4_teach 10 = .ok (.aload_n 0, 1) := by decide +kernel
theorem dX4_teach_11 : decode cX4_teach 11 = .ok (.iconst 0, 1) := by decide +kernel
theorem dX4_teach_12 : decode cX4_teach 12 = .ok (.invokevirtual 57, 3) := by decide +kernel
theorem dX4_teach_15 : decode cX4_teach 15 = .ok (.ireturn, 1) := by decide +kernel
theorem dX4_teach_16 : decode cX4_teach 16 = .ok (.aload_n 0, 1) := by decide +kernel
theorem dX4_teach_17 : decode cX4_teach 17 = .ok (.getfield 10, 3) := by decide +kernel
theorem dX4_teach_20 : decode cX4_teach 20 = .ok (.getfield 85, 3) := by decide +kernel
theorem dX4_teach_23 : decode cX4_teach 23 = .ok (.ifCond .ne 9, 3) := by decide +kernel
theorem dX4_teach_26 : decode cX4_teach 26 = .ok (.aload_n 0, 1) := by decide +kernel
theorem dX4_teach_27 : decode cX4_teach 27 = .ok (.iconst 3, 1) := by decide +kernel
theorem dX4_teach_28 : decode cX4_teach 28 = .ok (.invokevirtual 57, 3) := by decide +kernel
theorem dX4_teach_31 : decode cX4_teach 31 = .ok (.ireturn, 1) := by decide +kernel
theorem dX4_teach_32 : decode cX4_teach 32 = .ok (.iconst 0, 1) := by decide +kernel
theorem dX4_teach_33 : decode cX4_teach 33 = .ok (.istore_n 2, 1) := by decide +kernel
theorem dX4_teach_34 : decode cX4_teach 34 = .ok (.iconst (-1), 1) := by decide +kernel
theorem dX4_teach_35 : decode cX4_teach 35 = .ok (.istore_n 3, 1) := by decide +kernel
theorem dX4_teach_36 : decode cX4_teach 36 = .ok (.iconst 0, 1) := by decide +kernel
theorem dX4_teach_37 : decode cX4_teach 37 = .ok (.istore 4, 2) := by decide +kernel
theorem dX4_teach_39 : decode cX4_teach 39 = .ok (.iload 4, 2) := by decide +kernel
theorem dX4_teach_41 : decode cX4_teach 41 = .ok (.aload_n 0, 1) := by decide +kernel
theorem dX4_teach_42 : decode cX4_teach 42 = .ok (.getfield 10, 3) := by decide +kernel
theorem dX4_teach_45 : decode cX4_teach 45 = .ok (.getfield 85, 3) := by decide +kernel
theorem dX4_teach_48 : decode cX4_teach 48 = .ok (.if_icmp .ge 56, 3) := by decide +kernel
theorem dX4_teach_51 : decode cX4_teach 51 = .ok (.aload_n 0, 1) := by decide +kernel
theorem dX4_teach_52 : decode cX4_teach 52 = .ok (.invokevirtual 159, 3) := by decide +kernel
theorem dX4_teach_55 : decode cX4_teach 55 = .ok (.aload_n 0, 1) := by decide +kernel
theorem dX4_teach_56 : decode cX4_teach 56 = .ok (.getfield 16, 3) := by decide +kernel
theorem dX4_teach_59 : decode cX4_teach 59 = .ok (.getfield 94, 3) := by decide +kernel
theorem dX4_teach_62 : decode cX4_teach 62 = .ok (.iload 4, 2) := by decide +kernel
theorem dX4_teach_64 : decode cX4_teach 64 = .ok (.iconst 1, 1) := by decide +kernel
theorem dX4_teach_65 : decode cX4_teach 65 = .ok (.iastore, 1) := by decide +kernel
theorem dX4_teach_66 : decode cX4_teach 66 = .ok (.aload_n 0, 1) := by decide +kernel
theorem dX4_teach_67 : decode cX4_teach 67 = .ok (.getfield 16, 3) := by decide +kernel
theorem dX4_teach_70 : decode cX4_teach 70 = .ok (.iload_n 1, 1) := by decide +kernel
theorem dX4_teach_71 : decode cX4_teach 71 = .ok (.invokevirtual 155, 3) := by decide +kernel
theorem dX4_teach_74 : decode cX4_teach 74 = .ok (.aload_n 0, 1) := by decide +kernel
theorem dX4_teach_75 : decode cX4_teach 75 = .ok (.getfield 16, 3) := by decide +kernel
theorem dX4_teach_78 : decode cX4_teach 78 = .ok (.invokevirtual 71, 3) := by decide +kernel
theorem dX4_teach_81 : decode cX4_teach 81 = .ok (.invokestatic 168, 3) := by decide +kernel
theorem dX4_teach_84 : decode cX4_teach 84 = .ok (.istore 5, 2) := by decide +kernel
theorem dX4_teach_86 : decode cX4_teach 86 = .ok (.iload 5, 2) := by decide +kernel
theorem dX4_teach_88 : decode cX4_teach 88 = .ok (.iload_n 3, 1) := by decide +kernel
theorem dX4_teach_89 : decode cX4_teach 89 = .ok (.if_icmp .le 9, 3) := by decide +kernel
theorem dX4_teach_92 : decode cX4_teach 92 = .ok (.iload 5, 2) := by decide +kernel
theorem dX4_teach_94 : decode cX4_teach 94 = .ok (.istore_n 3, 1) := by decide +kernel
theorem dX4_teach_95 : decode cX4_teach 95 = .ok (.iload 4, 2) := by decide +kernel
theorem dX4_teach_97 : decode cX4_teach 97 = .ok (.istore_n 2, 1) := by decide +kernel
theorem dX4_teach_98 : decode cX4_teach 98 = .ok (.iinc 4 1, 3) := by decide +kernel
theorem dX4_teach_101 : decode cX4_teach 101 = .ok (.goto (-62), 3) := by decide +kernel
theorem dX4_teach_104 : decode cX4_teach 104 = .ok (.iload_n 2, 1) := by decide +kernel
theorem dX4_teach_105 : decode cX4_teach 105 = .ok (.ireturn, 1) := by decide +kernel
theorem dX4_best_0 : decode cX4_best 0 = .ok (.iload_n 1, 1) := by decide +kernel
theorem dX4_best_1 : decode cX4_best 1 = .ok (.iconst 0, 1) := by decide +kernel
theorem dX4_best_2 : decode cX4_best 2 = .ok (.bipush 100, 2) := by decide +kernel
theorem dX4_best_4 : decode cX4_best 4 = .ok (.invokestatic 53, 3) := by decide +kernel
theorem dX4_best_7 : decode cX4_best 7 = .ok (.ifCond .ne 9, 3) := by decide +kernel
theorem dX4_best_10 : decode cX4_best 10 = .ok (.aload_n 0, 1) := by decide +kernel
theorem dX4_best_11 : decode cX4_best 11 = .ok (.iconst 0, 1) := by decide +kernel
theorem dX4_best_12 : decode cX4_best 12 = .ok (.invokevirtual 57, 3) := by decide +kernel
theorem dX4_best_15 : decode cX4_best 15 = .ok (.ireturn, 1) := by decide +kernel
theorem dX4_best_16 : decode cX4_best 16 = .ok (.aload_n 0, 1) := by decide +kernel
theorem dX4_best_17 : decode cX4_best 17 = .ok (.getfield 10, 3) := by decide +kernel
theorem dX4_best_20 : decode cX4_best 20 = .ok (.getfield 85, 3) := by decide +kernel
theorem dX4_best_23 : decode cX4_best 23 = .ok (.ifCond .ne 9, 3) := by decide +kernel
theorem dX4_best_26 : decode cX4_best 26 = .ok (.aload_n 0, 1) := by decide +kernel
theorem dX4_best_27 : decode cX4_best 27 = .ok (.iconst 3, 1) := by decide +kernel
theorem dX4_best_28 : decode cX4_best 28 = .ok (.invokevirtual 57, 3) := by decide +kernel
theorem dX4_best_31 : decode cX4_best 31 = .ok (.ireturn, 1) := by decide +kernel
theorem dX4_best_32 : decode cX4_best 32 = .ok (.aload_n 0, 1) := by decide +kernel
theorem dX4_best_33 : decode cX4_best 33 = .ok (.invokevirtual 159, 3) := by decide +kernel
theorem dX4_best_36 : decode cX4_best 36 = .ok (.aload_n 0, 1) := by decide +kernel
theorem dX4_best_37 : decode cX4_best 37 = .ok (.getfield 16, 3) := by decide +kernel
theorem dX4_best_40 : decode cX4_best 40 = .ok (.iload_n 1, 1) := by decide +kernel
theorem dX4_best_41 : decode cX4_best 41 = .ok (.invokevirtual 155, 3) := by decide +kernel
theorem dX4_best_44 : decode cX4_best 44 = .ok (.iconst 0, 1) := by decide +kernel
theorem dX4_best_45 : decode cX4_best 45 = .ok (.istore_n 2, 1) := by decide +kernel
theorem dX4_best_46 : decode cX4_best 46 = .ok (.iconst 1, 1) := by decide +kernel
theorem dX4_best_47 : decode cX4_best 47 = .ok (.istore_n 3, 1) := by decide +kernel
theorem dX4_best_48 : decode cX4_best 48 = .ok (.iload_n 3, 1) := by decide +kernel
theorem dX4_best_49 : decode cX4_best 49 = .ok (.aload_n 0, 1) := by decide +kernel
theorem dX4_best_50 : decode cX4_best 50 = .ok (.getfield 16, 3) := by decide +kernel
theorem dX4_best_53 : decode cX4_best 53 = .ok (.getfield 85, 3) := by decide +kernel
theorem dX4_best_56 : decode cX4_best 56 = .ok (.if_icmp .ge 32, 3) := by decide +kernel
theorem dX4_best_59 : decode cX4_best 59 = .ok (.aload_n 0, 1) := by decide +kernel
theorem dX4_best_60 : decode cX4_best 60 = .ok (.getfield 16, 3) := by decide +kernel
theorem dX4_best_63 : decode cX4_best 63 = .ok (.getfield 100, 3) := by decide +kernel
theorem dX4_best_66 : decode cX4_best 66 = .ok (.iload_n 3, 1) := by decide +kernel
theorem dX4_best_67 : decode cX4_best 67 = .ok (.iaload, 1) := by decide +kernel
theorem dX4_best_68 : decode cX4_best 68 = .ok (.aload_n 0, 1) := by decide +kernel
theorem dX4_best_69 : decode cX4_best 69 = .ok (.getfield 16, 3) := by decide +kernel
theorem dX4_best_72 : decode cX4_best 72 = .ok (.getfield 100, 3) := by decide +kernel
theorem dX4_best_75 : decode cX4_best 75 = .ok (.iload_n 2, 1) := by decide +kernel
theorem dX4_best_76 : decode cX4_best 76 = .ok (.iaload, 1) := by decide +kernel
theorem dX4_best_77 : decode cX4_best 77 = .ok (.if_icmp .le 5, 3) := by decide +kernel
theorem dX4_best_80 : decode cX4_best 80 = .ok (.iload_n 3, 1) := by decide +kernel
theorem dX4_best_81 : decode cX4_best 81 = .ok (.istore_n 2, 1) := by decide +kernel
theorem dX4_best_82 : decode cX4_best 82 = .ok (.iinc 3 1, 3) := by decide +kernel
theorem dX4_best_85 : decode cX4_best 85 = .ok (.goto (-37), 3) := by decide +kernel
theorem dX4_best_88 : decode cX4_best 88 = .ok (.iload_n 2, 1) := by decide +kernel
theorem dX4_best_89 : decode cX4_best 89 = .ok (.ireturn, 1) := by decide +kernel
theorem dX4_feed_0 : decode cX4_feed 0 = .ok (.iload_n 2, 1) := by decide +kernel
theorem dX4_feed_1 : decode cX4_feed 1 = .ok (.iconst 1, 1) := by decide +kernel
theorem dX4_feed_2 : decode cX4_feed 2 = .ok (.iconst 4, 1) := by decide +kernel
theorem dX4_feed_3 : decode cX4_feed 3 = .ok (.invokestatic 53, 3) := by decide +kernel
theorem dX4_feed_6 : decode cX4_feed 6 = .ok (.ifCond .ne 9, 3) := by decide +kernel
theorem dX4_feed_9 : decode cX4_feed 9 = .ok (.aload_n 0, 1) := by decide +kernel
theorem dX4_feed_10 : decode cX4_feed 10 = .ok (.iconst 0, 1) := by decide +kernel
theorem dX4_feed_11 : decode cX4_feed 11 = .ok (.invokevirtual 57, 3) := by decide +kernel
theorem dX4_feed_14 : decode cX4_feed 14 = .ok (.ireturn, 1) := by decide +kernel
theorem dX4_feed_15 : decode cX4_feed 15 = .ok (.aload_n 0, 1) := by decide +kernel
theorem dX4_feed_16 : decode cX4_feed 16 = .ok (.getfield 29, 3) := by decide +kernel
theorem dX4_feed_19 : decode cX4_feed 19 = .ok (.getfield 173, 3) := by decide +kernel
theorem dX4_feed_22 : decode cX4_feed 22 = .ok (.iload_n 2, 1) := by decide +kernel
theorem dX4_feed_23 : decode cX4_feed 23 = .ok (.iadd, 1) := by decide +kernel
theorem dX4_feed_24 : decode cX4_feed 24 = .ok (.bipush 120, 2) := by decide +kernel
theorem dX4_feed_26 : decode cX4_feed 26 = .ok (.if_icmp .le 9, 3) := by decide +kernel
theorem dX4_feed_29 : decode cX4_feed 29 = .ok (.aload_n 0, 1) := by decide +kernel
theorem dX4_feed_30 : decode cX4_feed 30 = .ok (.iconst 1, 1) := by decide +kernel
theorem dX4_feed_31 : decode cX4_feed 31 = .ok (.invokevirtual 57, 3) := by decide +kernel
theorem dX4_feed_34 : decode cX4_feed 34 = .ok (.ireturn, 1) := by decide +kernel
theorem dX4_feed_35 : decode cX4_feed 35 = .ok (.iload_n 2, 1) := by decide +kernel
theorem dX4_feed_36 : decode cX4_feed 36 = .ok (.iconst 1, 1) := by decide +kernel
theorem dX4_feed_37 : decode cX4_feed 37 = .ok (.isub, 1) := by decide +kernel
theorem dX4_feed_38 : decode cX4_feed 38 = .ok (.istore_n 3, 1) := by decide +kernel
theorem dX4_feed_39 : decode cX4_feed 39 = .ok (.iload_n 3, 1) := by decide +kernel
theorem dX4_feed_40 : decode cX4_feed 40 = .ok (.ifCond .lt 26, 3) := by decide +kernel
theorem dX4_feed_43 : decode cX4_feed 43 = .ok (.aload_n 0, 1) := by decide +kernel
theorem dX4_feed_44 : decode cX4_feed 44 = .ok (.getfield 29, 3) := by decide +kernel
theorem dX4_feed_47 : decode cX4_feed 47 = .ok (.iload_n 1, 1) := by decide +kernel
theorem dX4_feed_48 : decode cX4_feed 48 = .ok (.bipush 8, 2) := by decide +kernel
theorem dX4_feed_50 : decode cX4_feed 50 = .ok (.iload_n 3, 1) := by decide +kernel
theorem dX4_feed_51 : decode cX4_feed 51 = .ok (.imul, 1) := by decide +kernel
theorem dX4_feed_52 : decode cX4_feed 52 = .ok (.ishr, 1) := by decide +kernel
theorem dX4_feed_53 : decode cX4_feed 53 = .ok (.sipush 255, 3) := by decide +kernel
theorem dX4_feed_56 : decode cX4_feed 56 = .ok (.iand, 1) := by decide +kernel
theorem dX4_feed_57 : decode cX4_feed 57 = .ok (.invokevirtual 176, 3) := by decide +kernel
theorem dX4_feed_60 : decode cX4_feed 60 = .ok (.iinc 3 (-1), 3) := by decide +kernel
theorem dX4_feed_63 : decode cX4_feed 63 = .ok (.goto (-24), 3) := by decide +kernel
theorem dX4_feed_66 : decode cX4_feed 66 = .ok (.aload_n 0, 1) := by decide +kernel
theorem dX4_feed_67 : decode cX4_feed 67 = .ok (.getfield 29, 3) := by decide +kernel
theorem dX4_feed_70 : decode cX4_feed 70 = .ok (.getfield 173, 3) := by decide +kernel
theorem dX4_feed_73 : decode cX4_feed 73 = .ok (.ireturn, 1) := by decide +kernel
theorem dX4_wipe_0 : decode cX4_wipe 0 = .ok (.aload_n 0, 1) := by decide +kernel
theorem dX4_wipe_1 : decode cX4_wipe 1 = .ok (.getfield 29, 3) := by decide +kernel
theorem dX4_wipe_4 : decode cX4_wipe 4 = .ok (.getfield 173, 3) := by decide +kernel
theorem dX4_wipe_7 : decode cX4_wipe 7 = .ok (.istore_n 1, 1) := by decide +kernel
theorem dX4_wipe_8 : decode cX4_wipe 8 = .ok (.aload_n 0, 1) := by decide +kernel
theorem dX4_wipe_9 : decode cX4_wipe 9 = .ok (.getfield 29, 3) := by decide +kernel
theorem dX4_wipe_12 : decode cX4_wipe 12 = .ok (.invokevirtual 179, 3) := by decide +kernel
theorem dX4_wipe_15 : decode cX4_wipe 15 = .ok (.iload_n 1, 1) := by decide +kernel
theorem dX4_wipe_16 : decode cX4_wipe 16 = .ok (.ireturn, 1) := by decide +kernel
theorem dX4_home_0 : decode cX4_home 0 = .ok (.aload_n 0, 1) := by decide +kernel
theorem dX4_home_1 : decode cX4_home 1 = .ok (.invokevirtual 159, 3) := by decide +kernel
theorem dX4_home_4 : decode cX4_home 4 = .ok (.aload_n 0, 1) := by decide +kernel
theorem dX4_home_5 : decode cX4_home 5 = .ok (.getfield 38, 3) := by decide +kernel
theorem dX4_home_8 : decode cX4_home 8 = .ok (.invokevirtual 182, 3) := by decide +kernel
theorem dX4_home_11 : decode cX4_home 11 = .ok (.istore_n 1, 1) := by decide +kernel
theorem dX4_home_12 : decode cX4_home 12 = .ok (.aload_n 0, 1) := by decide +kernel
theorem dX4_home_13 : decode cX4_home 13 = .ok (.getfield 29, 3) := by decide +kernel
theorem dX4_home_16 : decode cX4_home 16 = .ok (.getfield 186, 3) := by decide +kernel
theorem dX4_home_19 : decode cX4_home 19 = .ok (.istore_n 2, 1) := by decide +kernel
theorem dX4_home_20 : decode cX4_home 20 = .ok (.aload_n 0, 1) := by decide +kernel
theorem dX4_home_21 : decode cX4_home 21 = .ok (.getfield 29, 3) := by decide +kernel
theorem dX4_home_24 : decode cX4_home 24 = .ok (.invokevirtual 179, 3) := by decide +kernel
theorem dX4_home_27 : decode cX4_home 27 = .ok (.iload_n 1, 1) := by decide +kernel
theorem dX4_home_28 : decode cX4_home 28 = .ok (.ifCond .ne 7, 3) := by decide +kernel
theorem dX4_home_31 : decode cX4_home 31 = .ok (.iconst (-1), 1) := by decide +kernel
theorem dX4_home_32 : decode cX4_home 32 = .ok (.iload_n 2, 1) := by decide +kernel
theorem dX4_home_33 : decode cX4_home 33 = .ok (.isub, 1) := by decide +kernel
theorem dX4_home_34 : decode cX4_home 34 = .ok (.ireturn, 1) := by decide +kernel
theorem dX4_home_35 : decode cX4_home 35 = .ok (.aload_n 0, 1) := by decide +kernel
theorem dX4_home_36 : decode cX4_home 36 = .ok (.getfield 10, 3) := by decide +kernel
theorem dX4_home_39 : decode cX4_home 39 = .ok (.aload_n 0, 1) := by decide +kernel
theorem dX4_home_40 : decode cX4_home 40 = .ok (.getfield 16, 3) := by decide +kernel
theorem dX4_home_43 : decode cX4_home 43 = .ok (.invokevirtual 189, 3) := by decide +kernel
theorem dX4_home_46 : decode cX4_home 46 = .ok (.aload_n 0, 1) := by decide +kernel
theorem dX4_home_47 : decode cX4_home 47 = .ok (.getfield 38, 3) := by decide +kernel
theorem dX4_home_50 : decode cX4_home 50 = .ok (.getfield 193, 3) := by decide +kernel
theorem dX4_home_53 : decode cX4_home 53 = .ok (.ireturn, 1) := by decide +kernel
theorem dX4_sheet_0 : decode cX4_sheet 0 = .ok (.iload_n 1, 1) := by decide +kernel
theorem dX4_sheet_1 : decode cX4_sheet 1 = .ok (.invokestatic 196, 3) := by decide +kernel
theorem dX4_sheet_4 : decode cX4_sheet 4 = .ok (.ifCond .eq 25, 3) := by decide +kernel
theorem dX4_sheet_7 : decode cX4_sheet 7 = .ok (.iload_n 2, 1) := by decide +kernel
theorem dX4_sheet_8 : decode cX4_sheet 8 = .ok (.ifCond .eq 27, 3) := by decide +kernel
theorem dX4_sheet_11 : decode cX4_sheet 11 = .ok (.iload_n 2, 1) := by decide +kernel
theorem dX4_sheet_12 : decode cX4_sheet 12 = .ok (.bipush 8, 2) := by decide +kernel
theorem dX4_sheet_14 : decode cX4_sheet 14 = .ok (.if_icmp .eq 21, 3) := by decide +kernel
theorem dX4_sheet_17 : decode cX4_sheet 17 = .ok (.iload_n 2, 1) := by decide +kernel
theorem dX4_sheet_18 : decode cX4_sheet 18 = .ok (.bipush 16, 2) := by decide +kernel
theorem dX4_sheet_20 : decode cX4_sheet 20 = .ok (.if_icmp .eq 15, 3) := by decide +kernel
theorem dX4_sheet_23 : decode cX4_sheet 23 = .ok (.iload_n 2, 1) := by decide +kernel
theorem dX4_sheet_24 : decode cX4_sheet 24 = .ok (.bipush 64, 2) := by decide +kernel
theorem dX4_sheet_26 : decode cX4_sheet 26 = .ok (.if_icmp .eq 9, 3) := by decide +kernel
theorem dX4_sheet_29 : decode cX4_sheet 29 = .ok (.aload_n 0, 1) := by decide +kernel
theorem dX4_sheet_30 : decode cX4_sheet 30 = .ok (.iconst 0, 1) := by decide +kernel
theorem dX4_sheet_31 : decode cX4_sheet 31 = .ok (.invokevirtual 57, 3) := by decide +kernel
theorem dX4_sheet_34 : decode cX4_sheet 34 = .ok (.ireturn, 1) := by decide +kernel
theorem dX4_sheet_35 : decode cX4_sheet 35 = .ok (.iload_n 3, 1) := by decide +kernel
theorem dX4_sheet_36 : decode cX4_sheet 36 = .ok (.ifCond .ge 10, 3) := by decide +kernel
theorem dX4_sheet_39 : decode cX4_sheet 39 = .ok (.aload_n 0, 1) := by decide +kernel
theorem dX4_sheet_40 : decode cX4_sheet 40 = .ok (.bipush 6, 2) := by decide +kernel
theorem dX4_sheet_42 : decode cX4_sheet 42 = .ok (.invokevirtual 57, 3) := by decide +kernel
theorem dX4_sheet_45 : decode cX4_sheet 45 = .ok (.ireturn, 1) := by decide +kernel
theorem dX4_sheet_46 : decode cX4_sheet 46 = .ok (.iload_n 3, 1) := by decide +kernel
theorem dX4_sheet_47 : decode cX4_sheet 47 = .ok (.bipush 40, 2) := by decide +kernel
theorem dX4_sheet_49 : decode cX4_sheet 49 = .ok (.if_icmp .le 9, 3) := by decide +kernel
theorem dX4_sheet_52 : decode cX4_sheet 52 = .ok (.aload_n 0, 1) := by decide +kernel
theorem dX4_sheet_53 : decode cX4_sheet 53 = .ok (.iconst 0, 1) := by decide +kernel
theorem dX4_sheet_54 : decode cX4_sheet 54 = .ok (.invokevirtual 57, 3) := by decide +kernel
theorem dX4_sheet_57 : decode cX4_sheet 57 = .ok (.ireturn, 1) := by decide +kernel
theorem dX4_sheet_58 : decode cX4_sheet 58 = .ok (.aload_n 0, 1) := by decide +kernel
theorem dX4_sheet_59 : decode cX4_sheet 59 = .ok (.getfield 44, 3) := by decide +kernel
theorem dX4_sheet_62 : decode cX4_sheet 62 = .ok (.iload_n 1, 1) := by decide +kernel
theorem dX4_sheet_63 : decode cX4_sheet 63 = .ok (.aaload, 1) := by decide +kernel
theorem dX4_sheet_64 : decode cX4_sheet 64 = .ok (.iload_n 2, 1) := by decide +kernel
theorem dX4_sheet_65 : decode cX4_sheet 65 = .ok (.iload_n 3, 1) := by decide +kernel
theorem dX4_sheet_66 : decode cX4_sheet 66 = .ok (.invokevirtual 199, 3) := by decide +kernel
theorem dX4_sheet_69 : decode cX4_sheet 69 = .ok (.aload_n 0, 1) := by decide +kernel
theorem dX4_sheet_70 : decode cX4_sheet 70 = .ok (.getfield 44, 3) := by decide +kernel
theorem dX4_sheet_73 : decode cX4_sheet 73 = .ok (.iload_n 1, 1) := by decide +kernel
theorem dX4_sheet_74 : decode cX4_sheet 74 = .ok (.aaload, 1) := by decide +kernel
theorem dX4_sheet_75 : decode cX4_sheet 75 = .ok (.getfield 203, 3) := by decide +kernel
theorem dX4_sheet_78 : decode cX4_sheet 78 = .ok (.ireturn, 1) := by decide +kernel
theorem dX4_write_0 : decode cX4_write 0 = .ok (.aload_n 0, 1) := by decide +kernel
theorem dX4_write_1 : decode cX4_write 1 = .ok (.iload_n 1, 1) := by decide +kernel
theorem dX4_write_2 : decode cX4_write 2 = .ok (.invokevirtual 204, 3) := by decide +kernel
theorem dX4_write_5 : decode cX4_write 5 = .ok (.istore 5, 2) := by decide +kernel
theorem dX4_write_7 : decode cX4_write 7 = .ok (.iload 5, 2) := by decide +kernel
theorem dX4_write_9 : decode cX4_write 9 = .ok (.ifCond .eq 7, 3) := by decide +kernel
theorem dX4_write_12 : decode cX4_write 12 = .ok (.iload 5, 2) := by decide +kernel
theorem dX4_write_14 : decode cX4_write 14 = .ok (.i2l, 1) := by decide +kernel
theorem dX4_write_15 : decode cX4_write 15 = .ok (.lreturn, 1) := by decide +kernel
theorem dX4_write_16 : decode cX4_write 16 = .ok (.iload_n 2, 1) := by decide +kernel
theorem dX4_write_17 : decode cX4_write 17 = .ok (.iconst 0, 1) := by decide +kernel
theorem dX4_write_18 : decode cX4_write 18 = .ok (.aload_n 0, 1) := by decide +kernel
theorem dX4_write_19 : decode cX4_write 19 = .ok (.getfield 44, 3) := by decide +kernel
theorem dX4_write_22 : decode cX4_write 22 = .ok (.iload_n 1, 1) := by decide +kernel
theorem dX4_write_23 : decode cX4_write 23 = .ok (.aaload, 1) := by decide +kernel
theorem dX4_write_24 : decode cX4_write 24 = .ok (.getfield 203, 3) := by decide +kernel
theorem dX4_write_27 : decode cX4_write 27 = .ok (.iconst 1, 1) := by decide +kernel
theorem dX4_write_28 : decode cX4_write 28 = .ok (.isub, 1) := by decide +kernel
theorem dX4_write_29 : decode cX4_write 29 = .ok (.invokestatic 53, 3) := by decide +kernel
theorem dX4_write_32 : decode cX4_write 32 = .ok (.ifCond .ne 10, 3) := by decide +kernel
theorem dX4_write_35 : decode cX4_write 35 = .ok (.aload_n 0, 1) := by decide +kernel
theorem dX4_write_36 : decode cX4_write 36 = .ok (.iconst 0, 1) := by decide +kernel
theorem dX4_write_37 : decode cX4_write 37 = .ok (.invokevirtual 57, 3) := by decide +kernel
theorem dX4_write_40 : decode cX4_write 40 = .ok (.i2l, 1) := by decide +kernel
theorem dX4_write_41 : decode cX4_write 41 = .ok (.lreturn, 1) := by decide +kernel
theorem dX4_write_42 : decode cX4_write 42 = .ok (.aload_n 0, 1) := by decide +kernel
theorem dX4_write_43 : decode cX4_write 43 = .ok (.getfield 44, 3) := by decide +kernel
theorem dX4_write_46 : decode cX4_write 46 = .ok (.iload_n 1, 1) := by decide +kernel
theorem dX4_write_47 : decode cX4_write 47 = .ok (.aaload, 1) := by decide +kernel
theorem dX4_write_48 : decode cX4_write 48 = .ok (.getfield 207, 3) := by decide +kernel
theorem dX4_write_51 : decode cX4_write 51 = .ok (.iload_n 2, 1) := by decide +kernel
theorem dX4_write_52 : decode cX4_write 52 = .ok (.laload, 1) := by decide +kernel
theorem dX4_write_53 : decode cX4_write 53 = .ok (.lstore 6, 2) := by decide +kernel
theorem dX4_write_55 : decode cX4_write 55 = .ok (.aload_n 0, 1) := by decide +kernel
theorem dX4_write_56 : decode cX4_write 56 = .ok (.getfield 44, 3) := by decide +kernel
theorem dX4_write_59 : decode cX4_write 59 = .ok (.iload_n 1, 1) := by decide +kernel
theorem dX4_write_60 : decode cX4_write 60 = .ok (.aaload, 1) := by decide +kernel
theorem dX4_write_61 : decode cX4_write 61 = .ok (.iload_n 2, 1) := by decide +kernel
theorem dX4_write_62 : decode cX4_write 62 = .ok (.lload_n 3, 1) := by decide +kernel
theorem dX4_write_63 : decode cX4_write 63 = .ok (.invokevirtual 211, 3) := by decide +kernel
theorem dX4_write_66 : decode cX4_write 66 = .ok (.lload 6, 2) := by decide +kernel
theorem dX4_write_68 : decode cX4_write 68 = .ok (.lreturn, 1) := by decide +kernel
theorem dX4_copy_0 : decode cX4_copy 0 = .ok (.iload_n 1, 1) := by decide +kernel
theorem dX4_copy_1 : decode cX4_copy 1 = .ok (.invokestatic 196, 3) := by decide +kernel
theorem dX4_copy_4 : decode cX4_copy 4 = .ok (.ifCond .eq 10, 3) := by decide +kernel
theorem dX4_copy_7 : decode cX4_copy 7 = .ok (.iload_n 3, 1) := by decide +kernel
theorem dX4_copy_8 : decode cX4_copy 8 = .ok (.invokestatic 196, 3) := by decide +kernel
theorem dX4_copy_11 : decode cX4_copy 11 = .ok (.ifCond .ne 9, 3) := by decide +kernel
theorem dX4_copy_14 : decode cX4_copy 14 = .ok (.aload_n 0, 1) := by decide +kernel
theorem dX4_copy_15 : decode cX4_copy 15 = .ok (.iconst 0, 1) := by decide +kernel
theorem dX4_copy_16 : decode cX4_copy 16 = .ok (.invokevirtual 57, 3) := by decide +kernel
theorem dX4_copy_19 : decode cX4_copy 19 = .ok (.ireturn, 1) := by decide +kernel
theorem dX4_copy_20 : decode cX4_copy 20 = .ok (.aload_n 0, 1) := by decide +kernel
theorem dX4_copy_21 : decode cX4_copy 21 = .ok (.getfield 44, 3) := by decide +kernel
theorem dX4_copy_24 : decode cX4_copy 24 = .ok (.iload_n 1, 1) := by decide +kernel
theorem dX4_copy_25 : decode cX4_copy 25 = .ok (.aaload, 1) := by decide +kernel
theorem dX4_copy_26 : decode cX4_copy 26 = .ok (.astore 6, 2) := by decide +kernel
theorem dX4_copy_28 : decode cX4_copy 28 = .ok (.aload_n 0, 1) := by decide +kernel
theorem dX4_copy_29 : decode cX4_copy 29 = .ok (.getfield 44, 3) := by decide +kernel
theorem dX4_copy_32 : decode cX4_copy 32 = .ok (.iload_n 3, 1) := by decide +kernel
theorem dX4_copy_33 : decode cX4_copy 33 = .ok (.aaload, 1) := by decide +kernel
theorem dX4_copy_34 : decode cX4_copy 34 = .ok (.astore 7, 2) := by decide +kernel
theorem dX4_copy_36 : decode cX4_copy 36 = .ok (.aload 6, 2) := by decide +kernel
theorem dX4_copy_38 : decode cX4_copy 38 = .ok (.invokevirtual 215, 3) := by decide +kernel
theorem dX4_copy_41 : decode cX4_copy 41 = .ok (.ifCond .ne 11, 3) := by decide +kernel
theorem dX4_copy_44 : decode cX4_copy 44 = .ok (.aload 7, 2) := by decide +kernel
theorem dX4_copy_46 : decode cX4_copy 46 = .ok (.invokevirtual 215, 3) := by decide +kernel
theorem dX4_copy_49 : decode cX4_copy 49 = .ok (.ifCond .eq 9, 3) := by decide +kernel
theorem dX4_copy_52 : decode cX4_copy 52 = .ok (.aload_n 0, 1) := by decide +kernel
theorem dX4_copy_53 : decode cX4_copy 53 = .ok (.iconst 5, 1) := by decide +kernel
theorem dX4_copy_54 : decode cX4_copy 54 = .ok (.invokevirtual 57, 3) := by decide +kernel
theorem dX4_copy_57 : decode cX4_copy 57 = .ok (.ireturn, 1) := by decide +kernel
theorem dX4_copy_58 : decode cX4_copy 58 = .ok (.aload 6, 2) := by decide +kernel
theorem dX4_copy_60 : decode cX4_copy 60 = .ok (.getfield 218, 3) := by decide +kernel
theorem dX4_copy_63 : decode cX4_copy 63 = .ok (.aload 7, 2) := by decide +kernel
theorem dX4_copy_65 : decode cX4_copy 65 = .ok (.getfield 218, 3) := by decide +kernel
theorem dX4_copy_68 : decode cX4_copy 68 = .ok (.if_icmp .eq 9, 3) := by decide +kernel
theorem dX4_copy_71 : decode cX4_copy 71 = .ok (.aload_n 0, 1) := by decide +kernel
theorem dX4_copy_72 : decode cX4_copy 72 = .ok (.iconst 2, 1) := by decide +kernel
theorem dX4_copy_73 : decode cX4_copy 73 = .ok (.invokevirtual 57, 3) := by decide +kernel
theorem dX4_copy_76 : decode cX4_copy 76 = .ok (.ireturn, 1) := by decide +kernel
theorem dX4_copy_77 : decode cX4_copy 77 = .ok (.aload 6, 2) := by decide +kernel
theorem dX4_copy_79 : decode cX4_copy 79 = .ok (.iload_n 2, 1) := by decide +kernel
theorem dX4_copy_80 : decode cX4_copy 80 = .ok (.iload 5, 2) := by decide +kernel
theorem dX4_copy_82 : decode cX4_copy 82 = .ok (.invokevirtual 221, 3) := by decide +kernel
theorem dX4_copy_85 : decode cX4_copy 85 = .ok (.ifCond .eq 15, 3) := by decide +kernel
theorem dX4_copy_88 : decode cX4_copy 88 = .ok (.aload 7, 2) := by decide +kernel
theorem dX4_copy_90 : decode cX4_copy 90 = .ok (.iload 4, 2) := by decide +kernel
theorem dX4_copy_92 : decode cX4_copy 92 = .ok (.iload 5, 2) := by decide +kernel
theorem dX4_copy_94 : decode cX4_copy 94 = .ok (.invokevirtual 221, 3) := by decide +kernel
theorem dX4_copy_97 : decode cX4_copy 97 = .ok (.ifCond .ne 9, 3) := by decide +kernel
theorem dX4_copy_100 : decode cX4_copy 100 = .ok (.aload_n 0, 1) := by decide +kernel
theorem dX4_copy_101 : decode cX4_copy 101 = .ok (.iconst 0, 1) := by decide +kernel
theorem dX4_copy_102 : decode cX4_copy 102 = .ok (.invokevirtual 57, 3) := by decide +kernel
theorem dX4_copy_105 : decode cX4_copy 105 = .ok (.ireturn, 1) := by decide +kernel
theorem dX4_copy_106 : decode cX4_copy 106 = .ok (.aload 6, 2) := by decide +kernel
theorem dX4_copy_108 : decode cX4_copy 108 = .ok (.getfield 207, 3) := by decide +kernel
theorem dX4_copy_111 : decode cX4_copy 111 = .ok (.iload_n 2, 1) := by decide +kernel
theorem dX4_copy_112 : decode cX4_copy 112 = .ok (.aload 7, 2) := by decide +kernel
theorem dX4_copy_114 : decode cX4_copy 114 = .ok (.getfield 207, 3) := by decide +kernel
theorem dX4_copy_117 : decode cX4_copy 117 = .ok (.iload 4, 2) := by decide +kernel
theorem dX4_copy_119 : decode cX4_copy 119 = .ok (.iload 5, 2) := by decide +kernel
theorem dX4_copy_121 : decode cX4_copy 121 = .ok (.invokestatic 224, 3) := by decide +kernel
theorem dX4_copy_124 : decode cX4_copy 124 = .ok (.iload 5, 2) := by decide +kernel
theorem dX4_copy_126 : decode cX4_copy 126 = .ok (.ireturn, 1) := by decide +kernel
theorem dX4_lays_0 : decode cX4_lays 0 = .ok (.aload_n 0, 1) := by decide +kernel
theorem dX4_lays_1 : decode cX4_lays 1 = .ok (.iload_n 1, 1) := by decide +kernel
theorem dX4_lays_2 : decode cX4_lays 2 = .ok (.invokevirtual 204, 3) := by decide +kernel
theorem dX4_lays_5 : decode cX4_lays 5 = .ok (.istore_n 2, 1) := by decide +kernel
theorem dX4_lays_6 : decode cX4_lays 6 = .ok (.iload_n 2, 1) := by decide +kernel
theorem dX4_lays_7 : decode cX4_lays 7 = .ok (.ifCond .eq 5, 3) := by decide +kernel
theorem dX4_lays_10 : decode cX4_lays 10 = .ok (.iload_n 2, 1) := by decide +kernel
theorem dX4_lays_11 : decode cX4_lays 11 = .ok (.ireturn, 1) := by decide +kernel
theorem dX4_lays_12 : decode cX4_lays 12 = .ok (.iconst 0, 1) := by decide +kernel
theorem dX4_lays_13 : decode cX4_lays 13 = .ok (.istore_n 3, 1) := by decide +kernel
theorem dX4_lays_14 : decode cX4_lays 14 = .ok (.iconst 0, 1) := by decide +kernel
theorem dX4_lays_15 : decode cX4_lays 15 = .ok (.istore 4, 2) := by decide +kernel
theorem dX4_lays_17 : decode cX4_lays 17 = .ok (.iload 4, 2) := by decide +kernel
theorem dX4_lays_19 : decode cX4_lays 19 = .ok (.aload_n 0, 1) := by decide +kernel
theorem dX4_lays_20 : decode cX4_lays 20 = .ok (.getfield 44, 3) := by decide +kernel
theorem dX4_lays_23 : decode cX4_lays 23 = .ok (.iload_n 1, 1) := by decide +kernel
theorem dX4_lays_24 : decode cX4_lays 24 = .ok (.aaload, 1) := by decide +kernel
theorem dX4_lays_25 : decode cX4_lays 25 = .ok (.getfield 203, 3) := by decide +kernel
theorem dX4_lays_28 : decode cX4_lays 28 = .ok (.if_icmp .ge 67, 3) := by decide +kernel
theorem dX4_lays_31 : decode cX4_lays 31 = .ok (.iload 4, 2) := by decide +kernel
theorem dX4_lays_33 : decode cX4_lays 33 = .ok (.aload_n 0, 1) := by decide +kernel
theorem dX4_lays_34 : decode cX4_lays 34 = .ok (.getfield 10, 3) := by decide +kernel
theorem dX4_lays_37 : decode cX4_lays 37 = .ok (.getfield 129, 3) := by decide +kernel
theorem dX4_lays_40 : decode cX4_lays 40 = .ok (.if_icmp .ge 55, 3) := by decide +kernel
theorem dX4_lays_43 : decode cX4_lays 43 = .ok (.aload_n 0, 1) := by decide +kernel
theorem dX4_lays_44 : decode cX4_lays 44 = .ok (.getfield 44, 3) := by decide +kernel
theorem dX4_lays_47 : decode cX4_lays 47 = .ok (.iload_n 1, 1) := by decide +kernel
theorem dX4_lays_48 : decode cX4_lays 48 = .ok (.aaload, 1) := by decide +kernel
theorem dX4_lays_49 : decode cX4_lays 49 = .ok (.getfield 207, 3) := by decide +kernel
theorem dX4_lays_52 : decode cX4_lays 52 = .ok (.iload 4, 2) := by decide +kernel
theorem dX4_lays_54 : decode cX4_lays 54 = .ok (.laload, 1) := by decide +kernel
theorem dX4_lays_55 : decode cX4_lays 55 = .ok (.lstore 5, 2) := by decide +kernel
theorem dX4_lays_57 : decode cX4_lays 57 = .ok (.lload 5, 2) := by decide +kernel
theorem dX4_lays_59 : decode cX4_lays 59 = .ok (.lconst 0, 1) := by decide +kernel
theorem dX4_lays_60 : decode cX4_lays 60 = .ok (.lcmp, 1) := by decide +kernel
theorem dX4_lays_61 : decode cX4_lays 61 = .ok (.ifCond .lt 28, 3) := by decide +kernel
theorem dX4_lays_64 : decode cX4_lays 64 = .ok (.lload 5, 2) := by decide +kernel
theorem dX4_lays_66 : decode cX4_lays 66 = .ok (.ldc2_w 230, 3) := by decide +kernel
theorem dX4_lays_69 : decode cX4_lays 69 = .ok (.lcmp, 1) := by decide +kernel
theorem dX4_lays_70 : decode cX4_lays 70 = .ok (.ifCond .gt 19, 3) := by decide +kernel
theorem dX4_lays_73 : decode cX4_lays 73 = .ok (.aload_n 0, 1) := by decide +kernel
theorem dX4_lays_74 : decode cX4_lays 74 = .ok (.getfield 10, 3) := by decide +kernel
theorem dX4_lays_77 : decode cX4_lays 77 = .ok (.getfield 142, 3) := by decide +kernel
theorem dX4_lays_80 : decode cX4_lays 80 = .ok (.iload 4, 2) := by decide +kernel
theorem dX4_lays_82 : decode cX4_lays 82 = .ok (.lload 5, 2) := by decide +kernel
theorem dX4_lays_84 : decode cX4_lays 84 = .ok (.l2i, 1) := by decide +kernel
theorem dX4_lays_85 : decode cX4_lays 85 = .ok (.iastore, 1) := by decide +kernel
theorem dX4_lays_86 : decode cX4_lays 86 = .ok (.iinc 3 1, 3) := by decide +kernel
theorem dX4_lays_89 : decode cX4_lays 89 = .ok (.iinc 4 1, 3) := by decide +kernel
theorem dX4_lays_92 : decode cX4_lays 92 = .ok (.goto (-75), 3) := by decide +kernel
theorem dX4_lays_95 : decode cX4_lays 95 = .ok (.iload_n 3, 1) := by decide +kernel
theorem dX4_lays_96 : decode cX4_lays 96 = .ok (.ireturn, 1) := by decide +kernel
theorem dX4_book_0 : decode cX4_book 0 = .ok (.aload_n 0, 1) := by decide +kernel
theorem dX4_book_1 : decode cX4_book 1 = .ok (.iload_n 1, 1) := by decide +kernel
theorem dX4_book_2 : decode cX4_book 2 = .ok (.invokevirtual 204, 3) := by decide +kernel
theorem dX4_book_5 : decode cX4_book 5 = .ok (.istore_n 3, 1) := by decide +kernel
theorem dX4_book_6 : decode cX4_book 6 = .ok (.iload_n 3, 1) := by decide +kernel
theorem dX4_book_7 : decode cX4_book 7 = .ok (.ifCond .eq 5, 3) := by decide +kernel
theorem dX4_book_10 : decode cX4_book 10 = .ok (.iload_n 3, 1) := by decide +kernel
theorem dX4_book_11 : decode cX4_book 11 = .ok (.ireturn, 1) := by decide +kernel
theorem dX4_book_12 : decode cX4_book 12 = .ok (.aload_n 0, 1) := by decide +kernel
theorem dX4_book_13 : decode cX4_book 13 = .ok (.getfield 10, 3) := by decide +kernel
theorem dX4_book_16 : decode cX4_book 16 = .ok (.iload_n 2, 1) := by decide +kernel
theorem dX4_book_17 : decode cX4_book 17 = .ok (.invokevirtual 116, 3) := by decide +kernel
theorem dX4_book_20 : decode cX4_book 20 = .ok (.ifCond .ne 9, 3) := by decide +kernel
theorem dX4_book_23 : decode cX4_book 23 = .ok (.aload_n 0, 1) := by decide +kernel
theorem dX4_book_24 : decode cX4_book 24 = .ok (.iconst 0, 1) := by decide +kernel
theorem dX4_book_25 : decode cX4_book 25 = .ok (.invokevirtual 57, 3) := by decide +kernel
theorem dX4_book_28 : decode cX4_book 28 = .ok (.ireturn, 1) := by decide +kernel
theorem dX4_book_29 : decode cX4_book 29 = .ok (.aload_n 0, 1) := by decide +kernel
theorem dX4_book_30 : decode cX4_book 30 = .ok (.invokevirtual 159, 3) := by decide +kernel
theorem dX4_book_33 : decode cX4_book 33 = .ok (.iconst 0, 1) := by decide +kernel
theorem dX4_book_34 : decode cX4_book 34 = .ok (.istore 4, 2) := by decide +kernel
theorem dX4_book_36 : decode cX4_book 36 = .ok (.iload 4, 2) := by decide +kernel
theorem dX4_book_38 : decode cX4_book 38 = .ok (.aload_n 0, 1) := by decide +kernel
theorem dX4_book_39 : decode cX4_book 39 = .ok (.getfield 44, 3) := by decide +kernel
theorem dX4_book_42 : decode cX4_book 42 = .ok (.iload_n 1, 1) := by decide +kernel
theorem dX4_book_43 : decode cX4_book 43 = .ok (.aaload, 1) := by decide +kernel
theorem dX4_book_44 : decode cX4_book 44 = .ok (.getfield 203, 3) := by decide +kernel
theorem dX4_book_47 : decode cX4_book 47 = .ok (.if_icmp .ge 38, 3) := by decide +kernel
theorem dX4_book_50 : decode cX4_book 50 = .ok (.aload_n 0, 1) := by decide +kernel
theorem dX4_book_51 : decode cX4_book 51 = .ok (.getfield 44, 3) := by decide +kernel
theorem dX4_book_54 : decode cX4_book 54 = .ok (.iload_n 1, 1) := by decide +kernel
theorem dX4_book_55 : decode cX4_book 55 = .ok (.aaload, 1) := by decide +kernel
theorem dX4_book_56 : decode cX4_book 56 = .ok (.iload 4, 2) := by decide +kernel
theorem dX4_book_58 : decode cX4_book 58 = .ok (.aload_n 0, 1) := by decide +kernel
theorem dX4_book_59 : decode cX4_book 59 = .ok (.getfield 16, 3) := by decide +kernel
theorem dX4_book_62 : decode cX4_book 62 = .ok (.getfield 145, 3) := by decide +kernel
theorem dX4_book_65 : decode cX4_book 65 = .ok (.iload_n 2, 1) := by decide +kernel
theorem dX4_book_66 : decode cX4_book 66 = .ok (.iaload, 1) := by decide +kernel
theorem dX4_book_67 : decode cX4_book 67 = .ok (.i2l, 1) := by decide +kernel
theorem dX4_book_68 : decode cX4_book 68 = .ok (.invokevirtual 211, 3) := by decide +kernel
theorem dX4_book_71 : decode cX4_book 71 = .ok (.aload_n 0, 1) := by decide +kernel
theorem dX4_book_72 : decode cX4_book 72 = .ok (.getfield 16, 3) := by decide +kernel
theorem dX4_book_75 : decode cX4_book 75 = .ok (.iconst 1, 1) := by decide +kernel
theorem dX4_book_76 : decode cX4_book 76 = .ok (.invokevirtual 155, 3) := by decide +kernel
theorem dX4_book_79 : decode cX4_book 79 = .ok (.iinc 4 1, 3) := by decide +kernel
theorem dX4_book_82 : decode cX4_book 82 = .ok (.goto (-46), 3) := by decide +kernel
theorem dX4_book_85 : decode cX4_book 85 = .ok (.aload_n 0, 1) := by decide +kernel
theorem dX4_book_86 : decode cX4_book 86 = .ok (.getfield 44, 3) := by decide +kernel
theorem dX4_book_89 : decode cX4_book 89 = .ok (.iload_n 1, 1) := by decide +kernel
theorem dX4_book_90 : decode cX4_book 90 = .ok (.aaload, 1) := by decide +kernel
theorem dX4_book_91 : decode cX4_book 91 = .ok (.getfield 203, 3) := by decide +kernel
theorem dX4_book_94 : decode cX4_book 94 = .ok (.ireturn, 1) := by decide +kernel
theorem dX4_read_0 : decode cX4_read 0 = .ok (.aload_n 0, 1) := by decide +kernel
theorem dX4_read_1 : decode cX4_read 1 = .ok (.iload_n 1, 1) := by decide +kernel
theorem dX4_read_2 : decode cX4_read 2 = .ok (.invokevirtual 204, 3) := by decide +kernel
theorem dX4_read_5 : decode cX4_read 5 = .ok (.istore_n 3, 1) := by decide +kernel
theorem dX4_read_6 : decode cX4_read 6 = .ok (.iload_n 3, 1) := by decide +kernel
theorem dX4_read_7 : decode cX4_read 7 = .ok (.ifCond .eq 5, 3) := by decide +kernel
theorem dX4_read_10 : decode cX4_read 10 = .ok (.iload_n 3, 1) := by decide +kernel
theorem dX4_read_11 : decode cX4_read 11 = .ok (.ireturn, 1) := by decide +kernel
theorem dX4_read_12 : decode cX4_read 12 = .ok (.aload_n 0, 1) := by decide +kernel
theorem dX4_read_13 : decode cX4_read 13 = .ok (.getfield 10, 3) := by decide +kernel
theorem dX4_read_16 : decode cX4_read 16 = .ok (.iload_n 2, 1) := by decide +kernel
theorem dX4_read_17 : decode cX4_read 17 = .ok (.invokevirtual 116, 3) := by decide +kernel
theorem dX4_read_20 : decode cX4_read 20 = .ok (.ifCond .ne 9, 3) := by decide +kernel
theorem dX4_read_23 : decode cX4_read 23 = .ok (.aload_n 0, 1) := by decide +kernel
theorem dX4_read_24 : decode cX4_read 24 = .ok (.iconst 0, 1) := by decide +kernel
theorem dX4_read_25 : decode cX4_read 25 = .ok (.invokevirtual 57, 3) := by decide +kernel
theorem dX4_read_28 : decode cX4_read 28 = .ok (.ireturn, 1) := by decide +kernel
theorem dX4_read_29 : decode cX4_read 29 = .ok (.iconst 0, 1) := by decide +kernel
theorem dX4_read_30 : decode cX4_read 30 = .ok (.istore 4, 2) := by decide +kernel
theorem dX4_read_32 : decode cX4_read 32 = .ok (.iconst 0, 1) := by decide +kernel
theorem dX4_read_33 : decode cX4_read 33 = .ok (.istore 5, 2) := by decide +kernel
theorem dX4_read_35 : decode cX4_read 35 = .ok (.iload 5, 2) := by decide +kernel
theorem dX4_read_37 : decode cX4_read 37 = .ok (.iconst 3, 1) := by decide +kernel
theorem dX4_read_38 : decode cX4_read 38 = .ok (.if_icmp .ge 68, 3) := by decide +kernel
theorem dX4_read_41 : decode cX4_read 41 = .ok (.iconst 0, 1) := by decide +kernel
theorem dX4_read_42 : decode cX4_read 42 = .ok (.istore 6, 2) := by decide +kernel
theorem dX4_read_44 : decode cX4_read 44 = .ok (.iload 6, 2) := by decide +kernel
theorem dX4_read_46 : decode cX4_read 46 = .ok (.bipush 99, 2) := by decide +kernel
theorem dX4_read_48 : decode cX4_read 48 = .ok (.if_icmp .gt 52, 3) := by decide +kernel
theorem dX4_read_51 : decode cX4_read 51 = .ok (.aload_n 0, 1) := by decide +kernel
theorem dX4_read_52 : decode cX4_read 52 = .ok (.invokevirtual 159, 3) := by decide +kernel
theorem dX4_read_55 : decode cX4_read 55 = .ok (.aload_n 0, 1) := by decide +kernel
theorem dX4_read_56 : decode cX4_read 56 = .ok (.getfield 16, 3) := by decide +kernel
theorem dX4_read_59 : decode cX4_read 59 = .ok (.getfield 139, 3) := by decide +kernel
theorem dX4_read_62 : decode cX4_read 62 = .ok (.iload_n 2, 1) := by decide +kernel
theorem dX4_read_63 : decode cX4_read 63 = .ok (.iload 5, 2) := by decide +kernel
theorem dX4_read_65 : decode cX4_read 65 = .ok (.iastore, 1) := by decide +kernel
theorem dX4_read_66 : decode cX4_read 66 = .ok (.aload_n 0, 1) := by decide +kernel
theorem dX4_read_67 : decode cX4_read 67 = .ok (.getfield 16, 3) := by decide +kernel
theorem dX4_read_70 : decode cX4_read 70 = .ok (.getfield 142, 3) := by decide +kernel
theorem dX4_read_73 : decode cX4_read 73 = .ok (.iload_n 2, 1) := by decide +kernel
theorem dX4_read_74 : decode cX4_read 74 = .ok (.iload 6, 2) := by decide +kernel
theorem dX4_read_76 : decode cX4_read 76 = .ok (.iastore, 1) := by decide +kernel
theorem dX4_read_77 : decode cX4_read 77 = .ok (.aload_n 0, 1) := by decide +kernel
theorem dX4_read_78 : decode cX4_read 78 = .ok (.aload_n 0, 1) := by decide +kernel
theorem dX4_read_79 : decode cX4_read 79 = .ok (.getfield 44, 3) := by decide +kernel
theorem dX4_read_82 : decode cX4_read 82 = .ok (.iload_n 1, 1) := by decide +kernel
theorem dX4_read_83 : decode cX4_read 83 = .ok (.aaload, 1) := by decide +kernel
theorem dX4_read_84 : decode cX4_read 84 = .ok (.iload_n 2, 1) := by decide +kernel
theorem dX4_read_85 : decode cX4_read 85 = .ok (.invokevirtual 232, 3) := by decide +kernel
theorem dX4_read_88 : decode cX4_read 88 = .ok (.ifCond .eq 6, 3) := by decide +kernel
theorem dX4_read_91 : decode cX4_read 91 = .ok (.iinc 4 1, 3) := by decide +kernel
theorem dX4_read_94 : decode cX4_read 94 = .ok (.iinc 6 1, 3) := by decide +kernel
theorem dX4_read_97 : decode cX4_read 97 = .ok (.goto (-53), 3) := by decide +kernel
theorem dX4_read_100 : decode cX4_read 100 = .ok (.iinc 5 1, 3) := by decide +kernel
theorem dX4_read_103 : decode cX4_read 103 = .ok (.goto (-68), 3) := by decide +kernel
theorem dX4_read_106 : decode cX4_read 106 = .ok (.iload 4, 2) := by decide +kernel
theorem dX4_read_108 : decode cX4_read 108 = .ok (.ireturn, 1) := by decide +kernel
theorem dX4_image_0 : decode cX4_image 0 = .ok (.aload_n 0, 1) := by decide +kernel
theorem dX4_image_1 : decode cX4_image 1 = .ok (.getfield 19, 3) := by decide +kernel
theorem dX4_image_4 : decode cX4_image 4 = .ok (.aload_n 0, 1) := by decide +kernel
theorem dX4_image_5 : decode cX4_image 5 = .ok (.getfield 10, 3) := by decide +kernel
theorem dX4_image_8 : decode cX4_image 8 = .ok (.invokevirtual 189, 3) := by decide +kernel
theorem dX4_image_11 : decode cX4_image 11 = .ok (.aload_n 0, 1) := by decide +kernel
theorem dX4_image_12 : decode cX4_image 12 = .ok (.iconst 1, 1) := by decide +kernel
theorem dX4_image_13 : decode cX4_image 13 = .ok (.putfield 22, 3) := by decide +kernel
theorem dX4_image_16 : decode cX4_image 16 = .ok (.iconst 1, 1) := by decide +kernel
theorem dX4_image_17 : decode cX4_image 17 = .ok (.ireturn, 1) := by decide +kernel
theorem dX4_undo_0 : decode cX4_undo 0 = .ok (.aload_n 0, 1) := by decide +kernel
theorem dX4_undo_1 : decode cX4_undo 1 = .ok (.getfield 22, 3) := by decide +kernel
theorem dX4_undo_4 : decode cX4_undo 4 = .ok (.ifCond .ne 9, 3) := by decide +kernel
theorem dX4_undo_7 : decode cX4_undo 7 = .ok (.aload_n 0, 1) := by decide +kernel
theorem dX4_undo_8 : decode cX4_undo 8 = .ok (.iconst 3, 1) := by decide +kernel
theorem dX4_undo_9 : decode cX4_undo 9 = .ok (.invokevirtual 57, 3) := by decide +kernel
theorem dX4_undo_12 : decode cX4_undo 12 = .ok (.ireturn, 1) := by decide +kernel
theorem dX4_undo_13 : decode cX4_undo 13 = .ok (.aload_n 0, 1) := by decide +kernel
theorem dX4_undo_14 : decode cX4_undo 14 = .ok (.getfield 10, 3) := by decide +kernel
theorem dX4_undo_17 : decode cX4_undo 17 = .ok (.aload_n 0, 1) := by decide +kernel
theorem dX4_undo_18 : decode cX4_undo 18 = .ok (.getfield 19, 3) := by decide +kernel
theorem dX4_undo_21 : decode cX4_undo 21 = .ok (.invokevirtual 189, 3) := by decide +kernel
theorem dX4_undo_24 : decode cX4_undo 24 = .ok (.aload_n 0, 1) := by decide +kernel
theorem dX4_undo_25 : decode cX4_undo 25 = .ok (.getfield 10, 3) := by decide +kernel
theorem dX4_undo_28 : decode cX4_undo 28 = .ok (.getfield 85, 3) := by decide +kernel
theorem dX4_undo_31 : decode cX4_undo 31 = .ok (.ireturn, 1) := by decide +kernel
theorem dX4_tear_0 : decode cX4_tear 0 = .ok (.aload_n 0, 1) := by decide +kernel
theorem dX4_tear_1 : decode cX4_tear 1 = .ok (.getfield 22, 3) := by decide +kernel
theorem dX4_tear_4 : decode cX4_tear 4 = .ok (.ifCond .eq 7, 3) := by decide +kernel
theorem dX4_tear_7 : decode cX4_tear 7 = .ok (.iconst 1, 1) := by decide +kernel
theorem dX4_tear_8 : decode cX4_tear 8 = .ok (.goto 4, 3) := by decide +kernel
theorem dX4_tear_11 : decode cX4_tear 11 = .ok (.iconst 0, 1) := by decide +kernel
theorem dX4_tear_12 : decode cX4_tear 12 = .ok (.istore_n 1, 1) := by decide +kernel
theorem dX4_tear_13 : decode cX4_tear 13 = .ok (.aload_n 0, 1) := by decide +kernel
theorem dX4_tear_14 : decode cX4_tear 14 = .ok (.iconst 0, 1) := by decide +kernel
theorem dX4_tear_15 : decode cX4_tear 15 = .ok (.putfield 22, 3) := by decide +kernel
theorem dX4_tear_18 : decode cX4_tear 18 = .ok (.iload_n 1, 1) := by decide +kernel
theorem dX4_tear_19 : decode cX4_tear 19 = .ok (.ireturn, 1) := by decide +kernel
theorem dX4_count_0 : decode cX4_count 0 = .ok (.iload_n 1, 1) := by decide +kernel
theorem dX4_count_1 : decode cX4_count 1 = .ok (.tableswitch 63 0 3 #[31, 39, 47, 55], 31) := by decide +kernel
theorem dX4_count_32 : decode cX4_count 32 = .ok (.aload_n 0, 1) := by decide +kernel
theorem dX4_count_33 : decode cX4_count 33 = .ok (.getfield 10, 3) := by decide +kernel
theorem dX4_count_36 : decode cX4_count 36 = .ok (.getfield 85, 3) := by decide +kernel
theorem dX4_count_39 : decode cX4_count 39 = .ok (.ireturn, 1) := by decide +kernel
theorem dX4_count_40 : decode cX4_count 40 = .ok (.aload_n 0, 1) := by decide +kernel
theorem dX4_count_41 : decode cX4_count 41 = .ok (.getfield 10, 3) := by decide +kernel
theorem dX4_count_44 : decode cX4_count 44 = .ok (.getfield 129, 3) := by decide +kernel
theorem dX4_count_47 : decode cX4_count 47 = .ok (.ireturn, 1) := by decide +kernel
theorem dX4_count_48 : decode cX4_count 48 = .ok (.aload_n 0, 1) := by decide +kernel
theorem dX4_count_49 : decode cX4_count 49 = .ok (.getfield 29, 3) := by decide +kernel
theorem dX4_count_52 : decode cX4_count 52 = .ok (.getfield 173, 3) := by decide +kernel
theorem dX4_count_55 : decode cX4_count 55 = .ok (.ireturn, 1) := by decide +kernel
theorem dX4_count_56 : decode cX4_count 56 = .ok (.aload_n 0, 1) := by decide +kernel
theorem dX4_count_57 : decode cX4_count 57 = .ok (.getfield 10, 3) := by decide +kernel
theorem dX4_count_60 : decode cX4_count 60 = .ok (.invokevirtual 236, 3) := by decide +kernel
theorem dX4_count_63 : decode cX4_count 63 = .ok (.ireturn, 1) := by decide +kernel
theorem dX4_count_64 : decode cX4_count 64 = .ok (.aload_n 0, 1) := by decide +kernel
theorem dX4_count_65 : decode cX4_count 65 = .ok (.iconst 0, 1) := by decide +kernel
theorem dX4_count_66 : decode cX4_count 66 = .ok (.invokevirtual 57, 3) := by decide +kernel
theorem dX4_count_69 : decode cX4_count 69 = .ok (.ireturn, 1) := by decide +kernel
theorem dX4_status_0 : decode cX4_status 0 = .ok (.iload_n 1, 1) := by decide +kernel
theorem dX4_status_1 : decode cX4_status 1 = .ok (.iconst (-1), 1) := by decide +kernel
theorem dX4_status_2 : decode cX4_status 2 = .ok (.bipush 6, 2) := by decide +kernel
theorem dX4_status_4 : decode cX4_status 4 = .ok (.invokestatic 53, 3) := by decide +kernel
theorem dX4_status_7 : decode cX4_status 7 = .ok (.ifCond .ne 9, 3) := by decide +kernel
theorem dX4_status_10 : decode cX4_status 10 = .ok (.aload_n 0, 1) := by decide +kernel
theorem dX4_status_11 : decode cX4_status 11 = .ok (.iconst 0, 1) := by decide +kernel
theorem dX4_status_12 : decode cX4_status 12 = .ok (.invokevirtual 57, 3) := by decide +kernel
theorem dX4_status_15 : decode cX4_status 15 = .ok (.ireturn, 1) := by decide +kernel
theorem dX4_status_16 : decode cX4_status 16 = .ok (.iload_n 1, 1) := by decide +kernel
theorem dX4_status_17 : decode cX4_status 17 = .ok (.ifCond .lt 10, 3) := by decide +kernel
theorem dX4_status_20 : decode cX4_status 20 = .ok (.aload_n 0, 1) := by decide +kernel
theorem dX4_status_21 : decode cX4_status 21 = .ok (.getfield 49, 3) := by decide +kernel
theorem dX4_status_24 : decode cX4_status 24 = .ok (.iload_n 1, 1) := by decide +kernel
theorem dX4_status_25 : decode cX4_status 25 = .ok (.iaload, 1) := by decide +kernel
theorem dX4_status_26 : decode cX4_status 26 = .ok (.ireturn, 1) := by decide +kernel
theorem dX4_status_27 : decode cX4_status 27 = .ok (.iconst 0, 1) := by decide +kernel
theorem dX4_status_28 : decode cX4_status 28 = .ok (.istore_n 2, 1) := by decide +kernel
theorem dX4_status_29 : decode cX4_status 29 = .ok (.iconst 0, 1) := by decide +kernel
theorem dX4_status_30 : decode cX4_status 30 = .ok (.istore_n 3, 1) := by decide +kernel
theorem dX4_status_31 : decode cX4_status 31 = .ok (.iload_n 3, 1) := by decide +kernel
theorem dX4_status_32 : decode cX4_status 32 = .ok (.bipush 7, 2) := by decide +kernel
theorem dX4_status_34 : decode cX4_status 34 = .ok (.if_icmp .ge 18, 3) := by decide +kernel
theorem dX4_status_37 : decode cX4_status 37 = .ok (.iload_n 2, 1) := by decide +kernel
theorem dX4_status_38 : decode cX4_status 38 = .ok (.aload_n 0, 1) := by decide +kernel
theorem dX4_status_39 : decode cX4_status 39 = .ok (.getfield 49, 3) := by decide +kernel
theorem dX4_status_42 : decode cX4_status 42 = .ok (.iload_n 3, 1) := by decide +kernel
theorem dX4_status_43 : decode cX4_status 43 = .ok (.iaload, 1) := by decide +kernel
theorem dX4_status_44 : decode cX4_status 44 = .ok (.iadd, 1) := by decide +kernel
theorem dX4_status_45 : decode cX4_status 45 = .ok (.istore_n 2, 1) := by decide +kernel
theorem dX4_status_46 : decode cX4_status 46 = .ok (.iinc 3 1, 3) := by decide +kernel
theorem dX4_status_49 : decode cX4_status 49 = .ok (.goto (-18), 3) := by decide +kernel
theorem dX4_status_52 : decode cX4_status 52 = .ok (.iload_n 2, 1) := by decide +kernel
theorem dX4_status_53 : decode cX4_status 53 = .ok (.ireturn, 1) := by decide +kernel
theorem dX4_finding_0 : decode cX4_finding 0 = .ok (.aload_n 0, 1) := by decide +kernel
theorem dX4_finding_1 : decode cX4_finding 1 = .ok (.getfield 49, 3) := by decide +kernel
theorem dX4_finding_4 : decode cX4_finding 4 = .ok (.iload_n 1, 1) := by decide +kernel
theorem dX4_finding_5 : decode cX4_finding 5 = .ok (.dup2, 1) := by decide +kernel
theorem dX4_finding_6 : decode cX4_finding 6 = .ok (.iaload, 1) := by decide +kernel
theorem dX4_finding_7 : decode cX4_finding 7 = .ok (.iconst 1, 1) := by decide +kernel
theorem dX4_finding_8 : decode cX4_finding 8 = .ok (.iadd, 1) := by decide +kernel
theorem dX4_finding_9 : decode cX4_finding 9 = .ok (.iastore, 1) := by decide +kernel
theorem dX4_finding_10 : decode cX4_finding 10 = .ok (.ldc 239, 2) := by decide +kernel
theorem dX4_finding_12 : decode cX4_finding 12 = .ok (.iload_n 1, 1) := by decide +kernel
theorem dX4_finding_13 : decode cX4_finding 13 = .ok (.isub, 1) := by decide +kernel
theorem dX4_finding_14 : decode cX4_finding 14 = .ok (.ireturn, 1) := by decide +kernel
theorem dX4_findingOfSheet_0 : decode cX4_findingOfSheet 0 = .ok (.iload_n 1, 1) := by decide +kernel
theorem dX4_findingOfSheet_1 : decode cX4_findingOfSheet 1 = .ok (.invokestatic 196, 3) := by decide +kernel
theorem dX4_findingOfSheet_4 : decode cX4_findingOfSheet 4 = .ok (.ifCond .ne 9, 3) := by decide +kernel
theorem dX4_findingOfSheet_7 : decode cX4_findingOfSheet 7 = .ok (.aload_n 0, 1) := by decide +kernel
theorem dX4_findingOfSheet_8 : decode cX4_findingOfSheet 8 = .ok (.iconst 0, 1) := by decide +kernel
theorem dX4_findingOfSheet_9 : decode cX4_findingOfSheet 9 = .ok (.invokevirtual 57, 3) := by decide +kernel
theorem dX4_findingOfSheet_12 : decode cX4_findingOfSheet 12 = .ok (.ireturn, 1) := by decide +kernel
theorem dX4_findingOfSheet_13 : decode cX4_findingOfSheet 13 = .ok (.aload_n 0, 1) := by decide +kernel
theorem dX4_findingOfSheet_14 : decode cX4_findingOfSheet 14 = .ok (.getfield 44, 3) := by decide +kernel
theorem dX4_findingOfSheet_17 : decode cX4_findingOfSheet 17 = .ok (.iload_n 1, 1) := by decide +kernel
theorem dX4_findingOfSheet_18 : decode cX4_findingOfSheet 18 = .ok (.aaload, 1) := by decide +kernel
theorem dX4_findingOfSheet_19 : decode cX4_findingOfSheet 19 = .ok (.invokevirtual 215, 3) := by decide +kernel
theorem dX4_findingOfSheet_22 : decode cX4_findingOfSheet 22 = .ok (.ifCond .eq 11, 3) := by decide +kernel
theorem dX4_findingOfSheet_25 : decode cX4_findingOfSheet 25 = .ok (.aload_n 0, 1) := by decide +kernel
theorem dX4_findingOfSheet_26 : decode cX4_findingOfSheet 26 = .ok (.iconst 5, 1) := by decide +kernel
theorem dX4_findingOfSheet_27 : decode cX4_findingOfSheet 27 = .ok (.invokevirtual 57, 3) := by decide +kernel
theorem dX4_findingOfSheet_30 : decode cX4_findingOfSheet 30 = .ok (.goto 4, 3) := by decide +kernel
theorem dX4_findingOfSheet_33 : decode cX4_findingOfSheet 33 = .ok (.iconst 0, 1) := by decide +kernel
theorem dX4_findingOfSheet_34 : decode cX4_findingOfSheet 34 = .ok (.ireturn, 1) := by decide +kernel
theorem dX4_putChecked_0 : decode cX4_putChecked 0 = .ok (.iload_n 3, 1) := by decide +kernel
theorem dX4_putChecked_1 : decode cX4_putChecked 1 = .ok (.iload 4, 2) := by decide +kernel
theorem dX4_putChecked_3 : decode cX4_putChecked 3 = .ok (.iload 5, 2) := by decide +kernel
theorem dX4_putChecked_5 : decode cX4_putChecked 5 = .ok (.invokestatic 53, 3) := by decide +kernel
theorem dX4_putChecked_8 : decode cX4_putChecked 8 = .ok (.ifCond .ne 9, 3) := by decide +kernel
theorem dX4_putChecked_11 : decode cX4_putChecked 11 = .ok (.aload_n 0, 1) := by decide +kernel
theorem dX4_putChecked_12 : decode cX4_putChecked 12 = .ok (.iconst 0, 1) := by decide +kernel
theorem dX4_putChecked_13 : decode cX4_putChecked 13 = .ok (.invokevirtual 57, 3) := by decide +kernel
theorem dX4_putChecked_16 : decode cX4_putChecked 16 = .ok (.ireturn, 1) := by decide +kernel
theorem dX4_putChecked_17 : decode cX4_putChecked 17 = .ok (.aload_n 1, 1) := by decide +kernel
theorem dX4_putChecked_18 : decode cX4_putChecked 18 = .ok (.iload_n 2, 1) := by decide +kernel
theorem dX4_putChecked_19 : decode cX4_putChecked 19 = .ok (.iaload, 1) := by decide +kernel
theorem dX4_putChecked_20 : decode cX4_putChecked 20 = .ok (.istore 6, 2) := by decide +kernel
theorem dX4_putChecked_22 : decode cX4_putChecked 22 = .ok (.aload_n 1, 1) := by decide +kernel
theorem dX4_putChecked_23 : decode cX4_putChecked 23 = .ok (.iload_n 2, 1) := by decide +kernel
theorem dX4_putChecked_24 : decode cX4_putChecked 24 = .ok (.iload_n 3, 1) := by decide +kernel
theorem dX4_putChecked_25 : decode cX4_putChecked 25 = .ok (.iastore, 1) := by decide +kernel
theorem dX4_putChecked_26 : decode cX4_putChecked 26 = .ok (.iload 6, 2) := by decide +kernel
theorem dX4_putChecked_28 : decode cX4_putChecked 28 = .ok (.ireturn, 1) := by decide +kernel
theorem dX4_startTrial_0 : decode cX4_startTrial 0 = .ok (.aload_n 0, 1) := by decide +kernel
theorem dX4_startTrial_1 : decode cX4_startTrial 1 = .ok (.getfield 16, 3) := by decide +kernel
theorem dX4_startTrial_4 : decode cX4_startTrial 4 = .ok (.aload_n 0, 1) := by decide +kernel
theorem dX4_startTrial_5 : decode cX4_startTrial 5 = .ok (.getfield 10, 3) := by decide +kernel
theorem dX4_startTrial_8 : decode cX4_startTrial 8 = .ok (.invokevirtual 189, 3) := by decide +kernel
theorem dX4_startTrial_11 : decode cX4_startTrial 11 = .ok (.return_, 1) := by decide +kernel
theorem dX4_goesAsBooked_0 : decode cX4_goesAsBooked 0 = .ok (.iconst 0, 1) := by decide +kernel
theorem dX4_goesAsBooked_1 : decode cX4_goesAsBooked 1 = .ok (.istore_n 3, 1) := by decide +kernel
theorem dX4_goesAsBooked_2 : decode cX4_goesAsBooked 2 = .ok (.iload_n 3, 1) := by decide +kernel
theorem dX4_goesAsBooked_3 : decode cX4_goesAsBooked 3 = .ok (.aload_n 1, 1) := by decide +kernel
theorem dX4_goesAsBooked_4 : decode cX4_goesAsBooked 4 = .ok (.getfield 203, 3) := by decide +kernel
theorem dX4_goesAsBooked_7 : decode cX4_goesAsBooked 7 = .ok (.if_icmp .ge 49, 3) := by decide +kernel
theorem dX4_goesAsBooked_10 : decode cX4_goesAsBooked 10 = .ok (.aload_n 1, 1) := by decide +kernel
theorem dX4_goesAsBooked_11 : decode cX4_goesAsBooked 11 = .ok (.getfield 207, 3) := by decide +kernel
theorem dX4_goesAsBooked_14 : decode cX4_goesAsBooked 14 = .ok (.iload_n 3, 1) := by decide +kernel
theorem dX4_goesAsBooked_15 : decode cX4_goesAsBooked 15 = .ok (.laload, 1) := by decide +kernel
theorem dX4_goesAsBooked_16 : decode cX4_goesAsBooked 16 = .ok (.aload_n 0, 1) := by decide +kernel
theorem dX4_goesAsBooked_17 : decode cX4_goesAsBooked 17 = .ok (.getfield 16, 3) := by decide +kernel
theorem dX4_goesAsBooked_20 : decode cX4_goesAsBooked 20 = .ok (.getfield 145, 3) := by decide +kernel
theorem dX4_goesAsBooked_23 : decode cX4_goesAsBooked 23 = .ok (.iload_n 2, 1) := by decide +kernel
theorem dX4_goesAsBooked_24 : decode cX4_goesAsBooked 24 = .ok (.iaload, 1) := by decide +kernel
theorem dX4_goesAsBooked_25 : decode cX4_goesAsBooked 25 = .ok (.i2l, 1) := by decide +kernel
theorem dX4_goesAsBooked_26 : decode cX4_goesAsBooked 26 = .ok (.lcmp, 1) := by decide +kernel
theorem dX4_goesAsBooked_27 : decode cX4_goesAsBooked 27 = .ok (.ifCond .eq 5, 3) := by decide +kernel
theorem dX4_goesAsBooked_30 : decode cX4_goesAsBooked 30 = .ok (.iconst 0, 1) := by decide +kernel
theorem dX4_goesAsBooked_31 : decode cX4_goesAsBooked 31 = .ok (.ireturn, 1) := by decide +kernel
theorem dX4_goesAsBooked_32 : decode cX4_goesAsBooked 32 = .ok (.iload_n 3, 1) := by decide +kernel
theorem dX4_goesAsBooked_33 : decode cX4_goesAsBooked 33 = .ok (.iconst 1, 1) := by decide +kernel
theorem dX4_goesAsBooked_34 : decode cX4_goesAsBooked 34 = .ok (.iadd, 1) := by decide +kernel
theorem dX4_goesAsBooked_35 : decode cX4_goesAsBooked 35 = .ok (.aload_n 1, 1) := by decide +kernel
theorem dX4_goesAsBooked_36 : decode cX4_goesAsBooked 36 = .ok (.getfield 203, 3) := by decide +kernel
theorem dX4_goesAsBooked_39 : decode cX4_goesAsBooked 39 = .ok (.if_icmp .ge 11, 3) := by decide +kernel
theorem dX4_goesAsBooked_42 : decode cX4_goesAsBooked 42 = .ok (.aload_n 0, 1) := by decide +kernel
theorem dX4_goesAsBooked_43 : decode cX4_goesAsBooked 43 = .ok (.getfield 16, 3) := by decide +kernel
theorem dX4_goesAsBooked_46 : decode cX4_goesAsBooked 46 = .ok (.iconst 1, 1) := by decide +kernel
theorem dX4_goesAsBooked_47 : decode cX4_goesAsBooked 47 = .ok (.invokevirtual 155, 3) := by decide +kernel
theorem dX4_goesAsBooked_50 : decode cX4_goesAsBooked 50 = .ok (.iinc 3 1, 3) := by decide +kernel
theorem dX4_goesAsBooked_53 : decode cX4_goesAsBooked 53 = .ok (.goto (-51), 3) := by decide +kernel
theorem dX4_goesAsBooked_56 : decode cX4_goesAsBooked 56 = .ok (.iconst 1, 1) := by decide +kernel
theorem dX4_goesAsBooked_57 : decode cX4_goesAsBooked 57 = .ok (.ireturn, 1) := by decide +kernel
theorem dX4_isSheet_0 : decode cX4_isSheet 0 = .ok (.iload_n 0, 1) := by decide +kernel
theorem dX4_isSheet_1 : decode cX4_isSheet 1 = .ok (.iconst 0, 1) := by decide +kernel
theorem dX4_isSheet_2 : decode cX4_isSheet 2 = .ok (.iconst 3, 1) := by decide +kernel
theorem dX4_isSheet_3 : decode cX4_isSheet 3 = .ok (.invokestatic 53, 3) := by decide +kernel
theorem dX4_isSheet_6 : decode cX4_isSheet 6 = .ok (.ireturn, 1) := by decide +kernel
theorem dX4_isKind_0 : decode cX4_isKind 0 = .ok (.iload_n 0, 1) := by decide +kernel
theorem dX4_isKind_1 : decode cX4_isKind 1 = .ok (.iconst 0, 1) := by decide +kernel
theorem dX4_isKind_2 : decode cX4_isKind 2 = .ok (.iconst 5, 1) := by decide +kernel
theorem dX4_isKind_3 : decode cX4_isKind 3 = .ok (.invokestatic 53, 3) := by decide +kernel
theorem dX4_isKind_6 : decode cX4_isKind 6 = .ok (.ireturn, 1) := by decide +kernel
theorem dX4_isWithin_0 : decode cX4_isWithin 0 = .ok (.iload_n 0, 1) := by decide +kernel
theorem dX4_isWithin_1 : decode cX4_isWithin 1 = .ok (.iload_n 1, 1) := by decide +kernel
theorem dX4_isWithin_2 : decode cX4_isWithin 2 = .ok (.if_icmp .lt 12, 3) := by decide +kernel
theorem dX4_isWithin_5 : decode cX4_isWithin 5 = .ok (.iload_n 0, 1) := by decide +kernel
theorem dX4_isWithin_6 : decode cX4_isWithin 6 = .ok (.iload_n 2, 1) := by decide +kernel
theorem dX4_isWithin_7 : decode cX4_isWithin 7 = .ok (.if_icmp .gt 7, 3) := by decide +kernel
theorem dX4_isWithin_10 : decode cX4_isWithin 10 = .ok (.iconst 1, 1) := by decide +kernel
theorem dX4_isWithin_11 : decode cX4_isWithin 11 = .ok (.goto 4, 3) := by decide +kernel
theorem dX4_isWithin_14 : decode cX4_isWithin 14 = .ok (.iconst 0, 1) := by decide +kernel
theorem dX4_isWithin_15 : decode cX4_isWithin 15 = .ok (.ireturn, 1) := by decide +kernel
theorem dX4_isUnder_0 : decode cX4_isUnder 0 = .ok (.iload_n 0, 1) := by decide +kernel
theorem dX4_isUnder_1 : decode cX4_isUnder 1 = .ok (.iload_n 1, 1) := by decide +kernel
theorem dX4_isUnder_2 : decode cX4_isUnder 2 = .ok (.if_icmp .eq 15, 3) := by decide +kernel
theorem dX4_isUnder_5 : decode cX4_isUnder 5 = .ok (.iload_n 1, 1) := by decide +kernel
theorem dX4_isUnder_6 : decode cX4_isUnder 6 = .ok (.ifCond .eq 11, 3) := by decide +kernel
theorem dX4_isUnder_9 : decode cX4_isUnder 9 = .ok (.iload_n 0, 1) := by decide +kernel
theorem dX4_isUnder_10 : decode cX4_isUnder 10 = .ok (.invokestatic 240, 3) := by decide +kernel
theorem dX4_isUnder_13 : decode cX4_isUnder 13 = .ok (.iload_n 1, 1) := by decide +kernel
theorem dX4_isUnder_14 : decode cX4_isUnder 14 = .ok (.if_icmp .ne 7, 3) := by decide +kernel
theorem dX4_isUnder_17 : decode cX4_isUnder 17 = .ok (.iconst 1, 1) := by decide +kernel
theorem dX4_isUnder_18 : decode cX4_isUnder 18 = .ok (.goto 4, 3) := by decide +kernel
theorem dX4_isUnder_21 : decode cX4_isUnder 21 = .ok (.iconst 0, 1) := by decide +kernel
theorem dX4_isUnder_22 : decode cX4_isUnder 22 = .ok (.ireturn, 1) := by decide +kernel
theorem dX4_kindAbove_0 : decode cX4_kindAbove 0 = .ok (.iload_n 0, 1) := by decide +kernel
theorem dX4_kindAbove_1 : decode cX4_kindAbove 1 = .ok (.lookupswitch 31 #[(4, 27), (5, 29)], 27) := by decide +kernel
theorem dX4_kindAbove_28 : decode cX4_kindAbove 28 = .ok (.iconst 1, 1) := by decide +kernel
theorem dX4_kindAbove_29 : decode cX4_kindAbove 29 = .ok (.ireturn, 1) := by decide +kernel
theorem dX4_kindAbove_30 : decode cX4_kindAbove 30 = .ok (.iconst 2, 1) := by decide +kernel
theorem dX4_kindAbove_31 : decode cX4_kindAbove 31 = .ok (.ireturn, 1) := by decide +kernel
theorem dX4_kindAbove_32 : decode cX4_kindAbove 32 = .ok (.iconst 0, 1) := by decide +kernel
theorem dX4_kindAbove_33 : decode cX4_kindAbove 33 = .ok (.ireturn, 1) := by decide +kernel
theorem dX5_init_0 : decode cX5_init 0 = .ok (.aload_n 0, 1) := by decide +kernel
theorem dX5_init_1 : decode cX5_init 1 = .ok (.invokespecial 1, 3) := by decide +kernel
theorem dX5_init_4 : decode cX5_init 4 = .ok (.aload_n 0, 1) := by decide +kernel
theorem dX5_init_5 : decode cX5_init 5 = .ok (.bipush 68, 2) := by decide +kernel
theorem dX5_init_7 : decode cX5_init 7 = .ok (.newarray .int, 2) := by decide +kernel
theorem dX5_init_9 : decode cX5_init 9 = .ok (.putfield 7, 3) := by decide +kernel
theorem dX5_init_12 : decode cX5_init 12 = .ok (.aload_n 0, 1) := by decide +kernel
theorem dX5_init_13 : decode cX5_init 13 = .ok (.bipush 7, 2) := by decide +kernel
theorem dX5_init_15 : decode cX5_init 15 = .ok (.newarray .int, 2) := by decide +kernel
theorem dX5_init_17 : decode cX5_init 17 = .ok (.putfield 13, 3) := by decide +kernel
theorem dX5_init_20 : decode cX5_init 20 = .ok (.aload_n 0, 1) := by decide +kernel
theorem dX5_init_21 : decode cX5_init 21 = .ok (.bipush 68, 2) := by decide +kernel
theorem dX5_init_23 : decode cX5_init 23 = .ok (.newarray .int, 2) := by decide +kernel
theorem dX5_init_25 : decode cX5_init 25 = .ok (.putfield 16, 3) := by decide +kernel
theorem dX5_init_28 : decode cX5_init 28 = .ok (.aload_n 0, 1) := by decide +kernel
theorem dX5_init_29 : decode cX5_init 29 = .ok (.bipush 68, 2) := by decide +kernel
theorem dX5_init_31 : decode cX5_init 31 = .ok (.newarray .int, 2) := by decide +kernel
theorem dX5_init_33 : decode cX5_init 33 = .ok (.putfield 19, 3) := by decide +kernel
theorem dX5_init_36 : decode cX5_init 36 = .ok (.aload_n 0, 1) := by decide +kernel
theorem dX5_init_37 : decode cX5_init 37 = .ok (.bipush 120, 2) := by decide +kernel
theorem dX5_init_39 : decode cX5_init 39 = .ok (.newarray .int, 2) := by decide +kernel
theorem dX5_init_41 : decode cX5_init 41 = .ok (.putfield 22, 3) := by decide +kernel
theorem dX5_init_44 : decode cX5_init 44 = .ok (.aload_n 0, 1) := by decide +kernel
theorem dX5_init_45 : decode cX5_init 45 = .ok (.iconst 4, 1) := by decide +kernel
theorem dX5_init_46 : decode cX5_init 46 = .ok (.newarray .int, 2) := by decide +kernel
theorem dX5_init_48 : decode cX5_init 48 = .ok (.putfield 25, 3) := by decide +kernel
theorem dX5_init_51 : decode cX5_init 51 = .ok (.aload_n 0, 1) := by decide +kernel
theorem dX5_init_52 : decode cX5_init 52 = .ok (.iconst 4, 1) := by decide +kernel
theorem dX5_init_53 : decode cX5_init 53 = .ok (.newarray .int, 2) := by decide +kernel
theorem dX5_init_55 : decode cX5_init 55 = .ok (.putfield 28, 3) := by decide +kernel
theorem dX5_init_58 : decode cX5_init 58 = .ok (.aload_n 0, 1) := by decide +kernel
theorem dX5_init_59 : decode cX5_init 59 = .ok (.sipush 160, 3) := by decide +kernel
theorem dX5_init_62 : decode cX5_init 62 = .ok (.newarray .long, 2) := by decide +kernel
theorem dX5_init_64 : decode cX5_init 64 = .ok (.putfield 31, 3) := by decide +kernel
theorem dX5_init_67 : decode cX5_init 67 = .ok (.aload_n 0, 1) := by decide +kernel
theorem dX5_init_68 : decode cX5_init 68 = .ok (.bipush 40, 2) := by decide +kernel
theorem dX5_init_70 : decode cX5_init 70 = .ok (.newarray .long, 2) := by decide +kernel
theorem dX5_init_72 : decode cX5_init 72 = .ok (.putfield 35, 3) := by decide +kernel
theorem dX5_init_75 : decode cX5_init 75 = .ok (.aload_n 0, 1) := by decide +kernel
theorem dX5_init_76 : decode cX5_init 76 = .ok (.bipush 68, 2) := by decide +kernel
theorem dX5_init_78 : decode cX5_init 78 = .ok (.newarray .int, 2) := by decide +kernel
theorem dX5_init_80 : decode cX5_init 80 = .ok (.putfield 38, 3) := by decide +kernel
theorem dX5_init_83 : decode cX5_init 83 = .ok (.aload_n 0, 1) := by decide +kernel
theorem dX5_init_84 : decode cX5_init 84 = .ok (.bipush 68, 2) := by decide +kernel
theorem dX5_init_86 : decode cX5_init 86 = .ok (.newarray .int, 2) := by decide +kernel
theorem dX5_init_88 : decode cX5_init 88 = .ok (.putfield 41, 3) := by decide +kernel
theorem dX5_init_91 : decode cX5_init 91 = .ok (.aload_n 0, 1) := by decide +kernel
theorem dX5_init_92 : decode cX5_init 92 = .ok (.getfield 7, 3) := by decide +kernel
theorem dX5_init_95 : decode cX5_init 95 = .ok (.iconst 1, 1) := by decide +kernel
theorem dX5_init_96 : decode cX5_init 96 = .ok (.bipush 60, 2) := by decide +kernel
theorem dX5_init_98 : decode cX5_init 98 = .ok (.iastore, 1) := by decide +kernel
theorem dX5_init_99 : decode cX5_init 99 = .ok (.return_, 1) := by decide +kernel
theorem dX5_in_0 : decode cX5_in 0 = .ok (.iload_n 0, 1) := by decide +kernel
theorem dX5_in_1 : decode cX5_in 1 = .ok (.iload_n 1, 1) := by decide +kernel
theorem dX5_in_2 : decode cX5_in 2 = .ok (.if_icmp .lt 12, 3) := by decide +kernel
theorem dX5_in_5 : decode cX5_in 5 = .ok (.iload_n 0, 1) := by decide +kernel
theorem dX5_in_6 : decode cX5_in 6 = .ok (.iload_n 2, 1) := by decide +kernel
theorem dX5_in_7 : decode cX5_in 7 = .ok (.if_icmp .gt 7, 3) := by decide +kernel
theorem dX5_in_10 : decode cX5_in 10 = .ok (.iconst 1, 1) := by decide +kernel
theorem dX5_in_11 : decode cX5_in 11 = .ok (.goto 4, 3) := by decide +kernel
theorem dX5_in_14 : decode cX5_in 14 = .ok (.iconst 0, 1) := by decide +kernel
theorem dX5_in_15 : decode cX5_in 15 = .ok (.ireturn, 1) := by decide +kernel
theorem dX5_finds_0 : decode cX5_finds 0 = .ok (.aload_n 0, 1) := by decide +kernel
theorem dX5_finds_1 : decode cX5_finds 1 = .ok (.getfield 13, 3) := by decide +kernel
theorem dX5_finds_4 : decode cX5_finds 4 = .ok (.ldc 44, 2) := by decide +kernel
theorem dX5_finds_6 : decode cX5_finds 6 = .ok (.iload_n 1, 1) := by decide +kernel
theorem dX5_finds_7 : decode cX5_finds 7 = .ok (.isub, 1) := by decide +kernel
theorem dX5_finds_8 : decode cX5_finds 8 = .ok (.dup2, 1) := by decide +kernel
theorem dX5_finds_9 : decode cX5_finds 9 = .ok (.iaload, 1) := by decide +kernel
theorem dX5_finds_10 : decode cX5_finds 10 = .ok (.iconst 1, 1) := by decide +kernel
theorem dX5_finds_11 : decode cX5_finds 11 = .ok (.iadd, 1) := by decide +kernel
theorem dX5_finds_12 : decode cX5_finds 12 = .ok (.iastore, 1) := by decide +kernel
theorem dX5_finds_13 : decode cX5_finds 13 = .ok (.iload_n 1, 1) := by decide +kernel
theorem dX5_finds_14 : decode cX5_finds 14 = .ok (.ireturn, 1) := by decide +kernel
theorem dX5_held_0 : decode cX5_held 0 = .ok (.iload_n 0, 1) := by decide +kernel
theorem dX5_held_1 : decode cX5_held 1 = .ok (.iload_n 1, 1) := by decide +kernel
theorem dX5_held_2 : decode cX5_held 2 = .ok (.if_icmp .ge 7, 3) := by decide +kernel
theorem dX5_held_5 : decode cX5_held 5 = .ok (.iload_n 1, 1) := by decide +kernel
theorem dX5_held_6 : decode cX5_held 6 = .ok (.goto 13, 3) := by decide +kernel
theorem dX5_held_9 : decode cX5_held 9 = .ok (.iload_n 0, 1) := by decide +kernel
theorem dX5_held_10 : decode cX5_held 10 = .ok (.iload_n 2, 1) := by decide +kernel
theorem dX5_held_11 : decode cX5_held 11 = .ok (.if_icmp .le 7, 3) := by decide +kernel
theorem dX5_held_14 : decode cX5_held 14 = .ok (.iload_n 2, 1) := by decide +kernel
theorem dX5_held_15 : decode cX5_held 15 = .ok (.goto 4, 3) := by decide +kernel
theorem dX5_held_18 : decode cX5_held 18 = .ok (.iload_n 0, 1) := by decide +kernel
theorem dX5_held_19 : decode cX5_held 19 = .ok (.ireturn, 1) := by decide +kernel
theorem dX5_its_0 : decode cX5_its 0 = .ok (.aload_n 0, 1) := by decide +kernel
theorem dX5_its_1 : decode cX5_its 1 = .ok (.getfield 7, 3) := by decide +kernel
theorem dX5_its_4 : decode cX5_its 4 = .ok (.iconst 4, 1) := by decide +kernel
theorem dX5_its_5 : decode cX5_its 5 = .ok (.iconst 4, 1) := by decide +kernel
theorem dX5_its_6 : decode cX5_its 6 = .ok (.iload_n 1, 1) := by decide +kernel
theorem dX5_its_7 : decode cX5_its 7 = .ok (.imul, 1) := by decide +kernel
theorem dX5_its_8 : decode cX5_its 8 = .ok (.iadd, 1) := by decide +kernel
theorem dX5_its_9 : decode cX5_its 9 = .ok (.iload_n 2, 1) := by decide +kernel
theorem dX5_its_10 : decode cX5_its 10 = .ok (.iadd, 1) := by decide +kernel
theorem dX5_its_11 : decode cX5_its 11 = .ok (.iaload, 1) := by decide +kernel
theorem dX5_its_12 : decode cX5_its 12 = .ok (.ireturn, 1) := by decide +kernel
theorem dX5_puts_0 : decode cX5_puts 0 = .ok (.aload_n 0, 1) := by decide +kernel
theorem dX5_puts_1 : decode cX5_puts 1 = .ok (.getfield 7, 3) := by decide +kernel
theorem dX5_puts_4 : decode cX5_puts 4 = .ok (.iconst 4, 1) := by decide +kernel
theorem dX5_puts_5 : decode cX5_puts 5 = .ok (.iconst 4, 1) := by decide +kernel
theorem dX5_puts_6 : decode cX5_puts 6 = .ok (.iload_n 1, 1) := by decide +kernel
theorem dX5_puts_7 : decode cX5_puts 7 = .ok (.imul, 1) := by decide +kernel
theorem dX5_puts_8 : decode cX5_puts 8 = .ok (.iadd, 1) := by decide +kernel
theorem dX5_puts_9 : decode cX5_puts 9 = .ok (.iload_n 2, 1) := by decide +kernel
theorem dX5_puts_10 : decode cX5_puts 10 = .ok (.iadd, 1) := by decide +kernel
theorem dX5_puts_11 : decode cX5_puts 11 = .ok (.iload_n 3, 1) := by decide +kernel
theorem dX5_puts_12 : decode cX5_puts 12 = .ok (.iastore, 1) := by decide +kernel
theorem dX5_puts_13 : decode cX5_puts 13 = .ok (.return_, 1) := by decide +kernel
theorem dX5_worn_0 : decode cX5_worn 0 = .ok (.aload_n 0, 1) := by decide +kernel
theorem dX5_worn_1 : decode cX5_worn 1 = .ok (.getfield 7, 3) := by decide +kernel
theorem dX5_worn_4 : decode cX5_worn 4 = .ok (.bipush 28, 2) := by decide +kernel
theorem dX5_worn_6 : decode cX5_worn 6 = .ok (.iconst 4, 1) := by decide +kernel
theorem dX5_worn_7 : decode cX5_worn 7 = .ok (.iload_n 1, 1) := by decide +kernel
theorem dX5_worn_8 : decode cX5_worn 8 = .ok (.imul, 1) := by decide +kernel
theorem dX5_worn_9 : decode cX5_worn 9 = .ok (.iadd, 1) := by decide +kernel
theorem dX5_worn_10 : decode cX5_worn 10 = .ok (.iload_n 2, 1) := by decide +kernel
theorem dX5_worn_11 : decode cX5_worn 11 = .ok (.iadd, 1) := by decide +kernel
theorem dX5_worn_12 : decode cX5_worn 12 = .ok (.iaload, 1) := by decide +kernel
theorem dX5_worn_13 : decode cX5_worn 13 = .ok (.ireturn, 1) := by decide +kernel
theorem dX5_sews_0 : decode cX5_sews 0 = .ok (.aload_n 0, 1) := by decide +kernel
theorem dX5_sews_1 : decode cX5_sews 1 = .ok (.getfield 7, 3) := by decide +kernel
theorem dX5_sews_4 : decode cX5_sews 4 = .ok (.bipush 28, 2) := by decide +kernel
theorem dX5_sews_6 : decode cX5_sews 6 = .ok (.iconst 4, 1) := by decide +kernel
theorem dX5_sews_7 : decode cX5_sews 7 = .ok (.iload_n 1, 1) := by decide +kernel
theorem dX5_sews_8 : decode cX5_sews 8 = .ok (.imul, 1) := by decide +kernel
theorem dX5_sews_9 : decode cX5_sews 9 = .ok (.iadd, 1) := by decide +kernel
theorem dX5_sews_10 : decode cX5_sews 10 = .ok (.iload_n 2, 1) := by decide +kernel
theorem dX5_sews_11 : decode cX5_sews 11 = .ok (.iadd, 1) := by decide +kernel
theorem dX5_sews_12 : decode cX5_sews 12 = .ok (.iload_n 3, 1) := by decide +kernel
theorem dX5_sews_13 : decode cX5_sews 13 = .ok (.iastore, 1) := by decide +kernel
theorem dX5_sews_14 : decode cX5_sews 14 = .ok (.return_, 1) := by decide +kernel
theorem dX5_becomes_0 : decode cX5_becomes 0 = .ok (.aload_n 0, 1) := by decide +kernel
theorem dX5_becomes_1 : decode cX5_becomes 1 = .ok (.getfield 7, 3) := by decide +kernel
theorem dX5_becomes_4 : decode cX5_becomes 4 = .ok (.iload_n 1, 1) := by decide +kernel
theorem dX5_becomes_5 : decode cX5_becomes 5 = .ok (.iaload, 1) := by decide +kernel
theorem dX5_becomes_6 : decode cX5_becomes 6 = .ok (.istore_n 3, 1) := by decide +kernel
theorem dX5_becomes_7 : decode cX5_becomes 7 = .ok (.aload_n 0, 1) := by decide +kernel
theorem dX5_becomes_8 : decode cX5_becomes 8 = .ok (.getfield 7, 3) := by decide +kernel
theorem dX5_becomes_11 : decode cX5_becomes 11 = .ok (.iload_n 1, 1) := by decide +kernel
theorem dX5_becomes_12 : decode cX5_becomes 12 = .ok (.iload_n 2, 1) := by decide +kernel
theorem dX5_becomes_13 : decode cX5_becomes 13 = .ok (.iastore, 1) := by decide +kernel
theorem dX5_becomes_14 : decode cX5_becomes 14 = .ok (.iload_n 3, 1) := by decide +kernel
theorem dX5_becomes_15 : decode cX5_becomes 15 = .ok (.ireturn, 1) := by decide +kernel
theorem dX5_isOne_0 : decode cX5_isOne 0 = .ok (.iload_n 1, 1) := by decide +kernel
theorem dX5_isOne_1 : decode cX5_isOne 1 = .ok (.iconst 0, 1) := by decide +kernel
theorem dX5_isOne_2 : decode cX5_isOne 2 = .ok (.aload_n 0, 1) := by decide +kernel
theorem dX5_isOne_3 : decode cX5_isOne 3 = .ok (.getfield 7, 3) := by decide +kernel
theorem dX5_isOne_6 : decode cX5_isOne 6 = .ok (.iconst 2, 1) := by decide +kernel
theorem dX5_isOne_7 : decode cX5_isOne 7 = .ok (.iaload, 1) := by decide +kernel
theorem dX5_isOne_8 : decode cX5_isOne 8 = .ok (.iconst 1, 1) := by decide +kernel
theorem dX5_isOne_9 : decode cX5_isOne 9 = .ok (.isub, 1) := by decide +kernel
theorem dX5_isOne_10 : decode cX5_isOne 10 = .ok (.invokestatic 45, 3) := by decide +kernel
theorem dX5_isOne_13 : decode cX5_isOne 13 = .ok (.ireturn, 1) := by decide +kernel
theorem dX5_isGarment_0 : decode cX5_isGarment 0 = .ok (.iload_n 1, 1) := by decide +kernel
theorem dX5_isGarment_1 : decode cX5_isGarment 1 = .ok (.iconst 0, 1) := by decide +kernel
theorem dX5_isGarment_2 : decode cX5_isGarment 2 = .ok (.aload_n 0, 1) := by decide +kernel
theorem dX5_isGarment_3 : decode cX5_isGarment 3 = .ok (.getfield 7, 3) := by decide +kernel
theorem dX5_isGarment_6 : decode cX5_isGarment 6 = .ok (.iconst 3, 1) := by decide +kernel
theorem dX5_isGarment_7 : decode cX5_isGarment 7 = .ok (.iaload, 1) := by decide +kernel
theorem dX5_isGarment_8 : decode cX5_isGarment 8 = .ok (.iconst 1, 1) := by decide +kernel
theorem dX5_isGarment_9 : decode cX5_isGarment 9 = .ok (.isub, 1) := by decide +kernel
theorem dX5_isGarment_10 : decode cX5_isGarment 10 = .ok (.invokestatic 45, 3) := by decide +kernel
theorem dX5_isGarment_13 : decode cX5_isGarment 13 = .ok (.ireturn, 1) := by decide +kernel
theorem dX5_isKind_0 : decode cX5_isKind 0 = .ok (.iload_n 0, 1) := by decide +kernel
theorem dX5_isKind_1 : decode cX5_isKind 1 = .ok (.iconst 0, 1) := by decide +kernel
theorem dX5_isKind_2 : decode cX5_isKind 2 = .ok (.iconst 5, 1) := by decide +kernel
theorem dX5_isKind_3 : decode cX5_isKind 3 = .ok (.invokestatic 45, 3) := by decide +kernel
theorem dX5_isKind_6 : decode cX5_isKind 6 = .ok (.ireturn, 1) := by decide +kernel
theorem dX5_bits_0 : decode cX5_bits 0 = .ok (.iconst 0, 1) := by decide +kernel
theorem dX5_bits_1 : decode cX5_bits 1 = .ok (.istore_n 1, 1) := by decide +kernel
theorem dX5_bits_2 : decode cX5_bits 2 = .ok (.iload_n 0, 1) := by decide +kernel
theorem dX5_bits_3 : decode cX5_bits 3 = .ok (.istore_n 2, 1) := by decide +kernel
theorem dX5_bits_4 : decode cX5_bits 4 = .ok (.iload_n 2, 1) := by decide +kernel
theorem dX5_bits_5 : decode cX5_bits 5 = .ok (.ifCond .eq 15, 3) := by decide +kernel
theorem dX5_bits_8 : decode cX5_bits 8 = .ok (.iinc 1 1, 3) := by decide +kernel
theorem dX5_bits_11 : decode cX5_bits 11 = .ok (.iload_n 2, 1) := by decide +kernel
theorem dX5_bits_12 : decode cX5_bits 12 = .ok (.iload_n 2, 1) := by decide +kernel
theorem dX5_bits_13 : decode cX5_bits 13 = .ok (.iconst 1, 1) := by decide +kernel
theorem dX5_bits_14 : decode cX5_bits 14 = .ok (.isub, 1) := by decide +kernel
theorem dX5_bits_15 : decode cX5_bits 15 = .ok (.iand, 1) := by decide +kernel
theorem dX5_bits_16 : decode cX5_bits 16 = .ok (.istore_n 2, 1) := by decide +kernel
theorem dX5_bits_17 : decode cX5_bits 17 = .ok (.goto (-13), 3) := by decide +kernel
theorem dX5_bits_20 : decode cX5_bits 20 = .ok (.iload_n 1, 1) := by decide +kernel
theorem dX5_bits_21 : decode cX5_bits 21 = .ok (.ireturn, 1) := by decide +kernel
theorem dX5_withWhom_0 : decode cX5_withWhom 0 = .ok (.iconst 0, 1) := by decide +kernel
theorem dX5_withWhom_1 : decode cX5_withWhom 1 = .ok (.istore_n 2, 1) := by decide +kernel
theorem dX5_withWhom_2 : decode cX5_withWhom 2 = .ok (.iconst 0, 1) := by decide +kernel
theorem dX5_withWhom_3 : decode cX5_withWhom 3 = .ok (.istore_n 3, 1) := by decide +kernel
theorem dX5_withWhom_4 : decode cX5_withWhom 4 = .ok (.iload_n 3, 1) := by decide +kernel
theorem dX5_withWhom_5 : decode cX5_withWhom 5 = .ok (.aload_n 0, 1) := by decide +kernel
theorem dX5_withWhom_6 : decode cX5_withWhom 6 = .ok (.getfield 7, 3) := by decide +kernel
theorem dX5_withWhom_9 : decode cX5_withWhom 9 = .ok (.iconst 3, 1) := by decide +kernel
theorem dX5_withWhom_10 : decode cX5_withWhom 10 = .ok (.iaload, 1) := by decide +kernel
theorem dX5_withWhom_11 : decode cX5_withWhom 11 = .ok (.if_icmp .ge 29, 3) := by decide +kernel
theorem dX5_withWhom_14 : decode cX5_withWhom 14 = .ok (.iload_n 2, 1) := by decide +kernel
theorem dX5_withWhom_15 : decode cX5_withWhom 15 = .ok (.aload_n 0, 1) := by decide +kernel
theorem dX5_withWhom_16 : decode cX5_withWhom 16 = .ok (.iload_n 3, 1) := by decide +kernel
theorem dX5_withWhom_17 : decode cX5_withWhom 17 = .ok (.iconst 3, 1) := by decide +kernel
theorem dX5_withWhom_18 : decode cX5_withWhom 18 = .ok (.invokevirtual 49, 3) := by decide +kernel
theorem dX5_withWhom_21 : decode cX5_withWhom 21 = .ok (.iload_n 1, 1) := by decide +kernel
theorem dX5_withWhom_22 : decode cX5_withWhom 22 = .ok (.if_icmp .ne 9, 3) := by decide +kernel
theorem dX5_withWhom_25 : decode cX5_withWhom 25 = .ok (.iconst 1, 1) := by decide +kernel
theorem dX5_withWhom_26 : decode cX5_withWhom 26 = .ok (.iload_n 3, 1) := by decide +kernel
theorem dX5_withWhom_27 : decode cX5_withWhom 27 = .ok (.ishl, 1) := by decide +kernel
theorem dX5_withWhom_28 : decode cX5_withWhom 28 = .ok (.goto 4, 3) := by decide +kernel
theorem dX5_withWhom_31 : decode cX5_withWhom 31 = .ok (.iconst 0, 1) := by decide +kernel
theorem dX5_withWhom_32 : decode cX5_withWhom 32 = .ok (.ior, 1) := by decide +kernel
theorem dX5_withWhom_33 : decode cX5_withWhom 33 = .ok (.istore_n 2, 1) := by decide +kernel
theorem dX5_withWhom_34 : decode cX5_withWhom 34 = .ok (.iinc 3 1, 3) := by decide +kernel
theorem dX5_withWhom_37 : decode cX5_withWhom 37 = .ok (.goto (-33), 3) := by decide +kernel
theorem dX5_withWhom_40 : decode cX5_withWhom 40 = .ok (.iload_n 2, 1) := by decide +kernel
theorem dX5_withWhom_41 : decode cX5_withWhom 41 = .ok (.ireturn, 1) := by decide +kernel
theorem dX5_ownedBy_0 : decode cX5_ownedBy 0 = .ok (.iconst 0, 1) := by decide +kernel
theorem dX5_ownedBy_1 : decode cX5_ownedBy 1 = .ok (.istore_n 2, 1) := by decide +kernel
theorem dX5_ownedBy_2 : decode cX5_ownedBy 2 = .ok (.iconst 0, 1) := by decide +kernel
theorem dX5_ownedBy_3 : decode cX5_ownedBy 3 = .ok (.istore_n 3, 1) := by decide +kernel
theorem dX5_ownedBy_4 : decode cX5_ownedBy 4 = .ok (.iload_n 3, 1) := by decide +kernel
theorem dX5_ownedBy_5 : decode cX5_ownedBy 5 = .ok (.aload_n 0, 1) := by decide +kernel
theorem dX5_ownedBy_6 : decode cX5_ownedBy 6 = .ok (.getfield 7, 3) := by decide +kernel
theorem dX5_ownedBy_9 : decode cX5_ownedBy 9 = .ok (.iconst 3, 1) := by decide +kernel
theorem dX5_ownedBy_10 : decode cX5_ownedBy 10 = .ok (.iaload, 1) := by decide +kernel
theorem dX5_ownedBy_11 : decode cX5_ownedBy 11 = .ok (.if_icmp .ge 29, 3) := by decide +kernel
theorem dX5_ownedBy_14 : decode cX5_ownedBy 14 = .ok (.iload_n 2, 1) := by decide +kernel
theorem dX5_ownedBy_15 : decode cX5_ownedBy 15 = .ok (.aload_n 0, 1) := by decide +kernel
theorem dX5_ownedBy_16 : decode cX5_ownedBy 16 = .ok (.iload_n 3, 1) := by decide +kernel
theorem dX5_ownedBy_17 : decode cX5_ownedBy 17 = .ok (.iconst 0, 1) := by decide +kernel
theorem dX5_ownedBy_18 : decode cX5_ownedBy 18 = .ok (.invokevirtual 49, 3) := by decide +kernel
theorem dX5_ownedBy_21 : decode cX5_ownedBy 21 = .ok (.iload_n 1, 1) := by decide +kernel
theorem dX5_ownedBy_22 : decode cX5_ownedBy 22 = .ok (.if_icmp .ne 9, 3) := by decide +kernel
theorem dX5_ownedBy_25 : decode cX5_ownedBy 25 = .ok (.iconst 1, 1) := by decide +kernel
theorem dX5_ownedBy_26 : decode cX5_ownedBy 26 = .ok (.iload_n 3, 1) := by decide +kernel
theorem dX5_ownedBy_27 : decode cX5_ownedBy 27 = .ok (.ishl, 1) := by decide +kernel
theorem dX5_ownedBy_28 : decode cX5_ownedBy 28 = .ok (.goto 4, 3) := by decide +kernel
theorem dX5_ownedBy_31 : decode cX5_ownedBy 31 = .ok (.iconst 0, 1) := by decide +kernel
theorem dX5_ownedBy_32 : decode cX5_ownedBy 32 = .ok (.ior, 1) := by decide +kernel
theorem dX5_ownedBy_33 : decode cX5_ownedBy 33 = .ok (.istore_n 2, 1) := by decide +kernel
theorem dX5_ownedBy_34 : decode cX5_ownedBy 34 = .ok (.iinc 3 1, 3) := by decide +kernel
theorem dX5_ownedBy_37 : decode cX5_ownedBy 37 = .ok (.goto (-33), 3) := by decide +kernel
theorem dX5_ownedBy_40 : decode cX5_ownedBy 40 = .ok (.iload_n 2, 1) := by decide +kernel
theorem dX5_ownedBy_41 : decode cX5_ownedBy 41 = .ok (.ireturn, 1) := by decide +kernel
theorem dX5_isRight_0 : decode cX5_isRight 0 = .ok (.aload_n 0, 1) := by decide +kernel
theorem dX5_isRight_1 : decode cX5_isRight 1 = .ok (.iload_n 1, 1) := by decide +kernel
theorem dX5_isRight_2 : decode cX5_isRight 2 = .ok (.iconst 3, 1) := by decide +kernel
theorem dX5_isRight_3 : decode cX5_isRight 3 = .ok (.invokevirtual 49, 3) := by decide +kernel
theorem dX5_isRight_6 : decode cX5_isRight 6 = .ok (.aload_n 0, 1) := by decide +kernel
theorem dX5_isRight_7 : decode cX5_isRight 7 = .ok (.iload_n 1, 1) := by decide +kernel
theorem dX5_isRight_8 : decode cX5_isRight 8 = .ok (.iconst 0, 1) := by decide +kernel
theorem dX5_isRight_9 : decode cX5_isRight 9 = .ok (.invokevirtual 49, 3) := by decide +kernel
theorem dX5_isRight_12 : decode cX5_isRight 12 = .ok (.if_icmp .ne 7, 3) := by decide +kernel
theorem dX5_isRight_15 : decode cX5_isRight 15 = .ok (.iconst 1, 1) := by decide +kernel
theorem dX5_isRight_16 : decode cX5_isRight 16 = .ok (.goto 4, 3) := by decide +kernel
theorem dX5_isRight_19 : decode cX5_isRight 19 = .ok (.iconst 0, 1) := by decide +kernel
theorem dX5_isRight_20 : decode cX5_isRight 20 = .ok (.ireturn, 1) := by decide +kernel
theorem dX5_rights_0 : decode cX5_rights 0 = .ok (.iconst 0, 1) := by decide +kernel
theorem dX5_rights_1 : decode cX5_rights 1 = .ok (.istore_n 1, 1) := by decide +kernel
theorem dX5_rights_2 : decode cX5_rights 2 = .ok (.iconst 0, 1) := by decide +kernel
theorem dX5_rights_3 : decode cX5_rights 3 = .ok (.istore_n 2, 1) := by decide +kernel
theorem dX5_rights_4 : decode cX5_rights 4 = .ok (.iload_n 2, 1) := by decide +kernel
theorem dX5_rights_5 : decode cX5_rights 5 = .ok (.aload_n 0, 1) := by decide +kernel
theorem dX5_rights_6 : decode cX5_rights 6 = .ok (.getfield 7, 3) := by decide +kernel
theorem dX5_rights_9 : decode cX5_rights 9 = .ok (.iconst 3, 1) := by decide +kernel
theorem dX5_rights_10 : decode cX5_rights 10 = .ok (.iaload, 1) := by decide +kernel
theorem dX5_rights_11 : decode cX5_rights 11 = .ok (.if_icmp .ge 27, 3) := by decide +kernel
theorem dX5_rights_14 : decode cX5_rights 14 = .ok (.iload_n 1, 1) := by decide +kernel
theorem dX5_rights_15 : decode cX5_rights 15 = .ok (.aload_n 0, 1) := by decide +kernel
theorem dX5_rights_16 : decode cX5_rights 16 = .ok (.iload_n 2, 1) := by decide +kernel
theorem dX5_rights_17 : decode cX5_rights 17 = .ok (.invokevirtual 53, 3) := by decide +kernel
theorem dX5_rights_20 : decode cX5_rights 20 = .ok (.ifCond .eq 9, 3) := by decide +kernel
theorem dX5_rights_23 : decode cX5_rights 23 = .ok (.iconst 1, 1) := by decide +kernel
theorem dX5_rights_24 : decode cX5_rights 24 = .ok (.iload_n 2, 1) := by decide +kernel
theorem dX5_rights_25 : decode cX5_rights 25 = .ok (.ishl, 1) := by decide +kernel
theorem dX5_rights_26 : decode cX5_rights 26 = .ok (.goto 4, 3) := by decide +kernel
theorem dX5_rights_29 : decode cX5_rights 29 = .ok (.iconst 0, 1) := by decide +kernel
theorem dX5_rights_30 : decode cX5_rights 30 = .ok (.ior, 1) := by decide +kernel
theorem dX5_rights_31 : decode cX5_rights 31 = .ok (.istore_n 1, 1) := by decide +kernel
theorem dX5_rights_32 : decode cX5_rights 32 = .ok (.iinc 2 1, 3) := by decide +kernel
theorem dX5_rights_35 : decode cX5_rights 35 = .ok (.goto (-31), 3) := by decide +kernel
theorem dX5_rights_38 : decode cX5_rights 38 = .ok (.iload_n 1, 1) := by decide +kernel
theorem dX5_rights_39 : decode cX5_rights 39 = .ok (.ireturn, 1) := by decide +kernel
theorem dX5_fades_0 : decode cX5_fades 0 = .ok (.aload_n 0, 1) := by decide +kernel
theorem dX5_fades_1 : decode cX5_fades 1 = .ok (.getfield 7, 3) := by decide +kernel
theorem dX5_fades_4 : decode cX5_fades 4 = .ok (.iconst 1, 1) := by decide +kernel
theorem dX5_fades_5 : decode cX5_fades 5 = .ok (.iaload, 1) := by decide +kernel
theorem dX5_fades_6 : decode cX5_fades 6 = .ok (.istore_n 2, 1) := by decide +kernel
theorem dX5_fades_7 : decode cX5_fades 7 = .ok (.aload_n 0, 1) := by decide +kernel
theorem dX5_fades_8 : decode cX5_fades 8 = .ok (.iload_n 1, 1) := by decide +kernel
theorem dX5_fades_9 : decode cX5_fades 9 = .ok (.iconst 1, 1) := by decide +kernel
theorem dX5_fades_10 : decode cX5_fades 10 = .ok (.invokevirtual 49, 3) := by decide +kernel
theorem dX5_fades_13 : decode cX5_fades 13 = .ok (.lookupswitch 51 #[(0, 27), (1, 29)], 27) := by decide +kernel
theorem dX5_fades_40 : decode cX5_fades 40 = .ok (.iconst 1, 1) := by decide +kernel
theorem dX5_fades_41 : decode cX5_fades 41 = .ok (.ireturn, 1) := by decide +kernel
theorem dX5_fades_42 : decode cX5_fades 42 = .ok (.iload_n 2, 1) := by decide +kernel
theorem dX5_fades_43 : decode cX5_fades 43 = .ok (.bipush 50, 2) := by decide +kernel
theorem dX5_fades_45 : decode cX5_fades 45 = .ok (.if_icmp .le 16, 3) := by decide +kernel
theorem dX5_fades_48 : decode cX5_fades 48 = .ok (.bipush 9, 2) := by decide +kernel
theorem dX5_fades_50 : decode cX5_fades 50 = .ok (.iload_n 2, 1) := by decide +kernel
theorem dX5_fades_51 : decode cX5_fades 51 = .ok (.bipush 50, 2) := by decide +kernel
theorem dX5_fades_53 : decode cX5_fades 53 = .ok (.isub, 1) := by decide +kernel
theorem dX5_fades_54 : decode cX5_fades 54 = .ok (.bipush 10, 2) := by decide +kernel
theorem dX5_fades_56 : decode cX5_fades 56 = .ok (.idiv, 1) := by decide +kernel
theorem dX5_fades_57 : decode cX5_fades 57 = .ok (.iadd, 1) := by decide +kernel
theorem dX5_fades_58 : decode cX5_fades 58 = .ok (.goto 5, 3) := by decide +kernel
theorem dX5_fades_61 : decode cX5_fades 61 = .ok (.bipush 9, 2) := by decide +kernel
theorem dX5_fades_63 : decode cX5_fades 63 = .ok (.ireturn, 1) := by decide +kernel
theorem dX5_fades_64 : decode cX5_fades 64 = .ok (.iload_n 2, 1) := by decide +kernel
theorem dX5_fades_65 : decode cX5_fades 65 = .ok (.bipush 6, 2) := by decide +kernel
theorem dX5_fades_67 : decode cX5_fades 67 = .ok (.idiv, 1) := by decide +kernel
theorem dX5_fades_68 : decode cX5_fades 68 = .ok (.ireturn, 1) := by decide +kernel
theorem dX5_reads_0 : decode cX5_reads 0 = .ok (.aload_n 0, 1) := by decide +kernel
theorem dX5_reads_1 : decode cX5_reads 1 = .ok (.iload_n 1, 1) := by decide +kernel
theorem dX5_reads_2 : decode cX5_reads 2 = .ok (.iconst 0, 1) := by decide +kernel
theorem dX5_reads_3 : decode cX5_reads 3 = .ok (.invokevirtual 49, 3) := by decide +kernel
theorem dX5_reads_6 : decode cX5_reads 6 = .ok (.istore_n 2, 1) := by decide +kernel
theorem dX5_reads_7 : decode cX5_reads 7 = .ok (.aload_n 0, 1) := by decide +kernel
theorem dX5_reads_8 : decode cX5_reads 8 = .ok (.iload_n 1, 1) := by decide +kernel
theorem dX5_reads_9 : decode cX5_reads 9 = .ok (.iconst 2, 1) := by decide +kernel
theorem dX5_reads_10 : decode cX5_reads 10 = .ok (.invokevirtual 49, 3) := by decide +kernel
theorem dX5_reads_13 : decode cX5_reads 13 = .ok (.istore_n 3, 1) := by decide +kernel
theorem dX5_reads_14 : decode cX5_reads 14 = .ok (.iload_n 3, 1) := by decide +kernel
theorem dX5_reads_15 : decode cX5_reads 15 = .ok (.bipush 60, 2) := by decide +kernel
theorem dX5_reads_17 : decode cX5_reads 17 = .ok (.if_icmp .lt 14, 3) := by decide +kernel
theorem dX5_reads_20 : decode cX5_reads 20 = .ok (.aload_n 0, 1) := by decide +kernel
theorem dX5_reads_21 : decode cX5_reads 21 = .ok (.iload_n 2, 1) := by decide +kernel
theorem dX5_reads_22 : decode cX5_reads 22 = .ok (.iconst 3, 1) := by decide +kernel
theorem dX5_reads_23 : decode cX5_reads 23 = .ok (.invokevirtual 57, 3) := by decide +kernel
theorem dX5_reads_26 : decode cX5_reads 26 = .ok (.ifCond .ne 5, 3) := by decide +kernel
theorem dX5_reads_29 : decode cX5_reads 29 = .ok (.iload_n 2, 1) := by decide +kernel
theorem dX5_reads_30 : decode cX5_reads 30 = .ok (.ireturn, 1) := by decide +kernel
theorem dX5_reads_31 : decode cX5_reads 31 = .ok (.iconst (-1), 1) := by decide +kernel
theorem dX5_reads_32 : decode cX5_reads 32 = .ok (.istore 4, 2) := by decide +kernel
theorem dX5_reads_34 : decode cX5_reads 34 = .ok (.aload_n 0, 1) := by decide +kernel
theorem dX5_reads_35 : decode cX5_reads 35 = .ok (.getfield 7, 3) := by decide +kernel
theorem dX5_reads_38 : decode cX5_reads 38 = .ok (.iconst 2, 1) := by decide +kernel
theorem dX5_reads_39 : decode cX5_reads 39 = .ok (.iaload, 1) := by decide +kernel
theorem dX5_reads_40 : decode cX5_reads 40 = .ok (.iconst 1, 1) := by decide +kernel
theorem dX5_reads_41 : decode cX5_reads 41 = .ok (.isub, 1) := by decide +kernel
theorem dX5_reads_42 : decode cX5_reads 42 = .ok (.istore 5, 2) := by decide +kernel
theorem dX5_reads_44 : decode cX5_reads 44 = .ok (.iload 5, 2) := by decide +kernel
theorem dX5_reads_46 : decode cX5_reads 46 = .ok (.ifCond .lt 50, 3) := by decide +kernel
theorem dX5_reads_49 : decode cX5_reads 49 = .ok (.iload_n 3, 1) := by decide +kernel
theorem dX5_reads_50 : decode cX5_reads 50 = .ok (.bipush 20, 2) := by decide +kernel
theorem dX5_reads_52 : decode cX5_reads 52 = .ok (.if_icmp .lt 44, 3) := by decide +kernel
theorem dX5_reads_55 : decode cX5_reads 55 = .ok (.aload_n 0, 1) := by decide +kernel
theorem dX5_reads_56 : decode cX5_reads 56 = .ok (.iload 5, 2) := by decide +kernel
theorem dX5_reads_58 : decode cX5_reads 58 = .ok (.iconst 1, 1) := by decide +kernel
theorem dX5_reads_59 : decode cX5_reads 59 = .ok (.invokevirtual 57, 3) := by decide +kernel
theorem dX5_reads_62 : decode cX5_reads 62 = .ok (.aload_n 0, 1) := by decide +kernel
theorem dX5_reads_63 : decode cX5_reads 63 = .ok (.iload_n 2, 1) := by decide +kernel
theorem dX5_reads_64 : decode cX5_reads 64 = .ok (.iconst 1, 1) := by decide +kernel
theorem dX5_reads_65 : decode cX5_reads 65 = .ok (.invokevirtual 57, 3) := by decide +kernel
theorem dX5_reads_68 : decode cX5_reads 68 = .ok (.if_icmp .ne 18, 3) := by decide +kernel
theorem dX5_reads_71 : decode cX5_reads 71 = .ok (.aload_n 0, 1) := by decide +kernel
theorem dX5_reads_72 : decode cX5_reads 72 = .ok (.iload 5, 2) := by decide +kernel
theorem dX5_reads_74 : decode cX5_reads 74 = .ok (.iconst 3, 1) := by decide +kernel
theorem dX5_reads_75 : decode cX5_reads 75 = .ok (.invokevirtual 57, 3) := by decide +kernel
theorem dX5_reads_78 : decode cX5_reads 78 = .ok (.ifCond .ne 8, 3) := by decide +kernel
theorem dX5_reads_81 : decode cX5_reads 81 = .ok (.iload 5, 2) := by decide +kernel
theorem dX5_reads_83 : decode cX5_reads 83 = .ok (.goto 5, 3) := by decide +kernel
theorem dX5_reads_86 : decode cX5_reads 86 = .ok (.iload 4, 2) := by decide +kernel
theorem dX5_reads_88 : decode cX5_reads 88 = .ok (.istore 4, 2) := by decide +kernel
theorem dX5_reads_90 : decode cX5_reads 90 = .ok (.iinc 5 (-1), 3) := by decide +kernel
theorem dX5_reads_93 : decode cX5_reads 93 = .ok (.goto (-49), 3) := by decide +kernel
theorem dX5_reads_96 : decode cX5_reads 96 = .ok (.iload 4, 2) := by decide +kernel
theorem dX5_reads_98 : decode cX5_reads 98 = .ok (.ireturn, 1) := by decide +kernel
theorem dX5_isGiving_0 : decode cX5_isGiving 0 = .ok (.aload_n 0, 1) := by decide +kernel
theorem dX5_isGiving_1 : decode cX5_isGiving 1 = .ok (.iload_n 2, 1) := by decide +kernel
theorem dX5_isGiving_2 : decode cX5_isGiving 2 = .ok (.iconst 2, 1) := by decide +kernel
theorem dX5_isGiving_3 : decode cX5_isGiving 3 = .ok (.invokevirtual 49, 3) := by decide +kernel
theorem dX5_isGiving_6 : decode cX5_isGiving 6 = .ok (.istore_n 3, 1) := by decide +kernel
theorem dX5_isGiving_7 : decode cX5_isGiving 7 = .ok (.aload_n 0, 1) := by decide +kernel
theorem dX5_isGiving_8 : decode cX5_isGiving 8 = .ok (.iload_n 1, 1) := by decide +kernel
theorem dX5_isGiving_9 : decode cX5_isGiving 9 = .ok (.iconst 0, 1) := by decide +kernel
theorem dX5_isGiving_10 : decode cX5_isGiving 10 = .ok (.invokevirtual 57, 3) := by decide +kernel
theorem dX5_isGiving_13 : decode cX5_isGiving 13 = .ok (.tableswitch 51 1 5 #[35, 37, 39, 35, 37], 35) := by decide +kernel
theorem dX5_isGiving_48 : decode cX5_isGiving 48 = .ok (.iconst 1, 1) := by decide +kernel
theorem dX5_isGiving_49 : decode cX5_isGiving 49 = .ok (.ireturn, 1) := by decide +kernel
theorem dX5_isGiving_50 : decode cX5_isGiving 50 = .ok (.iconst 0, 1) := by decide +kernel
theorem dX5_isGiving_51 : decode cX5_isGiving 51 = .ok (.ireturn, 1) := by decide +kernel
theorem dX5_isGiving_52 : decode cX5_isGiving 52 = .ok (.iload_n 3, 1) := by decide +kernel
theorem dX5_isGiving_53 : decode cX5_isGiving 53 = .ok (.bipush 80, 2) := by decide +kernel
theorem dX5_isGiving_55 : decode cX5_isGiving 55 = .ok (.if_icmp .lt 7, 3) := by decide +kernel
theorem dX5_isGiving_58 : decode cX5_isGiving 58 = .ok (.iconst 1, 1) := by decide +kernel
theorem dX5_isGiving_59 : decode cX5_isGiving 59 = .ok (.goto 4, 3) := by decide +kernel
theorem dX5_isGiving_62 : decode cX5_isGiving 62 = .ok (.iconst 0, 1) := by decide +kernel
theorem dX5_isGiving_63 : decode cX5_isGiving 63 = .ok (.ireturn, 1) := by decide +kernel
theorem dX5_isGiving_64 : decode cX5_isGiving 64 = .ok (.iload_n 3, 1) := by decide +kernel
theorem dX5_isGiving_65 : decode cX5_isGiving 65 = .ok (.bipush 60, 2) := by decide +kernel
theorem dX5_isGiving_67 : decode cX5_isGiving 67 = .ok (.if_icmp .lt 7, 3) := by decide +kernel
theorem dX5_isGiving_70 : decode cX5_isGiving 70 = .ok (.iconst 1, 1) := by decide +kernel
theorem dX5_isGiving_71 : decode cX5_isGiving 71 = .ok (.goto 4, 3) := by decide +kernel
theorem dX5_isGiving_74 : decode cX5_isGiving 74 = .ok (.iconst 0, 1) := by decide +kernel
theorem dX5_isGiving_75 : decode cX5_isGiving 75 = .ok (.ireturn, 1) := by decide +kernel
theorem dX5_isClaiming_0 : decode cX5_isClaiming 0 = .ok (.aload_n 0, 1) := by decide +kernel
theorem dX5_isClaiming_1 : decode cX5_isClaiming 1 = .ok (.iload_n 2, 1) := by decide +kernel
theorem dX5_isClaiming_2 : decode cX5_isClaiming 2 = .ok (.iconst 0, 1) := by decide +kernel
theorem dX5_isClaiming_3 : decode cX5_isClaiming 3 = .ok (.invokevirtual 49, 3) := by decide +kernel
theorem dX5_isClaiming_6 : decode cX5_isClaiming 6 = .ok (.iload_n 1, 1) := by decide +kernel
theorem dX5_isClaiming_7 : decode cX5_isClaiming 7 = .ok (.if_icmp .ne 7, 3) := by decide +kernel
theorem dX5_isClaiming_10 : decode cX5_isClaiming 10 = .ok (.iconst 1, 1) := by decide +kernel
theorem dX5_isClaiming_11 : decode cX5_isClaiming 11 = .ok (.goto 4, 3) := by decide +kernel
theorem dX5_isClaiming_14 : decode cX5_isClaiming 14 = .ok (.iconst 0, 1) := by decide +kernel
theorem dX5_isClaiming_15 : decode cX5_isClaiming 15 = .ok (.istore_n 3, 1) := by decide +kernel
theorem dX5_isClaiming_16 : decode cX5_isClaiming 16 = .ok (.aload_n 0, 1) := by decide +kernel
theorem dX5_isClaiming_17 : decode cX5_isClaiming 17 = .ok (.iload_n 2, 1) := by decide +kernel
theorem dX5_isClaiming_18 : decode cX5_isClaiming 18 = .ok (.iconst 2, 1) := by decide +kernel
theorem dX5_isClaiming_19 : decode cX5_isClaiming 19 = .ok (.invokevirtual 49, 3) := by decide +kernel
theorem dX5_isClaiming_22 : decode cX5_isClaiming 22 = .ok (.istore 4, 2) := by decide +kernel
theorem dX5_isClaiming_24 : decode cX5_isClaiming 24 = .ok (.aload_n 0, 1) := by decide +kernel
theorem dX5_isClaiming_25 : decode cX5_isClaiming 25 = .ok (.iload_n 1, 1) := by decide +kernel
theorem dX5_isClaiming_26 : decode cX5_isClaiming 26 = .ok (.iconst 0, 1) := by decide +kernel
theorem dX5_isClaiming_27 : decode cX5_isClaiming 27 = .ok (.invokevirtual 57, 3) := by decide +kernel
theorem dX5_isClaiming_30 : decode cX5_isClaiming 30 = .ok (.tableswitch 71 1 5 #[34, 36, 71, 34, 50], 34) := by decide +kernel
theorem dX5_isClaiming_64 : decode cX5_isClaiming 64 = .ok (.iload_n 3, 1) := by decide +kernel
theorem dX5_isClaiming_65 : decode cX5_isClaiming 65 = .ok (.ireturn, 1) := by decide +kernel
theorem dX5_isClaiming_66 : decode cX5_isClaiming 66 = .ok (.aload_n 0, 1) := by decide +kernel
theorem dX5_isClaiming_67 : decode cX5_isClaiming 67 = .ok (.iload_n 1, 1) := by decide +kernel
theorem dX5_isClaiming_68 : decode cX5_isClaiming 68 = .ok (.invokevirtual 60, 3) := by decide +kernel
theorem dX5_isClaiming_71 : decode cX5_isClaiming 71 = .ok (.ifCond .ne 7, 3) := by decide +kernel
theorem dX5_isClaiming_74 : decode cX5_isClaiming 74 = .ok (.iconst 1, 1) := by decide +kernel
theorem dX5_isClaiming_75 : decode cX5_isClaiming 75 = .ok (.goto 4, 3) := by decide +kernel
theorem dX5_isClaiming_78 : decode cX5_isClaiming 78 = .ok (.iconst 0, 1) := by decide +kernel
theorem dX5_isClaiming_79 : decode cX5_isClaiming 79 = .ok (.ireturn, 1) := by decide +kernel
theorem dX5_isClaiming_80 : decode cX5_isClaiming 80 = .ok (.iload 4, 2) := by decide +kernel
theorem dX5_isClaiming_82 : decode cX5_isClaiming 82 = .ok (.bipush 50, 2) := by decide +kernel
theorem dX5_isClaiming_84 : decode cX5_isClaiming 84 = .ok (.if_icmp .ge 11, 3) := by decide +kernel
theorem dX5_isClaiming_87 : decode cX5_isClaiming 87 = .ok (.aload_n 0, 1) := by decide +kernel
theorem dX5_isClaiming_88 : decode cX5_isClaiming 88 = .ok (.iload_n 1, 1) := by decide +kernel
theorem dX5_isClaiming_89 : decode cX5_isClaiming 89 = .ok (.invokevirtual 60, 3) := by decide +kernel
theorem dX5_isClaiming_92 : decode cX5_isClaiming 92 = .ok (.ifCond .ne 7, 3) := by decide +kernel
theorem dX5_isClaiming_95 : decode cX5_isClaiming 95 = .ok (.iconst 1, 1) := by decide +kernel
theorem dX5_isClaiming_96 : decode cX5_isClaiming 96 = .ok (.goto 4, 3) := by decide +kernel
theorem dX5_isClaiming_99 : decode cX5_isClaiming 99 = .ok (.iconst 0, 1) := by decide +kernel
theorem dX5_isClaiming_100 : decode cX5_isClaiming 100 = .ok (.ireturn, 1) := by decide +kernel
theorem dX5_isClaiming_101 : decode cX5_isClaiming 101 = .ok (.iload_n 3, 1) := by decide +kernel
theorem dX5_isClaiming_102 : decode cX5_isClaiming 102 = .ok (.ifCond .eq 13, 3) := by decide +kernel
theorem dX5_isClaiming_105 : decode cX5_isClaiming 105 = .ok (.iload 4, 2) := by decide +kernel
theorem dX5_isClaiming_107 : decode cX5_isClaiming 107 = .ok (.iconst 1, 1) := by decide +kernel
theorem dX5_isClaiming_108 : decode cX5_isClaiming 108 = .ok (.if_icmp .lt 7, 3) := by decide +kernel
theorem dX5_isClaiming_111 : decode cX5_isClaiming 111 = .ok (.iconst 1, 1) := by decide +kernel
theorem dX5_isClaiming_112 : decode cX5_isClaiming 112 = .ok (.goto 4, 3) := by decide +kernel
theorem dX5_isClaiming_115 : decode cX5_isClaiming 115 = .ok (.iconst 0, 1) := by decide +kernel
theorem dX5_isClaiming_116 : decode cX5_isClaiming 116 = .ok (.ireturn, 1) := by decide +kernel
theorem dX5_minds_0 : decode cX5_minds 0 = .ok (.aload_n 0, 1) := by decide +kernel
theorem dX5_minds_1 : decode cX5_minds 1 = .ok (.iload_n 1, 1) := by decide +kernel
theorem dX5_minds_2 : decode cX5_minds 2 = .ok (.invokevirtual 60, 3) := by decide +kernel
theorem dX5_minds_5 : decode cX5_minds 5 = .ok (.istore_n 2, 1) := by decide +kernel
theorem dX5_minds_6 : decode cX5_minds 6 = .ok (.iload_n 2, 1) := by decide +kernel
theorem dX5_minds_7 : decode cX5_minds 7 = .ok (.aload_n 0, 1) := by decide +kernel
theorem dX5_minds_8 : decode cX5_minds 8 = .ok (.iload_n 1, 1) := by decide +kernel
theorem dX5_minds_9 : decode cX5_minds 9 = .ok (.invokevirtual 64, 3) := by decide +kernel
theorem dX5_minds_12 : decode cX5_minds 12 = .ok (.iand, 1) := by decide +kernel
theorem dX5_minds_13 : decode cX5_minds 13 = .ok (.invokestatic 67, 3) := by decide +kernel
theorem dX5_minds_16 : decode cX5_minds 16 = .ok (.istore_n 3, 1) := by decide +kernel
theorem dX5_minds_17 : decode cX5_minds 17 = .ok (.iload_n 2, 1) := by decide +kernel
theorem dX5_minds_18 : decode cX5_minds 18 = .ok (.invokestatic 67, 3) := by decide +kernel
theorem dX5_minds_21 : decode cX5_minds 21 = .ok (.iload_n 3, 1) := by decide +kernel
theorem dX5_minds_22 : decode cX5_minds 22 = .ok (.isub, 1) := by decide +kernel
theorem dX5_minds_23 : decode cX5_minds 23 = .ok (.istore 4, 2) := by decide +kernel
theorem dX5_minds_25 : decode cX5_minds 25 = .ok (.aload_n 0, 1) := by decide +kernel
theorem dX5_minds_26 : decode cX5_minds 26 = .ok (.iload_n 1, 1) := by decide +kernel
theorem dX5_minds_27 : decode cX5_minds 27 = .ok (.iconst 0, 1) := by decide +kernel
theorem dX5_minds_28 : decode cX5_minds 28 = .ok (.invokevirtual 57, 3) := by decide +kernel
theorem dX5_minds_31 : decode cX5_minds 31 = .ok (.tableswitch 83 1 5 #[33, 64, 76, 42, 69], 33) := by decide +kernel
theorem dX5_minds_64 : decode cX5_minds 64 = .ok (.iconst 2, 1) := by decide +kernel
theorem dX5_minds_65 : decode cX5_minds 65 = .ok (.iload_n 3, 1) := by decide +kernel
theorem dX5_minds_66 : decode cX5_minds 66 = .ok (.imul, 1) := by decide +kernel
theorem dX5_minds_67 : decode cX5_minds 67 = .ok (.iconst 3, 1) := by decide +kernel
theorem dX5_minds_68 : decode cX5_minds 68 = .ok (.iload 4, 2) := by decide +kernel
theorem dX5_minds_70 : decode cX5_minds 70 = .ok (.imul, 1) := by decide +kernel
theorem dX5_minds_71 : decode cX5_minds 71 = .ok (.isub, 1) := by decide +kernel
theorem dX5_minds_72 : decode cX5_minds 72 = .ok (.ireturn, 1) := by decide +kernel
theorem dX5_minds_73 : decode cX5_minds 73 = .ok (.iload 4, 2) := by decide +kernel
theorem dX5_minds_75 : decode cX5_minds 75 = .ok (.ifCond .ne 11, 3) := by decide +kernel
theorem dX5_minds_78 : decode cX5_minds 78 = .ok (.iconst 2, 1) := by decide +kernel
theorem dX5_minds_79 : decode cX5_minds 79 = .ok (.iload_n 3, 1) := by decide +kernel
theorem dX5_minds_80 : decode cX5_minds 80 = .ok (.imul, 1) := by decide +kernel
theorem dX5_minds_81 : decode cX5_minds 81 = .ok (.iconst 2, 1) := by decide +kernel
theorem dX5_minds_82 : decode cX5_minds 82 = .ok (.iadd, 1) := by decide +kernel
theorem dX5_minds_83 : decode cX5_minds 83 = .ok (.goto 11, 3) := by decide +kernel
theorem dX5_minds_86 : decode cX5_minds 86 = .ok (.iconst 2, 1) := by decide +kernel
theorem dX5_minds_87 : decode cX5_minds 87 = .ok (.iload_n 3, 1) := by decide +kernel
theorem dX5_minds_88 : decode cX5_minds 88 = .ok (.imul, 1) := by decide +kernel
theorem dX5_minds_89 : decode cX5_minds 89 = .ok (.iconst 3, 1) := by decide +kernel
theorem dX5_minds_90 : decode cX5_minds 90 = .ok (.iload 4, 2) := by decide +kernel
theorem dX5_minds_92 : decode cX5_minds 92 = .ok (.imul, 1) := by decide +kernel
theorem dX5_minds_93 : decode cX5_minds 93 = .ok (.isub, 1) := by decide +kernel
theorem dX5_minds_94 : decode cX5_minds 94 = .ok (.ireturn, 1) := by decide +kernel
theorem dX5_minds_95 : decode cX5_minds 95 = .ok (.iload_n 3, 1) := by decide +kernel
theorem dX5_minds_96 : decode cX5_minds 96 = .ok (.iload 4, 2) := by decide +kernel
theorem dX5_minds_98 : decode cX5_minds 98 = .ok (.iadd, 1) := by decide +kernel
theorem dX5_minds_99 : decode cX5_minds 99 = .ok (.ireturn, 1) := by decide +kernel
theorem dX5_minds_100 : decode cX5_minds 100 = .ok (.iload_n 3, 1) := by decide +kernel
theorem dX5_minds_101 : decode cX5_minds 101 = .ok (.iconst 2, 1) := by decide +kernel
theorem dX5_minds_102 : decode cX5_minds 102 = .ok (.iload 4, 2) := by decide +kernel
theorem dX5_minds_104 : decode cX5_minds 104 = .ok (.imul, 1) := by decide +kernel
theorem dX5_minds_105 : decode cX5_minds 105 = .ok (.iadd, 1) := by decide +kernel
theorem dX5_minds_106 : decode cX5_minds 106 = .ok (.ireturn, 1) := by decide +kernel
theorem dX5_minds_107 : decode cX5_minds 107 = .ok (.iload_n 3, 1) := by decide +kernel
theorem dX5_minds_108 : decode cX5_minds 108 = .ok (.iload 4, 2) := by decide +kernel
theorem dX5_minds_110 : decode cX5_minds 110 = .ok (.isub, 1) := by decide +kernel
theorem dX5_minds_111 : decode cX5_minds 111 = .ok (.iconst 1, 1) := by decide +kernel
theorem dX5_minds_112 : decode cX5_minds 112 = .ok (.iadd, 1) := by decide +kernel
theorem dX5_minds_113 : decode cX5_minds 113 = .ok (.ireturn, 1) := by decide +kernel
theorem dX5_minds_114 : decode cX5_minds 114 = .ok (.iload_n 3, 1) := by decide +kernel
theorem dX5_minds_115 : decode cX5_minds 115 = .ok (.iload 4, 2) := by decide +kernel
theorem dX5_minds_117 : decode cX5_minds 117 = .ok (.isub, 1) := by decide +kernel
theorem dX5_minds_118 : decode cX5_minds 118 = .ok (.ireturn, 1) := by decide +kernel
theorem dX5_heat_0 : decode cX5_heat 0 = .ok (.iload_n 1, 1) := by decide +kernel
theorem dX5_heat_1 : decode cX5_heat 1 = .ok (.bipush 20, 2) := by decide +kernel
theorem dX5_heat_3 : decode cX5_heat 3 = .ok (.bipush 90, 2) := by decide +kernel
theorem dX5_heat_5 : decode cX5_heat 5 = .ok (.invokestatic 45, 3) := by decide +kernel
theorem dX5_heat_8 : decode cX5_heat 8 = .ok (.ifCond .eq 12, 3) := by decide +kernel
theorem dX5_heat_11 : decode cX5_heat 11 = .ok (.aload_n 0, 1) := by decide +kernel
theorem dX5_heat_12 : decode cX5_heat 12 = .ok (.iconst 1, 1) := by decide +kernel
theorem dX5_heat_13 : decode cX5_heat 13 = .ok (.iload_n 1, 1) := by decide +kernel
theorem dX5_heat_14 : decode cX5_heat 14 = .ok (.invokevirtual 70, 3) := by decide +kernel
theorem dX5_heat_17 : decode cX5_heat 17 = .ok (.goto 9, 3) := by decide +kernel
theorem dX5_heat_20 : decode cX5_heat 20 = .ok (.aload_n 0, 1) := by decide +kernel
theorem dX5_heat_21 : decode cX5_heat 21 = .ok (.ldc 44, 2) := by decide +kernel
theorem dX5_heat_23 : decode cX5_heat 23 = .ok (.invokevirtual 73, 3) := by decide +kernel
theorem dX5_heat_26 : decode cX5_heat 26 = .ok (.ireturn, 1) := by decide +kernel
theorem dX5_living_0 : decode cX5_living 0 = .ok (.iconst 0, 1) := by decide +kernel
theorem dX5_living_1 : decode cX5_living 1 = .ok (.istore_n 1, 1) := by decide +kernel
theorem dX5_living_2 : decode cX5_living 2 = .ok (.iconst 0, 1) := by decide +kernel
theorem dX5_living_3 : decode cX5_living 3 = .ok (.istore_n 2, 1) := by decide +kernel
theorem dX5_living_4 : decode cX5_living 4 = .ok (.iload_n 2, 1) := by decide +kernel
theorem dX5_living_5 : decode cX5_living 5 = .ok (.aload_n 0, 1) := by decide +kernel
theorem dX5_living_6 : decode cX5_living 6 = .ok (.getfield 7, 3) := by decide +kernel
theorem dX5_living_9 : decode cX5_living 9 = .ok (.iconst 2, 1) := by decide +kernel
theorem dX5_living_10 : decode cX5_living 10 = .ok (.iaload, 1) := by decide +kernel
theorem dX5_living_11 : decode cX5_living 11 = .ok (.if_icmp .ge 28, 3) := by decide +kernel
theorem dX5_living_14 : decode cX5_living 14 = .ok (.iload_n 1, 1) := by decide +kernel
theorem dX5_living_15 : decode cX5_living 15 = .ok (.aload_n 0, 1) := by decide +kernel
theorem dX5_living_16 : decode cX5_living 16 = .ok (.iload_n 2, 1) := by decide +kernel
theorem dX5_living_17 : decode cX5_living 17 = .ok (.iconst 3, 1) := by decide +kernel
theorem dX5_living_18 : decode cX5_living 18 = .ok (.invokevirtual 57, 3) := by decide +kernel
theorem dX5_living_21 : decode cX5_living 21 = .ok (.ifCond .ne 9, 3) := by decide +kernel
theorem dX5_living_24 : decode cX5_living 24 = .ok (.iconst 1, 1) := by decide +kernel
theorem dX5_living_25 : decode cX5_living 25 = .ok (.iload_n 2, 1) := by decide +kernel
theorem dX5_living_26 : decode cX5_living 26 = .ok (.ishl, 1) := by decide +kernel
theorem dX5_living_27 : decode cX5_living 27 = .ok (.goto 4, 3) := by decide +kernel
theorem dX5_living_30 : decode cX5_living 30 = .ok (.iconst 0, 1) := by decide +kernel
theorem dX5_living_31 : decode cX5_living 31 = .ok (.ior, 1) := by decide +kernel
theorem dX5_living_32 : decode cX5_living 32 = .ok (.istore_n 1, 1) := by decide +kernel
theorem dX5_living_33 : decode cX5_living 33 = .ok (.iinc 2 1, 3) := by decide +kernel
theorem dX5_living_36 : decode cX5_living 36 = .ok (.goto (-32), 3) := by decide +kernel
theorem dX5_living_39 : decode cX5_living 39 = .ok (.iload_n 1, 1) := by decide +kernel
theorem dX5_living_40 : decode cX5_living 40 = .ok (.ireturn, 1) := by decide +kernel
theorem dX5_contentOfAll_0 : decode cX5_contentOfAll 0 = .ok (.iconst 0, 1) := by decide +kernel
theorem dX5_contentOfAll_1 : decode cX5_contentOfAll 1 = .ok (.istore_n 1, 1) := by decide +kernel
theorem dX5_contentOfAll_2 : decode cX5_contentOfAll 2 = .ok (.iconst 0, 1) := by decide +kernel
theorem dX5_contentOfAll_3 : decode cX5_contentOfAll 3 = .ok (.istore_n 2, 1) := by decide +kernel
theorem dX5_contentOfAll_4 : decode cX5_contentOfAll 4 = .ok (.iload_n 2, 1) := by decide +kernel
theorem dX5_contentOfAll_5 : decode cX5_contentOfAll 5 = .ok (.aload_n 0, 1) := by decide +kernel
theorem dX5_contentOfAll_6 : decode cX5_contentOfAll 6 = .ok (.getfield 7, 3) := by decide +kernel
theorem dX5_contentOfAll_9 : decode cX5_contentOfAll 9 = .ok (.iconst 2, 1) := by decide +kernel
theorem dX5_contentOfAll_10 : decode cX5_contentOfAll 10 = .ok (.iaload, 1) := by decide +kernel
theorem dX5_contentOfAll_11 : decode cX5_contentOfAll 11 = .ok (.if_icmp .ge 18, 3) := by decide +kernel
theorem dX5_contentOfAll_14 : decode cX5_contentOfAll 14 = .ok (.iload_n 1, 1) := by decide +kernel
theorem dX5_contentOfAll_15 : decode cX5_contentOfAll 15 = .ok (.aload_n 0, 1) := by decide +kernel
theorem dX5_contentOfAll_16 : decode cX5_contentOfAll 16 = .ok (.iload_n 2, 1) := by decide +kernel
theorem dX5_contentOfAll_17 : decode cX5_contentOfAll 17 = .ok (.iconst 2, 1) := by decide +kernel
theorem dX5_contentOfAll_18 : decode cX5_contentOfAll 18 = .ok (.invokevirtual 57, 3) := by decide +kernel
theorem dX5_contentOfAll_21 : decode cX5_contentOfAll 21 = .ok (.iadd, 1) := by decide +kernel
theorem dX5_contentOfAll_22 : decode cX5_contentOfAll 22 = .ok (.istore_n 1, 1) := by decide +kernel
theorem dX5_contentOfAll_23 : decode cX5_contentOfAll 23 = .ok (.iinc 2 1, 3) := by decide +kernel
theorem dX5_contentOfAll_26 : decode cX5_contentOfAll 26 = .ok (.goto (-22), 3) := by decide +kernel
theorem dX5_contentOfAll_29 : decode cX5_contentOfAll 29 = .ok (.iload_n 1, 1) := by decide +kernel
theorem dX5_contentOfAll_30 : decode cX5_contentOfAll 30 = .ok (.ireturn, 1) := by decide +kernel
theorem dX5_now_0 : decode cX5_now 0 = .ok (.iload_n 1, 1) := by decide +kernel
theorem dX5_now_1 : decode cX5_now 1 = .ok (.tableswitch 78 0 5 #[39, 46, 53, 59, 64, 69], 39) := by decide +kernel
theorem dX5_now_40 : decode cX5_now 40 = .ok (.aload_n 0, 1) := by decide +kernel
theorem dX5_now_41 : decode cX5_now 41 = .ok (.getfield 7, 3) := by decide +kernel
theorem dX5_now_44 : decode cX5_now 44 = .ok (.iconst 0, 1) := by decide +kernel
theorem dX5_now_45 : decode cX5_now 45 = .ok (.iaload, 1) := by decide +kernel
theorem dX5_now_46 : decode cX5_now 46 = .ok (.ireturn, 1) := by decide +kernel
theorem dX5_now_47 : decode cX5_now 47 = .ok (.aload_n 0, 1) := by decide +kernel
theorem dX5_now_48 : decode cX5_now 48 = .ok (.getfield 7, 3) := by decide +kernel
theorem dX5_now_51 : decode cX5_now 51 = .ok (.iconst 1, 1) := by decide +kernel
theorem dX5_now_52 : decode cX5_now 52 = .ok (.iaload, 1) := by decide +kernel
theorem dX5_now_53 : decode cX5_now 53 = .ok (.ireturn, 1) := by decide +kernel
theorem dX5_now_54 : decode cX5_now 54 = .ok (.aload_n 0, 1) := by decide +kernel
theorem dX5_now_55 : decode cX5_now 55 = .ok (.iconst (-1), 1) := by decide +kernel
theorem dX5_now_56 : decode cX5_now 56 = .ok (.invokevirtual 60, 3) := by decide +kernel
theorem dX5_now_59 : decode cX5_now 59 = .ok (.ireturn, 1) := by decide +kernel
theorem dX5_now_60 : decode cX5_now 60 = .ok (.aload_n 0, 1) := by decide +kernel
theorem dX5_now_61 : decode cX5_now 61 = .ok (.invokevirtual 76, 3) := by decide +kernel
theorem dX5_now_64 : decode cX5_now 64 = .ok (.ireturn, 1) := by decide +kernel
theorem dX5_now_65 : decode cX5_now 65 = .ok (.aload_n 0, 1) := by decide +kernel
theorem dX5_now_66 : decode cX5_now 66 = .ok (.invokevirtual 80, 3) := by decide +kernel
theorem dX5_now_69 : decode cX5_now 69 = .ok (.ireturn, 1) := by decide +kernel
theorem dX5_now_70 : decode cX5_now 70 = .ok (.sipush 10000, 3) := by decide +kernel
theorem dX5_now_73 : decode cX5_now 73 = .ok (.aload_n 0, 1) := by decide +kernel
theorem dX5_now_74 : decode cX5_now 74 = .ok (.invokevirtual 83, 3) := by decide +kernel
theorem dX5_now_77 : decode cX5_now 77 = .ok (.iadd, 1) := by decide +kernel
theorem dX5_now_78 : decode cX5_now 78 = .ok (.ireturn, 1) := by decide +kernel
theorem dX5_now_79 : decode cX5_now 79 = .ok (.aload_n 0, 1) := by decide +kernel
theorem dX5_now_80 : decode cX5_now 80 = .ok (.ldc 44, 2) := by decide +kernel
theorem dX5_now_82 : decode cX5_now 82 = .ok (.invokevirtual 73, 3) := by decide +kernel
theorem dX5_now_85 : decode cX5_now 85 = .ok (.ireturn, 1) := by decide +kernel
theorem dX5_adds_0 : decode cX5_adds 0 = .ok (.aload_n 0, 1) := by decide +kernel
theorem dX5_adds_1 : decode cX5_adds 1 = .ok (.getfield 7, 3) := by decide +kernel
theorem dX5_adds_4 : decode cX5_adds 4 = .ok (.iconst 2, 1) := by decide +kernel
theorem dX5_adds_5 : decode cX5_adds 5 = .ok (.iaload, 1) := by decide +kernel
theorem dX5_adds_6 : decode cX5_adds 6 = .ok (.istore_n 3, 1) := by decide +kernel
theorem dX5_adds_7 : decode cX5_adds 7 = .ok (.aload_n 0, 1) := by decide +kernel
theorem dX5_adds_8 : decode cX5_adds 8 = .ok (.iload_n 3, 1) := by decide +kernel
theorem dX5_adds_9 : decode cX5_adds 9 = .ok (.iconst 0, 1) := by decide +kernel
theorem dX5_adds_10 : decode cX5_adds 10 = .ok (.iload_n 1, 1) := by decide +kernel
theorem dX5_adds_11 : decode cX5_adds 11 = .ok (.invokevirtual 86, 3) := by decide +kernel
theorem dX5_adds_14 : decode cX5_adds 14 = .ok (.aload_n 0, 1) := by decide +kernel
theorem dX5_adds_15 : decode cX5_adds 15 = .ok (.iload_n 3, 1) := by decide +kernel
theorem dX5_adds_16 : decode cX5_adds 16 = .ok (.iconst 1, 1) := by decide +kernel
theorem dX5_adds_17 : decode cX5_adds 17 = .ok (.iload_n 2, 1) := by decide +kernel
theorem dX5_adds_18 : decode cX5_adds 18 = .ok (.invokevirtual 86, 3) := by decide +kernel
theorem dX5_adds_21 : decode cX5_adds 21 = .ok (.aload_n 0, 1) := by decide +kernel
theorem dX5_adds_22 : decode cX5_adds 22 = .ok (.iload_n 3, 1) := by decide +kernel
theorem dX5_adds_23 : decode cX5_adds 23 = .ok (.iconst 2, 1) := by decide +kernel
theorem dX5_adds_24 : decode cX5_adds 24 = .ok (.iconst 0, 1) := by decide +kernel
theorem dX5_adds_25 : decode cX5_adds 25 = .ok (.invokevirtual 86, 3) := by decide +kernel
theorem dX5_adds_28 : decode cX5_adds 28 = .ok (.aload_n 0, 1) := by decide +kernel
