theorem dX5_adds_29 : decode cX5_adds 29 = .ok (.iload_n 3, 1) := by decide +kernel
theorem dX5_adds_30 : decode cX5_adds 30 = .ok (.iconst 3, 1) := by decide +kernel
theorem dX5_adds_31 : decode cX5_adds 31 = .ok (.iconst 0, 1) := by decide +kernel
theorem dX5_adds_32 : decode cX5_adds 32 = .ok (.invokevirtual 86, 3) := by decide +kernel
theorem dX5_adds_35 : decode cX5_adds 35 = .ok (.aload_n 0, 1) := by decide +kernel
theorem dX5_adds_36 : decode cX5_adds 36 = .ok (.getfield 7, 3) := by decide +kernel
theorem dX5_adds_39 : decode cX5_adds 39 = .ok (.iconst 2, 1) := by decide +kernel
theorem dX5_adds_40 : decode cX5_adds 40 = .ok (.dup2, 1) := by decide +kernel
theorem dX5_adds_41 : decode cX5_adds 41 = .ok (.iaload, 1) := by decide +kernel
theorem dX5_adds_42 : decode cX5_adds 42 = .ok (.iconst 1, 1) := by decide +kernel
theorem dX5_adds_43 : decode cX5_adds 43 = .ok (.iadd, 1) := by decide +kernel
theorem dX5_adds_44 : decode cX5_adds 44 = .ok (.iastore, 1) := by decide +kernel
theorem dX5_adds_45 : decode cX5_adds 45 = .ok (.return_, 1) := by decide +kernel
theorem dX5_person_0 : decode cX5_person 0 = .ok (.iload_n 1, 1) := by decide +kernel
theorem dX5_person_1 : decode cX5_person 1 = .ok (.invokestatic 90, 3) := by decide +kernel
theorem dX5_person_4 : decode cX5_person 4 = .ok (.ifCond .ne 10, 3) := by decide +kernel
theorem dX5_person_7 : decode cX5_person 7 = .ok (.aload_n 0, 1) := by decide +kernel
theorem dX5_person_8 : decode cX5_person 8 = .ok (.ldc 44, 2) := by decide +kernel
theorem dX5_person_10 : decode cX5_person 10 = .ok (.invokevirtual 73, 3) := by decide +kernel
theorem dX5_person_13 : decode cX5_person 13 = .ok (.ireturn, 1) := by decide +kernel
theorem dX5_person_14 : decode cX5_person 14 = .ok (.aload_n 0, 1) := by decide +kernel
theorem dX5_person_15 : decode cX5_person 15 = .ok (.getfield 7, 3) := by decide +kernel
theorem dX5_person_18 : decode cX5_person 18 = .ok (.iconst 2, 1) := by decide +kernel
theorem dX5_person_19 : decode cX5_person 19 = .ok (.iaload, 1) := by decide +kernel
theorem dX5_person_20 : decode cX5_person 20 = .ok (.bipush 6, 2) := by decide +kernel
theorem dX5_person_22 : decode cX5_person 22 = .ok (.if_icmp .ne 10, 3) := by decide +kernel
theorem dX5_person_25 : decode cX5_person 25 = .ok (.aload_n 0, 1) := by decide +kernel
theorem dX5_person_26 : decode cX5_person 26 = .ok (.ldc 93, 2) := by decide +kernel
theorem dX5_person_28 : decode cX5_person 28 = .ok (.invokevirtual 73, 3) := by decide +kernel
theorem dX5_person_31 : decode cX5_person 31 = .ok (.ireturn, 1) := by decide +kernel
theorem dX5_person_32 : decode cX5_person 32 = .ok (.aload_n 0, 1) := by decide +kernel
theorem dX5_person_33 : decode cX5_person 33 = .ok (.iload_n 1, 1) := by decide +kernel
theorem dX5_person_34 : decode cX5_person 34 = .ok (.aload_n 0, 1) := by decide +kernel
theorem dX5_person_35 : decode cX5_person 35 = .ok (.getfield 7, 3) := by decide +kernel
theorem dX5_person_38 : decode cX5_person 38 = .ok (.iconst 2, 1) := by decide +kernel
theorem dX5_person_39 : decode cX5_person 39 = .ok (.iaload, 1) := by decide +kernel
theorem dX5_person_40 : decode cX5_person 40 = .ok (.iconst 3, 1) := by decide +kernel
theorem dX5_person_41 : decode cX5_person 41 = .ok (.irem, 1) := by decide +kernel
theorem dX5_person_42 : decode cX5_person 42 = .ok (.invokevirtual 94, 3) := by decide +kernel
theorem dX5_person_45 : decode cX5_person 45 = .ok (.aload_n 0, 1) := by decide +kernel
theorem dX5_person_46 : decode cX5_person 46 = .ok (.getfield 7, 3) := by decide +kernel
theorem dX5_person_49 : decode cX5_person 49 = .ok (.iconst 2, 1) := by decide +kernel
theorem dX5_person_50 : decode cX5_person 50 = .ok (.iaload, 1) := by decide +kernel
theorem dX5_person_51 : decode cX5_person 51 = .ok (.iconst 1, 1) := by decide +kernel
theorem dX5_person_52 : decode cX5_person 52 = .ok (.isub, 1) := by decide +kernel
theorem dX5_person_53 : decode cX5_person 53 = .ok (.ireturn, 1) := by decide +kernel
theorem dX5_of_0 : decode cX5_of 0 = .ok (.aload_n 0, 1) := by decide +kernel
theorem dX5_of_1 : decode cX5_of 1 = .ok (.iload_n 1, 1) := by decide +kernel
theorem dX5_of_2 : decode cX5_of 2 = .ok (.invokevirtual 98, 3) := by decide +kernel
theorem dX5_of_5 : decode cX5_of 5 = .ok (.ifCond .eq 12, 3) := by decide +kernel
theorem dX5_of_8 : decode cX5_of 8 = .ok (.iload_n 2, 1) := by decide +kernel
theorem dX5_of_9 : decode cX5_of 9 = .ok (.iconst 0, 1) := by decide +kernel
theorem dX5_of_10 : decode cX5_of 10 = .ok (.iconst 5, 1) := by decide +kernel
theorem dX5_of_11 : decode cX5_of 11 = .ok (.invokestatic 45, 3) := by decide +kernel
theorem dX5_of_14 : decode cX5_of 14 = .ok (.ifCond .ne 10, 3) := by decide +kernel
theorem dX5_of_17 : decode cX5_of 17 = .ok (.aload_n 0, 1) := by decide +kernel
theorem dX5_of_18 : decode cX5_of 18 = .ok (.ldc 44, 2) := by decide +kernel
theorem dX5_of_20 : decode cX5_of 20 = .ok (.invokevirtual 73, 3) := by decide +kernel
theorem dX5_of_23 : decode cX5_of 23 = .ok (.ireturn, 1) := by decide +kernel
theorem dX5_of_24 : decode cX5_of 24 = .ok (.iload_n 2, 1) := by decide +kernel
theorem dX5_of_25 : decode cX5_of 25 = .ok (.tableswitch 58 2 5 #[31, 58, 42, 48], 31) := by decide +kernel
theorem dX5_of_56 : decode cX5_of 56 = .ok (.sipush 1000, 3) := by decide +kernel
theorem dX5_of_59 : decode cX5_of 59 = .ok (.aload_n 0, 1) := by decide +kernel
theorem dX5_of_60 : decode cX5_of 60 = .ok (.iload_n 1, 1) := by decide +kernel
theorem dX5_of_61 : decode cX5_of 61 = .ok (.iconst 2, 1) := by decide +kernel
theorem dX5_of_62 : decode cX5_of 62 = .ok (.invokevirtual 57, 3) := by decide +kernel
theorem dX5_of_65 : decode cX5_of 65 = .ok (.iadd, 1) := by decide +kernel
theorem dX5_of_66 : decode cX5_of 66 = .ok (.ireturn, 1) := by decide +kernel
theorem dX5_of_67 : decode cX5_of 67 = .ok (.aload_n 0, 1) := by decide +kernel
theorem dX5_of_68 : decode cX5_of 68 = .ok (.iload_n 1, 1) := by decide +kernel
theorem dX5_of_69 : decode cX5_of 69 = .ok (.invokevirtual 60, 3) := by decide +kernel
theorem dX5_of_72 : decode cX5_of 72 = .ok (.ireturn, 1) := by decide +kernel
theorem dX5_of_73 : decode cX5_of 73 = .ok (.sipush 1000, 3) := by decide +kernel
theorem dX5_of_76 : decode cX5_of 76 = .ok (.aload_n 0, 1) := by decide +kernel
theorem dX5_of_77 : decode cX5_of 77 = .ok (.iload_n 1, 1) := by decide +kernel
theorem dX5_of_78 : decode cX5_of 78 = .ok (.invokevirtual 101, 3) := by decide +kernel
theorem dX5_of_81 : decode cX5_of 81 = .ok (.iadd, 1) := by decide +kernel
theorem dX5_of_82 : decode cX5_of 82 = .ok (.ireturn, 1) := by decide +kernel
theorem dX5_of_83 : decode cX5_of 83 = .ok (.aload_n 0, 1) := by decide +kernel
theorem dX5_of_84 : decode cX5_of 84 = .ok (.iload_n 1, 1) := by decide +kernel
theorem dX5_of_85 : decode cX5_of 85 = .ok (.iload_n 2, 1) := by decide +kernel
theorem dX5_of_86 : decode cX5_of 86 = .ok (.invokevirtual 57, 3) := by decide +kernel
theorem dX5_of_89 : decode cX5_of 89 = .ok (.ireturn, 1) := by decide +kernel
theorem dX5_isPart_0 : decode cX5_isPart 0 = .ok (.iload_n 0, 1) := by decide +kernel
theorem dX5_isPart_1 : decode cX5_isPart 1 = .ok (.lookupswitch 45 #[(1, 27), (2, 34)], 27) := by decide +kernel
theorem dX5_isPart_28 : decode cX5_isPart 28 = .ok (.iload_n 1, 1) := by decide +kernel
theorem dX5_isPart_29 : decode cX5_isPart 29 = .ok (.iconst 0, 1) := by decide +kernel
theorem dX5_isPart_30 : decode cX5_isPart 30 = .ok (.iconst 2, 1) := by decide +kernel
theorem dX5_isPart_31 : decode cX5_isPart 31 = .ok (.invokestatic 45, 3) := by decide +kernel
theorem dX5_isPart_34 : decode cX5_isPart 34 = .ok (.ireturn, 1) := by decide +kernel
theorem dX5_isPart_35 : decode cX5_isPart 35 = .ok (.iload_n 1, 1) := by decide +kernel
theorem dX5_isPart_36 : decode cX5_isPart 36 = .ok (.sipush (-999), 3) := by decide +kernel
theorem dX5_isPart_39 : decode cX5_isPart 39 = .ok (.sipush 999, 3) := by decide +kernel
theorem dX5_isPart_42 : decode cX5_isPart 42 = .ok (.invokestatic 45, 3) := by decide +kernel
theorem dX5_isPart_45 : decode cX5_isPart 45 = .ok (.ireturn, 1) := by decide +kernel
theorem dX5_isPart_46 : decode cX5_isPart 46 = .ok (.iload_n 0, 1) := by decide +kernel
theorem dX5_isPart_47 : decode cX5_isPart 47 = .ok (.iconst 3, 1) := by decide +kernel
theorem dX5_isPart_48 : decode cX5_isPart 48 = .ok (.if_icmp .ne 16, 3) := by decide +kernel
theorem dX5_isPart_51 : decode cX5_isPart 51 = .ok (.iload_n 1, 1) := by decide +kernel
theorem dX5_isPart_52 : decode cX5_isPart 52 = .ok (.iconst 0, 1) := by decide +kernel
theorem dX5_isPart_53 : decode cX5_isPart 53 = .ok (.iconst 1, 1) := by decide +kernel
theorem dX5_isPart_54 : decode cX5_isPart 54 = .ok (.invokestatic 45, 3) := by decide +kernel
theorem dX5_isPart_57 : decode cX5_isPart 57 = .ok (.ifCond .eq 7, 3) := by decide +kernel
theorem dX5_isPart_60 : decode cX5_isPart 60 = .ok (.iconst 1, 1) := by decide +kernel
theorem dX5_isPart_61 : decode cX5_isPart 61 = .ok (.goto 4, 3) := by decide +kernel
theorem dX5_isPart_64 : decode cX5_isPart 64 = .ok (.iconst 0, 1) := by decide +kernel
theorem dX5_isPart_65 : decode cX5_isPart 65 = .ok (.ireturn, 1) := by decide +kernel
theorem dX5_set_0 : decode cX5_set 0 = .ok (.aload_n 0, 1) := by decide +kernel
theorem dX5_set_1 : decode cX5_set 1 = .ok (.iload_n 1, 1) := by decide +kernel
theorem dX5_set_2 : decode cX5_set 2 = .ok (.invokevirtual 98, 3) := by decide +kernel
theorem dX5_set_5 : decode cX5_set 5 = .ok (.ifCond .eq 26, 3) := by decide +kernel
theorem dX5_set_8 : decode cX5_set 8 = .ok (.iload_n 2, 1) := by decide +kernel
theorem dX5_set_9 : decode cX5_set 9 = .ok (.iload_n 3, 1) := by decide +kernel
theorem dX5_set_10 : decode cX5_set 10 = .ok (.invokestatic 104, 3) := by decide +kernel
theorem dX5_set_13 : decode cX5_set 13 = .ok (.ifCond .eq 18, 3) := by decide +kernel
theorem dX5_set_16 : decode cX5_set 16 = .ok (.aload_n 0, 1) := by decide +kernel
theorem dX5_set_17 : decode cX5_set 17 = .ok (.iconst 4, 1) := by decide +kernel
theorem dX5_set_18 : decode cX5_set 18 = .ok (.iconst 4, 1) := by decide +kernel
theorem dX5_set_19 : decode cX5_set 19 = .ok (.iload_n 1, 1) := by decide +kernel
theorem dX5_set_20 : decode cX5_set 20 = .ok (.imul, 1) := by decide +kernel
theorem dX5_set_21 : decode cX5_set 21 = .ok (.iadd, 1) := by decide +kernel
theorem dX5_set_22 : decode cX5_set 22 = .ok (.iload_n 2, 1) := by decide +kernel
theorem dX5_set_23 : decode cX5_set 23 = .ok (.iadd, 1) := by decide +kernel
theorem dX5_set_24 : decode cX5_set 24 = .ok (.iload_n 3, 1) := by decide +kernel
theorem dX5_set_25 : decode cX5_set 25 = .ok (.invokevirtual 70, 3) := by decide +kernel
theorem dX5_set_28 : decode cX5_set 28 = .ok (.goto 9, 3) := by decide +kernel
theorem dX5_set_31 : decode cX5_set 31 = .ok (.aload_n 0, 1) := by decide +kernel
theorem dX5_set_32 : decode cX5_set 32 = .ok (.ldc 44, 2) := by decide +kernel
theorem dX5_set_34 : decode cX5_set 34 = .ok (.invokevirtual 73, 3) := by decide +kernel
theorem dX5_set_37 : decode cX5_set 37 = .ok (.ireturn, 1) := by decide +kernel
theorem dX5_would_0 : decode cX5_would 0 = .ok (.aload_n 0, 1) := by decide +kernel
theorem dX5_would_1 : decode cX5_would 1 = .ok (.iload_n 1, 1) := by decide +kernel
theorem dX5_would_2 : decode cX5_would 2 = .ok (.invokevirtual 98, 3) := by decide +kernel
theorem dX5_would_5 : decode cX5_would 5 = .ok (.ifCond .eq 20, 3) := by decide +kernel
theorem dX5_would_8 : decode cX5_would 8 = .ok (.aload_n 0, 1) := by decide +kernel
theorem dX5_would_9 : decode cX5_would 9 = .ok (.iload_n 2, 1) := by decide +kernel
theorem dX5_would_10 : decode cX5_would 10 = .ok (.invokevirtual 108, 3) := by decide +kernel
theorem dX5_would_13 : decode cX5_would 13 = .ok (.ifCond .eq 12, 3) := by decide +kernel
theorem dX5_would_16 : decode cX5_would 16 = .ok (.iload_n 3, 1) := by decide +kernel
theorem dX5_would_17 : decode cX5_would 17 = .ok (.iconst 0, 1) := by decide +kernel
theorem dX5_would_18 : decode cX5_would 18 = .ok (.iconst 1, 1) := by decide +kernel
theorem dX5_would_19 : decode cX5_would 19 = .ok (.invokestatic 45, 3) := by decide +kernel
theorem dX5_would_22 : decode cX5_would 22 = .ok (.ifCond .ne 10, 3) := by decide +kernel
theorem dX5_would_25 : decode cX5_would 25 = .ok (.aload_n 0, 1) := by decide +kernel
theorem dX5_would_26 : decode cX5_would 26 = .ok (.ldc 44, 2) := by decide +kernel
theorem dX5_would_28 : decode cX5_would 28 = .ok (.invokevirtual 73, 3) := by decide +kernel
theorem dX5_would_31 : decode cX5_would 31 = .ok (.ireturn, 1) := by decide +kernel
theorem dX5_would_32 : decode cX5_would 32 = .ok (.iload_n 3, 1) := by decide +kernel
theorem dX5_would_33 : decode cX5_would 33 = .ok (.ifCond .ne 12, 3) := by decide +kernel
theorem dX5_would_36 : decode cX5_would 36 = .ok (.aload_n 0, 1) := by decide +kernel
theorem dX5_would_37 : decode cX5_would 37 = .ok (.iload_n 1, 1) := by decide +kernel
theorem dX5_would_38 : decode cX5_would 38 = .ok (.iload_n 2, 1) := by decide +kernel
theorem dX5_would_39 : decode cX5_would 39 = .ok (.invokevirtual 111, 3) := by decide +kernel
theorem dX5_would_42 : decode cX5_would 42 = .ok (.goto 9, 3) := by decide +kernel
theorem dX5_would_45 : decode cX5_would 45 = .ok (.aload_n 0, 1) := by decide +kernel
theorem dX5_would_46 : decode cX5_would 46 = .ok (.iload_n 1, 1) := by decide +kernel
theorem dX5_would_47 : decode cX5_would 47 = .ok (.iload_n 2, 1) := by decide +kernel
theorem dX5_would_48 : decode cX5_would 48 = .ok (.invokevirtual 114, 3) := by decide +kernel
theorem dX5_would_51 : decode cX5_would 51 = .ok (.istore 4, 2) := by decide +kernel
theorem dX5_would_53 : decode cX5_would 53 = .ok (.iload 4, 2) := by decide +kernel
theorem dX5_would_55 : decode cX5_would 55 = .ok (.ifCond .eq 7, 3) := by decide +kernel
theorem dX5_would_58 : decode cX5_would 58 = .ok (.iconst 1, 1) := by decide +kernel
theorem dX5_would_59 : decode cX5_would 59 = .ok (.goto 4, 3) := by decide +kernel
theorem dX5_would_62 : decode cX5_would 62 = .ok (.iconst 0, 1) := by decide +kernel
theorem dX5_would_63 : decode cX5_would 63 = .ok (.ireturn, 1) := by decide +kernel
theorem dX5_turn_0 : decode cX5_turn 0 = .ok (.aload_n 0, 1) := by decide +kernel
theorem dX5_turn_1 : decode cX5_turn 1 = .ok (.iload_n 1, 1) := by decide +kernel
theorem dX5_turn_2 : decode cX5_turn 2 = .ok (.invokevirtual 98, 3) := by decide +kernel
theorem dX5_turn_5 : decode cX5_turn 5 = .ok (.ifCond .eq 23, 3) := by decide +kernel
theorem dX5_turn_8 : decode cX5_turn 8 = .ok (.iload_n 2, 1) := by decide +kernel
theorem dX5_turn_9 : decode cX5_turn 9 = .ok (.invokestatic 90, 3) := by decide +kernel
theorem dX5_turn_12 : decode cX5_turn 12 = .ok (.ifCond .eq 16, 3) := by decide +kernel
theorem dX5_turn_15 : decode cX5_turn 15 = .ok (.aload_n 0, 1) := by decide +kernel
theorem dX5_turn_16 : decode cX5_turn 16 = .ok (.iconst 4, 1) := by decide +kernel
theorem dX5_turn_17 : decode cX5_turn 17 = .ok (.iconst 4, 1) := by decide +kernel
theorem dX5_turn_18 : decode cX5_turn 18 = .ok (.iload_n 1, 1) := by decide +kernel
theorem dX5_turn_19 : decode cX5_turn 19 = .ok (.imul, 1) := by decide +kernel
theorem dX5_turn_20 : decode cX5_turn 20 = .ok (.iadd, 1) := by decide +kernel
theorem dX5_turn_21 : decode cX5_turn 21 = .ok (.iload_n 2, 1) := by decide +kernel
theorem dX5_turn_22 : decode cX5_turn 22 = .ok (.invokevirtual 70, 3) := by decide +kernel
theorem dX5_turn_25 : decode cX5_turn 25 = .ok (.goto 9, 3) := by decide +kernel
theorem dX5_turn_28 : decode cX5_turn 28 = .ok (.aload_n 0, 1) := by decide +kernel
theorem dX5_turn_29 : decode cX5_turn 29 = .ok (.ldc 44, 2) := by decide +kernel
theorem dX5_turn_31 : decode cX5_turn 31 = .ok (.invokevirtual 73, 3) := by decide +kernel
theorem dX5_turn_34 : decode cX5_turn 34 = .ok (.ireturn, 1) := by decide +kernel
theorem dX5_as_0 : decode cX5_as 0 = .ok (.aload_n 0, 1) := by decide +kernel
theorem dX5_as_1 : decode cX5_as 1 = .ok (.iload_n 1, 1) := by decide +kernel
theorem dX5_as_2 : decode cX5_as 2 = .ok (.invokevirtual 98, 3) := by decide +kernel
theorem dX5_as_5 : decode cX5_as 5 = .ok (.ifCond .eq 10, 3) := by decide +kernel
theorem dX5_as_8 : decode cX5_as 8 = .ok (.iload_n 2, 1) := by decide +kernel
theorem dX5_as_9 : decode cX5_as 9 = .ok (.invokestatic 90, 3) := by decide +kernel
theorem dX5_as_12 : decode cX5_as 12 = .ok (.ifCond .ne 10, 3) := by decide +kernel
theorem dX5_as_15 : decode cX5_as 15 = .ok (.aload_n 0, 1) := by decide +kernel
theorem dX5_as_16 : decode cX5_as 16 = .ok (.ldc 44, 2) := by decide +kernel
theorem dX5_as_18 : decode cX5_as 18 = .ok (.invokevirtual 73, 3) := by decide +kernel
theorem dX5_as_21 : decode cX5_as 21 = .ok (.ireturn, 1) := by decide +kernel
theorem dX5_as_22 : decode cX5_as 22 = .ok (.aload_n 0, 1) := by decide +kernel
theorem dX5_as_23 : decode cX5_as 23 = .ok (.iload_n 1, 1) := by decide +kernel
theorem dX5_as_24 : decode cX5_as 24 = .ok (.iconst 0, 1) := by decide +kernel
theorem dX5_as_25 : decode cX5_as 25 = .ok (.invokevirtual 57, 3) := by decide +kernel
theorem dX5_as_28 : decode cX5_as 28 = .ok (.istore_n 3, 1) := by decide +kernel
theorem dX5_as_29 : decode cX5_as 29 = .ok (.iload_n 2, 1) := by decide +kernel
theorem dX5_as_30 : decode cX5_as 30 = .ok (.ifCond .eq 28, 3) := by decide +kernel
theorem dX5_as_33 : decode cX5_as 33 = .ok (.iload_n 2, 1) := by decide +kernel
theorem dX5_as_34 : decode cX5_as 34 = .ok (.iload_n 3, 1) := by decide +kernel
theorem dX5_as_35 : decode cX5_as 35 = .ok (.if_icmp .eq 23, 3) := by decide +kernel
theorem dX5_as_38 : decode cX5_as 38 = .ok (.iload_n 2, 1) := by decide +kernel
theorem dX5_as_39 : decode cX5_as 39 = .ok (.iconst 1, 1) := by decide +kernel
theorem dX5_as_40 : decode cX5_as 40 = .ok (.if_icmp .ne 8, 3) := by decide +kernel
theorem dX5_as_43 : decode cX5_as 43 = .ok (.iload_n 3, 1) := by decide +kernel
theorem dX5_as_44 : decode cX5_as 44 = .ok (.iconst 4, 1) := by decide +kernel
theorem dX5_as_45 : decode cX5_as 45 = .ok (.if_icmp .eq 13, 3) := by decide +kernel
theorem dX5_as_48 : decode cX5_as 48 = .ok (.iload_n 2, 1) := by decide +kernel
theorem dX5_as_49 : decode cX5_as 49 = .ok (.iconst 2, 1) := by decide +kernel
theorem dX5_as_50 : decode cX5_as 50 = .ok (.if_icmp .ne 12, 3) := by decide +kernel
theorem dX5_as_53 : decode cX5_as 53 = .ok (.iload_n 3, 1) := by decide +kernel
theorem dX5_as_54 : decode cX5_as 54 = .ok (.iconst 5, 1) := by decide +kernel
theorem dX5_as_55 : decode cX5_as 55 = .ok (.if_icmp .ne 7, 3) := by decide +kernel
theorem dX5_as_58 : decode cX5_as 58 = .ok (.iconst 1, 1) := by decide +kernel
theorem dX5_as_59 : decode cX5_as 59 = .ok (.goto 4, 3) := by decide +kernel
theorem dX5_as_62 : decode cX5_as 62 = .ok (.iconst 0, 1) := by decide +kernel
theorem dX5_as_63 : decode cX5_as 63 = .ok (.istore 4, 2) := by decide +kernel
theorem dX5_as_65 : decode cX5_as 65 = .ok (.iload 4, 2) := by decide +kernel
theorem dX5_as_67 : decode cX5_as 67 = .ok (.ifCond .eq 16, 3) := by decide +kernel
theorem dX5_as_70 : decode cX5_as 70 = .ok (.sipush 1000, 3) := by decide +kernel
theorem dX5_as_73 : decode cX5_as 73 = .ok (.aload_n 0, 1) := by decide +kernel
theorem dX5_as_74 : decode cX5_as 74 = .ok (.iload_n 1, 1) := by decide +kernel
theorem dX5_as_75 : decode cX5_as 75 = .ok (.iconst 2, 1) := by decide +kernel
theorem dX5_as_76 : decode cX5_as 76 = .ok (.invokevirtual 57, 3) := by decide +kernel
theorem dX5_as_79 : decode cX5_as 79 = .ok (.iadd, 1) := by decide +kernel
theorem dX5_as_80 : decode cX5_as 80 = .ok (.goto 9, 3) := by decide +kernel
theorem dX5_as_83 : decode cX5_as 83 = .ok (.aload_n 0, 1) := by decide +kernel
theorem dX5_as_84 : decode cX5_as 84 = .ok (.ldc 117, 2) := by decide +kernel
theorem dX5_as_86 : decode cX5_as 86 = .ok (.invokevirtual 73, 3) := by decide +kernel
theorem dX5_as_89 : decode cX5_as 89 = .ok (.ireturn, 1) := by decide +kernel
theorem dX5_addsGarment_0 : decode cX5_addsGarment 0 = .ok (.aload_n 0, 1) := by decide +kernel
theorem dX5_addsGarment_1 : decode cX5_addsGarment 1 = .ok (.getfield 7, 3) := by decide +kernel
theorem dX5_addsGarment_4 : decode cX5_addsGarment 4 = .ok (.iconst 3, 1) := by decide +kernel
theorem dX5_addsGarment_5 : decode cX5_addsGarment 5 = .ok (.iaload, 1) := by decide +kernel
theorem dX5_addsGarment_6 : decode cX5_addsGarment 6 = .ok (.istore 5, 2) := by decide +kernel
theorem dX5_addsGarment_8 : decode cX5_addsGarment 8 = .ok (.aload_n 0, 1) := by decide +kernel
theorem dX5_addsGarment_9 : decode cX5_addsGarment 9 = .ok (.iload 5, 2) := by decide +kernel
theorem dX5_addsGarment_11 : decode cX5_addsGarment 11 = .ok (.iconst 0, 1) := by decide +kernel
theorem dX5_addsGarment_12 : decode cX5_addsGarment 12 = .ok (.iload_n 1, 1) := by decide +kernel
theorem dX5_addsGarment_13 : decode cX5_addsGarment 13 = .ok (.invokevirtual 118, 3) := by decide +kernel
theorem dX5_addsGarment_16 : decode cX5_addsGarment 16 = .ok (.aload_n 0, 1) := by decide +kernel
theorem dX5_addsGarment_17 : decode cX5_addsGarment 17 = .ok (.iload 5, 2) := by decide +kernel
theorem dX5_addsGarment_19 : decode cX5_addsGarment 19 = .ok (.iconst 1, 1) := by decide +kernel
theorem dX5_addsGarment_20 : decode cX5_addsGarment 20 = .ok (.iload_n 2, 1) := by decide +kernel
theorem dX5_addsGarment_21 : decode cX5_addsGarment 21 = .ok (.invokevirtual 118, 3) := by decide +kernel
theorem dX5_addsGarment_24 : decode cX5_addsGarment 24 = .ok (.aload_n 0, 1) := by decide +kernel
theorem dX5_addsGarment_25 : decode cX5_addsGarment 25 = .ok (.iload 5, 2) := by decide +kernel
theorem dX5_addsGarment_27 : decode cX5_addsGarment 27 = .ok (.iconst 2, 1) := by decide +kernel
theorem dX5_addsGarment_28 : decode cX5_addsGarment 28 = .ok (.iload_n 3, 1) := by decide +kernel
theorem dX5_addsGarment_29 : decode cX5_addsGarment 29 = .ok (.invokevirtual 118, 3) := by decide +kernel
theorem dX5_addsGarment_32 : decode cX5_addsGarment 32 = .ok (.aload_n 0, 1) := by decide +kernel
theorem dX5_addsGarment_33 : decode cX5_addsGarment 33 = .ok (.iload 5, 2) := by decide +kernel
theorem dX5_addsGarment_35 : decode cX5_addsGarment 35 = .ok (.iconst 3, 1) := by decide +kernel
theorem dX5_addsGarment_36 : decode cX5_addsGarment 36 = .ok (.iload 4, 2) := by decide +kernel
theorem dX5_addsGarment_38 : decode cX5_addsGarment 38 = .ok (.invokevirtual 118, 3) := by decide +kernel
theorem dX5_addsGarment_41 : decode cX5_addsGarment 41 = .ok (.aload_n 0, 1) := by decide +kernel
theorem dX5_addsGarment_42 : decode cX5_addsGarment 42 = .ok (.getfield 7, 3) := by decide +kernel
theorem dX5_addsGarment_45 : decode cX5_addsGarment 45 = .ok (.iconst 3, 1) := by decide +kernel
theorem dX5_addsGarment_46 : decode cX5_addsGarment 46 = .ok (.dup2, 1) := by decide +kernel
theorem dX5_addsGarment_47 : decode cX5_addsGarment 47 = .ok (.iaload, 1) := by decide +kernel
theorem dX5_addsGarment_48 : decode cX5_addsGarment 48 = .ok (.iconst 1, 1) := by decide +kernel
theorem dX5_addsGarment_49 : decode cX5_addsGarment 49 = .ok (.iadd, 1) := by decide +kernel
theorem dX5_addsGarment_50 : decode cX5_addsGarment 50 = .ok (.iastore, 1) := by decide +kernel
theorem dX5_addsGarment_51 : decode cX5_addsGarment 51 = .ok (.return_, 1) := by decide +kernel
theorem dX5_garment_0 : decode cX5_garment 0 = .ok (.aload_n 0, 1) := by decide +kernel
theorem dX5_garment_1 : decode cX5_garment 1 = .ok (.iload_n 1, 1) := by decide +kernel
theorem dX5_garment_2 : decode cX5_garment 2 = .ok (.invokevirtual 98, 3) := by decide +kernel
theorem dX5_garment_5 : decode cX5_garment 5 = .ok (.ifCond .eq 12, 3) := by decide +kernel
theorem dX5_garment_8 : decode cX5_garment 8 = .ok (.iload_n 2, 1) := by decide +kernel
theorem dX5_garment_9 : decode cX5_garment 9 = .ok (.iconst 0, 1) := by decide +kernel
theorem dX5_garment_10 : decode cX5_garment 10 = .ok (.iconst 2, 1) := by decide +kernel
theorem dX5_garment_11 : decode cX5_garment 11 = .ok (.invokestatic 45, 3) := by decide +kernel
theorem dX5_garment_14 : decode cX5_garment 14 = .ok (.ifCond .ne 10, 3) := by decide +kernel
theorem dX5_garment_17 : decode cX5_garment 17 = .ok (.aload_n 0, 1) := by decide +kernel
theorem dX5_garment_18 : decode cX5_garment 18 = .ok (.ldc 44, 2) := by decide +kernel
theorem dX5_garment_20 : decode cX5_garment 20 = .ok (.invokevirtual 73, 3) := by decide +kernel
theorem dX5_garment_23 : decode cX5_garment 23 = .ok (.ireturn, 1) := by decide +kernel
theorem dX5_garment_24 : decode cX5_garment 24 = .ok (.aload_n 0, 1) := by decide +kernel
theorem dX5_garment_25 : decode cX5_garment 25 = .ok (.getfield 7, 3) := by decide +kernel
theorem dX5_garment_28 : decode cX5_garment 28 = .ok (.iconst 3, 1) := by decide +kernel
theorem dX5_garment_29 : decode cX5_garment 29 = .ok (.iaload, 1) := by decide +kernel
theorem dX5_garment_30 : decode cX5_garment 30 = .ok (.bipush 10, 2) := by decide +kernel
theorem dX5_garment_32 : decode cX5_garment 32 = .ok (.if_icmp .ne 10, 3) := by decide +kernel
theorem dX5_garment_35 : decode cX5_garment 35 = .ok (.aload_n 0, 1) := by decide +kernel
theorem dX5_garment_36 : decode cX5_garment 36 = .ok (.ldc 93, 2) := by decide +kernel
theorem dX5_garment_38 : decode cX5_garment 38 = .ok (.invokevirtual 73, 3) := by decide +kernel
theorem dX5_garment_41 : decode cX5_garment 41 = .ok (.ireturn, 1) := by decide +kernel
theorem dX5_garment_42 : decode cX5_garment 42 = .ok (.aload_n 0, 1) := by decide +kernel
theorem dX5_garment_43 : decode cX5_garment 43 = .ok (.iload_n 1, 1) := by decide +kernel
theorem dX5_garment_44 : decode cX5_garment 44 = .ok (.iload_n 2, 1) := by decide +kernel
theorem dX5_garment_45 : decode cX5_garment 45 = .ok (.bipush 99, 2) := by decide +kernel
theorem dX5_garment_47 : decode cX5_garment 47 = .ok (.iload_n 1, 1) := by decide +kernel
theorem dX5_garment_48 : decode cX5_garment 48 = .ok (.invokevirtual 121, 3) := by decide +kernel
theorem dX5_garment_51 : decode cX5_garment 51 = .ok (.aload_n 0, 1) := by decide +kernel
theorem dX5_garment_52 : decode cX5_garment 52 = .ok (.getfield 7, 3) := by decide +kernel
theorem dX5_garment_55 : decode cX5_garment 55 = .ok (.iconst 3, 1) := by decide +kernel
theorem dX5_garment_56 : decode cX5_garment 56 = .ok (.iaload, 1) := by decide +kernel
theorem dX5_garment_57 : decode cX5_garment 57 = .ok (.iconst 1, 1) := by decide +kernel
theorem dX5_garment_58 : decode cX5_garment 58 = .ok (.isub, 1) := by decide +kernel
theorem dX5_garment_59 : decode cX5_garment 59 = .ok (.ireturn, 1) := by decide +kernel
theorem dX5_garmentOf_0 : decode cX5_garmentOf 0 = .ok (.aload_n 0, 1) := by decide +kernel
theorem dX5_garmentOf_1 : decode cX5_garmentOf 1 = .ok (.iload_n 1, 1) := by decide +kernel
theorem dX5_garmentOf_2 : decode cX5_garmentOf 2 = .ok (.invokevirtual 108, 3) := by decide +kernel
theorem dX5_garmentOf_5 : decode cX5_garmentOf 5 = .ok (.ifCond .eq 12, 3) := by decide +kernel
theorem dX5_garmentOf_8 : decode cX5_garmentOf 8 = .ok (.iload_n 2, 1) := by decide +kernel
theorem dX5_garmentOf_9 : decode cX5_garmentOf 9 = .ok (.iconst 0, 1) := by decide +kernel
theorem dX5_garmentOf_10 : decode cX5_garmentOf 10 = .ok (.iconst 5, 1) := by decide +kernel
theorem dX5_garmentOf_11 : decode cX5_garmentOf 11 = .ok (.invokestatic 45, 3) := by decide +kernel
theorem dX5_garmentOf_14 : decode cX5_garmentOf 14 = .ok (.ifCond .ne 10, 3) := by decide +kernel
theorem dX5_garmentOf_17 : decode cX5_garmentOf 17 = .ok (.aload_n 0, 1) := by decide +kernel
theorem dX5_garmentOf_18 : decode cX5_garmentOf 18 = .ok (.ldc 44, 2) := by decide +kernel
theorem dX5_garmentOf_20 : decode cX5_garmentOf 20 = .ok (.invokevirtual 73, 3) := by decide +kernel
theorem dX5_garmentOf_23 : decode cX5_garmentOf 23 = .ok (.ireturn, 1) := by decide +kernel
theorem dX5_garmentOf_24 : decode cX5_garmentOf 24 = .ok (.iload_n 2, 1) := by decide +kernel
theorem dX5_garmentOf_25 : decode cX5_garmentOf 25 = .ok (.iconst 4, 1) := by decide +kernel
theorem dX5_garmentOf_26 : decode cX5_garmentOf 26 = .ok (.if_icmp .ge 12, 3) := by decide +kernel
theorem dX5_garmentOf_29 : decode cX5_garmentOf 29 = .ok (.aload_n 0, 1) := by decide +kernel
theorem dX5_garmentOf_30 : decode cX5_garmentOf 30 = .ok (.iload_n 1, 1) := by decide +kernel
theorem dX5_garmentOf_31 : decode cX5_garmentOf 31 = .ok (.iload_n 2, 1) := by decide +kernel
theorem dX5_garmentOf_32 : decode cX5_garmentOf 32 = .ok (.invokevirtual 49, 3) := by decide +kernel
theorem dX5_garmentOf_35 : decode cX5_garmentOf 35 = .ok (.goto 21, 3) := by decide +kernel
theorem dX5_garmentOf_38 : decode cX5_garmentOf 38 = .ok (.iload_n 2, 1) := by decide +kernel
theorem dX5_garmentOf_39 : decode cX5_garmentOf 39 = .ok (.iconst 4, 1) := by decide +kernel
theorem dX5_garmentOf_40 : decode cX5_garmentOf 40 = .ok (.if_icmp .ne 11, 3) := by decide +kernel
theorem dX5_garmentOf_43 : decode cX5_garmentOf 43 = .ok (.aload_n 0, 1) := by decide +kernel
theorem dX5_garmentOf_44 : decode cX5_garmentOf 44 = .ok (.iload_n 1, 1) := by decide +kernel
theorem dX5_garmentOf_45 : decode cX5_garmentOf 45 = .ok (.invokevirtual 125, 3) := by decide +kernel
theorem dX5_garmentOf_48 : decode cX5_garmentOf 48 = .ok (.goto 8, 3) := by decide +kernel
theorem dX5_garmentOf_51 : decode cX5_garmentOf 51 = .ok (.aload_n 0, 1) := by decide +kernel
theorem dX5_garmentOf_52 : decode cX5_garmentOf 52 = .ok (.iload_n 1, 1) := by decide +kernel
theorem dX5_garmentOf_53 : decode cX5_garmentOf 53 = .ok (.invokevirtual 128, 3) := by decide +kernel
theorem dX5_garmentOf_56 : decode cX5_garmentOf 56 = .ok (.ireturn, 1) := by decide +kernel
theorem dX5_isSewing_0 : decode cX5_isSewing 0 = .ok (.iload_n 1, 1) := by decide +kernel
theorem dX5_isSewing_1 : decode cX5_isSewing 1 = .ok (.tableswitch 48 0 2 #[27, 33, 40], 27) := by decide +kernel
theorem dX5_isSewing_28 : decode cX5_isSewing 28 = .ok (.aload_n 0, 1) := by decide +kernel
theorem dX5_isSewing_29 : decode cX5_isSewing 29 = .ok (.iload_n 2, 1) := by decide +kernel
theorem dX5_isSewing_30 : decode cX5_isSewing 30 = .ok (.invokevirtual 98, 3) := by decide +kernel
theorem dX5_isSewing_33 : decode cX5_isSewing 33 = .ok (.ireturn, 1) := by decide +kernel
theorem dX5_isSewing_34 : decode cX5_isSewing 34 = .ok (.iload_n 2, 1) := by decide +kernel
theorem dX5_isSewing_35 : decode cX5_isSewing 35 = .ok (.iconst 0, 1) := by decide +kernel
theorem dX5_isSewing_36 : decode cX5_isSewing 36 = .ok (.iconst 2, 1) := by decide +kernel
theorem dX5_isSewing_37 : decode cX5_isSewing 37 = .ok (.invokestatic 45, 3) := by decide +kernel
theorem dX5_isSewing_40 : decode cX5_isSewing 40 = .ok (.ireturn, 1) := by decide +kernel
theorem dX5_isSewing_41 : decode cX5_isSewing 41 = .ok (.iload_n 2, 1) := by decide +kernel
theorem dX5_isSewing_42 : decode cX5_isSewing 42 = .ok (.iconst 0, 1) := by decide +kernel
theorem dX5_isSewing_43 : decode cX5_isSewing 43 = .ok (.bipush 99, 2) := by decide +kernel
theorem dX5_isSewing_45 : decode cX5_isSewing 45 = .ok (.invokestatic 45, 3) := by decide +kernel
theorem dX5_isSewing_48 : decode cX5_isSewing 48 = .ok (.ireturn, 1) := by decide +kernel
theorem dX5_isSewing_49 : decode cX5_isSewing 49 = .ok (.iload_n 1, 1) := by decide +kernel
theorem dX5_isSewing_50 : decode cX5_isSewing 50 = .ok (.iconst 3, 1) := by decide +kernel
theorem dX5_isSewing_51 : decode cX5_isSewing 51 = .ok (.if_icmp .ne 20, 3) := by decide +kernel
theorem dX5_isSewing_54 : decode cX5_isSewing 54 = .ok (.iload_n 2, 1) := by decide +kernel
theorem dX5_isSewing_55 : decode cX5_isSewing 55 = .ok (.iconst (-1), 1) := by decide +kernel
theorem dX5_isSewing_56 : decode cX5_isSewing 56 = .ok (.if_icmp .eq 11, 3) := by decide +kernel
theorem dX5_isSewing_59 : decode cX5_isSewing 59 = .ok (.aload_n 0, 1) := by decide +kernel
theorem dX5_isSewing_60 : decode cX5_isSewing 60 = .ok (.iload_n 2, 1) := by decide +kernel
theorem dX5_isSewing_61 : decode cX5_isSewing 61 = .ok (.invokevirtual 98, 3) := by decide +kernel
theorem dX5_isSewing_64 : decode cX5_isSewing 64 = .ok (.ifCond .eq 7, 3) := by decide +kernel
theorem dX5_isSewing_67 : decode cX5_isSewing 67 = .ok (.iconst 1, 1) := by decide +kernel
theorem dX5_isSewing_68 : decode cX5_isSewing 68 = .ok (.goto 4, 3) := by decide +kernel
theorem dX5_isSewing_71 : decode cX5_isSewing 71 = .ok (.iconst 0, 1) := by decide +kernel
theorem dX5_isSewing_72 : decode cX5_isSewing 72 = .ok (.ireturn, 1) := by decide +kernel
theorem dX5_sew_0 : decode cX5_sew 0 = .ok (.aload_n 0, 1) := by decide +kernel
theorem dX5_sew_1 : decode cX5_sew 1 = .ok (.iload_n 1, 1) := by decide +kernel
theorem dX5_sew_2 : decode cX5_sew 2 = .ok (.invokevirtual 108, 3) := by decide +kernel
theorem dX5_sew_5 : decode cX5_sew 5 = .ok (.ifCond .eq 28, 3) := by decide +kernel
theorem dX5_sew_8 : decode cX5_sew 8 = .ok (.aload_n 0, 1) := by decide +kernel
theorem dX5_sew_9 : decode cX5_sew 9 = .ok (.iload_n 2, 1) := by decide +kernel
theorem dX5_sew_10 : decode cX5_sew 10 = .ok (.iload_n 3, 1) := by decide +kernel
theorem dX5_sew_11 : decode cX5_sew 11 = .ok (.invokevirtual 131, 3) := by decide +kernel
theorem dX5_sew_14 : decode cX5_sew 14 = .ok (.ifCond .eq 19, 3) := by decide +kernel
theorem dX5_sew_17 : decode cX5_sew 17 = .ok (.aload_n 0, 1) := by decide +kernel
theorem dX5_sew_18 : decode cX5_sew 18 = .ok (.bipush 28, 2) := by decide +kernel
theorem dX5_sew_20 : decode cX5_sew 20 = .ok (.iconst 4, 1) := by decide +kernel
theorem dX5_sew_21 : decode cX5_sew 21 = .ok (.iload_n 1, 1) := by decide +kernel
theorem dX5_sew_22 : decode cX5_sew 22 = .ok (.imul, 1) := by decide +kernel
theorem dX5_sew_23 : decode cX5_sew 23 = .ok (.iadd, 1) := by decide +kernel
theorem dX5_sew_24 : decode cX5_sew 24 = .ok (.iload_n 2, 1) := by decide +kernel
theorem dX5_sew_25 : decode cX5_sew 25 = .ok (.iadd, 1) := by decide +kernel
theorem dX5_sew_26 : decode cX5_sew 26 = .ok (.iload_n 3, 1) := by decide +kernel
theorem dX5_sew_27 : decode cX5_sew 27 = .ok (.invokevirtual 70, 3) := by decide +kernel
theorem dX5_sew_30 : decode cX5_sew 30 = .ok (.goto 9, 3) := by decide +kernel
theorem dX5_sew_33 : decode cX5_sew 33 = .ok (.aload_n 0, 1) := by decide +kernel
theorem dX5_sew_34 : decode cX5_sew 34 = .ok (.ldc 44, 2) := by decide +kernel
theorem dX5_sew_36 : decode cX5_sew 36 = .ok (.invokevirtual 73, 3) := by decide +kernel
theorem dX5_sew_39 : decode cX5_sew 39 = .ok (.ireturn, 1) := by decide +kernel
theorem dX5_washes_0 : decode cX5_washes 0 = .ok (.aload_n 0, 1) := by decide +kernel
theorem dX5_washes_1 : decode cX5_washes 1 = .ok (.iload_n 1, 1) := by decide +kernel
theorem dX5_washes_2 : decode cX5_washes 2 = .ok (.iconst 3, 1) := by decide +kernel
theorem dX5_washes_3 : decode cX5_washes 3 = .ok (.invokevirtual 49, 3) := by decide +kernel
theorem dX5_washes_6 : decode cX5_washes 6 = .ok (.istore_n 2, 1) := by decide +kernel
theorem dX5_washes_7 : decode cX5_washes 7 = .ok (.iload_n 2, 1) := by decide +kernel
theorem dX5_washes_8 : decode cX5_washes 8 = .ok (.ifCond .ge 4, 3) := by decide +kernel
theorem dX5_washes_11 : decode cX5_washes 11 = .ok (.return_, 1) := by decide +kernel
theorem dX5_washes_12 : decode cX5_washes 12 = .ok (.aload_n 0, 1) := by decide +kernel
theorem dX5_washes_13 : decode cX5_washes 13 = .ok (.iload_n 1, 1) := by decide +kernel
theorem dX5_washes_14 : decode cX5_washes 14 = .ok (.iconst 2, 1) := by decide +kernel
theorem dX5_washes_15 : decode cX5_washes 15 = .ok (.aload_n 0, 1) := by decide +kernel
theorem dX5_washes_16 : decode cX5_washes 16 = .ok (.iload_n 1, 1) := by decide +kernel
theorem dX5_washes_17 : decode cX5_washes 17 = .ok (.iconst 2, 1) := by decide +kernel
theorem dX5_washes_18 : decode cX5_washes 18 = .ok (.invokevirtual 49, 3) := by decide +kernel
theorem dX5_washes_21 : decode cX5_washes 21 = .ok (.aload_n 0, 1) := by decide +kernel
theorem dX5_washes_22 : decode cX5_washes 22 = .ok (.iload_n 1, 1) := by decide +kernel
theorem dX5_washes_23 : decode cX5_washes 23 = .ok (.invokevirtual 128, 3) := by decide +kernel
theorem dX5_washes_26 : decode cX5_washes 26 = .ok (.isub, 1) := by decide +kernel
theorem dX5_washes_27 : decode cX5_washes 27 = .ok (.iconst 0, 1) := by decide +kernel
theorem dX5_washes_28 : decode cX5_washes 28 = .ok (.bipush 99, 2) := by decide +kernel
theorem dX5_washes_30 : decode cX5_washes 30 = .ok (.invokestatic 134, 3) := by decide +kernel
theorem dX5_washes_33 : decode cX5_washes 33 = .ok (.invokevirtual 118, 3) := by decide +kernel
theorem dX5_washes_36 : decode cX5_washes 36 = .ok (.iload_n 2, 1) := by decide +kernel
theorem dX5_washes_37 : decode cX5_washes 37 = .ok (.aload_n 0, 1) := by decide +kernel
theorem dX5_washes_38 : decode cX5_washes 38 = .ok (.iload_n 1, 1) := by decide +kernel
theorem dX5_washes_39 : decode cX5_washes 39 = .ok (.iconst 0, 1) := by decide +kernel
theorem dX5_washes_40 : decode cX5_washes 40 = .ok (.invokevirtual 49, 3) := by decide +kernel
theorem dX5_washes_43 : decode cX5_washes 43 = .ok (.if_icmp .eq 22, 3) := by decide +kernel
theorem dX5_washes_46 : decode cX5_washes 46 = .ok (.aload_n 0, 1) := by decide +kernel
theorem dX5_washes_47 : decode cX5_washes 47 = .ok (.iload_n 2, 1) := by decide +kernel
theorem dX5_washes_48 : decode cX5_washes 48 = .ok (.iconst 3, 1) := by decide +kernel
theorem dX5_washes_49 : decode cX5_washes 49 = .ok (.invokevirtual 57, 3) := by decide +kernel
theorem dX5_washes_52 : decode cX5_washes 52 = .ok (.iconst 1, 1) := by decide +kernel
theorem dX5_washes_53 : decode cX5_washes 53 = .ok (.if_icmp .eq 12, 3) := by decide +kernel
theorem dX5_washes_56 : decode cX5_washes 56 = .ok (.aload_n 0, 1) := by decide +kernel
theorem dX5_washes_57 : decode cX5_washes 57 = .ok (.iload_n 2, 1) := by decide +kernel
theorem dX5_washes_58 : decode cX5_washes 58 = .ok (.iload_n 1, 1) := by decide +kernel
theorem dX5_washes_59 : decode cX5_washes 59 = .ok (.invokevirtual 111, 3) := by decide +kernel
theorem dX5_washes_62 : decode cX5_washes 62 = .ok (.ifCond .eq 14, 3) := by decide +kernel
theorem dX5_washes_65 : decode cX5_washes 65 = .ok (.aload_n 0, 1) := by decide +kernel
theorem dX5_washes_66 : decode cX5_washes 66 = .ok (.iload_n 1, 1) := by decide +kernel
theorem dX5_washes_67 : decode cX5_washes 67 = .ok (.iconst 3, 1) := by decide +kernel
theorem dX5_washes_68 : decode cX5_washes 68 = .ok (.aload_n 0, 1) := by decide +kernel
theorem dX5_washes_69 : decode cX5_washes 69 = .ok (.iload_n 1, 1) := by decide +kernel
theorem dX5_washes_70 : decode cX5_washes 70 = .ok (.invokevirtual 125, 3) := by decide +kernel
theorem dX5_washes_73 : decode cX5_washes 73 = .ok (.invokevirtual 118, 3) := by decide +kernel
theorem dX5_washes_76 : decode cX5_washes 76 = .ok (.return_, 1) := by decide +kernel
theorem dX5_lies_0 : decode cX5_lies 0 = .ok (.aload_n 0, 1) := by decide +kernel
theorem dX5_lies_1 : decode cX5_lies 1 = .ok (.iload_n 1, 1) := by decide +kernel
theorem dX5_lies_2 : decode cX5_lies 2 = .ok (.iconst 3, 1) := by decide +kernel
theorem dX5_lies_3 : decode cX5_lies 3 = .ok (.invokevirtual 49, 3) := by decide +kernel
theorem dX5_lies_6 : decode cX5_lies 6 = .ok (.ifCond .lt 4, 3) := by decide +kernel
theorem dX5_lies_9 : decode cX5_lies 9 = .ok (.return_, 1) := by decide +kernel
theorem dX5_lies_10 : decode cX5_lies 10 = .ok (.iconst (-1), 1) := by decide +kernel
theorem dX5_lies_11 : decode cX5_lies 11 = .ok (.istore_n 2, 1) := by decide +kernel
theorem dX5_lies_12 : decode cX5_lies 12 = .ok (.aload_n 0, 1) := by decide +kernel
theorem dX5_lies_13 : decode cX5_lies 13 = .ok (.getfield 7, 3) := by decide +kernel
theorem dX5_lies_16 : decode cX5_lies 16 = .ok (.iconst 2, 1) := by decide +kernel
theorem dX5_lies_17 : decode cX5_lies 17 = .ok (.iaload, 1) := by decide +kernel
theorem dX5_lies_18 : decode cX5_lies 18 = .ok (.iconst 1, 1) := by decide +kernel
theorem dX5_lies_19 : decode cX5_lies 19 = .ok (.isub, 1) := by decide +kernel
theorem dX5_lies_20 : decode cX5_lies 20 = .ok (.istore_n 3, 1) := by decide +kernel
theorem dX5_lies_21 : decode cX5_lies 21 = .ok (.iload_n 3, 1) := by decide +kernel
theorem dX5_lies_22 : decode cX5_lies 22 = .ok (.ifCond .lt 33, 3) := by decide +kernel
theorem dX5_lies_25 : decode cX5_lies 25 = .ok (.aload_n 0, 1) := by decide +kernel
theorem dX5_lies_26 : decode cX5_lies 26 = .ok (.iload_n 3, 1) := by decide +kernel
theorem dX5_lies_27 : decode cX5_lies 27 = .ok (.iconst 3, 1) := by decide +kernel
theorem dX5_lies_28 : decode cX5_lies 28 = .ok (.invokevirtual 57, 3) := by decide +kernel
theorem dX5_lies_31 : decode cX5_lies 31 = .ok (.ifCond .ne 16, 3) := by decide +kernel
theorem dX5_lies_34 : decode cX5_lies 34 = .ok (.aload_n 0, 1) := by decide +kernel
theorem dX5_lies_35 : decode cX5_lies 35 = .ok (.iload_n 3, 1) := by decide +kernel
theorem dX5_lies_36 : decode cX5_lies 36 = .ok (.iload_n 1, 1) := by decide +kernel
theorem dX5_lies_37 : decode cX5_lies 37 = .ok (.invokevirtual 114, 3) := by decide +kernel
theorem dX5_lies_40 : decode cX5_lies 40 = .ok (.ifCond .eq 7, 3) := by decide +kernel
theorem dX5_lies_43 : decode cX5_lies 43 = .ok (.iload_n 3, 1) := by decide +kernel
theorem dX5_lies_44 : decode cX5_lies 44 = .ok (.goto 4, 3) := by decide +kernel
theorem dX5_lies_47 : decode cX5_lies 47 = .ok (.iload_n 2, 1) := by decide +kernel
theorem dX5_lies_48 : decode cX5_lies 48 = .ok (.istore_n 2, 1) := by decide +kernel
theorem dX5_lies_49 : decode cX5_lies 49 = .ok (.iinc 3 (-1), 3) := by decide +kernel
theorem dX5_lies_52 : decode cX5_lies 52 = .ok (.goto (-31), 3) := by decide +kernel
theorem dX5_lies_55 : decode cX5_lies 55 = .ok (.aload_n 0, 1) := by decide +kernel
theorem dX5_lies_56 : decode cX5_lies 56 = .ok (.iload_n 1, 1) := by decide +kernel
theorem dX5_lies_57 : decode cX5_lies 57 = .ok (.iconst 3, 1) := by decide +kernel
theorem dX5_lies_58 : decode cX5_lies 58 = .ok (.iload_n 2, 1) := by decide +kernel
theorem dX5_lies_59 : decode cX5_lies 59 = .ok (.invokevirtual 118, 3) := by decide +kernel
theorem dX5_lies_62 : decode cX5_lies 62 = .ok (.return_, 1) := by decide +kernel
theorem dX5_oneWeek_0 : decode cX5_oneWeek 0 = .ok (.iconst 0, 1) := by decide +kernel
theorem dX5_oneWeek_1 : decode cX5_oneWeek 1 = .ok (.istore_n 1, 1) := by decide +kernel
theorem dX5_oneWeek_2 : decode cX5_oneWeek 2 = .ok (.iload_n 1, 1) := by decide +kernel
theorem dX5_oneWeek_3 : decode cX5_oneWeek 3 = .ok (.aload_n 0, 1) := by decide +kernel
theorem dX5_oneWeek_4 : decode cX5_oneWeek 4 = .ok (.getfield 7, 3) := by decide +kernel
theorem dX5_oneWeek_7 : decode cX5_oneWeek 7 = .ok (.iconst 3, 1) := by decide +kernel
theorem dX5_oneWeek_8 : decode cX5_oneWeek 8 = .ok (.iaload, 1) := by decide +kernel
theorem dX5_oneWeek_9 : decode cX5_oneWeek 9 = .ok (.if_icmp .ge 14, 3) := by decide +kernel
theorem dX5_oneWeek_12 : decode cX5_oneWeek 12 = .ok (.aload_n 0, 1) := by decide +kernel
theorem dX5_oneWeek_13 : decode cX5_oneWeek 13 = .ok (.iload_n 1, 1) := by decide +kernel
theorem dX5_oneWeek_14 : decode cX5_oneWeek 14 = .ok (.invokevirtual 138, 3) := by decide +kernel
theorem dX5_oneWeek_17 : decode cX5_oneWeek 17 = .ok (.iinc 1 1, 3) := by decide +kernel
theorem dX5_oneWeek_20 : decode cX5_oneWeek 20 = .ok (.goto (-18), 3) := by decide +kernel
theorem dX5_oneWeek_23 : decode cX5_oneWeek 23 = .ok (.iconst 0, 1) := by decide +kernel
theorem dX5_oneWeek_24 : decode cX5_oneWeek 24 = .ok (.istore_n 1, 1) := by decide +kernel
theorem dX5_oneWeek_25 : decode cX5_oneWeek 25 = .ok (.iload_n 1, 1) := by decide +kernel
theorem dX5_oneWeek_26 : decode cX5_oneWeek 26 = .ok (.aload_n 0, 1) := by decide +kernel
theorem dX5_oneWeek_27 : decode cX5_oneWeek 27 = .ok (.getfield 7, 3) := by decide +kernel
theorem dX5_oneWeek_30 : decode cX5_oneWeek 30 = .ok (.iconst 3, 1) := by decide +kernel
theorem dX5_oneWeek_31 : decode cX5_oneWeek 31 = .ok (.iaload, 1) := by decide +kernel
theorem dX5_oneWeek_32 : decode cX5_oneWeek 32 = .ok (.if_icmp .ge 26, 3) := by decide +kernel
theorem dX5_oneWeek_35 : decode cX5_oneWeek 35 = .ok (.aload_n 0, 1) := by decide +kernel
theorem dX5_oneWeek_36 : decode cX5_oneWeek 36 = .ok (.getfield 7, 3) := by decide +kernel
theorem dX5_oneWeek_39 : decode cX5_oneWeek 39 = .ok (.iconst 0, 1) := by decide +kernel
theorem dX5_oneWeek_40 : decode cX5_oneWeek 40 = .ok (.iaload, 1) := by decide +kernel
theorem dX5_oneWeek_41 : decode cX5_oneWeek 41 = .ok (.iconst 2, 1) := by decide +kernel
theorem dX5_oneWeek_42 : decode cX5_oneWeek 42 = .ok (.irem, 1) := by decide +kernel
theorem dX5_oneWeek_43 : decode cX5_oneWeek 43 = .ok (.iconst 1, 1) := by decide +kernel
theorem dX5_oneWeek_44 : decode cX5_oneWeek 44 = .ok (.if_icmp .ne 14, 3) := by decide +kernel
theorem dX5_oneWeek_47 : decode cX5_oneWeek 47 = .ok (.aload_n 0, 1) := by decide +kernel
theorem dX5_oneWeek_48 : decode cX5_oneWeek 48 = .ok (.iload_n 1, 1) := by decide +kernel
theorem dX5_oneWeek_49 : decode cX5_oneWeek 49 = .ok (.invokevirtual 142, 3) := by decide +kernel
theorem dX5_oneWeek_52 : decode cX5_oneWeek 52 = .ok (.iinc 1 1, 3) := by decide +kernel
theorem dX5_oneWeek_55 : decode cX5_oneWeek 55 = .ok (.goto (-30), 3) := by decide +kernel
theorem dX5_oneWeek_58 : decode cX5_oneWeek 58 = .ok (.iconst 0, 1) := by decide +kernel
theorem dX5_oneWeek_59 : decode cX5_oneWeek 59 = .ok (.istore_n 1, 1) := by decide +kernel
theorem dX5_oneWeek_60 : decode cX5_oneWeek 60 = .ok (.iload_n 1, 1) := by decide +kernel
theorem dX5_oneWeek_61 : decode cX5_oneWeek 61 = .ok (.aload_n 0, 1) := by decide +kernel
theorem dX5_oneWeek_62 : decode cX5_oneWeek 62 = .ok (.getfield 7, 3) := by decide +kernel
theorem dX5_oneWeek_65 : decode cX5_oneWeek 65 = .ok (.iconst 2, 1) := by decide +kernel
theorem dX5_oneWeek_66 : decode cX5_oneWeek 66 = .ok (.iaload, 1) := by decide +kernel
theorem dX5_oneWeek_67 : decode cX5_oneWeek 67 = .ok (.if_icmp .ge 45, 3) := by decide +kernel
theorem dX5_oneWeek_70 : decode cX5_oneWeek 70 = .ok (.aload_n 0, 1) := by decide +kernel
theorem dX5_oneWeek_71 : decode cX5_oneWeek 71 = .ok (.iload_n 1, 1) := by decide +kernel
theorem dX5_oneWeek_72 : decode cX5_oneWeek 72 = .ok (.iconst 3, 1) := by decide +kernel
theorem dX5_oneWeek_73 : decode cX5_oneWeek 73 = .ok (.invokevirtual 57, 3) := by decide +kernel
theorem dX5_oneWeek_76 : decode cX5_oneWeek 76 = .ok (.ifCond .ne 30, 3) := by decide +kernel
theorem dX5_oneWeek_79 : decode cX5_oneWeek 79 = .ok (.aload_n 0, 1) := by decide +kernel
theorem dX5_oneWeek_80 : decode cX5_oneWeek 80 = .ok (.iload_n 1, 1) := by decide +kernel
theorem dX5_oneWeek_81 : decode cX5_oneWeek 81 = .ok (.iconst 2, 1) := by decide +kernel
theorem dX5_oneWeek_82 : decode cX5_oneWeek 82 = .ok (.aload_n 0, 1) := by decide +kernel
theorem dX5_oneWeek_83 : decode cX5_oneWeek 83 = .ok (.iload_n 1, 1) := by decide +kernel
theorem dX5_oneWeek_84 : decode cX5_oneWeek 84 = .ok (.iconst 2, 1) := by decide +kernel
theorem dX5_oneWeek_85 : decode cX5_oneWeek 85 = .ok (.invokevirtual 57, 3) := by decide +kernel
theorem dX5_oneWeek_88 : decode cX5_oneWeek 88 = .ok (.aload_n 0, 1) := by decide +kernel
theorem dX5_oneWeek_89 : decode cX5_oneWeek 89 = .ok (.iload_n 1, 1) := by decide +kernel
theorem dX5_oneWeek_90 : decode cX5_oneWeek 90 = .ok (.invokevirtual 101, 3) := by decide +kernel
theorem dX5_oneWeek_93 : decode cX5_oneWeek 93 = .ok (.iadd, 1) := by decide +kernel
theorem dX5_oneWeek_94 : decode cX5_oneWeek 94 = .ok (.sipush (-999), 3) := by decide +kernel
theorem dX5_oneWeek_97 : decode cX5_oneWeek 97 = .ok (.sipush 999, 3) := by decide +kernel
theorem dX5_oneWeek_100 : decode cX5_oneWeek 100 = .ok (.invokestatic 134, 3) := by decide +kernel
theorem dX5_oneWeek_103 : decode cX5_oneWeek 103 = .ok (.invokevirtual 86, 3) := by decide +kernel
theorem dX5_oneWeek_106 : decode cX5_oneWeek 106 = .ok (.iinc 1 1, 3) := by decide +kernel
theorem dX5_oneWeek_109 : decode cX5_oneWeek 109 = .ok (.goto (-49), 3) := by decide +kernel
theorem dX5_oneWeek_112 : decode cX5_oneWeek 112 = .ok (.aload_n 0, 1) := by decide +kernel
theorem dX5_oneWeek_113 : decode cX5_oneWeek 113 = .ok (.getfield 7, 3) := by decide +kernel
theorem dX5_oneWeek_116 : decode cX5_oneWeek 116 = .ok (.iconst 0, 1) := by decide +kernel
theorem dX5_oneWeek_117 : decode cX5_oneWeek 117 = .ok (.dup2, 1) := by decide +kernel
theorem dX5_oneWeek_118 : decode cX5_oneWeek 118 = .ok (.iaload, 1) := by decide +kernel
theorem dX5_oneWeek_119 : decode cX5_oneWeek 119 = .ok (.iconst 1, 1) := by decide +kernel
theorem dX5_oneWeek_120 : decode cX5_oneWeek 120 = .ok (.iadd, 1) := by decide +kernel
theorem dX5_oneWeek_121 : decode cX5_oneWeek 121 = .ok (.iastore, 1) := by decide +kernel
theorem dX5_oneWeek_122 : decode cX5_oneWeek 122 = .ok (.return_, 1) := by decide +kernel
theorem dX5_passes_0 : decode cX5_passes 0 = .ok (.iconst 0, 1) := by decide +kernel
theorem dX5_passes_1 : decode cX5_passes 1 = .ok (.istore_n 2, 1) := by decide +kernel
theorem dX5_passes_2 : decode cX5_passes 2 = .ok (.iload_n 2, 1) := by decide +kernel
theorem dX5_passes_3 : decode cX5_passes 3 = .ok (.iload_n 1, 1) := by decide +kernel
theorem dX5_passes_4 : decode cX5_passes 4 = .ok (.if_icmp .ge 13, 3) := by decide +kernel
theorem dX5_passes_7 : decode cX5_passes 7 = .ok (.aload_n 0, 1) := by decide +kernel
theorem dX5_passes_8 : decode cX5_passes 8 = .ok (.invokevirtual 145, 3) := by decide +kernel
theorem dX5_passes_11 : decode cX5_passes 11 = .ok (.iinc 2 1, 3) := by decide +kernel
theorem dX5_passes_14 : decode cX5_passes 14 = .ok (.goto (-12), 3) := by decide +kernel
theorem dX5_passes_17 : decode cX5_passes 17 = .ok (.return_, 1) := by decide +kernel
theorem dX5_weeks_0 : decode cX5_weeks 0 = .ok (.iload_n 1, 1) := by decide +kernel
theorem dX5_weeks_1 : decode cX5_weeks 1 = .ok (.iconst 1, 1) := by decide +kernel
theorem dX5_weeks_2 : decode cX5_weeks 2 = .ok (.bipush 60, 2) := by decide +kernel
theorem dX5_weeks_4 : decode cX5_weeks 4 = .ok (.invokestatic 45, 3) := by decide +kernel
theorem dX5_weeks_7 : decode cX5_weeks 7 = .ok (.ifCond .ne 10, 3) := by decide +kernel
theorem dX5_weeks_10 : decode cX5_weeks 10 = .ok (.aload_n 0, 1) := by decide +kernel
theorem dX5_weeks_11 : decode cX5_weeks 11 = .ok (.ldc 44, 2) := by decide +kernel
theorem dX5_weeks_13 : decode cX5_weeks 13 = .ok (.invokevirtual 73, 3) := by decide +kernel
theorem dX5_weeks_16 : decode cX5_weeks 16 = .ok (.ireturn, 1) := by decide +kernel
theorem dX5_weeks_17 : decode cX5_weeks 17 = .ok (.aload_n 0, 1) := by decide +kernel
theorem dX5_weeks_18 : decode cX5_weeks 18 = .ok (.getfield 7, 3) := by decide +kernel
theorem dX5_weeks_21 : decode cX5_weeks 21 = .ok (.iconst 0, 1) := by decide +kernel
theorem dX5_weeks_22 : decode cX5_weeks 22 = .ok (.iaload, 1) := by decide +kernel
theorem dX5_weeks_23 : decode cX5_weeks 23 = .ok (.iload_n 1, 1) := by decide +kernel
theorem dX5_weeks_24 : decode cX5_weeks 24 = .ok (.iadd, 1) := by decide +kernel
theorem dX5_weeks_25 : decode cX5_weeks 25 = .ok (.ldc 148, 2) := by decide +kernel
theorem dX5_weeks_27 : decode cX5_weeks 27 = .ok (.if_icmp .le 10, 3) := by decide +kernel
theorem dX5_weeks_30 : decode cX5_weeks 30 = .ok (.aload_n 0, 1) := by decide +kernel
theorem dX5_weeks_31 : decode cX5_weeks 31 = .ok (.ldc 149, 2) := by decide +kernel
theorem dX5_weeks_33 : decode cX5_weeks 33 = .ok (.invokevirtual 73, 3) := by decide +kernel
theorem dX5_weeks_36 : decode cX5_weeks 36 = .ok (.ireturn, 1) := by decide +kernel
theorem dX5_weeks_37 : decode cX5_weeks 37 = .ok (.aload_n 0, 1) := by decide +kernel
theorem dX5_weeks_38 : decode cX5_weeks 38 = .ok (.iload_n 1, 1) := by decide +kernel
theorem dX5_weeks_39 : decode cX5_weeks 39 = .ok (.invokevirtual 150, 3) := by decide +kernel
theorem dX5_weeks_42 : decode cX5_weeks 42 = .ok (.aload_n 0, 1) := by decide +kernel
theorem dX5_weeks_43 : decode cX5_weeks 43 = .ok (.invokevirtual 76, 3) := by decide +kernel
theorem dX5_weeks_46 : decode cX5_weeks 46 = .ok (.ireturn, 1) := by decide +kernel
theorem dX5_behind_0 : decode cX5_behind 0 = .ok (.aload_n 0, 1) := by decide +kernel
theorem dX5_behind_1 : decode cX5_behind 1 = .ok (.iload_n 1, 1) := by decide +kernel
theorem dX5_behind_2 : decode cX5_behind 2 = .ok (.invokevirtual 150, 3) := by decide +kernel
theorem dX5_behind_5 : decode cX5_behind 5 = .ok (.aload_n 0, 1) := by decide +kernel
theorem dX5_behind_6 : decode cX5_behind 6 = .ok (.getfield 7, 3) := by decide +kernel
theorem dX5_behind_9 : decode cX5_behind 9 = .ok (.iload_n 2, 1) := by decide +kernel
theorem dX5_behind_10 : decode cX5_behind 10 = .ok (.iaload, 1) := by decide +kernel
theorem dX5_behind_11 : decode cX5_behind 11 = .ok (.istore_n 3, 1) := by decide +kernel
theorem dX5_behind_12 : decode cX5_behind 12 = .ok (.aload_n 0, 1) := by decide +kernel
theorem dX5_behind_13 : decode cX5_behind 13 = .ok (.iconst 0, 1) := by decide +kernel
theorem dX5_behind_14 : decode cX5_behind 14 = .ok (.aload_n 0, 1) := by decide +kernel
theorem dX5_behind_15 : decode cX5_behind 15 = .ok (.getfield 16, 3) := by decide +kernel
theorem dX5_behind_18 : decode cX5_behind 18 = .ok (.invokevirtual 153, 3) := by decide +kernel
theorem dX5_behind_21 : decode cX5_behind 21 = .ok (.iload_n 3, 1) := by decide +kernel
theorem dX5_behind_22 : decode cX5_behind 22 = .ok (.ireturn, 1) := by decide +kernel
theorem dX5_on_0 : decode cX5_on 0 = .ok (.aload_n 0, 1) := by decide +kernel
theorem dX5_on_1 : decode cX5_on 1 = .ok (.iload_n 1, 1) := by decide +kernel
theorem dX5_on_2 : decode cX5_on 2 = .ok (.invokevirtual 108, 3) := by decide +kernel
theorem dX5_on_5 : decode cX5_on 5 = .ok (.ifCond .eq 22, 3) := by decide +kernel
theorem dX5_on_8 : decode cX5_on 8 = .ok (.iload_n 2, 1) := by decide +kernel
theorem dX5_on_9 : decode cX5_on 9 = .ok (.iconst 0, 1) := by decide +kernel
theorem dX5_on_10 : decode cX5_on 10 = .ok (.bipush 100, 2) := by decide +kernel
theorem dX5_on_12 : decode cX5_on 12 = .ok (.invokestatic 45, 3) := by decide +kernel
theorem dX5_on_15 : decode cX5_on 15 = .ok (.ifCond .eq 12, 3) := by decide +kernel
theorem dX5_on_18 : decode cX5_on 18 = .ok (.iload_n 3, 1) := by decide +kernel
theorem dX5_on_19 : decode cX5_on 19 = .ok (.iconst 0, 1) := by decide +kernel
theorem dX5_on_20 : decode cX5_on 20 = .ok (.iconst 1, 1) := by decide +kernel
theorem dX5_on_21 : decode cX5_on 21 = .ok (.invokestatic 45, 3) := by decide +kernel
theorem dX5_on_24 : decode cX5_on 24 = .ok (.ifCond .ne 10, 3) := by decide +kernel
theorem dX5_on_27 : decode cX5_on 27 = .ok (.aload_n 0, 1) := by decide +kernel
theorem dX5_on_28 : decode cX5_on 28 = .ok (.ldc 44, 2) := by decide +kernel
theorem dX5_on_30 : decode cX5_on 30 = .ok (.invokevirtual 73, 3) := by decide +kernel
theorem dX5_on_33 : decode cX5_on 33 = .ok (.ireturn, 1) := by decide +kernel
theorem dX5_on_34 : decode cX5_on 34 = .ok (.aload_n 0, 1) := by decide +kernel
theorem dX5_on_35 : decode cX5_on 35 = .ok (.iconst 1, 1) := by decide +kernel
theorem dX5_on_36 : decode cX5_on 36 = .ok (.aload_n 0, 1) := by decide +kernel
theorem dX5_on_37 : decode cX5_on 37 = .ok (.getfield 16, 3) := by decide +kernel
theorem dX5_on_40 : decode cX5_on 40 = .ok (.invokevirtual 153, 3) := by decide +kernel
theorem dX5_on_43 : decode cX5_on 43 = .ok (.aload_n 0, 1) := by decide +kernel
theorem dX5_on_44 : decode cX5_on 44 = .ok (.iload_n 2, 1) := by decide +kernel
theorem dX5_on_45 : decode cX5_on 45 = .ok (.bipush 28, 2) := by decide +kernel
theorem dX5_on_47 : decode cX5_on 47 = .ok (.iconst 4, 1) := by decide +kernel
theorem dX5_on_48 : decode cX5_on 48 = .ok (.iload_n 1, 1) := by decide +kernel
theorem dX5_on_49 : decode cX5_on 49 = .ok (.imul, 1) := by decide +kernel
theorem dX5_on_50 : decode cX5_on 50 = .ok (.iadd, 1) := by decide +kernel
theorem dX5_on_51 : decode cX5_on 51 = .ok (.iconst 2, 1) := by decide +kernel
theorem dX5_on_52 : decode cX5_on 52 = .ok (.iadd, 1) := by decide +kernel
theorem dX5_on_53 : decode cX5_on 53 = .ok (.iload_n 3, 1) := by decide +kernel
theorem dX5_on_54 : decode cX5_on 54 = .ok (.iadd, 1) := by decide +kernel
theorem dX5_on_55 : decode cX5_on 55 = .ok (.invokevirtual 157, 3) := by decide +kernel
theorem dX5_on_58 : decode cX5_on 58 = .ok (.ireturn, 1) := by decide +kernel
theorem dX5_then_0 : decode cX5_then 0 = .ok (.aload_n 0, 1) := by decide +kernel
theorem dX5_then_1 : decode cX5_then 1 = .ok (.iload_n 1, 1) := by decide +kernel
theorem dX5_then_2 : decode cX5_then 2 = .ok (.invokevirtual 98, 3) := by decide +kernel
theorem dX5_then_5 : decode cX5_then 5 = .ok (.ifCond .eq 13, 3) := by decide +kernel
theorem dX5_then_8 : decode cX5_then 8 = .ok (.iload_n 2, 1) := by decide +kernel
theorem dX5_then_9 : decode cX5_then 9 = .ok (.iconst 0, 1) := by decide +kernel
theorem dX5_then_10 : decode cX5_then 10 = .ok (.bipush 100, 2) := by decide +kernel
theorem dX5_then_12 : decode cX5_then 12 = .ok (.invokestatic 45, 3) := by decide +kernel
theorem dX5_then_15 : decode cX5_then 15 = .ok (.ifCond .ne 10, 3) := by decide +kernel
theorem dX5_then_18 : decode cX5_then 18 = .ok (.aload_n 0, 1) := by decide +kernel
theorem dX5_then_19 : decode cX5_then 19 = .ok (.ldc 44, 2) := by decide +kernel
theorem dX5_then_21 : decode cX5_then 21 = .ok (.invokevirtual 73, 3) := by decide +kernel
theorem dX5_then_24 : decode cX5_then 24 = .ok (.ireturn, 1) := by decide +kernel
theorem dX5_then_25 : decode cX5_then 25 = .ok (.aload_n 0, 1) := by decide +kernel
theorem dX5_then_26 : decode cX5_then 26 = .ok (.iconst 1, 1) := by decide +kernel
theorem dX5_then_27 : decode cX5_then 27 = .ok (.aload_n 0, 1) := by decide +kernel
theorem dX5_then_28 : decode cX5_then 28 = .ok (.getfield 16, 3) := by decide +kernel
theorem dX5_then_31 : decode cX5_then 31 = .ok (.invokevirtual 153, 3) := by decide +kernel
theorem dX5_then_34 : decode cX5_then 34 = .ok (.sipush 1000, 3) := by decide +kernel
theorem dX5_then_37 : decode cX5_then 37 = .ok (.aload_n 0, 1) := by decide +kernel
theorem dX5_then_38 : decode cX5_then 38 = .ok (.iload_n 2, 1) := by decide +kernel
theorem dX5_then_39 : decode cX5_then 39 = .ok (.iconst 4, 1) := by decide +kernel
theorem dX5_then_40 : decode cX5_then 40 = .ok (.iconst 4, 1) := by decide +kernel
theorem dX5_then_41 : decode cX5_then 41 = .ok (.iload_n 1, 1) := by decide +kernel
theorem dX5_then_42 : decode cX5_then 42 = .ok (.imul, 1) := by decide +kernel
theorem dX5_then_43 : decode cX5_then 43 = .ok (.iadd, 1) := by decide +kernel
theorem dX5_then_44 : decode cX5_then 44 = .ok (.iconst 2, 1) := by decide +kernel
theorem dX5_then_45 : decode cX5_then 45 = .ok (.iadd, 1) := by decide +kernel
theorem dX5_then_46 : decode cX5_then 46 = .ok (.invokevirtual 157, 3) := by decide +kernel
theorem dX5_then_49 : decode cX5_then 49 = .ok (.iadd, 1) := by decide +kernel
theorem dX5_then_50 : decode cX5_then 50 = .ok (.ireturn, 1) := by decide +kernel
theorem dX5_lost_0 : decode cX5_lost 0 = .ok (.aload_n 0, 1) := by decide +kernel
theorem dX5_lost_1 : decode cX5_lost 1 = .ok (.iload_n 1, 1) := by decide +kernel
theorem dX5_lost_2 : decode cX5_lost 2 = .ok (.invokevirtual 108, 3) := by decide +kernel
theorem dX5_lost_5 : decode cX5_lost 5 = .ok (.ifCond .ne 10, 3) := by decide +kernel
theorem dX5_lost_8 : decode cX5_lost 8 = .ok (.aload_n 0, 1) := by decide +kernel
theorem dX5_lost_9 : decode cX5_lost 9 = .ok (.ldc 44, 2) := by decide +kernel
theorem dX5_lost_11 : decode cX5_lost 11 = .ok (.invokevirtual 73, 3) := by decide +kernel
theorem dX5_lost_14 : decode cX5_lost 14 = .ok (.ireturn, 1) := by decide +kernel
theorem dX5_lost_15 : decode cX5_lost 15 = .ok (.aload_n 0, 1) := by decide +kernel
theorem dX5_lost_16 : decode cX5_lost 16 = .ok (.iconst 1, 1) := by decide +kernel
theorem dX5_lost_17 : decode cX5_lost 17 = .ok (.aload_n 0, 1) := by decide +kernel
theorem dX5_lost_18 : decode cX5_lost 18 = .ok (.getfield 16, 3) := by decide +kernel
theorem dX5_lost_21 : decode cX5_lost 21 = .ok (.invokevirtual 153, 3) := by decide +kernel
theorem dX5_lost_24 : decode cX5_lost 24 = .ok (.iconst 0, 1) := by decide +kernel
theorem dX5_lost_25 : decode cX5_lost 25 = .ok (.istore_n 2, 1) := by decide +kernel
theorem dX5_lost_26 : decode cX5_lost 26 = .ok (.iload_n 2, 1) := by decide +kernel
theorem dX5_lost_27 : decode cX5_lost 27 = .ok (.bipush 100, 2) := by decide +kernel
theorem dX5_lost_29 : decode cX5_lost 29 = .ok (.if_icmp .gt 21, 3) := by decide +kernel
theorem dX5_lost_32 : decode cX5_lost 32 = .ok (.aload_n 0, 1) := by decide +kernel
theorem dX5_lost_33 : decode cX5_lost 33 = .ok (.iload_n 1, 1) := by decide +kernel
theorem dX5_lost_34 : decode cX5_lost 34 = .ok (.invokevirtual 53, 3) := by decide +kernel
theorem dX5_lost_37 : decode cX5_lost 37 = .ok (.ifCond .eq 13, 3) := by decide +kernel
theorem dX5_lost_40 : decode cX5_lost 40 = .ok (.aload_n 0, 1) := by decide +kernel
theorem dX5_lost_41 : decode cX5_lost 41 = .ok (.invokevirtual 145, 3) := by decide +kernel
theorem dX5_lost_44 : decode cX5_lost 44 = .ok (.iinc 2 1, 3) := by decide +kernel
theorem dX5_lost_47 : decode cX5_lost 47 = .ok (.goto (-21), 3) := by decide +kernel
theorem dX5_lost_50 : decode cX5_lost 50 = .ok (.aload_n 0, 1) := by decide +kernel
theorem dX5_lost_51 : decode cX5_lost 51 = .ok (.iconst 0, 1) := by decide +kernel
theorem dX5_lost_52 : decode cX5_lost 52 = .ok (.aload_n 0, 1) := by decide +kernel
theorem dX5_lost_53 : decode cX5_lost 53 = .ok (.getfield 16, 3) := by decide +kernel
theorem dX5_lost_56 : decode cX5_lost 56 = .ok (.invokevirtual 153, 3) := by decide +kernel
theorem dX5_lost_59 : decode cX5_lost 59 = .ok (.iload_n 2, 1) := by decide +kernel
theorem dX5_lost_60 : decode cX5_lost 60 = .ok (.bipush 100, 2) := by decide +kernel
theorem dX5_lost_62 : decode cX5_lost 62 = .ok (.if_icmp .le 12, 3) := by decide +kernel
theorem dX5_lost_65 : decode cX5_lost 65 = .ok (.aload_n 0, 1) := by decide +kernel
theorem dX5_lost_66 : decode cX5_lost 66 = .ok (.ldc 160, 2) := by decide +kernel
theorem dX5_lost_68 : decode cX5_lost 68 = .ok (.invokevirtual 73, 3) := by decide +kernel
theorem dX5_lost_71 : decode cX5_lost 71 = .ok (.goto 4, 3) := by decide +kernel
theorem dX5_lost_74 : decode cX5_lost 74 = .ok (.iload_n 2, 1) := by decide +kernel
theorem dX5_lost_75 : decode cX5_lost 75 = .ok (.ireturn, 1) := by decide +kernel
theorem dX5_comes_0 : decode cX5_comes 0 = .ok (.aload_n 0, 1) := by decide +kernel
theorem dX5_comes_1 : decode cX5_comes 1 = .ok (.iload_n 1, 1) := by decide +kernel
theorem dX5_comes_2 : decode cX5_comes 2 = .ok (.invokevirtual 108, 3) := by decide +kernel
theorem dX5_comes_5 : decode cX5_comes 5 = .ok (.ifCond .eq 11, 3) := by decide +kernel
theorem dX5_comes_8 : decode cX5_comes 8 = .ok (.aload_n 0, 1) := by decide +kernel
theorem dX5_comes_9 : decode cX5_comes 9 = .ok (.iload_n 2, 1) := by decide +kernel
theorem dX5_comes_10 : decode cX5_comes 10 = .ok (.invokevirtual 98, 3) := by decide +kernel
theorem dX5_comes_13 : decode cX5_comes 13 = .ok (.ifCond .ne 10, 3) := by decide +kernel
theorem dX5_comes_16 : decode cX5_comes 16 = .ok (.aload_n 0, 1) := by decide +kernel
theorem dX5_comes_17 : decode cX5_comes 17 = .ok (.ldc 44, 2) := by decide +kernel
theorem dX5_comes_19 : decode cX5_comes 19 = .ok (.invokevirtual 73, 3) := by decide +kernel
theorem dX5_comes_22 : decode cX5_comes 22 = .ok (.ireturn, 1) := by decide +kernel
theorem dX5_comes_23 : decode cX5_comes 23 = .ok (.aload_n 0, 1) := by decide +kernel
theorem dX5_comes_24 : decode cX5_comes 24 = .ok (.iconst 1, 1) := by decide +kernel
theorem dX5_comes_25 : decode cX5_comes 25 = .ok (.aload_n 0, 1) := by decide +kernel
theorem dX5_comes_26 : decode cX5_comes 26 = .ok (.getfield 16, 3) := by decide +kernel
theorem dX5_comes_29 : decode cX5_comes 29 = .ok (.invokevirtual 153, 3) := by decide +kernel
theorem dX5_comes_32 : decode cX5_comes 32 = .ok (.iconst 0, 1) := by decide +kernel
theorem dX5_comes_33 : decode cX5_comes 33 = .ok (.istore_n 3, 1) := by decide +kernel
theorem dX5_comes_34 : decode cX5_comes 34 = .ok (.iload_n 3, 1) := by decide +kernel
theorem dX5_comes_35 : decode cX5_comes 35 = .ok (.bipush 100, 2) := by decide +kernel
theorem dX5_comes_37 : decode cX5_comes 37 = .ok (.if_icmp .gt 23, 3) := by decide +kernel
theorem dX5_comes_40 : decode cX5_comes 40 = .ok (.aload_n 0, 1) := by decide +kernel
theorem dX5_comes_41 : decode cX5_comes 41 = .ok (.iload_n 1, 1) := by decide +kernel
theorem dX5_comes_42 : decode cX5_comes 42 = .ok (.iconst 3, 1) := by decide +kernel
theorem dX5_comes_43 : decode cX5_comes 43 = .ok (.invokevirtual 49, 3) := by decide +kernel
theorem dX5_comes_46 : decode cX5_comes 46 = .ok (.iload_n 2, 1) := by decide +kernel
theorem dX5_comes_47 : decode cX5_comes 47 = .ok (.if_icmp .eq 13, 3) := by decide +kernel
theorem dX5_comes_50 : decode cX5_comes 50 = .ok (.aload_n 0, 1) := by decide +kernel
theorem dX5_comes_51 : decode cX5_comes 51 = .ok (.invokevirtual 145, 3) := by decide +kernel
theorem dX5_comes_54 : decode cX5_comes 54 = .ok (.iinc 3 1, 3) := by decide +kernel
theorem dX5_comes_57 : decode cX5_comes 57 = .ok (.goto (-23), 3) := by decide +kernel
theorem dX5_comes_60 : decode cX5_comes 60 = .ok (.aload_n 0, 1) := by decide +kernel
theorem dX5_comes_61 : decode cX5_comes 61 = .ok (.iconst 0, 1) := by decide +kernel
theorem dX5_comes_62 : decode cX5_comes 62 = .ok (.aload_n 0, 1) := by decide +kernel
theorem dX5_comes_63 : decode cX5_comes 63 = .ok (.getfield 16, 3) := by decide +kernel
theorem dX5_comes_66 : decode cX5_comes 66 = .ok (.invokevirtual 153, 3) := by decide +kernel
theorem dX5_comes_69 : decode cX5_comes 69 = .ok (.iload_n 3, 1) := by decide +kernel
theorem dX5_comes_70 : decode cX5_comes 70 = .ok (.bipush 100, 2) := by decide +kernel
theorem dX5_comes_72 : decode cX5_comes 72 = .ok (.if_icmp .le 12, 3) := by decide +kernel
theorem dX5_comes_75 : decode cX5_comes 75 = .ok (.aload_n 0, 1) := by decide +kernel
theorem dX5_comes_76 : decode cX5_comes 76 = .ok (.ldc 160, 2) := by decide +kernel
theorem dX5_comes_78 : decode cX5_comes 78 = .ok (.invokevirtual 73, 3) := by decide +kernel
theorem dX5_comes_81 : decode cX5_comes 81 = .ok (.goto 4, 3) := by decide +kernel
theorem dX5_comes_84 : decode cX5_comes 84 = .ok (.iload_n 3, 1) := by decide +kernel
theorem dX5_comes_85 : decode cX5_comes 85 = .ok (.ireturn, 1) := by decide +kernel
theorem dX5_rightIn_0 : decode cX5_rightIn 0 = .ok (.iconst 0, 1) := by decide +kernel
theorem dX5_rightIn_1 : decode cX5_rightIn 1 = .ok (.istore_n 3, 1) := by decide +kernel
theorem dX5_rightIn_2 : decode cX5_rightIn 2 = .ok (.iconst 0, 1) := by decide +kernel
theorem dX5_rightIn_3 : decode cX5_rightIn 3 = .ok (.istore 4, 2) := by decide +kernel
theorem dX5_rightIn_5 : decode cX5_rightIn 5 = .ok (.iload 4, 2) := by decide +kernel
theorem dX5_rightIn_7 : decode cX5_rightIn 7 = .ok (.iload_n 2, 1) := by decide +kernel
theorem dX5_rightIn_8 : decode cX5_rightIn 8 = .ok (.if_icmp .ge 29, 3) := by decide +kernel
theorem dX5_rightIn_11 : decode cX5_rightIn 11 = .ok (.aload_n 0, 1) := by decide +kernel
theorem dX5_rightIn_12 : decode cX5_rightIn 12 = .ok (.invokevirtual 145, 3) := by decide +kernel
theorem dX5_rightIn_15 : decode cX5_rightIn 15 = .ok (.iload_n 3, 1) := by decide +kernel
theorem dX5_rightIn_16 : decode cX5_rightIn 16 = .ok (.aload_n 0, 1) := by decide +kernel
theorem dX5_rightIn_17 : decode cX5_rightIn 17 = .ok (.iload_n 1, 1) := by decide +kernel
theorem dX5_rightIn_18 : decode cX5_rightIn 18 = .ok (.invokevirtual 53, 3) := by decide +kernel
theorem dX5_rightIn_21 : decode cX5_rightIn 21 = .ok (.ifCond .eq 7, 3) := by decide +kernel
theorem dX5_rightIn_24 : decode cX5_rightIn 24 = .ok (.iconst 1, 1) := by decide +kernel
theorem dX5_rightIn_25 : decode cX5_rightIn 25 = .ok (.goto 4, 3) := by decide +kernel
theorem dX5_rightIn_28 : decode cX5_rightIn 28 = .ok (.iconst 0, 1) := by decide +kernel
theorem dX5_rightIn_29 : decode cX5_rightIn 29 = .ok (.iadd, 1) := by decide +kernel
theorem dX5_rightIn_30 : decode cX5_rightIn 30 = .ok (.istore_n 3, 1) := by decide +kernel
theorem dX5_rightIn_31 : decode cX5_rightIn 31 = .ok (.iinc 4 1, 3) := by decide +kernel
theorem dX5_rightIn_34 : decode cX5_rightIn 34 = .ok (.goto (-29), 3) := by decide +kernel
theorem dX5_rightIn_37 : decode cX5_rightIn 37 = .ok (.aload_n 0, 1) := by decide +kernel
theorem dX5_rightIn_38 : decode cX5_rightIn 38 = .ok (.iconst 0, 1) := by decide +kernel
theorem dX5_rightIn_39 : decode cX5_rightIn 39 = .ok (.aload_n 0, 1) := by decide +kernel
theorem dX5_rightIn_40 : decode cX5_rightIn 40 = .ok (.getfield 16, 3) := by decide +kernel
theorem dX5_rightIn_43 : decode cX5_rightIn 43 = .ok (.invokevirtual 153, 3) := by decide +kernel
theorem dX5_rightIn_46 : decode cX5_rightIn 46 = .ok (.iload_n 3, 1) := by decide +kernel
theorem dX5_rightIn_47 : decode cX5_rightIn 47 = .ok (.ireturn, 1) := by decide +kernel
theorem dX5_mark_0 : decode cX5_mark 0 = .ok (.aload_n 0, 1) := by decide +kernel
theorem dX5_mark_1 : decode cX5_mark 1 = .ok (.iload_n 1, 1) := by decide +kernel
theorem dX5_mark_2 : decode cX5_mark 2 = .ok (.invokevirtual 108, 3) := by decide +kernel
theorem dX5_mark_5 : decode cX5_mark 5 = .ok (.ifCond .eq 13, 3) := by decide +kernel
theorem dX5_mark_8 : decode cX5_mark 8 = .ok (.iload_n 2, 1) := by decide +kernel
theorem dX5_mark_9 : decode cX5_mark 9 = .ok (.iconst 1, 1) := by decide +kernel
theorem dX5_mark_10 : decode cX5_mark 10 = .ok (.bipush 40, 2) := by decide +kernel
theorem dX5_mark_12 : decode cX5_mark 12 = .ok (.invokestatic 45, 3) := by decide +kernel
theorem dX5_mark_15 : decode cX5_mark 15 = .ok (.ifCond .ne 10, 3) := by decide +kernel
theorem dX5_mark_18 : decode cX5_mark 18 = .ok (.aload_n 0, 1) := by decide +kernel
theorem dX5_mark_19 : decode cX5_mark 19 = .ok (.ldc 44, 2) := by decide +kernel
theorem dX5_mark_21 : decode cX5_mark 21 = .ok (.invokevirtual 73, 3) := by decide +kernel
theorem dX5_mark_24 : decode cX5_mark 24 = .ok (.ireturn, 1) := by decide +kernel
theorem dX5_mark_25 : decode cX5_mark 25 = .ok (.aload_n 0, 1) := by decide +kernel
theorem dX5_mark_26 : decode cX5_mark 26 = .ok (.iconst 1, 1) := by decide +kernel
theorem dX5_mark_27 : decode cX5_mark 27 = .ok (.aload_n 0, 1) := by decide +kernel
theorem dX5_mark_28 : decode cX5_mark 28 = .ok (.getfield 16, 3) := by decide +kernel
theorem dX5_mark_31 : decode cX5_mark 31 = .ok (.invokevirtual 153, 3) := by decide +kernel
theorem dX5_mark_34 : decode cX5_mark 34 = .ok (.iconst 0, 1) := by decide +kernel
theorem dX5_mark_35 : decode cX5_mark 35 = .ok (.istore_n 3, 1) := by decide +kernel
theorem dX5_mark_36 : decode cX5_mark 36 = .ok (.iconst (-1), 1) := by decide +kernel
theorem dX5_mark_37 : decode cX5_mark 37 = .ok (.istore 4, 2) := by decide +kernel
theorem dX5_mark_39 : decode cX5_mark 39 = .ok (.iconst 0, 1) := by decide +kernel
theorem dX5_mark_40 : decode cX5_mark 40 = .ok (.istore 5, 2) := by decide +kernel
theorem dX5_mark_42 : decode cX5_mark 42 = .ok (.iload 5, 2) := by decide +kernel
theorem dX5_mark_44 : decode cX5_mark 44 = .ok (.iconst 3, 1) := by decide +kernel
theorem dX5_mark_45 : decode cX5_mark 45 = .ok (.if_icmp .ge 55, 3) := by decide +kernel
theorem dX5_mark_48 : decode cX5_mark 48 = .ok (.aload_n 0, 1) := by decide +kernel
theorem dX5_mark_49 : decode cX5_mark 49 = .ok (.iload_n 1, 1) := by decide +kernel
theorem dX5_mark_50 : decode cX5_mark 50 = .ok (.iconst 1, 1) := by decide +kernel
theorem dX5_mark_51 : decode cX5_mark 51 = .ok (.iload 5, 2) := by decide +kernel
theorem dX5_mark_53 : decode cX5_mark 53 = .ok (.invokevirtual 118, 3) := by decide +kernel
theorem dX5_mark_56 : decode cX5_mark 56 = .ok (.aload_n 0, 1) := by decide +kernel
theorem dX5_mark_57 : decode cX5_mark 57 = .ok (.iload_n 1, 1) := by decide +kernel
theorem dX5_mark_58 : decode cX5_mark 58 = .ok (.iload_n 2, 1) := by decide +kernel
theorem dX5_mark_59 : decode cX5_mark 59 = .ok (.invokevirtual 161, 3) := by decide +kernel
theorem dX5_mark_62 : decode cX5_mark 62 = .ok (.istore 6, 2) := by decide +kernel
theorem dX5_mark_64 : decode cX5_mark 64 = .ok (.iload 6, 2) := by decide +kernel
theorem dX5_mark_66 : decode cX5_mark 66 = .ok (.iload 4, 2) := by decide +kernel
theorem dX5_mark_68 : decode cX5_mark 68 = .ok (.if_icmp .le 8, 3) := by decide +kernel
theorem dX5_mark_71 : decode cX5_mark 71 = .ok (.iload 5, 2) := by decide +kernel
theorem dX5_mark_73 : decode cX5_mark 73 = .ok (.goto 4, 3) := by decide +kernel
theorem dX5_mark_76 : decode cX5_mark 76 = .ok (.iload_n 3, 1) := by decide +kernel
theorem dX5_mark_77 : decode cX5_mark 77 = .ok (.istore_n 3, 1) := by decide +kernel
theorem dX5_mark_78 : decode cX5_mark 78 = .ok (.iload 6, 2) := by decide +kernel
theorem dX5_mark_80 : decode cX5_mark 80 = .ok (.iload 4, 2) := by decide +kernel
theorem dX5_mark_82 : decode cX5_mark 82 = .ok (.if_icmp .le 8, 3) := by decide +kernel
theorem dX5_mark_85 : decode cX5_mark 85 = .ok (.iload 6, 2) := by decide +kernel
theorem dX5_mark_87 : decode cX5_mark 87 = .ok (.goto 5, 3) := by decide +kernel
theorem dX5_mark_90 : decode cX5_mark 90 = .ok (.iload 4, 2) := by decide +kernel
theorem dX5_mark_92 : decode cX5_mark 92 = .ok (.istore 4, 2) := by decide +kernel
theorem dX5_mark_94 : decode cX5_mark 94 = .ok (.iinc 5 1, 3) := by decide +kernel
theorem dX5_mark_97 : decode cX5_mark 97 = .ok (.goto (-55), 3) := by decide +kernel
theorem dX5_mark_100 : decode cX5_mark 100 = .ok (.iload_n 3, 1) := by decide +kernel
theorem dX5_mark_101 : decode cX5_mark 101 = .ok (.ireturn, 1) := by decide +kernel
theorem dX5_kind_0 : decode cX5_kind 0 = .ok (.aload_n 0, 1) := by decide +kernel
theorem dX5_kind_1 : decode cX5_kind 1 = .ok (.iload_n 1, 1) := by decide +kernel
theorem dX5_kind_2 : decode cX5_kind 2 = .ok (.invokevirtual 98, 3) := by decide +kernel
theorem dX5_kind_5 : decode cX5_kind 5 = .ok (.ifCond .eq 13, 3) := by decide +kernel
theorem dX5_kind_8 : decode cX5_kind 8 = .ok (.iload_n 2, 1) := by decide +kernel
theorem dX5_kind_9 : decode cX5_kind 9 = .ok (.iconst 1, 1) := by decide +kernel
theorem dX5_kind_10 : decode cX5_kind 10 = .ok (.bipush 60, 2) := by decide +kernel
theorem dX5_kind_12 : decode cX5_kind 12 = .ok (.invokestatic 45, 3) := by decide +kernel
theorem dX5_kind_15 : decode cX5_kind 15 = .ok (.ifCond .ne 10, 3) := by decide +kernel
theorem dX5_kind_18 : decode cX5_kind 18 = .ok (.aload_n 0, 1) := by decide +kernel
theorem dX5_kind_19 : decode cX5_kind 19 = .ok (.ldc 44, 2) := by decide +kernel
theorem dX5_kind_21 : decode cX5_kind 21 = .ok (.invokevirtual 73, 3) := by decide +kernel
theorem dX5_kind_24 : decode cX5_kind 24 = .ok (.ireturn, 1) := by decide +kernel
theorem dX5_kind_25 : decode cX5_kind 25 = .ok (.aload_n 0, 1) := by decide +kernel
theorem dX5_kind_26 : decode cX5_kind 26 = .ok (.iconst 1, 1) := by decide +kernel
theorem dX5_kind_27 : decode cX5_kind 27 = .ok (.aload_n 0, 1) := by decide +kernel
theorem dX5_kind_28 : decode cX5_kind 28 = .ok (.getfield 16, 3) := by decide +kernel
theorem dX5_kind_31 : decode cX5_kind 31 = .ok (.invokevirtual 153, 3) := by decide +kernel
theorem dX5_kind_34 : decode cX5_kind 34 = .ok (.iconst 0, 1) := by decide +kernel
theorem dX5_kind_35 : decode cX5_kind 35 = .ok (.istore_n 3, 1) := by decide +kernel
theorem dX5_kind_36 : decode cX5_kind 36 = .ok (.iconst (-1), 1) := by decide +kernel
theorem dX5_kind_37 : decode cX5_kind 37 = .ok (.istore 4, 2) := by decide +kernel
theorem dX5_kind_39 : decode cX5_kind 39 = .ok (.iconst 0, 1) := by decide +kernel
theorem dX5_kind_40 : decode cX5_kind 40 = .ok (.istore 5, 2) := by decide +kernel
theorem dX5_kind_42 : decode cX5_kind 42 = .ok (.iload 5, 2) := by decide +kernel
theorem dX5_kind_44 : decode cX5_kind 44 = .ok (.bipush 6, 2) := by decide +kernel
theorem dX5_kind_46 : decode cX5_kind 46 = .ok (.if_icmp .ge 77, 3) := by decide +kernel
theorem dX5_kind_49 : decode cX5_kind 49 = .ok (.aload_n 0, 1) := by decide +kernel
theorem dX5_kind_50 : decode cX5_kind 50 = .ok (.iload_n 1, 1) := by decide +kernel
theorem dX5_kind_51 : decode cX5_kind 51 = .ok (.iconst 0, 1) := by decide +kernel
theorem dX5_kind_52 : decode cX5_kind 52 = .ok (.iload 5, 2) := by decide +kernel
theorem dX5_kind_54 : decode cX5_kind 54 = .ok (.invokevirtual 86, 3) := by decide +kernel
theorem dX5_kind_57 : decode cX5_kind 57 = .ok (.aload_n 0, 1) := by decide +kernel
theorem dX5_kind_58 : decode cX5_kind 58 = .ok (.iload_n 2, 1) := by decide +kernel
theorem dX5_kind_59 : decode cX5_kind 59 = .ok (.invokevirtual 150, 3) := by decide +kernel
theorem dX5_kind_62 : decode cX5_kind 62 = .ok (.aload_n 0, 1) := by decide +kernel
theorem dX5_kind_63 : decode cX5_kind 63 = .ok (.iload_n 1, 1) := by decide +kernel
theorem dX5_kind_64 : decode cX5_kind 64 = .ok (.invokevirtual 60, 3) := by decide +kernel
theorem dX5_kind_67 : decode cX5_kind 67 = .ok (.aload_n 0, 1) := by decide +kernel
theorem dX5_kind_68 : decode cX5_kind 68 = .ok (.iload_n 1, 1) := by decide +kernel
theorem dX5_kind_69 : decode cX5_kind 69 = .ok (.invokevirtual 64, 3) := by decide +kernel
theorem dX5_kind_72 : decode cX5_kind 72 = .ok (.iand, 1) := by decide +kernel
theorem dX5_kind_73 : decode cX5_kind 73 = .ok (.invokestatic 67, 3) := by decide +kernel
theorem dX5_kind_76 : decode cX5_kind 76 = .ok (.istore 6, 2) := by decide +kernel
theorem dX5_kind_78 : decode cX5_kind 78 = .ok (.aload_n 0, 1) := by decide +kernel
theorem dX5_kind_79 : decode cX5_kind 79 = .ok (.iconst 0, 1) := by decide +kernel
theorem dX5_kind_80 : decode cX5_kind 80 = .ok (.aload_n 0, 1) := by decide +kernel
theorem dX5_kind_81 : decode cX5_kind 81 = .ok (.getfield 16, 3) := by decide +kernel
theorem dX5_kind_84 : decode cX5_kind 84 = .ok (.invokevirtual 153, 3) := by decide +kernel
theorem dX5_kind_87 : decode cX5_kind 87 = .ok (.iload 6, 2) := by decide +kernel
theorem dX5_kind_89 : decode cX5_kind 89 = .ok (.iload 4, 2) := by decide +kernel
theorem dX5_kind_91 : decode cX5_kind 91 = .ok (.if_icmp .le 8, 3) := by decide +kernel
theorem dX5_kind_94 : decode cX5_kind 94 = .ok (.iload 5, 2) := by decide +kernel
theorem dX5_kind_96 : decode cX5_kind 96 = .ok (.goto 4, 3) := by decide +kernel
theorem dX5_kind_99 : decode cX5_kind 99 = .ok (.iload_n 3, 1) := by decide +kernel
theorem dX5_kind_100 : decode cX5_kind 100 = .ok (.istore_n 3, 1) := by decide +kernel
theorem dX5_kind_101 : decode cX5_kind 101 = .ok (.iload 6, 2) := by decide +kernel
theorem dX5_kind_103 : decode cX5_kind 103 = .ok (.iload 4, 2) := by decide +kernel
theorem dX5_kind_105 : decode cX5_kind 105 = .ok (.if_icmp .le 8, 3) := by decide +kernel
theorem dX5_kind_108 : decode cX5_kind 108 = .ok (.iload 6, 2) := by decide +kernel
theorem dX5_kind_110 : decode cX5_kind 110 = .ok (.goto 5, 3) := by decide +kernel
theorem dX5_kind_113 : decode cX5_kind 113 = .ok (.iload 4, 2) := by decide +kernel
theorem dX5_kind_115 : decode cX5_kind 115 = .ok (.istore 4, 2) := by decide +kernel
theorem dX5_kind_117 : decode cX5_kind 117 = .ok (.iinc 5 1, 3) := by decide +kernel
theorem dX5_kind_120 : decode cX5_kind 120 = .ok (.goto (-78), 3) := by decide +kernel
theorem dX5_kind_123 : decode cX5_kind 123 = .ok (.iload_n 3, 1) := by decide +kernel
theorem dX5_kind_124 : decode cX5_kind 124 = .ok (.ireturn, 1) := by decide +kernel
theorem dX5_isRightBehind_0 : decode cX5_isRightBehind 0 = .ok (.aload_n 0, 1) := by decide +kernel
theorem dX5_isRightBehind_1 : decode cX5_isRightBehind 1 = .ok (.iload_n 2, 1) := by decide +kernel
theorem dX5_isRightBehind_2 : decode cX5_isRightBehind 2 = .ok (.invokevirtual 150, 3) := by decide +kernel
theorem dX5_isRightBehind_5 : decode cX5_isRightBehind 5 = .ok (.aload_n 0, 1) := by decide +kernel
theorem dX5_isRightBehind_6 : decode cX5_isRightBehind 6 = .ok (.iload_n 1, 1) := by decide +kernel
theorem dX5_isRightBehind_7 : decode cX5_isRightBehind 7 = .ok (.invokevirtual 53, 3) := by decide +kernel
theorem dX5_isRightBehind_10 : decode cX5_isRightBehind 10 = .ok (.istore_n 3, 1) := by decide +kernel
theorem dX5_isRightBehind_11 : decode cX5_isRightBehind 11 = .ok (.aload_n 0, 1) := by decide +kernel
theorem dX5_isRightBehind_12 : decode cX5_isRightBehind 12 = .ok (.iconst 0, 1) := by decide +kernel
theorem dX5_isRightBehind_13 : decode cX5_isRightBehind 13 = .ok (.aload_n 0, 1) := by decide +kernel
theorem dX5_isRightBehind_14 : decode cX5_isRightBehind 14 = .ok (.getfield 16, 3) := by decide +kernel
theorem dX5_isRightBehind_17 : decode cX5_isRightBehind 17 = .ok (.invokevirtual 153, 3) := by decide +kernel
theorem dX5_isRightBehind_20 : decode cX5_isRightBehind 20 = .ok (.iload_n 3, 1) := by decide +kernel
theorem dX5_isRightBehind_21 : decode cX5_isRightBehind 21 = .ok (.ireturn, 1) := by decide +kernel
theorem dX5_warmest_0 : decode cX5_warmest 0 = .ok (.aload_n 0, 1) := by decide +kernel
theorem dX5_warmest_1 : decode cX5_warmest 1 = .ok (.iload_n 1, 1) := by decide +kernel
theorem dX5_warmest_2 : decode cX5_warmest 2 = .ok (.invokevirtual 108, 3) := by decide +kernel
theorem dX5_warmest_5 : decode cX5_warmest 5 = .ok (.ifCond .eq 13, 3) := by decide +kernel
theorem dX5_warmest_8 : decode cX5_warmest 8 = .ok (.iload_n 2, 1) := by decide +kernel
theorem dX5_warmest_9 : decode cX5_warmest 9 = .ok (.iconst 1, 1) := by decide +kernel
theorem dX5_warmest_10 : decode cX5_warmest 10 = .ok (.bipush 40, 2) := by decide +kernel
theorem dX5_warmest_12 : decode cX5_warmest 12 = .ok (.invokestatic 45, 3) := by decide +kernel
theorem dX5_warmest_15 : decode cX5_warmest 15 = .ok (.ifCond .ne 10, 3) := by decide +kernel
theorem dX5_warmest_18 : decode cX5_warmest 18 = .ok (.aload_n 0, 1) := by decide +kernel
theorem dX5_warmest_19 : decode cX5_warmest 19 = .ok (.ldc 44, 2) := by decide +kernel
theorem dX5_warmest_21 : decode cX5_warmest 21 = .ok (.invokevirtual 73, 3) := by decide +kernel
theorem dX5_warmest_24 : decode cX5_warmest 24 = .ok (.ireturn, 1) := by decide +kernel
theorem dX5_warmest_25 : decode cX5_warmest 25 = .ok (.aload_n 0, 1) := by decide +kernel
theorem dX5_warmest_26 : decode cX5_warmest 26 = .ok (.iconst 1, 1) := by decide +kernel
theorem dX5_warmest_27 : decode cX5_warmest 27 = .ok (.aload_n 0, 1) := by decide +kernel
theorem dX5_warmest_28 : decode cX5_warmest 28 = .ok (.getfield 16, 3) := by decide +kernel
theorem dX5_warmest_31 : decode cX5_warmest 31 = .ok (.invokevirtual 153, 3) := by decide +kernel
theorem dX5_warmest_34 : decode cX5_warmest 34 = .ok (.bipush 91, 2) := by decide +kernel
theorem dX5_warmest_36 : decode cX5_warmest 36 = .ok (.istore_n 3, 1) := by decide +kernel
theorem dX5_warmest_37 : decode cX5_warmest 37 = .ok (.iconst 0, 1) := by decide +kernel
theorem dX5_warmest_38 : decode cX5_warmest 38 = .ok (.istore 4, 2) := by decide +kernel
theorem dX5_warmest_40 : decode cX5_warmest 40 = .ok (.iload_n 3, 1) := by decide +kernel
theorem dX5_warmest_41 : decode cX5_warmest 41 = .ok (.bipush 20, 2) := by decide +kernel
theorem dX5_warmest_43 : decode cX5_warmest 43 = .ok (.if_icmp .le 29, 3) := by decide +kernel
theorem dX5_warmest_46 : decode cX5_warmest 46 = .ok (.iload 4, 2) := by decide +kernel
theorem dX5_warmest_48 : decode cX5_warmest 48 = .ok (.ifCond .ne 24, 3) := by decide +kernel
theorem dX5_warmest_51 : decode cX5_warmest 51 = .ok (.iinc 3 (-1), 3) := by decide +kernel
theorem dX5_warmest_54 : decode cX5_warmest 54 = .ok (.aload_n 0, 1) := by decide +kernel
theorem dX5_warmest_55 : decode cX5_warmest 55 = .ok (.getfield 7, 3) := by decide +kernel
theorem dX5_warmest_58 : decode cX5_warmest 58 = .ok (.iconst 1, 1) := by decide +kernel
theorem dX5_warmest_59 : decode cX5_warmest 59 = .ok (.iload_n 3, 1) := by decide +kernel
theorem dX5_warmest_60 : decode cX5_warmest 60 = .ok (.iastore, 1) := by decide +kernel
theorem dX5_warmest_61 : decode cX5_warmest 61 = .ok (.aload_n 0, 1) := by decide +kernel
theorem dX5_warmest_62 : decode cX5_warmest 62 = .ok (.iload_n 1, 1) := by decide +kernel
theorem dX5_warmest_63 : decode cX5_warmest 63 = .ok (.iload_n 2, 1) := by decide +kernel
theorem dX5_warmest_64 : decode cX5_warmest 64 = .ok (.invokevirtual 164, 3) := by decide +kernel
theorem dX5_warmest_67 : decode cX5_warmest 67 = .ok (.istore 4, 2) := by decide +kernel
theorem dX5_warmest_69 : decode cX5_warmest 69 = .ok (.goto (-29), 3) := by decide +kernel
theorem dX5_warmest_72 : decode cX5_warmest 72 = .ok (.iload 4, 2) := by decide +kernel
theorem dX5_warmest_74 : decode cX5_warmest 74 = .ok (.ifCond .eq 7, 3) := by decide +kernel
theorem dX5_warmest_77 : decode cX5_warmest 77 = .ok (.iload_n 3, 1) := by decide +kernel
theorem dX5_warmest_78 : decode cX5_warmest 78 = .ok (.goto 9, 3) := by decide +kernel
theorem dX5_warmest_81 : decode cX5_warmest 81 = .ok (.aload_n 0, 1) := by decide +kernel
theorem dX5_warmest_82 : decode cX5_warmest 82 = .ok (.ldc 160, 2) := by decide +kernel
theorem dX5_warmest_84 : decode cX5_warmest 84 = .ok (.invokevirtual 73, 3) := by decide +kernel
theorem dX5_warmest_87 : decode cX5_warmest 87 = .ok (.ireturn, 1) := by decide +kernel
theorem dX5_plain_0 : decode cX5_plain 0 = .ok (.aload_n 0, 1) := by decide +kernel
theorem dX5_plain_1 : decode cX5_plain 1 = .ok (.iload_n 1, 1) := by decide +kernel
theorem dX5_plain_2 : decode cX5_plain 2 = .ok (.invokevirtual 108, 3) := by decide +kernel
theorem dX5_plain_5 : decode cX5_plain 5 = .ok (.ifCond .eq 13, 3) := by decide +kernel
theorem dX5_plain_8 : decode cX5_plain 8 = .ok (.iload_n 2, 1) := by decide +kernel
theorem dX5_plain_9 : decode cX5_plain 9 = .ok (.iconst 1, 1) := by decide +kernel
theorem dX5_plain_10 : decode cX5_plain 10 = .ok (.bipush 60, 2) := by decide +kernel
theorem dX5_plain_12 : decode cX5_plain 12 = .ok (.invokestatic 45, 3) := by decide +kernel
theorem dX5_plain_15 : decode cX5_plain 15 = .ok (.ifCond .ne 10, 3) := by decide +kernel
theorem dX5_plain_18 : decode cX5_plain 18 = .ok (.aload_n 0, 1) := by decide +kernel
theorem dX5_plain_19 : decode cX5_plain 19 = .ok (.ldc 44, 2) := by decide +kernel
theorem dX5_plain_21 : decode cX5_plain 21 = .ok (.invokevirtual 73, 3) := by decide +kernel
theorem dX5_plain_24 : decode cX5_plain 24 = .ok (.ireturn, 1) := by decide +kernel
theorem dX5_plain_25 : decode cX5_plain 25 = .ok (.aload_n 0, 1) := by decide +kernel
theorem dX5_plain_26 : decode cX5_plain 26 = .ok (.iconst 1, 1) := by decide +kernel
theorem dX5_plain_27 : decode cX5_plain 27 = .ok (.aload_n 0, 1) := by decide +kernel
theorem dX5_plain_28 : decode cX5_plain 28 = .ok (.getfield 16, 3) := by decide +kernel
theorem dX5_plain_31 : decode cX5_plain 31 = .ok (.invokevirtual 153, 3) := by decide +kernel
theorem dX5_plain_34 : decode cX5_plain 34 = .ok (.iconst (-1), 1) := by decide +kernel
theorem dX5_plain_35 : decode cX5_plain 35 = .ok (.istore_n 3, 1) := by decide +kernel
theorem dX5_plain_36 : decode cX5_plain 36 = .ok (.iconst 0, 1) := by decide +kernel
theorem dX5_plain_37 : decode cX5_plain 37 = .ok (.istore 4, 2) := by decide +kernel
theorem dX5_plain_39 : decode cX5_plain 39 = .ok (.iload_n 3, 1) := by decide +kernel
theorem dX5_plain_40 : decode cX5_plain 40 = .ok (.bipush 99, 2) := by decide +kernel
theorem dX5_plain_42 : decode cX5_plain 42 = .ok (.if_icmp .ge 29, 3) := by decide +kernel
theorem dX5_plain_45 : decode cX5_plain 45 = .ok (.iload 4, 2) := by decide +kernel
theorem dX5_plain_47 : decode cX5_plain 47 = .ok (.ifCond .ne 24, 3) := by decide +kernel
theorem dX5_plain_50 : decode cX5_plain 50 = .ok (.iinc 3 1, 3) := by decide +kernel
theorem dX5_plain_53 : decode cX5_plain 53 = .ok (.aload_n 0, 1) := by decide +kernel
theorem dX5_plain_54 : decode cX5_plain 54 = .ok (.iload_n 1, 1) := by decide +kernel
theorem dX5_plain_55 : decode cX5_plain 55 = .ok (.iconst 2, 1) := by decide +kernel
theorem dX5_plain_56 : decode cX5_plain 56 = .ok (.iload_n 3, 1) := by decide +kernel
theorem dX5_plain_57 : decode cX5_plain 57 = .ok (.invokevirtual 118, 3) := by decide +kernel
theorem dX5_plain_60 : decode cX5_plain 60 = .ok (.aload_n 0, 1) := by decide +kernel
theorem dX5_plain_61 : decode cX5_plain 61 = .ok (.iload_n 1, 1) := by decide +kernel
theorem dX5_plain_62 : decode cX5_plain 62 = .ok (.iload_n 2, 1) := by decide +kernel
theorem dX5_plain_63 : decode cX5_plain 63 = .ok (.invokevirtual 164, 3) := by decide +kernel
theorem dX5_plain_66 : decode cX5_plain 66 = .ok (.istore 4, 2) := by decide +kernel
theorem dX5_plain_68 : decode cX5_plain 68 = .ok (.goto (-29), 3) := by decide +kernel
theorem dX5_plain_71 : decode cX5_plain 71 = .ok (.iload 4, 2) := by decide +kernel
theorem dX5_plain_73 : decode cX5_plain 73 = .ok (.ifCond .eq 7, 3) := by decide +kernel
theorem dX5_plain_76 : decode cX5_plain 76 = .ok (.iload_n 3, 1) := by decide +kernel
theorem dX5_plain_77 : decode cX5_plain 77 = .ok (.goto 9, 3) := by decide +kernel
theorem dX5_plain_80 : decode cX5_plain 80 = .ok (.aload_n 0, 1) := by decide +kernel
theorem dX5_plain_81 : decode cX5_plain 81 = .ok (.ldc 160, 2) := by decide +kernel
theorem dX5_plain_83 : decode cX5_plain 83 = .ok (.invokevirtual 73, 3) := by decide +kernel
theorem dX5_plain_86 : decode cX5_plain 86 = .ok (.ireturn, 1) := by decide +kernel
theorem dX5_teach_0 : decode cX5_teach 0 = .ok (.iload_n 1, 1) := by decide +kernel
theorem dX5_teach_1 : decode cX5_teach 1 = .ok (.iconst 1, 1) := by decide +kernel
theorem dX5_teach_2 : decode cX5_teach 2 = .ok (.bipush 60, 2) := by decide +kernel
theorem dX5_teach_4 : decode cX5_teach 4 = .ok (.invokestatic 45, 3) := by decide +kernel
theorem dX5_teach_7 : decode cX5_teach 7 = .ok (.ifCond .ne 10, 3) := by decide +kernel
theorem dX5_teach_10 : decode cX5_teach 10 = .ok (.aload_n 0, 1) := by decide +kernel
theorem dX5_teach_11 : decode cX5_teach 11 = .ok (.ldc 44, 2) := by decide +kernel
theorem dX5_teach_13 : decode cX5_teach 13 = .ok (.invokevirtual 73, 3) := by decide +kernel
theorem dX5_teach_16 : decode cX5_teach 16 = .ok (.ireturn, 1) := by decide +kernel
theorem dX5_teach_17 : decode cX5_teach 17 = .ok (.aload_n 0, 1) := by decide +kernel
theorem dX5_teach_18 : decode cX5_teach 18 = .ok (.iconst 1, 1) := by decide +kernel
theorem dX5_teach_19 : decode cX5_teach 19 = .ok (.aload_n 0, 1) := by decide +kernel
theorem dX5_teach_20 : decode cX5_teach 20 = .ok (.getfield 16, 3) := by decide +kernel
theorem dX5_teach_23 : decode cX5_teach 23 = .ok (.invokevirtual 153, 3) := by decide +kernel
theorem dX5_teach_26 : decode cX5_teach 26 = .ok (.iconst (-1), 1) := by decide +kernel
theorem dX5_teach_27 : decode cX5_teach 27 = .ok (.istore_n 2, 1) := by decide +kernel
theorem dX5_teach_28 : decode cX5_teach 28 = .ok (.iconst (-1), 1) := by decide +kernel
theorem dX5_teach_29 : decode cX5_teach 29 = .ok (.istore_n 3, 1) := by decide +kernel
theorem dX5_teach_30 : decode cX5_teach 30 = .ok (.iconst 0, 1) := by decide +kernel
theorem dX5_teach_31 : decode cX5_teach 31 = .ok (.istore 4, 2) := by decide +kernel
theorem dX5_teach_33 : decode cX5_teach 33 = .ok (.iload 4, 2) := by decide +kernel
theorem dX5_teach_35 : decode cX5_teach 35 = .ok (.aload_n 0, 1) := by decide +kernel
theorem dX5_teach_36 : decode cX5_teach 36 = .ok (.getfield 7, 3) := by decide +kernel
theorem dX5_teach_39 : decode cX5_teach 39 = .ok (.iconst 2, 1) := by decide +kernel
theorem dX5_teach_40 : decode cX5_teach 40 = .ok (.iaload, 1) := by decide +kernel
theorem dX5_teach_41 : decode cX5_teach 41 = .ok (.if_icmp .ge 66, 3) := by decide +kernel
theorem dX5_teach_44 : decode cX5_teach 44 = .ok (.aload_n 0, 1) := by decide +kernel
theorem dX5_teach_45 : decode cX5_teach 45 = .ok (.iload 4, 2) := by decide +kernel
theorem dX5_teach_47 : decode cX5_teach 47 = .ok (.iconst 0, 1) := by decide +kernel
theorem dX5_teach_48 : decode cX5_teach 48 = .ok (.iconst 1, 1) := by decide +kernel
theorem dX5_teach_49 : decode cX5_teach 49 = .ok (.invokevirtual 86, 3) := by decide +kernel
theorem dX5_teach_52 : decode cX5_teach 52 = .ok (.aload_n 0, 1) := by decide +kernel
theorem dX5_teach_53 : decode cX5_teach 53 = .ok (.iload_n 1, 1) := by decide +kernel
theorem dX5_teach_54 : decode cX5_teach 54 = .ok (.invokevirtual 150, 3) := by decide +kernel
theorem dX5_teach_57 : decode cX5_teach 57 = .ok (.aload_n 0, 1) := by decide +kernel
theorem dX5_teach_58 : decode cX5_teach 58 = .ok (.invokevirtual 76, 3) := by decide +kernel
theorem dX5_teach_61 : decode cX5_teach 61 = .ok (.invokestatic 67, 3) := by decide +kernel
theorem dX5_teach_64 : decode cX5_teach 64 = .ok (.istore 5, 2) := by decide +kernel
theorem dX5_teach_66 : decode cX5_teach 66 = .ok (.aload_n 0, 1) := by decide +kernel
theorem dX5_teach_67 : decode cX5_teach 67 = .ok (.iconst 0, 1) := by decide +kernel
theorem dX5_teach_68 : decode cX5_teach 68 = .ok (.aload_n 0, 1) := by decide +kernel
theorem dX5_teach_69 : decode cX5_teach 69 = .ok (.getfield 16, 3) := by decide +kernel
theorem dX5_teach_72 : decode cX5_teach 72 = .ok (.invokevirtual 153, 3) := by decide +kernel
theorem dX5_teach_75 : decode cX5_teach 75 = .ok (.iload 5, 2) := by decide +kernel
theorem dX5_teach_77 : decode cX5_teach 77 = .ok (.iload_n 3, 1) := by decide +kernel
theorem dX5_teach_78 : decode cX5_teach 78 = .ok (.if_icmp .le 8, 3) := by decide +kernel
theorem dX5_teach_81 : decode cX5_teach 81 = .ok (.iload 4, 2) := by decide +kernel
theorem dX5_teach_83 : decode cX5_teach 83 = .ok (.goto 4, 3) := by decide +kernel
theorem dX5_teach_86 : decode cX5_teach 86 = .ok (.iload_n 2, 1) := by decide +kernel
theorem dX5_teach_87 : decode cX5_teach 87 = .ok (.istore_n 2, 1) := by decide +kernel
theorem dX5_teach_88 : decode cX5_teach 88 = .ok (.iload 5, 2) := by decide +kernel
theorem dX5_teach_90 : decode cX5_teach 90 = .ok (.iload_n 3, 1) := by decide +kernel
theorem dX5_teach_91 : decode cX5_teach 91 = .ok (.if_icmp .le 8, 3) := by decide +kernel
theorem dX5_teach_94 : decode cX5_teach 94 = .ok (.iload 5, 2) := by decide +kernel
theorem dX5_teach_96 : decode cX5_teach 96 = .ok (.goto 4, 3) := by decide +kernel
theorem dX5_teach_99 : decode cX5_teach 99 = .ok (.iload_n 3, 1) := by decide +kernel
theorem dX5_teach_100 : decode cX5_teach 100 = .ok (.istore_n 3, 1) := by decide +kernel
theorem dX5_teach_101 : decode cX5_teach 101 = .ok (.iinc 4 1, 3) := by decide +kernel
theorem dX5_teach_104 : decode cX5_teach 104 = .ok (.goto (-71), 3) := by decide +kernel
theorem dX5_teach_107 : decode cX5_teach 107 = .ok (.iload_n 2, 1) := by decide +kernel
theorem dX5_teach_108 : decode cX5_teach 108 = .ok (.ifCond .ge 12, 3) := by decide +kernel
theorem dX5_teach_111 : decode cX5_teach 111 = .ok (.aload_n 0, 1) := by decide +kernel
theorem dX5_teach_112 : decode cX5_teach 112 = .ok (.ldc 160, 2) := by decide +kernel
theorem dX5_teach_114 : decode cX5_teach 114 = .ok (.invokevirtual 73, 3) := by decide +kernel
theorem dX5_teach_117 : decode cX5_teach 117 = .ok (.goto 4, 3) := by decide +kernel
theorem dX5_teach_120 : decode cX5_teach 120 = .ok (.iload_n 2, 1) := by decide +kernel
theorem dX5_teach_121 : decode cX5_teach 121 = .ok (.ireturn, 1) := by decide +kernel
theorem dX5_best_0 : decode cX5_best 0 = .ok (.iload_n 1, 1) := by decide +kernel
theorem dX5_best_1 : decode cX5_best 1 = .ok (.iconst 0, 1) := by decide +kernel
theorem dX5_best_2 : decode cX5_best 2 = .ok (.bipush 100, 2) := by decide +kernel
theorem dX5_best_4 : decode cX5_best 4 = .ok (.invokestatic 45, 3) := by decide +kernel
theorem dX5_best_7 : decode cX5_best 7 = .ok (.ifCond .ne 10, 3) := by decide +kernel
theorem dX5_best_10 : decode cX5_best 10 = .ok (.aload_n 0, 1) := by decide +kernel
theorem dX5_best_11 : decode cX5_best 11 = .ok (.ldc 44, 2) := by decide +kernel
theorem dX5_best_13 : decode cX5_best 13 = .ok (.invokevirtual 73, 3) := by decide +kernel
theorem dX5_best_16 : decode cX5_best 16 = .ok (.ireturn, 1) := by decide +kernel
theorem dX5_best_17 : decode cX5_best 17 = .ok (.aload_n 0, 1) := by decide +kernel
theorem dX5_best_18 : decode cX5_best 18 = .ok (.iconst 1, 1) := by decide +kernel
theorem dX5_best_19 : decode cX5_best 19 = .ok (.aload_n 0, 1) := by decide +kernel
theorem dX5_best_20 : decode cX5_best 20 = .ok (.getfield 16, 3) := by decide +kernel
theorem dX5_best_23 : decode cX5_best 23 = .ok (.invokevirtual 153, 3) := by decide +kernel
theorem dX5_best_26 : decode cX5_best 26 = .ok (.aload_n 0, 1) := by decide +kernel
theorem dX5_best_27 : decode cX5_best 27 = .ok (.iload_n 1, 1) := by decide +kernel
theorem dX5_best_28 : decode cX5_best 28 = .ok (.invokevirtual 150, 3) := by decide +kernel
theorem dX5_best_31 : decode cX5_best 31 = .ok (.iconst (-1), 1) := by decide +kernel
theorem dX5_best_32 : decode cX5_best 32 = .ok (.istore_n 2, 1) := by decide +kernel
theorem dX5_best_33 : decode cX5_best 33 = .ok (.iconst 0, 1) := by decide +kernel
theorem dX5_best_34 : decode cX5_best 34 = .ok (.istore_n 3, 1) := by decide +kernel
theorem dX5_best_35 : decode cX5_best 35 = .ok (.iload_n 3, 1) := by decide +kernel
theorem dX5_best_36 : decode cX5_best 36 = .ok (.aload_n 0, 1) := by decide +kernel
theorem dX5_best_37 : decode cX5_best 37 = .ok (.getfield 7, 3) := by decide +kernel
theorem dX5_best_40 : decode cX5_best 40 = .ok (.iconst 2, 1) := by decide +kernel
theorem dX5_best_41 : decode cX5_best 41 = .ok (.iaload, 1) := by decide +kernel
theorem dX5_best_42 : decode cX5_best 42 = .ok (.if_icmp .ge 34, 3) := by decide +kernel
theorem dX5_best_45 : decode cX5_best 45 = .ok (.iload_n 2, 1) := by decide +kernel
theorem dX5_best_46 : decode cX5_best 46 = .ok (.ifCond .lt 18, 3) := by decide +kernel
theorem dX5_best_49 : decode cX5_best 49 = .ok (.aload_n 0, 1) := by decide +kernel
theorem dX5_best_50 : decode cX5_best 50 = .ok (.iload_n 3, 1) := by decide +kernel
theorem dX5_best_51 : decode cX5_best 51 = .ok (.iconst 2, 1) := by decide +kernel
theorem dX5_best_52 : decode cX5_best 52 = .ok (.invokevirtual 57, 3) := by decide +kernel
theorem dX5_best_55 : decode cX5_best 55 = .ok (.aload_n 0, 1) := by decide +kernel
theorem dX5_best_56 : decode cX5_best 56 = .ok (.iload_n 2, 1) := by decide +kernel
theorem dX5_best_57 : decode cX5_best 57 = .ok (.iconst 2, 1) := by decide +kernel
theorem dX5_best_58 : decode cX5_best 58 = .ok (.invokevirtual 57, 3) := by decide +kernel
theorem dX5_best_61 : decode cX5_best 61 = .ok (.if_icmp .le 7, 3) := by decide +kernel
theorem dX5_best_64 : decode cX5_best 64 = .ok (.iload_n 3, 1) := by decide +kernel
theorem dX5_best_65 : decode cX5_best 65 = .ok (.goto 4, 3) := by decide +kernel
theorem dX5_best_68 : decode cX5_best 68 = .ok (.iload_n 2, 1) := by decide +kernel
theorem dX5_best_69 : decode cX5_best 69 = .ok (.istore_n 2, 1) := by decide +kernel
theorem dX5_best_70 : decode cX5_best 70 = .ok (.iinc 3 1, 3) := by decide +kernel
theorem dX5_best_73 : decode cX5_best 73 = .ok (.goto (-38), 3) := by decide +kernel
theorem dX5_best_76 : decode cX5_best 76 = .ok (.aload_n 0, 1) := by decide +kernel
theorem dX5_best_77 : decode cX5_best 77 = .ok (.iconst 0, 1) := by decide +kernel
theorem dX5_best_78 : decode cX5_best 78 = .ok (.aload_n 0, 1) := by decide +kernel
theorem dX5_best_79 : decode cX5_best 79 = .ok (.getfield 16, 3) := by decide +kernel
theorem dX5_best_82 : decode cX5_best 82 = .ok (.invokevirtual 153, 3) := by decide +kernel
theorem dX5_best_85 : decode cX5_best 85 = .ok (.iload_n 2, 1) := by decide +kernel
theorem dX5_best_86 : decode cX5_best 86 = .ok (.ifCond .ge 12, 3) := by decide +kernel
theorem dX5_best_89 : decode cX5_best 89 = .ok (.aload_n 0, 1) := by decide +kernel
theorem dX5_best_90 : decode cX5_best 90 = .ok (.ldc 160, 2) := by decide +kernel
theorem dX5_best_92 : decode cX5_best 92 = .ok (.invokevirtual 73, 3) := by decide +kernel
theorem dX5_best_95 : decode cX5_best 95 = .ok (.goto 4, 3) := by decide +kernel
theorem dX5_best_98 : decode cX5_best 98 = .ok (.iload_n 2, 1) := by decide +kernel
theorem dX5_best_99 : decode cX5_best 99 = .ok (.ireturn, 1) := by decide +kernel
theorem dX5_feed_0 : decode cX5_feed 0 = .ok (.iload_n 2, 1) := by decide +kernel
theorem dX5_feed_1 : decode cX5_feed 1 = .ok (.iconst 1, 1) := by decide +kernel
theorem dX5_feed_2 : decode cX5_feed 2 = .ok (.iconst 4, 1) := by decide +kernel
theorem dX5_feed_3 : decode cX5_feed 3 = .ok (.invokestatic 45, 3) := by decide +kernel
theorem dX5_feed_6 : decode cX5_feed 6 = .ok (.ifCond .ne 10, 3) := by decide +kernel
theorem dX5_feed_9 : decode cX5_feed 9 = .ok (.aload_n 0, 1) := by decide +kernel
theorem dX5_feed_10 : decode cX5_feed 10 = .ok (.ldc 44, 2) := by decide +kernel
theorem dX5_feed_12 : decode cX5_feed 12 = .ok (.invokevirtual 73, 3) := by decide +kernel
theorem dX5_feed_15 : decode cX5_feed 15 = .ok (.ireturn, 1) := by decide +kernel
theorem dX5_feed_16 : decode cX5_feed 16 = .ok (.aload_n 0, 1) := by decide +kernel
theorem dX5_feed_17 : decode cX5_feed 17 = .ok (.getfield 167, 3) := by decide +kernel
theorem dX5_feed_20 : decode cX5_feed 20 = .ok (.iload_n 2, 1) := by decide +kernel
theorem dX5_feed_21 : decode cX5_feed 21 = .ok (.iadd, 1) := by decide +kernel
theorem dX5_feed_22 : decode cX5_feed 22 = .ok (.bipush 120, 2) := by decide +kernel
theorem dX5_feed_24 : decode cX5_feed 24 = .ok (.if_icmp .le 10, 3) := by decide +kernel
theorem dX5_feed_27 : decode cX5_feed 27 = .ok (.aload_n 0, 1) := by decide +kernel
theorem dX5_feed_28 : decode cX5_feed 28 = .ok (.ldc 93, 2) := by decide +kernel
theorem dX5_feed_30 : decode cX5_feed 30 = .ok (.invokevirtual 73, 3) := by decide +kernel
theorem dX5_feed_33 : decode cX5_feed 33 = .ok (.ireturn, 1) := by decide +kernel
theorem dX5_feed_34 : decode cX5_feed 34 = .ok (.iload_n 2, 1) := by decide +kernel
theorem dX5_feed_35 : decode cX5_feed 35 = .ok (.iconst 1, 1) := by decide +kernel
theorem dX5_feed_36 : decode cX5_feed 36 = .ok (.isub, 1) := by decide +kernel
theorem dX5_feed_37 : decode cX5_feed 37 = .ok (.istore_n 3, 1) := by decide +kernel
theorem dX5_feed_38 : decode cX5_feed 38 = .ok (.iload_n 3, 1) := by decide +kernel
theorem dX5_feed_39 : decode cX5_feed 39 = .ok (.ifCond .lt 38, 3) := by decide +kernel
theorem dX5_feed_42 : decode cX5_feed 42 = .ok (.aload_n 0, 1) := by decide +kernel
theorem dX5_feed_43 : decode cX5_feed 43 = .ok (.getfield 22, 3) := by decide +kernel
theorem dX5_feed_46 : decode cX5_feed 46 = .ok (.aload_n 0, 1) := by decide +kernel
theorem dX5_feed_47 : decode cX5_feed 47 = .ok (.getfield 167, 3) := by decide +kernel
theorem dX5_feed_50 : decode cX5_feed 50 = .ok (.iload_n 1, 1) := by decide +kernel
theorem dX5_feed_51 : decode cX5_feed 51 = .ok (.bipush 8, 2) := by decide +kernel
theorem dX5_feed_53 : decode cX5_feed 53 = .ok (.iload_n 3, 1) := by decide +kernel
theorem dX5_feed_54 : decode cX5_feed 54 = .ok (.imul, 1) := by decide +kernel
theorem dX5_feed_55 : decode cX5_feed 55 = .ok (.ishr, 1) := by decide +kernel
theorem dX5_feed_56 : decode cX5_feed 56 = .ok (.sipush 255, 3) := by decide +kernel
theorem dX5_feed_59 : decode cX5_feed 59 = .ok (.iand, 1) := by decide +kernel
theorem dX5_feed_60 : decode cX5_feed 60 = .ok (.iastore, 1) := by decide +kernel
theorem dX5_feed_61 : decode cX5_feed 61 = .ok (.aload_n 0, 1) := by decide +kernel
theorem dX5_feed_62 : decode cX5_feed 62 = .ok (.dup, 1) := by decide +kernel
theorem dX5_feed_63 : decode cX5_feed 63 = .ok (.getfield 167, 3) := by decide +kernel
theorem dX5_feed_66 : decode cX5_feed 66 = .ok (.iconst 1, 1) := by decide +kernel
theorem dX5_feed_67 : decode cX5_feed 67 = .ok (.iadd, 1) := by decide +kernel
theorem dX5_feed_68 : decode cX5_feed 68 = .ok (.putfield 167, 3) := by decide +kernel
theorem dX5_feed_71 : decode cX5_feed 71 = .ok (.iinc 3 (-1), 3) := by decide +kernel
theorem dX5_feed_74 : decode cX5_feed 74 = .ok (.goto (-36), 3) := by decide +kernel
theorem dX5_feed_77 : decode cX5_feed 77 = .ok (.aload_n 0, 1) := by decide +kernel
theorem dX5_feed_78 : decode cX5_feed 78 = .ok (.getfield 167, 3) := by decide +kernel
theorem dX5_feed_81 : decode cX5_feed 81 = .ok (.ireturn, 1) := by decide +kernel
theorem dX5_wipe_0 : decode cX5_wipe 0 = .ok (.aload_n 0, 1) := by decide +kernel
theorem dX5_wipe_1 : decode cX5_wipe 1 = .ok (.getfield 167, 3) := by decide +kernel
theorem dX5_wipe_4 : decode cX5_wipe 4 = .ok (.istore_n 1, 1) := by decide +kernel
theorem dX5_wipe_5 : decode cX5_wipe 5 = .ok (.aload_n 0, 1) := by decide +kernel
theorem dX5_wipe_6 : decode cX5_wipe 6 = .ok (.iconst 0, 1) := by decide +kernel
theorem dX5_wipe_7 : decode cX5_wipe 7 = .ok (.putfield 167, 3) := by decide +kernel
theorem dX5_wipe_10 : decode cX5_wipe 10 = .ok (.iload_n 1, 1) := by decide +kernel
theorem dX5_wipe_11 : decode cX5_wipe 11 = .ok (.ireturn, 1) := by decide +kernel
theorem dX5_byteAt_0 : decode cX5_byteAt 0 = .ok (.iload_n 1, 1) := by decide +kernel
theorem dX5_byteAt_1 : decode cX5_byteAt 1 = .ok (.aload_n 0, 1) := by decide +kernel
theorem dX5_byteAt_2 : decode cX5_byteAt 2 = .ok (.getfield 167, 3) := by decide +kernel
theorem dX5_byteAt_5 : decode cX5_byteAt 5 = .ok (.if_icmp .ge 12, 3) := by decide +kernel
theorem dX5_byteAt_8 : decode cX5_byteAt 8 = .ok (.aload_n 0, 1) := by decide +kernel
theorem dX5_byteAt_9 : decode cX5_byteAt 9 = .ok (.getfield 22, 3) := by decide +kernel
theorem dX5_byteAt_12 : decode cX5_byteAt 12 = .ok (.iload_n 1, 1) := by decide +kernel
theorem dX5_byteAt_13 : decode cX5_byteAt 13 = .ok (.iaload, 1) := by decide +kernel
theorem dX5_byteAt_14 : decode cX5_byteAt 14 = .ok (.goto 4, 3) := by decide +kernel
theorem dX5_byteAt_17 : decode cX5_byteAt 17 = .ok (.iconst (-1), 1) := by decide +kernel
theorem dX5_byteAt_18 : decode cX5_byteAt 18 = .ok (.ireturn, 1) := by decide +kernel
theorem dX5_isLetter_0 : decode cX5_isLetter 0 = .ok (.iload_n 0, 1) := by decide +kernel
theorem dX5_isLetter_1 : decode cX5_isLetter 1 = .ok (.bipush 97, 2) := by decide +kernel
theorem dX5_isLetter_3 : decode cX5_isLetter 3 = .ok (.bipush 122, 2) := by decide +kernel
theorem dX5_isLetter_5 : decode cX5_isLetter 5 = .ok (.invokestatic 45, 3) := by decide +kernel
theorem dX5_isLetter_8 : decode cX5_isLetter 8 = .ok (.ireturn, 1) := by decide +kernel
theorem dX5_isDigit_0 : decode cX5_isDigit 0 = .ok (.iload_n 0, 1) := by decide +kernel
theorem dX5_isDigit_1 : decode cX5_isDigit 1 = .ok (.bipush 48, 2) := by decide +kernel
theorem dX5_isDigit_3 : decode cX5_isDigit 3 = .ok (.bipush 57, 2) := by decide +kernel
theorem dX5_isDigit_5 : decode cX5_isDigit 5 = .ok (.invokestatic 45, 3) := by decide +kernel
theorem dX5_isDigit_8 : decode cX5_isDigit 8 = .ok (.ireturn, 1) := by decide +kernel
theorem dX5_advance_0 : decode cX5_advance 0 = .ok (.aload_n 0, 1) := by decide +kernel
theorem dX5_advance_1 : decode cX5_advance 1 = .ok (.aload_n 0, 1) := by decide +kernel
theorem dX5_advance_2 : decode cX5_advance 2 = .ok (.getfield 171, 3) := by decide +kernel
theorem dX5_advance_5 : decode cX5_advance 5 = .ok (.putfield 174, 3) := by decide +kernel
theorem dX5_advance_8 : decode cX5_advance 8 = .ok (.aload_n 0, 1) := by decide +kernel
theorem dX5_advance_9 : decode cX5_advance 9 = .ok (.aload_n 0, 1) := by decide +kernel
theorem dX5_advance_10 : decode cX5_advance 10 = .ok (.getfield 174, 3) := by decide +kernel
theorem dX5_advance_13 : decode cX5_advance 13 = .ok (.invokevirtual 177, 3) := by decide +kernel
theorem dX5_advance_16 : decode cX5_advance 16 = .ok (.bipush 32, 2) := by decide +kernel
theorem dX5_advance_18 : decode cX5_advance 18 = .ok (.if_icmp .ne 16, 3) := by decide +kernel
theorem dX5_advance_21 : decode cX5_advance 21 = .ok (.aload_n 0, 1) := by decide +kernel
theorem dX5_advance_22 : decode cX5_advance 22 = .ok (.dup, 1) := by decide +kernel
theorem dX5_advance_23 : decode cX5_advance 23 = .ok (.getfield 174, 3) := by decide +kernel
theorem dX5_advance_26 : decode cX5_advance 26 = .ok (.iconst 1, 1) := by decide +kernel
theorem dX5_advance_27 : decode cX5_advance 27 = .ok (.iadd, 1) := by decide +kernel
theorem dX5_advance_28 : decode cX5_advance 28 = .ok (.putfield 174, 3) := by decide +kernel
theorem dX5_advance_31 : decode cX5_advance 31 = .ok (.goto (-23), 3) := by decide +kernel
theorem dX5_advance_34 : decode cX5_advance 34 = .ok (.aload_n 0, 1) := by decide +kernel
theorem dX5_advance_35 : decode cX5_advance 35 = .ok (.aload_n 0, 1) := by decide +kernel
theorem dX5_advance_36 : decode cX5_advance 36 = .ok (.getfield 174, 3) := by decide +kernel
theorem dX5_advance_39 : decode cX5_advance 39 = .ok (.putfield 171, 3) := by decide +kernel
theorem dX5_advance_42 : decode cX5_advance 42 = .ok (.aload_n 0, 1) := by decide +kernel
theorem dX5_advance_43 : decode cX5_advance 43 = .ok (.aload_n 0, 1) := by decide +kernel
theorem dX5_advance_44 : decode cX5_advance 44 = .ok (.getfield 174, 3) := by decide +kernel
theorem dX5_advance_47 : decode cX5_advance 47 = .ok (.invokevirtual 177, 3) := by decide +kernel
theorem dX5_advance_50 : decode cX5_advance 50 = .ok (.istore_n 1, 1) := by decide +kernel
theorem dX5_advance_51 : decode cX5_advance 51 = .ok (.aload_n 0, 1) := by decide +kernel
theorem dX5_advance_52 : decode cX5_advance 52 = .ok (.iload_n 1, 1) := by decide +kernel
theorem dX5_advance_53 : decode cX5_advance 53 = .ok (.ifCond .ge 7, 3) := by decide +kernel
theorem dX5_advance_56 : decode cX5_advance 56 = .ok (.iconst 0, 1) := by decide +kernel
theorem dX5_advance_57 : decode cX5_advance 57 = .ok (.goto 26, 3) := by decide +kernel
theorem dX5_advance_60 : decode cX5_advance 60 = .ok (.iload_n 1, 1) := by decide +kernel
theorem dX5_advance_61 : decode cX5_advance 61 = .ok (.invokestatic 180, 3) := by decide +kernel
theorem dX5_advance_64 : decode cX5_advance 64 = .ok (.ifCond .eq 7, 3) := by decide +kernel
theorem dX5_advance_67 : decode cX5_advance 67 = .ok (.iconst 1, 1) := by decide +kernel
theorem dX5_advance_68 : decode cX5_advance 68 = .ok (.goto 15, 3) := by decide +kernel
theorem dX5_advance_71 : decode cX5_advance 71 = .ok (.iload_n 1, 1) := by decide +kernel
theorem dX5_advance_72 : decode cX5_advance 72 = .ok (.invokestatic 183, 3) := by decide +kernel
theorem dX5_advance_75 : decode cX5_advance 75 = .ok (.ifCond .eq 7, 3) := by decide +kernel
theorem dX5_advance_78 : decode cX5_advance 78 = .ok (.iconst 2, 1) := by decide +kernel
theorem dX5_advance_79 : decode cX5_advance 79 = .ok (.goto 4, 3) := by decide +kernel
theorem dX5_advance_82 : decode cX5_advance 82 = .ok (.iconst 3, 1) := by decide +kernel
theorem dX5_advance_83 : decode cX5_advance 83 = .ok (.putfield 186, 3) := by decide +kernel
theorem dX5_advance_86 : decode cX5_advance 86 = .ok (.aload_n 0, 1) := by decide +kernel
theorem dX5_advance_87 : decode cX5_advance 87 = .ok (.lconst 0, 1) := by decide +kernel
theorem dX5_advance_88 : decode cX5_advance 88 = .ok (.putfield 189, 3) := by decide +kernel
theorem dX5_advance_91 : decode cX5_advance 91 = .ok (.aload_n 0, 1) := by decide +kernel
theorem dX5_advance_92 : decode cX5_advance 92 = .ok (.aload_n 0, 1) := by decide +kernel
theorem dX5_advance_93 : decode cX5_advance 93 = .ok (.getfield 186, 3) := by decide +kernel
theorem dX5_advance_96 : decode cX5_advance 96 = .ok (.iconst 2, 1) := by decide +kernel
theorem dX5_advance_97 : decode cX5_advance 97 = .ok (.if_icmp .ne 7, 3) := by decide +kernel
theorem dX5_advance_100 : decode cX5_advance 100 = .ok (.iconst 0, 1) := by decide +kernel
theorem dX5_advance_101 : decode cX5_advance 101 = .ok (.goto 4, 3) := by decide +kernel
theorem dX5_advance_104 : decode cX5_advance 104 = .ok (.iload_n 1, 1) := by decide +kernel
theorem dX5_advance_105 : decode cX5_advance 105 = .ok (.putfield 193, 3) := by decide +kernel
theorem dX5_advance_108 : decode cX5_advance 108 = .ok (.aload_n 0, 1) := by decide +kernel
theorem dX5_advance_109 : decode cX5_advance 109 = .ok (.getfield 186, 3) := by decide +kernel
theorem dX5_advance_112 : decode cX5_advance 112 = .ok (.iconst 3, 1) := by decide +kernel
theorem dX5_advance_113 : decode cX5_advance 113 = .ok (.if_icmp .ne 13, 3) := by decide +kernel
theorem dX5_advance_116 : decode cX5_advance 116 = .ok (.aload_n 0, 1) := by decide +kernel
theorem dX5_advance_117 : decode cX5_advance 117 = .ok (.dup, 1) := by decide +kernel
theorem dX5_advance_118 : decode cX5_advance 118 = .ok (.getfield 171, 3) := by decide +kernel
theorem dX5_advance_121 : decode cX5_advance 121 = .ok (.iconst 1, 1) := by decide +kernel
theorem dX5_advance_122 : decode cX5_advance 122 = .ok (.iadd, 1) := by decide +kernel
theorem dX5_advance_123 : decode cX5_advance 123 = .ok (.putfield 171, 3) := by decide +kernel
theorem dX5_advance_126 : decode cX5_advance 126 = .ok (.aload_n 0, 1) := by decide +kernel
theorem dX5_advance_127 : decode cX5_advance 127 = .ok (.getfield 186, 3) := by decide +kernel
theorem dX5_advance_130 : decode cX5_advance 130 = .ok (.iconst 1, 1) := by decide +kernel
theorem dX5_advance_131 : decode cX5_advance 131 = .ok (.if_icmp .ne 76, 3) := by decide +kernel
theorem dX5_advance_134 : decode cX5_advance 134 = .ok (.aload_n 0, 1) := by decide +kernel
theorem dX5_advance_135 : decode cX5_advance 135 = .ok (.aload_n 0, 1) := by decide +kernel
theorem dX5_advance_136 : decode cX5_advance 136 = .ok (.getfield 171, 3) := by decide +kernel
theorem dX5_advance_139 : decode cX5_advance 139 = .ok (.invokevirtual 177, 3) := by decide +kernel
theorem dX5_advance_142 : decode cX5_advance 142 = .ok (.invokestatic 180, 3) := by decide +kernel
theorem dX5_advance_145 : decode cX5_advance 145 = .ok (.ifCond .eq 62, 3) := by decide +kernel
theorem dX5_advance_148 : decode cX5_advance 148 = .ok (.aload_n 0, 1) := by decide +kernel
theorem dX5_advance_149 : decode cX5_advance 149 = .ok (.aload_n 0, 1) := by decide +kernel
theorem dX5_advance_150 : decode cX5_advance 150 = .ok (.getfield 171, 3) := by decide +kernel
theorem dX5_advance_153 : decode cX5_advance 153 = .ok (.aload_n 0, 1) := by decide +kernel
theorem dX5_advance_154 : decode cX5_advance 154 = .ok (.getfield 174, 3) := by decide +kernel
theorem dX5_advance_157 : decode cX5_advance 157 = .ok (.isub, 1) := by decide +kernel
theorem dX5_advance_158 : decode cX5_advance 158 = .ok (.bipush 12, 2) := by decide +kernel
theorem dX5_advance_160 : decode cX5_advance 160 = .ok (.if_icmp .ge 28, 3) := by decide +kernel
theorem dX5_advance_163 : decode cX5_advance 163 = .ok (.ldc2_w 196, 3) := by decide +kernel
theorem dX5_advance_166 : decode cX5_advance 166 = .ok (.aload_n 0, 1) := by decide +kernel
theorem dX5_advance_167 : decode cX5_advance 167 = .ok (.getfield 189, 3) := by decide +kernel
theorem dX5_advance_170 : decode cX5_advance 170 = .ok (.lmul, 1) := by decide +kernel
theorem dX5_advance_171 : decode cX5_advance 171 = .ok (.aload_n 0, 1) := by decide +kernel
theorem dX5_advance_172 : decode cX5_advance 172 = .ok (.aload_n 0, 1) := by decide +kernel
theorem dX5_advance_173 : decode cX5_advance 173 = .ok (.getfield 171, 3) := by decide +kernel
theorem dX5_advance_176 : decode cX5_advance 176 = .ok (.invokevirtual 177, 3) := by decide +kernel
theorem dX5_advance_179 : decode cX5_advance 179 = .ok (.i2l, 1) := by decide +kernel
theorem dX5_advance_180 : decode cX5_advance 180 = .ok (.ladd, 1) := by decide +kernel
theorem dX5_advance_181 : decode cX5_advance 181 = .ok (.ldc2_w 198, 3) := by decide +kernel
theorem dX5_advance_184 : decode cX5_advance 184 = .ok (.lsub, 1) := by decide +kernel
theorem dX5_advance_185 : decode cX5_advance 185 = .ok (.goto 6, 3) := by decide +kernel
theorem dX5_advance_188 : decode cX5_advance 188 = .ok (.ldc2_w 200, 3) := by decide +kernel
theorem dX5_advance_191 : decode cX5_advance 191 = .ok (.putfield 189, 3) := by decide +kernel
theorem dX5_advance_194 : decode cX5_advance 194 = .ok (.aload_n 0, 1) := by decide +kernel
theorem dX5_advance_195 : decode cX5_advance 195 = .ok (.dup, 1) := by decide +kernel
theorem dX5_advance_196 : decode cX5_advance 196 = .ok (.getfield 171, 3) := by decide +kernel
theorem dX5_advance_199 : decode cX5_advance 199 = .ok (.iconst 1, 1) := by decide +kernel
theorem dX5_advance_200 : decode cX5_advance 200 = .ok (.iadd, 1) := by decide +kernel
theorem dX5_advance_201 : decode cX5_advance 201 = .ok (.putfield 171, 3) := by decide +kernel
theorem dX5_advance_204 : decode cX5_advance 204 = .ok (.goto (-78), 3) := by decide +kernel
theorem dX5_advance_207 : decode cX5_advance 207 = .ok (.aload_n 0, 1) := by decide +kernel
theorem dX5_advance_208 : decode cX5_advance 208 = .ok (.getfield 186, 3) := by decide +kernel
theorem dX5_advance_211 : decode cX5_advance 211 = .ok (.iconst 2, 1) := by decide +kernel
theorem dX5_advance_212 : decode cX5_advance 212 = .ok (.if_icmp .ne 69, 3) := by decide +kernel
theorem dX5_advance_215 : decode cX5_advance 215 = .ok (.aload_n 0, 1) := by decide +kernel
theorem dX5_advance_216 : decode cX5_advance 216 = .ok (.aload_n 0, 1) := by decide +kernel
theorem dX5_advance_217 : decode cX5_advance 217 = .ok (.getfield 171, 3) := by decide +kernel
theorem dX5_advance_220 : decode cX5_advance 220 = .ok (.invokevirtual 177, 3) := by decide +kernel
theorem dX5_advance_223 : decode cX5_advance 223 = .ok (.invokestatic 183, 3) := by decide +kernel
theorem dX5_advance_226 : decode cX5_advance 226 = .ok (.ifCond .eq 55, 3) := by decide +kernel
theorem dX5_advance_229 : decode cX5_advance 229 = .ok (.aload_n 0, 1) := by decide +kernel
theorem dX5_advance_230 : decode cX5_advance 230 = .ok (.aload_n 0, 1) := by decide +kernel
theorem dX5_advance_231 : decode cX5_advance 231 = .ok (.getfield 193, 3) := by decide +kernel
theorem dX5_advance_234 : decode cX5_advance 234 = .ok (.sipush 999, 3) := by decide +kernel
theorem dX5_advance_237 : decode cX5_advance 237 = .ok (.if_icmp .le 9, 3) := by decide +kernel
theorem dX5_advance_240 : decode cX5_advance 240 = .ok (.sipush 10000, 3) := by decide +kernel
theorem dX5_advance_243 : decode cX5_advance 243 = .ok (.goto 22, 3) := by decide +kernel
theorem dX5_advance_246 : decode cX5_advance 246 = .ok (.bipush 10, 2) := by decide +kernel
theorem dX5_advance_248 : decode cX5_advance 248 = .ok (.aload_n 0, 1) := by decide +kernel
theorem dX5_advance_249 : decode cX5_advance 249 = .ok (.getfield 193, 3) := by decide +kernel
theorem dX5_advance_252 : decode cX5_advance 252 = .ok (.imul, 1) := by decide +kernel
theorem dX5_advance_253 : decode cX5_advance 253 = .ok (.aload_n 0, 1) := by decide +kernel
theorem dX5_advance_254 : decode cX5_advance 254 = .ok (.aload_n 0, 1) := by decide +kernel
theorem dX5_advance_255 : decode cX5_advance 255 = .ok (.getfield 171, 3) := by decide +kernel
theorem dX5_advance_258 : decode cX5_advance 258 = .ok (.invokevirtual 177, 3) := by decide +kernel
theorem dX5_advance_261 : decode cX5_advance 261 = .ok (.iadd, 1) := by decide +kernel
theorem dX5_advance_262 : decode cX5_advance 262 = .ok (.bipush 48, 2) := by decide +kernel
theorem dX5_advance_264 : decode cX5_advance 264 = .ok (.isub, 1) := by decide +kernel
theorem dX5_advance_265 : decode cX5_advance 265 = .ok (.putfield 193, 3) := by decide +kernel
theorem dX5_advance_268 : decode cX5_advance 268 = .ok (.aload_n 0, 1) := by decide +kernel
theorem dX5_advance_269 : decode cX5_advance 269 = .ok (.dup, 1) := by decide +kernel
theorem dX5_advance_270 : decode cX5_advance 270 = .ok (.getfield 171, 3) := by decide +kernel
theorem dX5_advance_273 : decode cX5_advance 273 = .ok (.iconst 1, 1) := by decide +kernel
theorem dX5_advance_274 : decode cX5_advance 274 = .ok (.iadd, 1) := by decide +kernel
theorem dX5_advance_275 : decode cX5_advance 275 = .ok (.putfield 171, 3) := by decide +kernel
theorem dX5_advance_278 : decode cX5_advance 278 = .ok (.goto (-71), 3) := by decide +kernel
theorem dX5_advance_281 : decode cX5_advance 281 = .ok (.return_, 1) := by decide +kernel
theorem dX5_isWord_0 : decode cX5_isWord 0 = .ok (.aload_n 0, 1) := by decide +kernel
theorem dX5_isWord_1 : decode cX5_isWord 1 = .ok (.getfield 186, 3) := by decide +kernel
theorem dX5_isWord_4 : decode cX5_isWord 4 = .ok (.iconst 1, 1) := by decide +kernel
theorem dX5_isWord_5 : decode cX5_isWord 5 = .ok (.if_icmp .ne 16, 3) := by decide +kernel
theorem dX5_isWord_8 : decode cX5_isWord 8 = .ok (.aload_n 0, 1) := by decide +kernel
theorem dX5_isWord_9 : decode cX5_isWord 9 = .ok (.getfield 189, 3) := by decide +kernel
theorem dX5_isWord_12 : decode cX5_isWord 12 = .ok (.lload_n 1, 1) := by decide +kernel
theorem dX5_isWord_13 : decode cX5_isWord 13 = .ok (.lcmp, 1) := by decide +kernel
theorem dX5_isWord_14 : decode cX5_isWord 14 = .ok (.ifCond .ne 7, 3) := by decide +kernel
theorem dX5_isWord_17 : decode cX5_isWord 17 = .ok (.iconst 1, 1) := by decide +kernel
theorem dX5_isWord_18 : decode cX5_isWord 18 = .ok (.goto 4, 3) := by decide +kernel
theorem dX5_isWord_21 : decode cX5_isWord 21 = .ok (.iconst 0, 1) := by decide +kernel
theorem dX5_isWord_22 : decode cX5_isWord 22 = .ok (.ireturn, 1) := by decide +kernel
theorem dX5_kindHere_0 : decode cX5_kindHere 0 = .ok (.aload_n 0, 1) := by decide +kernel
theorem dX5_kindHere_1 : decode cX5_kindHere 1 = .ok (.ldc2_w 202, 3) := by decide +kernel
theorem dX5_kindHere_4 : decode cX5_kindHere 4 = .ok (.invokevirtual 204, 3) := by decide +kernel
theorem dX5_kindHere_7 : decode cX5_kindHere 7 = .ok (.ifCond .eq 7, 3) := by decide +kernel
theorem dX5_kindHere_10 : decode cX5_kindHere 10 = .ok (.iconst 0, 1) := by decide +kernel
theorem dX5_kindHere_11 : decode cX5_kindHere 11 = .ok (.goto 74, 3) := by decide +kernel
theorem dX5_kindHere_14 : decode cX5_kindHere 14 = .ok (.aload_n 0, 1) := by decide +kernel
theorem dX5_kindHere_15 : decode cX5_kindHere 15 = .ok (.ldc2_w 208, 3) := by decide +kernel
theorem dX5_kindHere_18 : decode cX5_kindHere 18 = .ok (.invokevirtual 204, 3) := by decide +kernel
theorem dX5_kindHere_21 : decode cX5_kindHere 21 = .ok (.ifCond .eq 7, 3) := by decide +kernel
theorem dX5_kindHere_24 : decode cX5_kindHere 24 = .ok (.iconst 1, 1) := by decide +kernel
theorem dX5_kindHere_25 : decode cX5_kindHere 25 = .ok (.goto 60, 3) := by decide +kernel
theorem dX5_kindHere_28 : decode cX5_kindHere 28 = .ok (.aload_n 0, 1) := by decide +kernel
theorem dX5_kindHere_29 : decode cX5_kindHere 29 = .ok (.ldc2_w 210, 3) := by decide +kernel
theorem dX5_kindHere_32 : decode cX5_kindHere 32 = .ok (.invokevirtual 204, 3) := by decide +kernel
theorem dX5_kindHere_35 : decode cX5_kindHere 35 = .ok (.ifCond .eq 7, 3) := by decide +kernel
theorem dX5_kindHere_38 : decode cX5_kindHere 38 = .ok (.iconst 2, 1) := by decide +kernel
theorem dX5_kindHere_39 : decode cX5_kindHere 39 = .ok (.goto 46, 3) := by decide +kernel
theorem dX5_kindHere_42 : decode cX5_kindHere 42 = .ok (.aload_n 0, 1) := by decide +kernel
theorem dX5_kindHere_43 : decode cX5_kindHere 43 = .ok (.ldc2_w 212, 3) := by decide +kernel
theorem dX5_kindHere_46 : decode cX5_kindHere 46 = .ok (.invokevirtual 204, 3) := by decide +kernel
theorem dX5_kindHere_49 : decode cX5_kindHere 49 = .ok (.ifCond .eq 7, 3) := by decide +kernel
theorem dX5_kindHere_52 : decode cX5_kindHere 52 = .ok (.iconst 3, 1) := by decide +kernel
theorem dX5_kindHere_53 : decode cX5_kindHere 53 = .ok (.goto 32, 3) := by decide +kernel
theorem dX5_kindHere_56 : decode cX5_kindHere 56 = .ok (.aload_n 0, 1) := by decide +kernel
theorem dX5_kindHere_57 : decode cX5_kindHere 57 = .ok (.ldc2_w 214, 3) := by decide +kernel
theorem dX5_kindHere_60 : decode cX5_kindHere 60 = .ok (.invokevirtual 204, 3) := by decide +kernel
theorem dX5_kindHere_63 : decode cX5_kindHere 63 = .ok (.ifCond .eq 7, 3) := by decide +kernel
theorem dX5_kindHere_66 : decode cX5_kindHere 66 = .ok (.iconst 4, 1) := by decide +kernel
theorem dX5_kindHere_67 : decode cX5_kindHere 67 = .ok (.goto 18, 3) := by decide +kernel
theorem dX5_kindHere_70 : decode cX5_kindHere 70 = .ok (.aload_n 0, 1) := by decide +kernel
theorem dX5_kindHere_71 : decode cX5_kindHere 71 = .ok (.ldc2_w 216, 3) := by decide +kernel
theorem dX5_kindHere_74 : decode cX5_kindHere 74 = .ok (.invokevirtual 204, 3) := by decide +kernel
theorem dX5_kindHere_77 : decode cX5_kindHere 77 = .ok (.ifCond .eq 7, 3) := by decide +kernel
theorem dX5_kindHere_80 : decode cX5_kindHere 80 = .ok (.iconst 5, 1) := by decide +kernel
theorem dX5_kindHere_81 : decode cX5_kindHere 81 = .ok (.goto 4, 3) := by decide +kernel
theorem dX5_kindHere_84 : decode cX5_kindHere 84 = .ok (.iconst (-1), 1) := by decide +kernel
theorem dX5_kindHere_85 : decode cX5_kindHere 85 = .ok (.ireturn, 1) := by decide +kernel
theorem dX5_markHere_0 : decode cX5_markHere 0 = .ok (.aload_n 0, 1) := by decide +kernel
theorem dX5_markHere_1 : decode cX5_markHere 1 = .ok (.ldc2_w 218, 3) := by decide +kernel
theorem dX5_markHere_4 : decode cX5_markHere 4 = .ok (.invokevirtual 204, 3) := by decide +kernel
theorem dX5_markHere_7 : decode cX5_markHere 7 = .ok (.ifCond .eq 7, 3) := by decide +kernel
theorem dX5_markHere_10 : decode cX5_markHere 10 = .ok (.iconst 0, 1) := by decide +kernel
theorem dX5_markHere_11 : decode cX5_markHere 11 = .ok (.goto 32, 3) := by decide +kernel
theorem dX5_markHere_14 : decode cX5_markHere 14 = .ok (.aload_n 0, 1) := by decide +kernel
theorem dX5_markHere_15 : decode cX5_markHere 15 = .ok (.ldc2_w 220, 3) := by decide +kernel
theorem dX5_markHere_18 : decode cX5_markHere 18 = .ok (.invokevirtual 204, 3) := by decide +kernel
theorem dX5_markHere_21 : decode cX5_markHere 21 = .ok (.ifCond .eq 7, 3) := by decide +kernel
theorem dX5_markHere_24 : decode cX5_markHere 24 = .ok (.iconst 1, 1) := by decide +kernel
theorem dX5_markHere_25 : decode cX5_markHere 25 = .ok (.goto 18, 3) := by decide +kernel
theorem dX5_markHere_28 : decode cX5_markHere 28 = .ok (.aload_n 0, 1) := by decide +kernel
theorem dX5_markHere_29 : decode cX5_markHere 29 = .ok (.ldc2_w 222, 3) := by decide +kernel
theorem dX5_markHere_32 : decode cX5_markHere 32 = .ok (.invokevirtual 204, 3) := by decide +kernel
theorem dX5_markHere_35 : decode cX5_markHere 35 = .ok (.ifCond .eq 7, 3) := by decide +kernel
theorem dX5_markHere_38 : decode cX5_markHere 38 = .ok (.iconst 2, 1) := by decide +kernel
theorem dX5_markHere_39 : decode cX5_markHere 39 = .ok (.goto 4, 3) := by decide +kernel
theorem dX5_markHere_42 : decode cX5_markHere 42 = .ok (.iconst (-1), 1) := by decide +kernel
theorem dX5_markHere_43 : decode cX5_markHere 43 = .ok (.ireturn, 1) := by decide +kernel
theorem dX5_wantNumber_0 : decode cX5_wantNumber 0 = .ok (.aload_n 0, 1) := by decide +kernel
theorem dX5_wantNumber_1 : decode cX5_wantNumber 1 = .ok (.getfield 193, 3) := by decide +kernel
theorem dX5_wantNumber_4 : decode cX5_wantNumber 4 = .ok (.istore_n 3, 1) := by decide +kernel
theorem dX5_wantNumber_5 : decode cX5_wantNumber 5 = .ok (.aload_n 0, 1) := by decide +kernel
theorem dX5_wantNumber_6 : decode cX5_wantNumber 6 = .ok (.aload_n 0, 1) := by decide +kernel
theorem dX5_wantNumber_7 : decode cX5_wantNumber 7 = .ok (.getfield 224, 3) := by decide +kernel
theorem dX5_wantNumber_10 : decode cX5_wantNumber 10 = .ok (.ifCond .eq 24, 3) := by decide +kernel
theorem dX5_wantNumber_13 : decode cX5_wantNumber 13 = .ok (.aload_n 0, 1) := by decide +kernel
theorem dX5_wantNumber_14 : decode cX5_wantNumber 14 = .ok (.getfield 186, 3) := by decide +kernel
theorem dX5_wantNumber_17 : decode cX5_wantNumber 17 = .ok (.iconst 2, 1) := by decide +kernel
theorem dX5_wantNumber_18 : decode cX5_wantNumber 18 = .ok (.if_icmp .ne 16, 3) := by decide +kernel
theorem dX5_wantNumber_21 : decode cX5_wantNumber 21 = .ok (.iload_n 3, 1) := by decide +kernel
theorem dX5_wantNumber_22 : decode cX5_wantNumber 22 = .ok (.iload_n 1, 1) := by decide +kernel
theorem dX5_wantNumber_23 : decode cX5_wantNumber 23 = .ok (.iload_n 2, 1) := by decide +kernel
theorem dX5_wantNumber_24 : decode cX5_wantNumber 24 = .ok (.invokestatic 45, 3) := by decide +kernel
theorem dX5_wantNumber_27 : decode cX5_wantNumber 27 = .ok (.ifCond .eq 7, 3) := by decide +kernel
theorem dX5_wantNumber_30 : decode cX5_wantNumber 30 = .ok (.iconst 1, 1) := by decide +kernel
theorem dX5_wantNumber_31 : decode cX5_wantNumber 31 = .ok (.goto 4, 3) := by decide +kernel
theorem dX5_wantNumber_34 : decode cX5_wantNumber 34 = .ok (.iconst 0, 1) := by decide +kernel
theorem dX5_wantNumber_35 : decode cX5_wantNumber 35 = .ok (.putfield 224, 3) := by decide +kernel
theorem dX5_wantNumber_38 : decode cX5_wantNumber 38 = .ok (.aload_n 0, 1) := by decide +kernel
theorem dX5_wantNumber_39 : decode cX5_wantNumber 39 = .ok (.getfield 224, 3) := by decide +kernel
theorem dX5_wantNumber_42 : decode cX5_wantNumber 42 = .ok (.ifCond .eq 7, 3) := by decide +kernel
theorem dX5_wantNumber_45 : decode cX5_wantNumber 45 = .ok (.aload_n 0, 1) := by decide +kernel
theorem dX5_wantNumber_46 : decode cX5_wantNumber 46 = .ok (.invokevirtual 228, 3) := by decide +kernel
theorem dX5_wantNumber_49 : decode cX5_wantNumber 49 = .ok (.iload_n 3, 1) := by decide +kernel
theorem dX5_wantNumber_50 : decode cX5_wantNumber 50 = .ok (.ireturn, 1) := by decide +kernel
theorem dX5_mayWant_0 : decode cX5_mayWant 0 = .ok (.aload_n 0, 1) := by decide +kernel
theorem dX5_mayWant_1 : decode cX5_mayWant 1 = .ok (.getfield 224, 3) := by decide +kernel
theorem dX5_mayWant_4 : decode cX5_mayWant 4 = .ok (.ifCond .eq 11, 3) := by decide +kernel
theorem dX5_mayWant_7 : decode cX5_mayWant 7 = .ok (.aload_n 0, 1) := by decide +kernel
theorem dX5_mayWant_8 : decode cX5_mayWant 8 = .ok (.lload_n 1, 1) := by decide +kernel
theorem dX5_mayWant_9 : decode cX5_mayWant 9 = .ok (.invokevirtual 204, 3) := by decide +kernel
theorem dX5_mayWant_12 : decode cX5_mayWant 12 = .ok (.ifCond .ne 6, 3) := by decide +kernel
theorem dX5_mayWant_15 : decode cX5_mayWant 15 = .ok (.iload 5, 2) := by decide +kernel
theorem dX5_mayWant_17 : decode cX5_mayWant 17 = .ok (.ireturn, 1) := by decide +kernel
theorem dX5_mayWant_18 : decode cX5_mayWant 18 = .ok (.aload_n 0, 1) := by decide +kernel
theorem dX5_mayWant_19 : decode cX5_mayWant 19 = .ok (.invokevirtual 228, 3) := by decide +kernel
theorem dX5_mayWant_22 : decode cX5_mayWant 22 = .ok (.aload_n 0, 1) := by decide +kernel
theorem dX5_mayWant_23 : decode cX5_mayWant 23 = .ok (.iload_n 3, 1) := by decide +kernel
theorem dX5_mayWant_24 : decode cX5_mayWant 24 = .ok (.iload 4, 2) := by decide +kernel
theorem dX5_mayWant_26 : decode cX5_mayWant 26 = .ok (.invokevirtual 231, 3) := by decide +kernel
theorem dX5_mayWant_29 : decode cX5_mayWant 29 = .ok (.ireturn, 1) := by decide +kernel
theorem dX5_wantOne_0 : decode cX5_wantOne 0 = .ok (.aload_n 0, 1) := by decide +kernel
theorem dX5_wantOne_1 : decode cX5_wantOne 1 = .ok (.aload_n 0, 1) := by decide +kernel
theorem dX5_wantOne_2 : decode cX5_wantOne 2 = .ok (.getfield 7, 3) := by decide +kernel
theorem dX5_wantOne_5 : decode cX5_wantOne 5 = .ok (.iconst 2, 1) := by decide +kernel
theorem dX5_wantOne_6 : decode cX5_wantOne 6 = .ok (.iaload, 1) := by decide +kernel
theorem dX5_wantOne_7 : decode cX5_wantOne 7 = .ok (.bipush 6, 2) := by decide +kernel
theorem dX5_wantOne_9 : decode cX5_wantOne 9 = .ok (.if_icmp .ge 7, 3) := by decide +kernel
theorem dX5_wantOne_12 : decode cX5_wantOne 12 = .ok (.iconst 1, 1) := by decide +kernel
theorem dX5_wantOne_13 : decode cX5_wantOne 13 = .ok (.goto 4, 3) := by decide +kernel
theorem dX5_wantOne_16 : decode cX5_wantOne 16 = .ok (.iconst 0, 1) := by decide +kernel
theorem dX5_wantOne_17 : decode cX5_wantOne 17 = .ok (.putfield 224, 3) := by decide +kernel
theorem dX5_wantOne_20 : decode cX5_wantOne 20 = .ok (.aload_n 0, 1) := by decide +kernel
theorem dX5_wantOne_21 : decode cX5_wantOne 21 = .ok (.getfield 224, 3) := by decide +kernel
theorem dX5_wantOne_24 : decode cX5_wantOne 24 = .ok (.ifCond .ne 4, 3) := by decide +kernel
theorem dX5_wantOne_27 : decode cX5_wantOne 27 = .ok (.return_, 1) := by decide +kernel
theorem dX5_wantOne_28 : decode cX5_wantOne 28 = .ok (.aload_n 0, 1) := by decide +kernel
theorem dX5_wantOne_29 : decode cX5_wantOne 29 = .ok (.invokevirtual 228, 3) := by decide +kernel
theorem dX5_wantOne_32 : decode cX5_wantOne 32 = .ok (.aload_n 0, 1) := by decide +kernel
theorem dX5_wantOne_33 : decode cX5_wantOne 33 = .ok (.ldc2_w 234, 3) := by decide +kernel
theorem dX5_wantOne_36 : decode cX5_wantOne 36 = .ok (.iconst 0, 1) := by decide +kernel
theorem dX5_wantOne_37 : decode cX5_wantOne 37 = .ok (.iconst 2, 1) := by decide +kernel
theorem dX5_wantOne_38 : decode cX5_wantOne 38 = .ok (.aload_n 0, 1) := by decide +kernel
theorem dX5_wantOne_39 : decode cX5_wantOne 39 = .ok (.getfield 7, 3) := by decide +kernel
theorem dX5_wantOne_42 : decode cX5_wantOne 42 = .ok (.iconst 2, 1) := by decide +kernel
theorem dX5_wantOne_43 : decode cX5_wantOne 43 = .ok (.iaload, 1) := by decide +kernel
theorem dX5_wantOne_44 : decode cX5_wantOne 44 = .ok (.iconst 3, 1) := by decide +kernel
theorem dX5_wantOne_45 : decode cX5_wantOne 45 = .ok (.irem, 1) := by decide +kernel
theorem dX5_wantOne_46 : decode cX5_wantOne 46 = .ok (.invokevirtual 236, 3) := by decide +kernel
theorem dX5_wantOne_49 : decode cX5_wantOne 49 = .ok (.istore_n 2, 1) := by decide +kernel
theorem dX5_wantOne_50 : decode cX5_wantOne 50 = .ok (.aload_n 0, 1) := by decide +kernel
theorem dX5_wantOne_51 : decode cX5_wantOne 51 = .ok (.getfield 224, 3) := by decide +kernel
theorem dX5_wantOne_54 : decode cX5_wantOne 54 = .ok (.ifCond .eq 9, 3) := by decide +kernel
theorem dX5_wantOne_57 : decode cX5_wantOne 57 = .ok (.aload_n 0, 1) := by decide +kernel
theorem dX5_wantOne_58 : decode cX5_wantOne 58 = .ok (.iload_n 1, 1) := by decide +kernel
theorem dX5_wantOne_59 : decode cX5_wantOne 59 = .ok (.iload_n 2, 1) := by decide +kernel
theorem dX5_wantOne_60 : decode cX5_wantOne 60 = .ok (.invokevirtual 94, 3) := by decide +kernel
theorem dX5_wantOne_63 : decode cX5_wantOne 63 = .ok (.return_, 1) := by decide +kernel
theorem dX5_wantGarment_0 : decode cX5_wantGarment 0 = .ok (.aload_n 0, 1) := by decide +kernel
theorem dX5_wantGarment_1 : decode cX5_wantGarment 1 = .ok (.aload_n 0, 1) := by decide +kernel
theorem dX5_wantGarment_2 : decode cX5_wantGarment 2 = .ok (.getfield 7, 3) := by decide +kernel
theorem dX5_wantGarment_5 : decode cX5_wantGarment 5 = .ok (.iconst 3, 1) := by decide +kernel
theorem dX5_wantGarment_6 : decode cX5_wantGarment 6 = .ok (.iaload, 1) := by decide +kernel
theorem dX5_wantGarment_7 : decode cX5_wantGarment 7 = .ok (.bipush 10, 2) := by decide +kernel
theorem dX5_wantGarment_9 : decode cX5_wantGarment 9 = .ok (.if_icmp .ge 7, 3) := by decide +kernel
theorem dX5_wantGarment_12 : decode cX5_wantGarment 12 = .ok (.iconst 1, 1) := by decide +kernel
theorem dX5_wantGarment_13 : decode cX5_wantGarment 13 = .ok (.goto 4, 3) := by decide +kernel
theorem dX5_wantGarment_16 : decode cX5_wantGarment 16 = .ok (.iconst 0, 1) := by decide +kernel
theorem dX5_wantGarment_17 : decode cX5_wantGarment 17 = .ok (.putfield 224, 3) := by decide +kernel
theorem dX5_wantGarment_20 : decode cX5_wantGarment 20 = .ok (.aload_n 0, 1) := by decide +kernel
theorem dX5_wantGarment_21 : decode cX5_wantGarment 21 = .ok (.getfield 224, 3) := by decide +kernel
theorem dX5_wantGarment_24 : decode cX5_wantGarment 24 = .ok (.ifCond .ne 4, 3) := by decide +kernel
theorem dX5_wantGarment_27 : decode cX5_wantGarment 27 = .ok (.return_, 1) := by decide +kernel
theorem dX5_wantGarment_28 : decode cX5_wantGarment 28 = .ok (.aload_n 0, 1) := by decide +kernel
theorem dX5_wantGarment_29 : decode cX5_wantGarment 29 = .ok (.invokevirtual 228, 3) := by decide +kernel
theorem dX5_wantGarment_32 : decode cX5_wantGarment 32 = .ok (.aload_n 0, 1) := by decide +kernel
theorem dX5_wantGarment_33 : decode cX5_wantGarment 33 = .ok (.iconst 0, 1) := by decide +kernel
theorem dX5_wantGarment_34 : decode cX5_wantGarment 34 = .ok (.aload_n 0, 1) := by decide +kernel
theorem dX5_wantGarment_35 : decode cX5_wantGarment 35 = .ok (.getfield 7, 3) := by decide +kernel
theorem dX5_wantGarment_38 : decode cX5_wantGarment 38 = .ok (.iconst 2, 1) := by decide +kernel
theorem dX5_wantGarment_39 : decode cX5_wantGarment 39 = .ok (.iaload, 1) := by decide +kernel
theorem dX5_wantGarment_40 : decode cX5_wantGarment 40 = .ok (.iconst 1, 1) := by decide +kernel
theorem dX5_wantGarment_41 : decode cX5_wantGarment 41 = .ok (.isub, 1) := by decide +kernel
theorem dX5_wantGarment_42 : decode cX5_wantGarment 42 = .ok (.invokevirtual 231, 3) := by decide +kernel
theorem dX5_wantGarment_45 : decode cX5_wantGarment 45 = .ok (.istore_n 2, 1) := by decide +kernel
theorem dX5_wantGarment_46 : decode cX5_wantGarment 46 = .ok (.aload_n 0, 1) := by decide +kernel
theorem dX5_wantGarment_47 : decode cX5_wantGarment 47 = .ok (.ldc2_w 240, 3) := by decide +kernel
theorem dX5_wantGarment_50 : decode cX5_wantGarment 50 = .ok (.iconst 0, 1) := by decide +kernel
theorem dX5_wantGarment_51 : decode cX5_wantGarment 51 = .ok (.bipush 99, 2) := by decide +kernel
theorem dX5_wantGarment_53 : decode cX5_wantGarment 53 = .ok (.bipush 99, 2) := by decide +kernel
theorem dX5_wantGarment_55 : decode cX5_wantGarment 55 = .ok (.invokevirtual 236, 3) := by decide +kernel
theorem dX5_wantGarment_58 : decode cX5_wantGarment 58 = .ok (.istore_n 3, 1) := by decide +kernel
theorem dX5_wantGarment_59 : decode cX5_wantGarment 59 = .ok (.aload_n 0, 1) := by decide +kernel
theorem dX5_wantGarment_60 : decode cX5_wantGarment 60 = .ok (.getfield 224, 3) := by decide +kernel
theorem dX5_wantGarment_63 : decode cX5_wantGarment 63 = .ok (.ifCond .eq 17, 3) := by decide +kernel
theorem dX5_wantGarment_66 : decode cX5_wantGarment 66 = .ok (.aload_n 0, 1) := by decide +kernel
theorem dX5_wantGarment_67 : decode cX5_wantGarment 67 = .ok (.ldc2_w 242, 3) := by decide +kernel
theorem dX5_wantGarment_70 : decode cX5_wantGarment 70 = .ok (.invokevirtual 204, 3) := by decide +kernel
theorem dX5_wantGarment_73 : decode cX5_wantGarment 73 = .ok (.ifCond .eq 7, 3) := by decide +kernel
theorem dX5_wantGarment_76 : decode cX5_wantGarment 76 = .ok (.iconst 1, 1) := by decide +kernel
theorem dX5_wantGarment_77 : decode cX5_wantGarment 77 = .ok (.goto 4, 3) := by decide +kernel
theorem dX5_wantGarment_80 : decode cX5_wantGarment 80 = .ok (.iconst 0, 1) := by decide +kernel
theorem dX5_wantGarment_81 : decode cX5_wantGarment 81 = .ok (.istore 4, 2) := by decide +kernel
theorem dX5_wantGarment_83 : decode cX5_wantGarment 83 = .ok (.iload 4, 2) := by decide +kernel
theorem dX5_wantGarment_85 : decode cX5_wantGarment 85 = .ok (.ifCond .eq 7, 3) := by decide +kernel
theorem dX5_wantGarment_88 : decode cX5_wantGarment 88 = .ok (.aload_n 0, 1) := by decide +kernel
theorem dX5_wantGarment_89 : decode cX5_wantGarment 89 = .ok (.invokevirtual 228, 3) := by decide +kernel
theorem dX5_wantGarment_92 : decode cX5_wantGarment 92 = .ok (.aload_n 0, 1) := by decide +kernel
theorem dX5_wantGarment_93 : decode cX5_wantGarment 93 = .ok (.getfield 224, 3) := by decide +kernel
theorem dX5_wantGarment_96 : decode cX5_wantGarment 96 = .ok (.ifCond .eq 20, 3) := by decide +kernel
theorem dX5_wantGarment_99 : decode cX5_wantGarment 99 = .ok (.aload_n 0, 1) := by decide +kernel
theorem dX5_wantGarment_100 : decode cX5_wantGarment 100 = .ok (.iload_n 2, 1) := by decide +kernel
theorem dX5_wantGarment_101 : decode cX5_wantGarment 101 = .ok (.iload_n 1, 1) := by decide +kernel
theorem dX5_wantGarment_102 : decode cX5_wantGarment 102 = .ok (.iload_n 3, 1) := by decide +kernel
theorem dX5_wantGarment_103 : decode cX5_wantGarment 103 = .ok (.iload 4, 2) := by decide +kernel
theorem dX5_wantGarment_105 : decode cX5_wantGarment 105 = .ok (.ifCond .eq 7, 3) := by decide +kernel
theorem dX5_wantGarment_108 : decode cX5_wantGarment 108 = .ok (.iconst (-1), 1) := by decide +kernel
theorem dX5_wantGarment_109 : decode cX5_wantGarment 109 = .ok (.goto 4, 3) := by decide +kernel
theorem dX5_wantGarment_112 : decode cX5_wantGarment 112 = .ok (.iload_n 2, 1) := by decide +kernel
theorem dX5_wantGarment_113 : decode cX5_wantGarment 113 = .ok (.invokevirtual 121, 3) := by decide +kernel
theorem dX5_wantGarment_116 : decode cX5_wantGarment 116 = .ok (.return_, 1) := by decide +kernel
theorem dX5_wantItem_0 : decode cX5_wantItem 0 = .ok (.aload_n 0, 1) := by decide +kernel
theorem dX5_wantItem_1 : decode cX5_wantItem 1 = .ok (.invokevirtual 244, 3) := by decide +kernel
theorem dX5_wantItem_4 : decode cX5_wantItem 4 = .ok (.ifCond .lt 14, 3) := by decide +kernel
theorem dX5_wantItem_7 : decode cX5_wantItem 7 = .ok (.aload_n 0, 1) := by decide +kernel
theorem dX5_wantItem_8 : decode cX5_wantItem 8 = .ok (.aload_n 0, 1) := by decide +kernel
theorem dX5_wantItem_9 : decode cX5_wantItem 9 = .ok (.invokevirtual 244, 3) := by decide +kernel
theorem dX5_wantItem_12 : decode cX5_wantItem 12 = .ok (.invokevirtual 247, 3) := by decide +kernel
theorem dX5_wantItem_15 : decode cX5_wantItem 15 = .ok (.goto 120, 3) := by decide +kernel
theorem dX5_wantItem_18 : decode cX5_wantItem 18 = .ok (.aload_n 0, 1) := by decide +kernel
theorem dX5_wantItem_19 : decode cX5_wantItem 19 = .ok (.invokevirtual 250, 3) := by decide +kernel
theorem dX5_wantItem_22 : decode cX5_wantItem 22 = .ok (.ifCond .lt 14, 3) := by decide +kernel
theorem dX5_wantItem_25 : decode cX5_wantItem 25 = .ok (.aload_n 0, 1) := by decide +kernel
theorem dX5_wantItem_26 : decode cX5_wantItem 26 = .ok (.aload_n 0, 1) := by decide +kernel
theorem dX5_wantItem_27 : decode cX5_wantItem 27 = .ok (.invokevirtual 250, 3) := by decide +kernel
theorem dX5_wantItem_30 : decode cX5_wantItem 30 = .ok (.invokevirtual 253, 3) := by decide +kernel
theorem dX5_wantItem_33 : decode cX5_wantItem 33 = .ok (.goto 102, 3) := by decide +kernel
theorem dX5_wantItem_36 : decode cX5_wantItem 36 = .ok (.aload_n 0, 1) := by decide +kernel
theorem dX5_wantItem_37 : decode cX5_wantItem 37 = .ok (.ldc2_w 256, 3) := by decide +kernel
theorem dX5_wantItem_40 : decode cX5_wantItem 40 = .ok (.invokevirtual 204, 3) := by decide +kernel
theorem dX5_wantItem_43 : decode cX5_wantItem 43 = .ok (.ifCond .eq 42, 3) := by decide +kernel
theorem dX5_wantItem_46 : decode cX5_wantItem 46 = .ok (.aload_n 0, 1) := by decide +kernel
theorem dX5_wantItem_47 : decode cX5_wantItem 47 = .ok (.invokevirtual 228, 3) := by decide +kernel
theorem dX5_wantItem_50 : decode cX5_wantItem 50 = .ok (.aload_n 0, 1) := by decide +kernel
theorem dX5_wantItem_51 : decode cX5_wantItem 51 = .ok (.bipush 20, 2) := by decide +kernel
theorem dX5_wantItem_53 : decode cX5_wantItem 53 = .ok (.bipush 90, 2) := by decide +kernel
theorem dX5_wantItem_55 : decode cX5_wantItem 55 = .ok (.invokevirtual 231, 3) := by decide +kernel
theorem dX5_wantItem_58 : decode cX5_wantItem 58 = .ok (.istore_n 1, 1) := by decide +kernel
theorem dX5_wantItem_59 : decode cX5_wantItem 59 = .ok (.aload_n 0, 1) := by decide +kernel
theorem dX5_wantItem_60 : decode cX5_wantItem 60 = .ok (.getfield 7, 3) := by decide +kernel
theorem dX5_wantItem_63 : decode cX5_wantItem 63 = .ok (.iconst 1, 1) := by decide +kernel
theorem dX5_wantItem_64 : decode cX5_wantItem 64 = .ok (.aload_n 0, 1) := by decide +kernel
theorem dX5_wantItem_65 : decode cX5_wantItem 65 = .ok (.getfield 224, 3) := by decide +kernel
theorem dX5_wantItem_68 : decode cX5_wantItem 68 = .ok (.ifCond .eq 7, 3) := by decide +kernel
theorem dX5_wantItem_71 : decode cX5_wantItem 71 = .ok (.iload_n 1, 1) := by decide +kernel
theorem dX5_wantItem_72 : decode cX5_wantItem 72 = .ok (.goto 9, 3) := by decide +kernel
theorem dX5_wantItem_75 : decode cX5_wantItem 75 = .ok (.aload_n 0, 1) := by decide +kernel
theorem dX5_wantItem_76 : decode cX5_wantItem 76 = .ok (.getfield 7, 3) := by decide +kernel
theorem dX5_wantItem_79 : decode cX5_wantItem 79 = .ok (.iconst 1, 1) := by decide +kernel
theorem dX5_wantItem_80 : decode cX5_wantItem 80 = .ok (.iaload, 1) := by decide +kernel
theorem dX5_wantItem_81 : decode cX5_wantItem 81 = .ok (.iastore, 1) := by decide +kernel
theorem dX5_wantItem_82 : decode cX5_wantItem 82 = .ok (.goto 53, 3) := by decide +kernel
theorem dX5_wantItem_85 : decode cX5_wantItem 85 = .ok (.aload_n 0, 1) := by decide +kernel
theorem dX5_wantItem_86 : decode cX5_wantItem 86 = .ok (.ldc2_w 258, 3) := by decide +kernel
theorem dX5_wantItem_89 : decode cX5_wantItem 89 = .ok (.invokevirtual 204, 3) := by decide +kernel
theorem dX5_wantItem_92 : decode cX5_wantItem 92 = .ok (.ifCond .eq 38, 3) := by decide +kernel
theorem dX5_wantItem_95 : decode cX5_wantItem 95 = .ok (.aload_n 0, 1) := by decide +kernel
theorem dX5_wantItem_96 : decode cX5_wantItem 96 = .ok (.invokevirtual 228, 3) := by decide +kernel
theorem dX5_wantItem_99 : decode cX5_wantItem 99 = .ok (.aload_n 0, 1) := by decide +kernel
theorem dX5_wantItem_100 : decode cX5_wantItem 100 = .ok (.iconst 0, 1) := by decide +kernel
theorem dX5_wantItem_101 : decode cX5_wantItem 101 = .ok (.aload_n 0, 1) := by decide +kernel
theorem dX5_wantItem_102 : decode cX5_wantItem 102 = .ok (.getfield 7, 3) := by decide +kernel
theorem dX5_wantItem_105 : decode cX5_wantItem 105 = .ok (.iconst 2, 1) := by decide +kernel
theorem dX5_wantItem_106 : decode cX5_wantItem 106 = .ok (.iaload, 1) := by decide +kernel
theorem dX5_wantItem_107 : decode cX5_wantItem 107 = .ok (.iconst 1, 1) := by decide +kernel
theorem dX5_wantItem_108 : decode cX5_wantItem 108 = .ok (.isub, 1) := by decide +kernel
theorem dX5_wantItem_109 : decode cX5_wantItem 109 = .ok (.invokevirtual 231, 3) := by decide +kernel
theorem dX5_wantItem_112 : decode cX5_wantItem 112 = .ok (.istore_n 1, 1) := by decide +kernel
theorem dX5_wantItem_113 : decode cX5_wantItem 113 = .ok (.aload_n 0, 1) := by decide +kernel
theorem dX5_wantItem_114 : decode cX5_wantItem 114 = .ok (.getfield 224, 3) := by decide +kernel
theorem dX5_wantItem_117 : decode cX5_wantItem 117 = .ok (.ifCond .eq 10, 3) := by decide +kernel
theorem dX5_wantItem_120 : decode cX5_wantItem 120 = .ok (.aload_n 0, 1) := by decide +kernel
theorem dX5_wantItem_121 : decode cX5_wantItem 121 = .ok (.iload_n 1, 1) := by decide +kernel
theorem dX5_wantItem_122 : decode cX5_wantItem 122 = .ok (.iconst 3, 1) := by decide +kernel
theorem dX5_wantItem_123 : decode cX5_wantItem 123 = .ok (.iconst 1, 1) := by decide +kernel
theorem dX5_wantItem_124 : decode cX5_wantItem 124 = .ok (.invokevirtual 86, 3) := by decide +kernel
theorem dX5_wantItem_127 : decode cX5_wantItem 127 = .ok (.goto 8, 3) := by decide +kernel
theorem dX5_wantItem_130 : decode cX5_wantItem 130 = .ok (.aload_n 0, 1) := by decide +kernel
theorem dX5_wantItem_131 : decode cX5_wantItem 131 = .ok (.iconst 0, 1) := by decide +kernel
theorem dX5_wantItem_132 : decode cX5_wantItem 132 = .ok (.putfield 224, 3) := by decide +kernel
theorem dX5_wantItem_135 : decode cX5_wantItem 135 = .ok (.return_, 1) := by decide +kernel
theorem dX5_home_0 : decode cX5_home 0 = .ok (.aload_n 0, 1) := by decide +kernel
theorem dX5_home_1 : decode cX5_home 1 = .ok (.iconst 1, 1) := by decide +kernel
theorem dX5_home_2 : decode cX5_home 2 = .ok (.aload_n 0, 1) := by decide +kernel
theorem dX5_home_3 : decode cX5_home 3 = .ok (.getfield 41, 3) := by decide +kernel
theorem dX5_home_6 : decode cX5_home 6 = .ok (.invokevirtual 153, 3) := by decide +kernel
theorem dX5_home_9 : decode cX5_home 9 = .ok (.aload_n 0, 1) := by decide +kernel
theorem dX5_home_10 : decode cX5_home 10 = .ok (.iconst 0, 1) := by decide +kernel
theorem dX5_home_11 : decode cX5_home 11 = .ok (.putfield 171, 3) := by decide +kernel
theorem dX5_home_14 : decode cX5_home 14 = .ok (.aload_n 0, 1) := by decide +kernel
theorem dX5_home_15 : decode cX5_home 15 = .ok (.iconst 1, 1) := by decide +kernel
theorem dX5_home_16 : decode cX5_home 16 = .ok (.putfield 224, 3) := by decide +kernel
theorem dX5_home_19 : decode cX5_home 19 = .ok (.iconst 0, 1) := by decide +kernel
theorem dX5_home_20 : decode cX5_home 20 = .ok (.istore_n 1, 1) := by decide +kernel
theorem dX5_home_21 : decode cX5_home 21 = .ok (.iconst 1, 1) := by decide +kernel
theorem dX5_home_22 : decode cX5_home 22 = .ok (.istore_n 2, 1) := by decide +kernel
theorem dX5_home_23 : decode cX5_home 23 = .ok (.iload_n 2, 1) := by decide +kernel
theorem dX5_home_24 : decode cX5_home 24 = .ok (.ifCond .eq 47, 3) := by decide +kernel
theorem dX5_home_27 : decode cX5_home 27 = .ok (.aload_n 0, 1) := by decide +kernel
theorem dX5_home_28 : decode cX5_home 28 = .ok (.invokevirtual 228, 3) := by decide +kernel
theorem dX5_home_31 : decode cX5_home 31 = .ok (.aload_n 0, 1) := by decide +kernel
theorem dX5_home_32 : decode cX5_home 32 = .ok (.invokevirtual 260, 3) := by decide +kernel
theorem dX5_home_35 : decode cX5_home 35 = .ok (.iinc 1 1, 3) := by decide +kernel
theorem dX5_home_38 : decode cX5_home 38 = .ok (.aload_n 0, 1) := by decide +kernel
theorem dX5_home_39 : decode cX5_home 39 = .ok (.getfield 224, 3) := by decide +kernel
theorem dX5_home_42 : decode cX5_home 42 = .ok (.ifCond .eq 24, 3) := by decide +kernel
theorem dX5_home_45 : decode cX5_home 45 = .ok (.aload_n 0, 1) := by decide +kernel
theorem dX5_home_46 : decode cX5_home 46 = .ok (.getfield 186, 3) := by decide +kernel
theorem dX5_home_49 : decode cX5_home 49 = .ok (.iconst 3, 1) := by decide +kernel
theorem dX5_home_50 : decode cX5_home 50 = .ok (.if_icmp .ne 16, 3) := by decide +kernel
theorem dX5_home_53 : decode cX5_home 53 = .ok (.aload_n 0, 1) := by decide +kernel
theorem dX5_home_54 : decode cX5_home 54 = .ok (.getfield 193, 3) := by decide +kernel
theorem dX5_home_57 : decode cX5_home 57 = .ok (.bipush 59, 2) := by decide +kernel
theorem dX5_home_59 : decode cX5_home 59 = .ok (.if_icmp .ne 7, 3) := by decide +kernel
theorem dX5_home_62 : decode cX5_home 62 = .ok (.iconst 1, 1) := by decide +kernel
theorem dX5_home_63 : decode cX5_home 63 = .ok (.goto 4, 3) := by decide +kernel
theorem dX5_home_66 : decode cX5_home 66 = .ok (.iconst 0, 1) := by decide +kernel
theorem dX5_home_67 : decode cX5_home 67 = .ok (.istore_n 2, 1) := by decide +kernel
theorem dX5_home_68 : decode cX5_home 68 = .ok (.goto (-45), 3) := by decide +kernel
theorem dX5_home_71 : decode cX5_home 71 = .ok (.aload_n 0, 1) := by decide +kernel
theorem dX5_home_72 : decode cX5_home 72 = .ok (.aload_n 0, 1) := by decide +kernel
theorem dX5_home_73 : decode cX5_home 73 = .ok (.getfield 224, 3) := by decide +kernel
theorem dX5_home_76 : decode cX5_home 76 = .ok (.ifCond .eq 14, 3) := by decide +kernel
theorem dX5_home_79 : decode cX5_home 79 = .ok (.aload_n 0, 1) := by decide +kernel
theorem dX5_home_80 : decode cX5_home 80 = .ok (.getfield 186, 3) := by decide +kernel
theorem dX5_home_83 : decode cX5_home 83 = .ok (.ifCond .ne 7, 3) := by decide +kernel
theorem dX5_home_86 : decode cX5_home 86 = .ok (.iconst 1, 1) := by decide +kernel
theorem dX5_home_87 : decode cX5_home 87 = .ok (.goto 4, 3) := by decide +kernel
theorem dX5_home_90 : decode cX5_home 90 = .ok (.iconst 0, 1) := by decide +kernel
theorem dX5_home_91 : decode cX5_home 91 = .ok (.putfield 224, 3) := by decide +kernel
theorem dX5_home_94 : decode cX5_home 94 = .ok (.aload_n 0, 1) := by decide +kernel
theorem dX5_home_95 : decode cX5_home 95 = .ok (.iconst 0, 1) := by decide +kernel
theorem dX5_home_96 : decode cX5_home 96 = .ok (.putfield 167, 3) := by decide +kernel
theorem dX5_home_99 : decode cX5_home 99 = .ok (.aload_n 0, 1) := by decide +kernel
theorem dX5_home_100 : decode cX5_home 100 = .ok (.getfield 224, 3) := by decide +kernel
theorem dX5_home_103 : decode cX5_home 103 = .ok (.ifCond .ne 19, 3) := by decide +kernel
theorem dX5_home_106 : decode cX5_home 106 = .ok (.aload_n 0, 1) := by decide +kernel
theorem dX5_home_107 : decode cX5_home 107 = .ok (.iconst 0, 1) := by decide +kernel
theorem dX5_home_108 : decode cX5_home 108 = .ok (.aload_n 0, 1) := by decide +kernel
theorem dX5_home_109 : decode cX5_home 109 = .ok (.getfield 41, 3) := by decide +kernel
theorem dX5_home_112 : decode cX5_home 112 = .ok (.invokevirtual 153, 3) := by decide +kernel
theorem dX5_home_115 : decode cX5_home 115 = .ok (.iconst (-1), 1) := by decide +kernel
theorem dX5_home_116 : decode cX5_home 116 = .ok (.aload_n 0, 1) := by decide +kernel
theorem dX5_home_117 : decode cX5_home 117 = .ok (.getfield 174, 3) := by decide +kernel
theorem dX5_home_120 : decode cX5_home 120 = .ok (.isub, 1) := by decide +kernel
theorem dX5_home_121 : decode cX5_home 121 = .ok (.ireturn, 1) := by decide +kernel
theorem dX5_home_122 : decode cX5_home 122 = .ok (.iload_n 1, 1) := by decide +kernel
theorem dX5_home_123 : decode cX5_home 123 = .ok (.ireturn, 1) := by decide +kernel
theorem dX5_isSheet_0 : decode cX5_isSheet 0 = .ok (.iload_n 0, 1) := by decide +kernel
theorem dX5_isSheet_1 : decode cX5_isSheet 1 = .ok (.iconst 0, 1) := by decide +kernel
theorem dX5_isSheet_2 : decode cX5_isSheet 2 = .ok (.iconst 3, 1) := by decide +kernel
theorem dX5_isSheet_3 : decode cX5_isSheet 3 = .ok (.invokestatic 45, 3) := by decide +kernel
theorem dX5_isSheet_6 : decode cX5_isSheet 6 = .ok (.ireturn, 1) := by decide +kernel
theorem dX5_narrow_0 : decode cX5_narrow 0 = .ok (.iload_n 0, 1) := by decide +kernel
theorem dX5_narrow_1 : decode cX5_narrow 1 = .ok (.bipush 8, 2) := by decide +kernel
theorem dX5_narrow_3 : decode cX5_narrow 3 = .ok (.if_icmp .ne 13, 3) := by decide +kernel
theorem dX5_narrow_6 : decode cX5_narrow 6 = .ok (.lload_n 1, 1) := by decide +kernel
theorem dX5_narrow_7 : decode cX5_narrow 7 = .ok (.bipush 56, 2) := by decide +kernel
theorem dX5_narrow_9 : decode cX5_narrow 9 = .ok (.lshl, 1) := by decide +kernel
theorem dX5_narrow_10 : decode cX5_narrow 10 = .ok (.bipush 56, 2) := by decide +kernel
theorem dX5_narrow_12 : decode cX5_narrow 12 = .ok (.lshr, 1) := by decide +kernel
theorem dX5_narrow_13 : decode cX5_narrow 13 = .ok (.goto 20, 3) := by decide +kernel
theorem dX5_narrow_16 : decode cX5_narrow 16 = .ok (.iload_n 0, 1) := by decide +kernel
theorem dX5_narrow_17 : decode cX5_narrow 17 = .ok (.bipush 16, 2) := by decide +kernel
theorem dX5_narrow_19 : decode cX5_narrow 19 = .ok (.if_icmp .ne 13, 3) := by decide +kernel
theorem dX5_narrow_22 : decode cX5_narrow 22 = .ok (.lload_n 1, 1) := by decide +kernel
theorem dX5_narrow_23 : decode cX5_narrow 23 = .ok (.bipush 48, 2) := by decide +kernel
theorem dX5_narrow_25 : decode cX5_narrow 25 = .ok (.lshl, 1) := by decide +kernel
theorem dX5_narrow_26 : decode cX5_narrow 26 = .ok (.bipush 48, 2) := by decide +kernel
theorem dX5_narrow_28 : decode cX5_narrow 28 = .ok (.lshr, 1) := by decide +kernel
theorem dX5_narrow_29 : decode cX5_narrow 29 = .ok (.goto 4, 3) := by decide +kernel
theorem dX5_narrow_32 : decode cX5_narrow 32 = .ok (.lload_n 1, 1) := by decide +kernel
theorem dX5_narrow_33 : decode cX5_narrow 33 = .ok (.lreturn, 1) := by decide +kernel
theorem dX5_sheet_0 : decode cX5_sheet 0 = .ok (.iload_n 1, 1) := by decide +kernel
theorem dX5_sheet_1 : decode cX5_sheet 1 = .ok (.invokestatic 263, 3) := by decide +kernel
theorem dX5_sheet_4 : decode cX5_sheet 4 = .ok (.ifCond .eq 25, 3) := by decide +kernel
theorem dX5_sheet_7 : decode cX5_sheet 7 = .ok (.iload_n 2, 1) := by decide +kernel
theorem dX5_sheet_8 : decode cX5_sheet 8 = .ok (.ifCond .eq 28, 3) := by decide +kernel
theorem dX5_sheet_11 : decode cX5_sheet 11 = .ok (.iload_n 2, 1) := by decide +kernel
theorem dX5_sheet_12 : decode cX5_sheet 12 = .ok (.bipush 8, 2) := by decide +kernel
theorem dX5_sheet_14 : decode cX5_sheet 14 = .ok (.if_icmp .eq 22, 3) := by decide +kernel
theorem dX5_sheet_17 : decode cX5_sheet 17 = .ok (.iload_n 2, 1) := by decide +kernel
theorem dX5_sheet_18 : decode cX5_sheet 18 = .ok (.bipush 16, 2) := by decide +kernel
theorem dX5_sheet_20 : decode cX5_sheet 20 = .ok (.if_icmp .eq 16, 3) := by decide +kernel
theorem dX5_sheet_23 : decode cX5_sheet 23 = .ok (.iload_n 2, 1) := by decide +kernel
theorem dX5_sheet_24 : decode cX5_sheet 24 = .ok (.bipush 64, 2) := by decide +kernel
theorem dX5_sheet_26 : decode cX5_sheet 26 = .ok (.if_icmp .eq 10, 3) := by decide +kernel
theorem dX5_sheet_29 : decode cX5_sheet 29 = .ok (.aload_n 0, 1) := by decide +kernel
theorem dX5_sheet_30 : decode cX5_sheet 30 = .ok (.ldc 44, 2) := by decide +kernel
theorem dX5_sheet_32 : decode cX5_sheet 32 = .ok (.invokevirtual 73, 3) := by decide +kernel
theorem dX5_sheet_35 : decode cX5_sheet 35 = .ok (.ireturn, 1) := by decide +kernel
theorem dX5_sheet_36 : decode cX5_sheet 36 = .ok (.iload_n 3, 1) := by decide +kernel
theorem dX5_sheet_37 : decode cX5_sheet 37 = .ok (.ifCond .ge 11, 3) := by decide +kernel
theorem dX5_sheet_40 : decode cX5_sheet 40 = .ok (.aload_n 0, 1) := by decide +kernel
theorem dX5_sheet_41 : decode cX5_sheet 41 = .ok (.ldc_w 266, 3) := by decide +kernel
theorem dX5_sheet_44 : decode cX5_sheet 44 = .ok (.invokevirtual 73, 3) := by decide +kernel
theorem dX5_sheet_47 : decode cX5_sheet 47 = .ok (.ireturn, 1) := by decide +kernel
theorem dX5_sheet_48 : decode cX5_sheet 48 = .ok (.iload_n 3, 1) := by decide +kernel
theorem dX5_sheet_49 : decode cX5_sheet 49 = .ok (.bipush 40, 2) := by decide +kernel
theorem dX5_sheet_51 : decode cX5_sheet 51 = .ok (.if_icmp .le 10, 3) := by decide +kernel
theorem dX5_sheet_54 : decode cX5_sheet 54 = .ok (.aload_n 0, 1) := by decide +kernel
theorem dX5_sheet_55 : decode cX5_sheet 55 = .ok (.ldc 44, 2) := by decide +kernel
theorem dX5_sheet_57 : decode cX5_sheet 57 = .ok (.invokevirtual 73, 3) := by decide +kernel
theorem dX5_sheet_60 : decode cX5_sheet 60 = .ok (.ireturn, 1) := by decide +kernel
theorem dX5_sheet_61 : decode cX5_sheet 61 = .ok (.aload_n 0, 1) := by decide +kernel
theorem dX5_sheet_62 : decode cX5_sheet 62 = .ok (.getfield 25, 3) := by decide +kernel
theorem dX5_sheet_65 : decode cX5_sheet 65 = .ok (.iload_n 1, 1) := by decide +kernel
theorem dX5_sheet_66 : decode cX5_sheet 66 = .ok (.iload_n 2, 1) := by decide +kernel
theorem dX5_sheet_67 : decode cX5_sheet 67 = .ok (.iastore, 1) := by decide +kernel
theorem dX5_sheet_68 : decode cX5_sheet 68 = .ok (.aload_n 0, 1) := by decide +kernel
theorem dX5_sheet_69 : decode cX5_sheet 69 = .ok (.getfield 28, 3) := by decide +kernel
theorem dX5_sheet_72 : decode cX5_sheet 72 = .ok (.iload_n 1, 1) := by decide +kernel
theorem dX5_sheet_73 : decode cX5_sheet 73 = .ok (.iload_n 2, 1) := by decide +kernel
theorem dX5_sheet_74 : decode cX5_sheet 74 = .ok (.ifCond .ne 7, 3) := by decide +kernel
theorem dX5_sheet_77 : decode cX5_sheet 77 = .ok (.iconst 0, 1) := by decide +kernel
theorem dX5_sheet_78 : decode cX5_sheet 78 = .ok (.goto 4, 3) := by decide +kernel
theorem dX5_sheet_81 : decode cX5_sheet 81 = .ok (.iload_n 3, 1) := by decide +kernel
theorem dX5_sheet_82 : decode cX5_sheet 82 = .ok (.iastore, 1) := by decide +kernel
theorem dX5_sheet_83 : decode cX5_sheet 83 = .ok (.iconst 0, 1) := by decide +kernel
theorem dX5_sheet_84 : decode cX5_sheet 84 = .ok (.istore 4, 2) := by decide +kernel
theorem dX5_sheet_86 : decode cX5_sheet 86 = .ok (.iload 4, 2) := by decide +kernel
theorem dX5_sheet_88 : decode cX5_sheet 88 = .ok (.bipush 40, 2) := by decide +kernel
theorem dX5_sheet_90 : decode cX5_sheet 90 = .ok (.if_icmp .ge 22, 3) := by decide +kernel
theorem dX5_sheet_93 : decode cX5_sheet 93 = .ok (.aload_n 0, 1) := by decide +kernel
theorem dX5_sheet_94 : decode cX5_sheet 94 = .ok (.getfield 31, 3) := by decide +kernel
theorem dX5_sheet_97 : decode cX5_sheet 97 = .ok (.bipush 40, 2) := by decide +kernel
theorem dX5_sheet_99 : decode cX5_sheet 99 = .ok (.iload_n 1, 1) := by decide +kernel
theorem dX5_sheet_100 : decode cX5_sheet 100 = .ok (.imul, 1) := by decide +kernel
theorem dX5_sheet_101 : decode cX5_sheet 101 = .ok (.iload 4, 2) := by decide +kernel
theorem dX5_sheet_103 : decode cX5_sheet 103 = .ok (.iadd, 1) := by decide +kernel
theorem dX5_sheet_104 : decode cX5_sheet 104 = .ok (.lconst 0, 1) := by decide +kernel
theorem dX5_sheet_105 : decode cX5_sheet 105 = .ok (.lastore, 1) := by decide +kernel
theorem dX5_sheet_106 : decode cX5_sheet 106 = .ok (.iinc 4 1, 3) := by decide +kernel
theorem dX5_sheet_109 : decode cX5_sheet 109 = .ok (.goto (-23), 3) := by decide +kernel
theorem dX5_sheet_112 : decode cX5_sheet 112 = .ok (.aload_n 0, 1) := by decide +kernel
theorem dX5_sheet_113 : decode cX5_sheet 113 = .ok (.getfield 28, 3) := by decide +kernel
theorem dX5_sheet_116 : decode cX5_sheet 116 = .ok (.iload_n 1, 1) := by decide +kernel
theorem dX5_sheet_117 : decode cX5_sheet 117 = .ok (.iaload, 1) := by decide +kernel
theorem dX5_sheet_118 : decode cX5_sheet 118 = .ok (.ireturn, 1) := by decide +kernel
theorem dX5_write_0 : decode cX5_write 0 = .ok (.iload_n 1, 1) := by decide +kernel
