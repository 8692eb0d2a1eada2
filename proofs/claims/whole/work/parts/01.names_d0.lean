theorem dX0_init_0 : decode cX0_init 0 = .ok (.aload_n 0, 1) := by decide +kernel
theorem dX0_init_1 : decode cX0_init 1 = .ok (.invokespecial 3, 3) := by decide +kernel
theorem dX0_init_4 : decode cX0_init 4 = .ok (.aload_n 0, 1) := by decide +kernel
theorem dX0_init_5 : decode cX0_init 5 = .ok (.iconst 0, 1) := by decide +kernel
theorem dX0_init_6 : decode cX0_init 6 = .ok (.putfield 9, 3) := by decide +kernel
theorem dX0_init_9 : decode cX0_init 9 = .ok (.aload_n 0, 1) := by decide +kernel
theorem dX0_init_10 : decode cX0_init 10 = .ok (.bipush 60, 2) := by decide +kernel
theorem dX0_init_12 : decode cX0_init 12 = .ok (.putfield 15, 3) := by decide +kernel
theorem dX0_init_15 : decode cX0_init 15 = .ok (.aload_n 0, 1) := by decide +kernel
theorem dX0_init_16 : decode cX0_init 16 = .ok (.iconst 0, 1) := by decide +kernel
theorem dX0_init_17 : decode cX0_init 17 = .ok (.putfield 18, 3) := by decide +kernel
theorem dX0_init_20 : decode cX0_init 20 = .ok (.aload_n 0, 1) := by decide +kernel
theorem dX0_init_21 : decode cX0_init 21 = .ok (.bipush 6, 2) := by decide +kernel
theorem dX0_init_23 : decode cX0_init 23 = .ok (.newarray .int, 2) := by decide +kernel
theorem dX0_init_25 : decode cX0_init 25 = .ok (.putfield 21, 3) := by decide +kernel
theorem dX0_init_28 : decode cX0_init 28 = .ok (.aload_n 0, 1) := by decide +kernel
theorem dX0_init_29 : decode cX0_init 29 = .ok (.bipush 6, 2) := by decide +kernel
theorem dX0_init_31 : decode cX0_init 31 = .ok (.newarray .int, 2) := by decide +kernel
theorem dX0_init_33 : decode cX0_init 33 = .ok (.putfield 25, 3) := by decide +kernel
theorem dX0_init_36 : decode cX0_init 36 = .ok (.aload_n 0, 1) := by decide +kernel
theorem dX0_init_37 : decode cX0_init 37 = .ok (.bipush 6, 2) := by decide +kernel
theorem dX0_init_39 : decode cX0_init 39 = .ok (.newarray .int, 2) := by decide +kernel
theorem dX0_init_41 : decode cX0_init 41 = .ok (.putfield 28, 3) := by decide +kernel
theorem dX0_init_44 : decode cX0_init 44 = .ok (.aload_n 0, 1) := by decide +kernel
theorem dX0_init_45 : decode cX0_init 45 = .ok (.bipush 6, 2) := by decide +kernel
theorem dX0_init_47 : decode cX0_init 47 = .ok (.newarray .int, 2) := by decide +kernel
theorem dX0_init_49 : decode cX0_init 49 = .ok (.putfield 31, 3) := by decide +kernel
theorem dX0_init_52 : decode cX0_init 52 = .ok (.aload_n 0, 1) := by decide +kernel
theorem dX0_init_53 : decode cX0_init 53 = .ok (.iconst 0, 1) := by decide +kernel
theorem dX0_init_54 : decode cX0_init 54 = .ok (.putfield 34, 3) := by decide +kernel
theorem dX0_init_57 : decode cX0_init 57 = .ok (.aload_n 0, 1) := by decide +kernel
theorem dX0_init_58 : decode cX0_init 58 = .ok (.bipush 10, 2) := by decide +kernel
theorem dX0_init_60 : decode cX0_init 60 = .ok (.newarray .int, 2) := by decide +kernel
theorem dX0_init_62 : decode cX0_init 62 = .ok (.putfield 37, 3) := by decide +kernel
theorem dX0_init_65 : decode cX0_init 65 = .ok (.aload_n 0, 1) := by decide +kernel
theorem dX0_init_66 : decode cX0_init 66 = .ok (.bipush 10, 2) := by decide +kernel
theorem dX0_init_68 : decode cX0_init 68 = .ok (.newarray .int, 2) := by decide +kernel
theorem dX0_init_70 : decode cX0_init 70 = .ok (.putfield 40, 3) := by decide +kernel
theorem dX0_init_73 : decode cX0_init 73 = .ok (.aload_n 0, 1) := by decide +kernel
theorem dX0_init_74 : decode cX0_init 74 = .ok (.bipush 10, 2) := by decide +kernel
theorem dX0_init_76 : decode cX0_init 76 = .ok (.newarray .int, 2) := by decide +kernel
theorem dX0_init_78 : decode cX0_init 78 = .ok (.putfield 43, 3) := by decide +kernel
theorem dX0_init_81 : decode cX0_init 81 = .ok (.aload_n 0, 1) := by decide +kernel
theorem dX0_init_82 : decode cX0_init 82 = .ok (.bipush 10, 2) := by decide +kernel
theorem dX0_init_84 : decode cX0_init 84 = .ok (.newarray .int, 2) := by decide +kernel
theorem dX0_init_86 : decode cX0_init 86 = .ok (.putfield 46, 3) := by decide +kernel
theorem dX0_init_89 : decode cX0_init 89 = .ok (.aload_n 0, 1) := by decide +kernel
theorem dX0_init_90 : decode cX0_init 90 = .ok (.bipush 6, 2) := by decide +kernel
theorem dX0_init_92 : decode cX0_init 92 = .ok (.newarray .int, 2) := by decide +kernel
theorem dX0_init_94 : decode cX0_init 94 = .ok (.putfield 49, 3) := by decide +kernel
theorem dX0_init_97 : decode cX0_init 97 = .ok (.aload_n 0, 1) := by decide +kernel
theorem dX0_init_98 : decode cX0_init 98 = .ok (.bipush 6, 2) := by decide +kernel
theorem dX0_init_100 : decode cX0_init 100 = .ok (.newarray .int, 2) := by decide +kernel
theorem dX0_init_102 : decode cX0_init 102 = .ok (.putfield 52, 3) := by decide +kernel
theorem dX0_init_105 : decode cX0_init 105 = .ok (.return_, 1) := by decide +kernel
theorem dX0_become_0 : decode cX0_become 0 = .ok (.aload_n 0, 1) := by decide +kernel
theorem dX0_become_1 : decode cX0_become 1 = .ok (.aload_n 1, 1) := by decide +kernel
theorem dX0_become_2 : decode cX0_become 2 = .ok (.getfield 9, 3) := by decide +kernel
theorem dX0_become_5 : decode cX0_become 5 = .ok (.putfield 9, 3) := by decide +kernel
theorem dX0_become_8 : decode cX0_become 8 = .ok (.aload_n 0, 1) := by decide +kernel
theorem dX0_become_9 : decode cX0_become 9 = .ok (.aload_n 1, 1) := by decide +kernel
theorem dX0_become_10 : decode cX0_become 10 = .ok (.getfield 15, 3) := by decide +kernel
theorem dX0_become_13 : decode cX0_become 13 = .ok (.putfield 15, 3) := by decide +kernel
theorem dX0_become_16 : decode cX0_become 16 = .ok (.aload_n 0, 1) := by decide +kernel
theorem dX0_become_17 : decode cX0_become 17 = .ok (.aload_n 1, 1) := by decide +kernel
theorem dX0_become_18 : decode cX0_become 18 = .ok (.getfield 18, 3) := by decide +kernel
theorem dX0_become_21 : decode cX0_become 21 = .ok (.putfield 18, 3) := by decide +kernel
theorem dX0_become_24 : decode cX0_become 24 = .ok (.aload_n 1, 1) := by decide +kernel
theorem dX0_become_25 : decode cX0_become 25 = .ok (.getfield 21, 3) := by decide +kernel
theorem dX0_become_28 : decode cX0_become 28 = .ok (.iconst 0, 1) := by decide +kernel
theorem dX0_become_29 : decode cX0_become 29 = .ok (.aload_n 0, 1) := by decide +kernel
theorem dX0_become_30 : decode cX0_become 30 = .ok (.getfield 21, 3) := by decide +kernel
theorem dX0_become_33 : decode cX0_become 33 = .ok (.iconst 0, 1) := by decide +kernel
theorem dX0_become_34 : decode cX0_become 34 = .ok (.bipush 6, 2) := by decide +kernel
theorem dX0_become_36 : decode cX0_become 36 = .ok (.invokestatic 55, 3) := by decide +kernel
theorem dX0_become_39 : decode cX0_become 39 = .ok (.aload_n 1, 1) := by decide +kernel
theorem dX0_become_40 : decode cX0_become 40 = .ok (.getfield 25, 3) := by decide +kernel
theorem dX0_become_43 : decode cX0_become 43 = .ok (.iconst 0, 1) := by decide +kernel
theorem dX0_become_44 : decode cX0_become 44 = .ok (.aload_n 0, 1) := by decide +kernel
theorem dX0_become_45 : decode cX0_become 45 = .ok (.getfield 25, 3) := by decide +kernel
theorem dX0_become_48 : decode cX0_become 48 = .ok (.iconst 0, 1) := by decide +kernel
theorem dX0_become_49 : decode cX0_become 49 = .ok (.bipush 6, 2) := by decide +kernel
theorem dX0_become_51 : decode cX0_become 51 = .ok (.invokestatic 55, 3) := by decide +kernel
theorem dX0_become_54 : decode cX0_become 54 = .ok (.aload_n 1, 1) := by decide +kernel
theorem dX0_become_55 : decode cX0_become 55 = .ok (.getfield 28, 3) := by decide +kernel
theorem dX0_become_58 : decode cX0_become 58 = .ok (.iconst 0, 1) := by decide +kernel
theorem dX0_become_59 : decode cX0_become 59 = .ok (.aload_n 0, 1) := by decide +kernel
theorem dX0_become_60 : decode cX0_become 60 = .ok (.getfield 28, 3) := by decide +kernel
theorem dX0_become_63 : decode cX0_become 63 = .ok (.iconst 0, 1) := by decide +kernel
theorem dX0_become_64 : decode cX0_become 64 = .ok (.bipush 6, 2) := by decide +kernel
theorem dX0_become_66 : decode cX0_become 66 = .ok (.invokestatic 55, 3) := by decide +kernel
theorem dX0_become_69 : decode cX0_become 69 = .ok (.aload_n 1, 1) := by decide +kernel
theorem dX0_become_70 : decode cX0_become 70 = .ok (.getfield 31, 3) := by decide +kernel
theorem dX0_become_73 : decode cX0_become 73 = .ok (.iconst 0, 1) := by decide +kernel
theorem dX0_become_74 : decode cX0_become 74 = .ok (.aload_n 0, 1) := by decide +kernel
theorem dX0_become_75 : decode cX0_become 75 = .ok (.getfield 31, 3) := by decide +kernel
theorem dX0_become_78 : decode cX0_become 78 = .ok (.iconst 0, 1) := by decide +kernel
theorem dX0_become_79 : decode cX0_become 79 = .ok (.bipush 6, 2) := by decide +kernel
theorem dX0_become_81 : decode cX0_become 81 = .ok (.invokestatic 55, 3) := by decide +kernel
theorem dX0_become_84 : decode cX0_become 84 = .ok (.aload_n 0, 1) := by decide +kernel
theorem dX0_become_85 : decode cX0_become 85 = .ok (.aload_n 1, 1) := by decide +kernel
theorem dX0_become_86 : decode cX0_become 86 = .ok (.getfield 34, 3) := by decide +kernel
theorem dX0_become_89 : decode cX0_become 89 = .ok (.putfield 34, 3) := by decide +kernel
theorem dX0_become_92 : decode cX0_become 92 = .ok (.aload_n 1, 1) := by decide +kernel
theorem dX0_become_93 : decode cX0_become 93 = .ok (.getfield 37, 3) := by decide +kernel
theorem dX0_become_96 : decode cX0_become 96 = .ok (.iconst 0, 1) := by decide +kernel
theorem dX0_become_97 : decode cX0_become 97 = .ok (.aload_n 0, 1) := by decide +kernel
theorem dX0_become_98 : decode cX0_become 98 = .ok (.getfield 37, 3) := by decide +kernel
theorem dX0_become_101 : decode cX0_become 101 = .ok (.iconst 0, 1) := by decide +kernel
theorem dX0_become_102 : decode cX0_become 102 = .ok (.bipush 10, 2) := by decide +kernel
theorem dX0_become_104 : decode cX0_become 104 = .ok (.invokestatic 55, 3) := by decide +kernel
theorem dX0_become_107 : decode cX0_become 107 = .ok (.aload_n 1, 1) := by decide +kernel
theorem dX0_become_108 : decode cX0_become 108 = .ok (.getfield 40, 3) := by decide +kernel
theorem dX0_become_111 : decode cX0_become 111 = .ok (.iconst 0, 1) := by decide +kernel
theorem dX0_become_112 : decode cX0_become 112 = .ok (.aload_n 0, 1) := by decide +kernel
theorem dX0_become_113 : decode cX0_become 113 = .ok (.getfield 40, 3) := by decide +kernel
theorem dX0_become_116 : decode cX0_become 116 = .ok (.iconst 0, 1) := by decide +kernel
theorem dX0_become_117 : decode cX0_become 117 = .ok (.bipush 10, 2) := by decide +kernel
theorem dX0_become_119 : decode cX0_become 119 = .ok (.invokestatic 55, 3) := by decide +kernel
theorem dX0_become_122 : decode cX0_become 122 = .ok (.aload_n 1, 1) := by decide +kernel
theorem dX0_become_123 : decode cX0_become 123 = .ok (.getfield 43, 3) := by decide +kernel
theorem dX0_become_126 : decode cX0_become 126 = .ok (.iconst 0, 1) := by decide +kernel
theorem dX0_become_127 : decode cX0_become 127 = .ok (.aload_n 0, 1) := by decide +kernel
theorem dX0_become_128 : decode cX0_become 128 = .ok (.getfield 43, 3) := by decide +kernel
theorem dX0_become_131 : decode cX0_become 131 = .ok (.iconst 0, 1) := by decide +kernel
theorem dX0_become_132 : decode cX0_become 132 = .ok (.bipush 10, 2) := by decide +kernel
theorem dX0_become_134 : decode cX0_become 134 = .ok (.invokestatic 55, 3) := by decide +kernel
theorem dX0_become_137 : decode cX0_become 137 = .ok (.aload_n 1, 1) := by decide +kernel
theorem dX0_become_138 : decode cX0_become 138 = .ok (.getfield 46, 3) := by decide +kernel
theorem dX0_become_141 : decode cX0_become 141 = .ok (.iconst 0, 1) := by decide +kernel
theorem dX0_become_142 : decode cX0_become 142 = .ok (.aload_n 0, 1) := by decide +kernel
theorem dX0_become_143 : decode cX0_become 143 = .ok (.getfield 46, 3) := by decide +kernel
theorem dX0_become_146 : decode cX0_become 146 = .ok (.iconst 0, 1) := by decide +kernel
theorem dX0_become_147 : decode cX0_become 147 = .ok (.bipush 10, 2) := by decide +kernel
theorem dX0_become_149 : decode cX0_become 149 = .ok (.invokestatic 55, 3) := by decide +kernel
theorem dX0_become_152 : decode cX0_become 152 = .ok (.return_, 1) := by decide +kernel
theorem dX0_hasPerson_0 : decode cX0_hasPerson 0 = .ok (.iload_n 1, 1) := by decide +kernel
theorem dX0_hasPerson_1 : decode cX0_hasPerson 1 = .ok (.iconst 0, 1) := by decide +kernel
theorem dX0_hasPerson_2 : decode cX0_hasPerson 2 = .ok (.aload_n 0, 1) := by decide +kernel
theorem dX0_hasPerson_3 : decode cX0_hasPerson 3 = .ok (.getfield 18, 3) := by decide +kernel
theorem dX0_hasPerson_6 : decode cX0_hasPerson 6 = .ok (.iconst 1, 1) := by decide +kernel
theorem dX0_hasPerson_7 : decode cX0_hasPerson 7 = .ok (.isub, 1) := by decide +kernel
theorem dX0_hasPerson_8 : decode cX0_hasPerson 8 = .ok (.invokestatic 61, 3) := by decide +kernel
theorem dX0_hasPerson_11 : decode cX0_hasPerson 11 = .ok (.ireturn, 1) := by decide +kernel
theorem dX0_hasGarment_0 : decode cX0_hasGarment 0 = .ok (.iload_n 1, 1) := by decide +kernel
theorem dX0_hasGarment_1 : decode cX0_hasGarment 1 = .ok (.iconst 0, 1) := by decide +kernel
theorem dX0_hasGarment_2 : decode cX0_hasGarment 2 = .ok (.aload_n 0, 1) := by decide +kernel
theorem dX0_hasGarment_3 : decode cX0_hasGarment 3 = .ok (.getfield 34, 3) := by decide +kernel
theorem dX0_hasGarment_6 : decode cX0_hasGarment 6 = .ok (.iconst 1, 1) := by decide +kernel
theorem dX0_hasGarment_7 : decode cX0_hasGarment 7 = .ok (.isub, 1) := by decide +kernel
theorem dX0_hasGarment_8 : decode cX0_hasGarment 8 = .ok (.invokestatic 61, 3) := by decide +kernel
theorem dX0_hasGarment_11 : decode cX0_hasGarment 11 = .ok (.ireturn, 1) := by decide +kernel
theorem dX0_addPerson_0 : decode cX0_addPerson 0 = .ok (.aload_n 0, 1) := by decide +kernel
theorem dX0_addPerson_1 : decode cX0_addPerson 1 = .ok (.getfield 18, 3) := by decide +kernel
theorem dX0_addPerson_4 : decode cX0_addPerson 4 = .ok (.istore_n 2, 1) := by decide +kernel
theorem dX0_addPerson_5 : decode cX0_addPerson 5 = .ok (.aload_n 0, 1) := by decide +kernel
theorem dX0_addPerson_6 : decode cX0_addPerson 6 = .ok (.getfield 21, 3) := by decide +kernel
theorem dX0_addPerson_9 : decode cX0_addPerson 9 = .ok (.iload_n 2, 1) := by decide +kernel
theorem dX0_addPerson_10 : decode cX0_addPerson 10 = .ok (.iload_n 1, 1) := by decide +kernel
theorem dX0_addPerson_11 : decode cX0_addPerson 11 = .ok (.iastore, 1) := by decide +kernel
theorem dX0_addPerson_12 : decode cX0_addPerson 12 = .ok (.aload_n 0, 1) := by decide +kernel
theorem dX0_addPerson_13 : decode cX0_addPerson 13 = .ok (.getfield 25, 3) := by decide +kernel
theorem dX0_addPerson_16 : decode cX0_addPerson 16 = .ok (.iload_n 2, 1) := by decide +kernel
theorem dX0_addPerson_17 : decode cX0_addPerson 17 = .ok (.iload_n 2, 1) := by decide +kernel
theorem dX0_addPerson_18 : decode cX0_addPerson 18 = .ok (.iconst 3, 1) := by decide +kernel
theorem dX0_addPerson_19 : decode cX0_addPerson 19 = .ok (.irem, 1) := by decide +kernel
theorem dX0_addPerson_20 : decode cX0_addPerson 20 = .ok (.iastore, 1) := by decide +kernel
theorem dX0_addPerson_21 : decode cX0_addPerson 21 = .ok (.aload_n 0, 1) := by decide +kernel
theorem dX0_addPerson_22 : decode cX0_addPerson 22 = .ok (.getfield 28, 3) := by decide +kernel
theorem dX0_addPerson_25 : decode cX0_addPerson 25 = .ok (.iload_n 2, 1) := by decide +kernel
theorem dX0_addPerson_26 : decode cX0_addPerson 26 = .ok (.iconst 0, 1) := by decide +kernel
theorem dX0_addPerson_27 : decode cX0_addPerson 27 = .ok (.iastore, 1) := by decide +kernel
theorem dX0_addPerson_28 : decode cX0_addPerson 28 = .ok (.aload_n 0, 1) := by decide +kernel
theorem dX0_addPerson_29 : decode cX0_addPerson 29 = .ok (.getfield 31, 3) := by decide +kernel
theorem dX0_addPerson_32 : decode cX0_addPerson 32 = .ok (.iload_n 2, 1) := by decide +kernel
theorem dX0_addPerson_33 : decode cX0_addPerson 33 = .ok (.iconst 0, 1) := by decide +kernel
theorem dX0_addPerson_34 : decode cX0_addPerson 34 = .ok (.iastore, 1) := by decide +kernel
theorem dX0_addPerson_35 : decode cX0_addPerson 35 = .ok (.aload_n 0, 1) := by decide +kernel
theorem dX0_addPerson_36 : decode cX0_addPerson 36 = .ok (.dup, 1) := by decide +kernel
theorem dX0_addPerson_37 : decode cX0_addPerson 37 = .ok (.getfield 18, 3) := by decide +kernel
theorem dX0_addPerson_40 : decode cX0_addPerson 40 = .ok (.iconst 1, 1) := by decide +kernel
theorem dX0_addPerson_41 : decode cX0_addPerson 41 = .ok (.iadd, 1) := by decide +kernel
theorem dX0_addPerson_42 : decode cX0_addPerson 42 = .ok (.putfield 18, 3) := by decide +kernel
theorem dX0_addPerson_45 : decode cX0_addPerson 45 = .ok (.iload_n 2, 1) := by decide +kernel
theorem dX0_addPerson_46 : decode cX0_addPerson 46 = .ok (.ireturn, 1) := by decide +kernel
theorem dX0_addGarment_0 : decode cX0_addGarment 0 = .ok (.aload_n 0, 1) := by decide +kernel
theorem dX0_addGarment_1 : decode cX0_addGarment 1 = .ok (.getfield 34, 3) := by decide +kernel
theorem dX0_addGarment_4 : decode cX0_addGarment 4 = .ok (.istore_n 3, 1) := by decide +kernel
theorem dX0_addGarment_5 : decode cX0_addGarment 5 = .ok (.aload_n 0, 1) := by decide +kernel
theorem dX0_addGarment_6 : decode cX0_addGarment 6 = .ok (.getfield 37, 3) := by decide +kernel
theorem dX0_addGarment_9 : decode cX0_addGarment 9 = .ok (.iload_n 3, 1) := by decide +kernel
theorem dX0_addGarment_10 : decode cX0_addGarment 10 = .ok (.iload_n 1, 1) := by decide +kernel
theorem dX0_addGarment_11 : decode cX0_addGarment 11 = .ok (.iastore, 1) := by decide +kernel
theorem dX0_addGarment_12 : decode cX0_addGarment 12 = .ok (.aload_n 0, 1) := by decide +kernel
theorem dX0_addGarment_13 : decode cX0_addGarment 13 = .ok (.getfield 40, 3) := by decide +kernel
theorem dX0_addGarment_16 : decode cX0_addGarment 16 = .ok (.iload_n 3, 1) := by decide +kernel
theorem dX0_addGarment_17 : decode cX0_addGarment 17 = .ok (.iload_n 2, 1) := by decide +kernel
theorem dX0_addGarment_18 : decode cX0_addGarment 18 = .ok (.iastore, 1) := by decide +kernel
theorem dX0_addGarment_19 : decode cX0_addGarment 19 = .ok (.aload_n 0, 1) := by decide +kernel
theorem dX0_addGarment_20 : decode cX0_addGarment 20 = .ok (.getfield 43, 3) := by decide +kernel
theorem dX0_addGarment_23 : decode cX0_addGarment 23 = .ok (.iload_n 3, 1) := by decide +kernel
theorem dX0_addGarment_24 : decode cX0_addGarment 24 = .ok (.bipush 99, 2) := by decide +kernel
theorem dX0_addGarment_26 : decode cX0_addGarment 26 = .ok (.iastore, 1) := by decide +kernel
theorem dX0_addGarment_27 : decode cX0_addGarment 27 = .ok (.aload_n 0, 1) := by decide +kernel
theorem dX0_addGarment_28 : decode cX0_addGarment 28 = .ok (.getfield 46, 3) := by decide +kernel
theorem dX0_addGarment_31 : decode cX0_addGarment 31 = .ok (.iload_n 3, 1) := by decide +kernel
theorem dX0_addGarment_32 : decode cX0_addGarment 32 = .ok (.iload_n 1, 1) := by decide +kernel
theorem dX0_addGarment_33 : decode cX0_addGarment 33 = .ok (.iastore, 1) := by decide +kernel
theorem dX0_addGarment_34 : decode cX0_addGarment 34 = .ok (.aload_n 0, 1) := by decide +kernel
theorem dX0_addGarment_35 : decode cX0_addGarment 35 = .ok (.dup, 1) := by decide +kernel
theorem dX0_addGarment_36 : decode cX0_addGarment 36 = .ok (.getfield 34, 3) := by decide +kernel
theorem dX0_addGarment_39 : decode cX0_addGarment 39 = .ok (.iconst 1, 1) := by decide +kernel
theorem dX0_addGarment_40 : decode cX0_addGarment 40 = .ok (.iadd, 1) := by decide +kernel
theorem dX0_addGarment_41 : decode cX0_addGarment 41 = .ok (.putfield 34, 3) := by decide +kernel
theorem dX0_addGarment_44 : decode cX0_addGarment 44 = .ok (.iload_n 3, 1) := by decide +kernel
theorem dX0_addGarment_45 : decode cX0_addGarment 45 = .ok (.ireturn, 1) := by decide +kernel
theorem dX0_isRight_0 : decode cX0_isRight 0 = .ok (.aload_n 0, 1) := by decide +kernel
theorem dX0_isRight_1 : decode cX0_isRight 1 = .ok (.getfield 46, 3) := by decide +kernel
theorem dX0_isRight_4 : decode cX0_isRight 4 = .ok (.iload_n 1, 1) := by decide +kernel
theorem dX0_isRight_5 : decode cX0_isRight 5 = .ok (.iaload, 1) := by decide +kernel
theorem dX0_isRight_6 : decode cX0_isRight 6 = .ok (.aload_n 0, 1) := by decide +kernel
theorem dX0_isRight_7 : decode cX0_isRight 7 = .ok (.getfield 37, 3) := by decide +kernel
theorem dX0_isRight_10 : decode cX0_isRight 10 = .ok (.iload_n 1, 1) := by decide +kernel
theorem dX0_isRight_11 : decode cX0_isRight 11 = .ok (.iaload, 1) := by decide +kernel
theorem dX0_isRight_12 : decode cX0_isRight 12 = .ok (.if_icmp .ne 7, 3) := by decide +kernel
theorem dX0_isRight_15 : decode cX0_isRight 15 = .ok (.iconst 1, 1) := by decide +kernel
theorem dX0_isRight_16 : decode cX0_isRight 16 = .ok (.goto 4, 3) := by decide +kernel
theorem dX0_isRight_19 : decode cX0_isRight 19 = .ok (.iconst 0, 1) := by decide +kernel
theorem dX0_isRight_20 : decode cX0_isRight 20 = .ok (.ireturn, 1) := by decide +kernel
theorem dX0_setOfRight_0 : decode cX0_setOfRight 0 = .ok (.iconst 0, 1) := by decide +kernel
theorem dX0_setOfRight_1 : decode cX0_setOfRight 1 = .ok (.istore_n 1, 1) := by decide +kernel
theorem dX0_setOfRight_2 : decode cX0_setOfRight 2 = .ok (.iconst 0, 1) := by decide +kernel
theorem dX0_setOfRight_3 : decode cX0_setOfRight 3 = .ok (.istore_n 2, 1) := by decide +kernel
theorem dX0_setOfRight_4 : decode cX0_setOfRight 4 = .ok (.iload_n 2, 1) := by decide +kernel
theorem dX0_setOfRight_5 : decode cX0_setOfRight 5 = .ok (.aload_n 0, 1) := by decide +kernel
theorem dX0_setOfRight_6 : decode cX0_setOfRight 6 = .ok (.getfield 34, 3) := by decide +kernel
theorem dX0_setOfRight_9 : decode cX0_setOfRight 9 = .ok (.if_icmp .ge 23, 3) := by decide +kernel
theorem dX0_setOfRight_12 : decode cX0_setOfRight 12 = .ok (.aload_n 0, 1) := by decide +kernel
theorem dX0_setOfRight_13 : decode cX0_setOfRight 13 = .ok (.iload_n 2, 1) := by decide +kernel
theorem dX0_setOfRight_14 : decode cX0_setOfRight 14 = .ok (.invokevirtual 65, 3) := by decide +kernel
theorem dX0_setOfRight_17 : decode cX0_setOfRight 17 = .ok (.ifCond .eq 9, 3) := by decide +kernel
theorem dX0_setOfRight_20 : decode cX0_setOfRight 20 = .ok (.iload_n 1, 1) := by decide +kernel
theorem dX0_setOfRight_21 : decode cX0_setOfRight 21 = .ok (.iconst 1, 1) := by decide +kernel
theorem dX0_setOfRight_22 : decode cX0_setOfRight 22 = .ok (.iload_n 2, 1) := by decide +kernel
theorem dX0_setOfRight_23 : decode cX0_setOfRight 23 = .ok (.ishl, 1) := by decide +kernel
theorem dX0_setOfRight_24 : decode cX0_setOfRight 24 = .ok (.ior, 1) := by decide +kernel
theorem dX0_setOfRight_25 : decode cX0_setOfRight 25 = .ok (.istore_n 1, 1) := by decide +kernel
theorem dX0_setOfRight_26 : decode cX0_setOfRight 26 = .ok (.iinc 2 1, 3) := by decide +kernel
theorem dX0_setOfRight_29 : decode cX0_setOfRight 29 = .ok (.goto (-25), 3) := by decide +kernel
theorem dX0_setOfRight_32 : decode cX0_setOfRight 32 = .ok (.iload_n 1, 1) := by decide +kernel
theorem dX0_setOfRight_33 : decode cX0_setOfRight 33 = .ok (.ireturn, 1) := by decide +kernel
theorem dX0_setHeldBy_0 : decode cX0_setHeldBy 0 = .ok (.iconst 0, 1) := by decide +kernel
theorem dX0_setHeldBy_1 : decode cX0_setHeldBy 1 = .ok (.istore_n 2, 1) := by decide +kernel
theorem dX0_setHeldBy_2 : decode cX0_setHeldBy 2 = .ok (.iconst 0, 1) := by decide +kernel
theorem dX0_setHeldBy_3 : decode cX0_setHeldBy 3 = .ok (.istore_n 3, 1) := by decide +kernel
theorem dX0_setHeldBy_4 : decode cX0_setHeldBy 4 = .ok (.iload_n 3, 1) := by decide +kernel
theorem dX0_setHeldBy_5 : decode cX0_setHeldBy 5 = .ok (.aload_n 0, 1) := by decide +kernel
theorem dX0_setHeldBy_6 : decode cX0_setHeldBy 6 = .ok (.getfield 34, 3) := by decide +kernel
theorem dX0_setHeldBy_9 : decode cX0_setHeldBy 9 = .ok (.if_icmp .ge 25, 3) := by decide +kernel
theorem dX0_setHeldBy_12 : decode cX0_setHeldBy 12 = .ok (.aload_n 0, 1) := by decide +kernel
theorem dX0_setHeldBy_13 : decode cX0_setHeldBy 13 = .ok (.getfield 46, 3) := by decide +kernel
theorem dX0_setHeldBy_16 : decode cX0_setHeldBy 16 = .ok (.iload_n 3, 1) := by decide +kernel
theorem dX0_setHeldBy_17 : decode cX0_setHeldBy 17 = .ok (.iaload, 1) := by decide +kernel
theorem dX0_setHeldBy_18 : decode cX0_setHeldBy 18 = .ok (.iload_n 1, 1) := by decide +kernel
theorem dX0_setHeldBy_19 : decode cX0_setHeldBy 19 = .ok (.if_icmp .ne 9, 3) := by decide +kernel
theorem dX0_setHeldBy_22 : decode cX0_setHeldBy 22 = .ok (.iload_n 2, 1) := by decide +kernel
theorem dX0_setHeldBy_23 : decode cX0_setHeldBy 23 = .ok (.iconst 1, 1) := by decide +kernel
theorem dX0_setHeldBy_24 : decode cX0_setHeldBy 24 = .ok (.iload_n 3, 1) := by decide +kernel
theorem dX0_setHeldBy_25 : decode cX0_setHeldBy 25 = .ok (.ishl, 1) := by decide +kernel
theorem dX0_setHeldBy_26 : decode cX0_setHeldBy 26 = .ok (.ior, 1) := by decide +kernel
theorem dX0_setHeldBy_27 : decode cX0_setHeldBy 27 = .ok (.istore_n 2, 1) := by decide +kernel
theorem dX0_setHeldBy_28 : decode cX0_setHeldBy 28 = .ok (.iinc 3 1, 3) := by decide +kernel
theorem dX0_setHeldBy_31 : decode cX0_setHeldBy 31 = .ok (.goto (-27), 3) := by decide +kernel
theorem dX0_setHeldBy_34 : decode cX0_setHeldBy 34 = .ok (.iload_n 2, 1) := by decide +kernel
theorem dX0_setHeldBy_35 : decode cX0_setHeldBy 35 = .ok (.ireturn, 1) := by decide +kernel
theorem dX0_setOfLiving_0 : decode cX0_setOfLiving 0 = .ok (.iconst 0, 1) := by decide +kernel
theorem dX0_setOfLiving_1 : decode cX0_setOfLiving 1 = .ok (.istore_n 1, 1) := by decide +kernel
theorem dX0_setOfLiving_2 : decode cX0_setOfLiving 2 = .ok (.iconst 0, 1) := by decide +kernel
theorem dX0_setOfLiving_3 : decode cX0_setOfLiving 3 = .ok (.istore_n 2, 1) := by decide +kernel
theorem dX0_setOfLiving_4 : decode cX0_setOfLiving 4 = .ok (.iload_n 2, 1) := by decide +kernel
theorem dX0_setOfLiving_5 : decode cX0_setOfLiving 5 = .ok (.aload_n 0, 1) := by decide +kernel
theorem dX0_setOfLiving_6 : decode cX0_setOfLiving 6 = .ok (.getfield 18, 3) := by decide +kernel
theorem dX0_setOfLiving_9 : decode cX0_setOfLiving 9 = .ok (.if_icmp .ge 24, 3) := by decide +kernel
theorem dX0_setOfLiving_12 : decode cX0_setOfLiving 12 = .ok (.aload_n 0, 1) := by decide +kernel
theorem dX0_setOfLiving_13 : decode cX0_setOfLiving 13 = .ok (.getfield 31, 3) := by decide +kernel
theorem dX0_setOfLiving_16 : decode cX0_setOfLiving 16 = .ok (.iload_n 2, 1) := by decide +kernel
theorem dX0_setOfLiving_17 : decode cX0_setOfLiving 17 = .ok (.iaload, 1) := by decide +kernel
theorem dX0_setOfLiving_18 : decode cX0_setOfLiving 18 = .ok (.ifCond .ne 9, 3) := by decide +kernel
theorem dX0_setOfLiving_21 : decode cX0_setOfLiving 21 = .ok (.iload_n 1, 1) := by decide +kernel
theorem dX0_setOfLiving_22 : decode cX0_setOfLiving 22 = .ok (.iconst 1, 1) := by decide +kernel
theorem dX0_setOfLiving_23 : decode cX0_setOfLiving 23 = .ok (.iload_n 2, 1) := by decide +kernel
theorem dX0_setOfLiving_24 : decode cX0_setOfLiving 24 = .ok (.ishl, 1) := by decide +kernel
theorem dX0_setOfLiving_25 : decode cX0_setOfLiving 25 = .ok (.ior, 1) := by decide +kernel
theorem dX0_setOfLiving_26 : decode cX0_setOfLiving 26 = .ok (.istore_n 1, 1) := by decide +kernel
theorem dX0_setOfLiving_27 : decode cX0_setOfLiving 27 = .ok (.iinc 2 1, 3) := by decide +kernel
theorem dX0_setOfLiving_30 : decode cX0_setOfLiving 30 = .ok (.goto (-26), 3) := by decide +kernel
theorem dX0_setOfLiving_33 : decode cX0_setOfLiving 33 = .ok (.iload_n 1, 1) := by decide +kernel
theorem dX0_setOfLiving_34 : decode cX0_setOfLiving 34 = .ok (.ireturn, 1) := by decide +kernel
theorem dX0_sumOfContents_0 : decode cX0_sumOfContents 0 = .ok (.iconst 0, 1) := by decide +kernel
theorem dX0_sumOfContents_1 : decode cX0_sumOfContents 1 = .ok (.istore_n 1, 1) := by decide +kernel
theorem dX0_sumOfContents_2 : decode cX0_sumOfContents 2 = .ok (.iconst 0, 1) := by decide +kernel
theorem dX0_sumOfContents_3 : decode cX0_sumOfContents 3 = .ok (.istore_n 2, 1) := by decide +kernel
theorem dX0_sumOfContents_4 : decode cX0_sumOfContents 4 = .ok (.iload_n 2, 1) := by decide +kernel
theorem dX0_sumOfContents_5 : decode cX0_sumOfContents 5 = .ok (.aload_n 0, 1) := by decide +kernel
theorem dX0_sumOfContents_6 : decode cX0_sumOfContents 6 = .ok (.getfield 18, 3) := by decide +kernel
theorem dX0_sumOfContents_9 : decode cX0_sumOfContents 9 = .ok (.if_icmp .ge 18, 3) := by decide +kernel
theorem dX0_sumOfContents_12 : decode cX0_sumOfContents 12 = .ok (.iload_n 1, 1) := by decide +kernel
theorem dX0_sumOfContents_13 : decode cX0_sumOfContents 13 = .ok (.aload_n 0, 1) := by decide +kernel
theorem dX0_sumOfContents_14 : decode cX0_sumOfContents 14 = .ok (.getfield 28, 3) := by decide +kernel
theorem dX0_sumOfContents_17 : decode cX0_sumOfContents 17 = .ok (.iload_n 2, 1) := by decide +kernel
theorem dX0_sumOfContents_18 : decode cX0_sumOfContents 18 = .ok (.iaload, 1) := by decide +kernel
theorem dX0_sumOfContents_19 : decode cX0_sumOfContents 19 = .ok (.iadd, 1) := by decide +kernel
theorem dX0_sumOfContents_20 : decode cX0_sumOfContents 20 = .ok (.istore_n 1, 1) := by decide +kernel
theorem dX0_sumOfContents_21 : decode cX0_sumOfContents 21 = .ok (.iinc 2 1, 3) := by decide +kernel
theorem dX0_sumOfContents_24 : decode cX0_sumOfContents 24 = .ok (.goto (-20), 3) := by decide +kernel
theorem dX0_sumOfContents_27 : decode cX0_sumOfContents 27 = .ok (.iload_n 1, 1) := by decide +kernel
theorem dX0_sumOfContents_28 : decode cX0_sumOfContents 28 = .ok (.ireturn, 1) := by decide +kernel
theorem dX0_sumOfNames_0 : decode cX0_sumOfNames 0 = .ok (.iconst 0, 1) := by decide +kernel
theorem dX0_sumOfNames_1 : decode cX0_sumOfNames 1 = .ok (.istore_n 1, 1) := by decide +kernel
theorem dX0_sumOfNames_2 : decode cX0_sumOfNames 2 = .ok (.iconst 0, 1) := by decide +kernel
theorem dX0_sumOfNames_3 : decode cX0_sumOfNames 3 = .ok (.istore_n 2, 1) := by decide +kernel
theorem dX0_sumOfNames_4 : decode cX0_sumOfNames 4 = .ok (.iload_n 2, 1) := by decide +kernel
theorem dX0_sumOfNames_5 : decode cX0_sumOfNames 5 = .ok (.aload_n 0, 1) := by decide +kernel
theorem dX0_sumOfNames_6 : decode cX0_sumOfNames 6 = .ok (.getfield 34, 3) := by decide +kernel
theorem dX0_sumOfNames_9 : decode cX0_sumOfNames 9 = .ok (.if_icmp .ge 18, 3) := by decide +kernel
theorem dX0_sumOfNames_12 : decode cX0_sumOfNames 12 = .ok (.iload_n 1, 1) := by decide +kernel
theorem dX0_sumOfNames_13 : decode cX0_sumOfNames 13 = .ok (.aload_n 0, 1) := by decide +kernel
theorem dX0_sumOfNames_14 : decode cX0_sumOfNames 14 = .ok (.getfield 43, 3) := by decide +kernel
theorem dX0_sumOfNames_17 : decode cX0_sumOfNames 17 = .ok (.iload_n 2, 1) := by decide +kernel
theorem dX0_sumOfNames_18 : decode cX0_sumOfNames 18 = .ok (.iaload, 1) := by decide +kernel
theorem dX0_sumOfNames_19 : decode cX0_sumOfNames 19 = .ok (.iadd, 1) := by decide +kernel
theorem dX0_sumOfNames_20 : decode cX0_sumOfNames 20 = .ok (.istore_n 1, 1) := by decide +kernel
theorem dX0_sumOfNames_21 : decode cX0_sumOfNames 21 = .ok (.iinc 2 1, 3) := by decide +kernel
theorem dX0_sumOfNames_24 : decode cX0_sumOfNames 24 = .ok (.goto (-20), 3) := by decide +kernel
theorem dX0_sumOfNames_27 : decode cX0_sumOfNames 27 = .ok (.iload_n 1, 1) := by decide +kernel
theorem dX0_sumOfNames_28 : decode cX0_sumOfNames 28 = .ok (.ireturn, 1) := by decide +kernel
theorem dX0_fades_0 : decode cX0_fades 0 = .ok (.aload_n 0, 1) := by decide +kernel
theorem dX0_fades_1 : decode cX0_fades 1 = .ok (.getfield 40, 3) := by decide +kernel
theorem dX0_fades_4 : decode cX0_fades 4 = .ok (.iload_n 1, 1) := by decide +kernel
theorem dX0_fades_5 : decode cX0_fades 5 = .ok (.iaload, 1) := by decide +kernel
theorem dX0_fades_6 : decode cX0_fades 6 = .ok (.lookupswitch 52 #[(1, 26), (2, 44)], 26) := by decide +kernel
theorem dX0_fades_32 : decode cX0_fades 32 = .ok (.bipush 9, 2) := by decide +kernel
theorem dX0_fades_34 : decode cX0_fades 34 = .ok (.iconst 0, 1) := by decide +kernel
theorem dX0_fades_35 : decode cX0_fades 35 = .ok (.aload_n 0, 1) := by decide +kernel
theorem dX0_fades_36 : decode cX0_fades 36 = .ok (.getfield 15, 3) := by decide +kernel
theorem dX0_fades_39 : decode cX0_fades 39 = .ok (.bipush 50, 2) := by decide +kernel
theorem dX0_fades_41 : decode cX0_fades 41 = .ok (.isub, 1) := by decide +kernel
theorem dX0_fades_42 : decode cX0_fades 42 = .ok (.invokestatic 69, 3) := by decide +kernel
theorem dX0_fades_45 : decode cX0_fades 45 = .ok (.bipush 10, 2) := by decide +kernel
theorem dX0_fades_47 : decode cX0_fades 47 = .ok (.idiv, 1) := by decide +kernel
theorem dX0_fades_48 : decode cX0_fades 48 = .ok (.iadd, 1) := by decide +kernel
theorem dX0_fades_49 : decode cX0_fades 49 = .ok (.ireturn, 1) := by decide +kernel
theorem dX0_fades_50 : decode cX0_fades 50 = .ok (.aload_n 0, 1) := by decide +kernel
theorem dX0_fades_51 : decode cX0_fades 51 = .ok (.getfield 15, 3) := by decide +kernel
theorem dX0_fades_54 : decode cX0_fades 54 = .ok (.bipush 6, 2) := by decide +kernel
theorem dX0_fades_56 : decode cX0_fades 56 = .ok (.idiv, 1) := by decide +kernel
theorem dX0_fades_57 : decode cX0_fades 57 = .ok (.ireturn, 1) := by decide +kernel
theorem dX0_fades_58 : decode cX0_fades 58 = .ok (.iconst 1, 1) := by decide +kernel
theorem dX0_fades_59 : decode cX0_fades 59 = .ok (.ireturn, 1) := by decide +kernel
theorem dX0_readsFor_0 : decode cX0_readsFor 0 = .ok (.aload_n 0, 1) := by decide +kernel
theorem dX0_readsFor_1 : decode cX0_readsFor 1 = .ok (.getfield 37, 3) := by decide +kernel
theorem dX0_readsFor_4 : decode cX0_readsFor 4 = .ok (.iload_n 1, 1) := by decide +kernel
theorem dX0_readsFor_5 : decode cX0_readsFor 5 = .ok (.iaload, 1) := by decide +kernel
theorem dX0_readsFor_6 : decode cX0_readsFor 6 = .ok (.istore_n 2, 1) := by decide +kernel
theorem dX0_readsFor_7 : decode cX0_readsFor 7 = .ok (.aload_n 0, 1) := by decide +kernel
theorem dX0_readsFor_8 : decode cX0_readsFor 8 = .ok (.getfield 43, 3) := by decide +kernel
theorem dX0_readsFor_11 : decode cX0_readsFor 11 = .ok (.iload_n 1, 1) := by decide +kernel
theorem dX0_readsFor_12 : decode cX0_readsFor 12 = .ok (.iaload, 1) := by decide +kernel
theorem dX0_readsFor_13 : decode cX0_readsFor 13 = .ok (.bipush 60, 2) := by decide +kernel
theorem dX0_readsFor_15 : decode cX0_readsFor 15 = .ok (.if_icmp .lt 14, 3) := by decide +kernel
theorem dX0_readsFor_18 : decode cX0_readsFor 18 = .ok (.aload_n 0, 1) := by decide +kernel
theorem dX0_readsFor_19 : decode cX0_readsFor 19 = .ok (.getfield 31, 3) := by decide +kernel
theorem dX0_readsFor_22 : decode cX0_readsFor 22 = .ok (.iload_n 2, 1) := by decide +kernel
theorem dX0_readsFor_23 : decode cX0_readsFor 23 = .ok (.iaload, 1) := by decide +kernel
theorem dX0_readsFor_24 : decode cX0_readsFor 24 = .ok (.ifCond .ne 5, 3) := by decide +kernel
theorem dX0_readsFor_27 : decode cX0_readsFor 27 = .ok (.iload_n 2, 1) := by decide +kernel
theorem dX0_readsFor_28 : decode cX0_readsFor 28 = .ok (.ireturn, 1) := by decide +kernel
theorem dX0_readsFor_29 : decode cX0_readsFor 29 = .ok (.aload_n 0, 1) := by decide +kernel
theorem dX0_readsFor_30 : decode cX0_readsFor 30 = .ok (.getfield 43, 3) := by decide +kernel
theorem dX0_readsFor_33 : decode cX0_readsFor 33 = .ok (.iload_n 1, 1) := by decide +kernel
theorem dX0_readsFor_34 : decode cX0_readsFor 34 = .ok (.iaload, 1) := by decide +kernel
theorem dX0_readsFor_35 : decode cX0_readsFor 35 = .ok (.bipush 20, 2) := by decide +kernel
theorem dX0_readsFor_37 : decode cX0_readsFor 37 = .ok (.if_icmp .lt 16, 3) := by decide +kernel
theorem dX0_readsFor_40 : decode cX0_readsFor 40 = .ok (.aload_n 0, 1) := by decide +kernel
theorem dX0_readsFor_41 : decode cX0_readsFor 41 = .ok (.aload_n 0, 1) := by decide +kernel
theorem dX0_readsFor_42 : decode cX0_readsFor 42 = .ok (.getfield 25, 3) := by decide +kernel
theorem dX0_readsFor_45 : decode cX0_readsFor 45 = .ok (.iload_n 2, 1) := by decide +kernel
theorem dX0_readsFor_46 : decode cX0_readsFor 46 = .ok (.iaload, 1) := by decide +kernel
theorem dX0_readsFor_47 : decode cX0_readsFor 47 = .ok (.invokevirtual 75, 3) := by decide +kernel
theorem dX0_readsFor_50 : decode cX0_readsFor 50 = .ok (.goto 4, 3) := by decide +kernel
theorem dX0_readsFor_53 : decode cX0_readsFor 53 = .ok (.iconst (-1), 1) := by decide +kernel
theorem dX0_readsFor_54 : decode cX0_readsFor 54 = .ok (.ireturn, 1) := by decide +kernel
theorem dX0_leastOfBand_0 : decode cX0_leastOfBand 0 = .ok (.iconst 0, 1) := by decide +kernel
theorem dX0_leastOfBand_1 : decode cX0_leastOfBand 1 = .ok (.istore_n 2, 1) := by decide +kernel
theorem dX0_leastOfBand_2 : decode cX0_leastOfBand 2 = .ok (.iload_n 2, 1) := by decide +kernel
theorem dX0_leastOfBand_3 : decode cX0_leastOfBand 3 = .ok (.aload_n 0, 1) := by decide +kernel
theorem dX0_leastOfBand_4 : decode cX0_leastOfBand 4 = .ok (.getfield 18, 3) := by decide +kernel
theorem dX0_leastOfBand_7 : decode cX0_leastOfBand 7 = .ok (.if_icmp .ge 30, 3) := by decide +kernel
theorem dX0_leastOfBand_10 : decode cX0_leastOfBand 10 = .ok (.aload_n 0, 1) := by decide +kernel
theorem dX0_leastOfBand_11 : decode cX0_leastOfBand 11 = .ok (.getfield 25, 3) := by decide +kernel
theorem dX0_leastOfBand_14 : decode cX0_leastOfBand 14 = .ok (.iload_n 2, 1) := by decide +kernel
theorem dX0_leastOfBand_15 : decode cX0_leastOfBand 15 = .ok (.iaload, 1) := by decide +kernel
theorem dX0_leastOfBand_16 : decode cX0_leastOfBand 16 = .ok (.iload_n 1, 1) := by decide +kernel
theorem dX0_leastOfBand_17 : decode cX0_leastOfBand 17 = .ok (.if_icmp .ne 14, 3) := by decide +kernel
theorem dX0_leastOfBand_20 : decode cX0_leastOfBand 20 = .ok (.aload_n 0, 1) := by decide +kernel
theorem dX0_leastOfBand_21 : decode cX0_leastOfBand 21 = .ok (.getfield 31, 3) := by decide +kernel
theorem dX0_leastOfBand_24 : decode cX0_leastOfBand 24 = .ok (.iload_n 2, 1) := by decide +kernel
theorem dX0_leastOfBand_25 : decode cX0_leastOfBand 25 = .ok (.iaload, 1) := by decide +kernel
theorem dX0_leastOfBand_26 : decode cX0_leastOfBand 26 = .ok (.ifCond .ne 5, 3) := by decide +kernel
theorem dX0_leastOfBand_29 : decode cX0_leastOfBand 29 = .ok (.iload_n 2, 1) := by decide +kernel
theorem dX0_leastOfBand_30 : decode cX0_leastOfBand 30 = .ok (.ireturn, 1) := by decide +kernel
theorem dX0_leastOfBand_31 : decode cX0_leastOfBand 31 = .ok (.iinc 2 1, 3) := by decide +kernel
theorem dX0_leastOfBand_34 : decode cX0_leastOfBand 34 = .ok (.goto (-32), 3) := by decide +kernel
theorem dX0_leastOfBand_37 : decode cX0_leastOfBand 37 = .ok (.iconst (-1), 1) := by decide +kernel
theorem dX0_leastOfBand_38 : decode cX0_leastOfBand 38 = .ok (.ireturn, 1) := by decide +kernel
theorem dX0_givesBack_0 : decode cX0_givesBack 0 = .ok (.aload_n 0, 1) := by decide +kernel
theorem dX0_givesBack_1 : decode cX0_givesBack 1 = .ok (.getfield 21, 3) := by decide +kernel
theorem dX0_givesBack_4 : decode cX0_givesBack 4 = .ok (.iload_n 1, 1) := by decide +kernel
theorem dX0_givesBack_5 : decode cX0_givesBack 5 = .ok (.iaload, 1) := by decide +kernel
theorem dX0_givesBack_6 : decode cX0_givesBack 6 = .ok (.tableswitch 55 1 5 #[34, 36, 38, 34, 36], 34) := by decide +kernel
theorem dX0_givesBack_40 : decode cX0_givesBack 40 = .ok (.iconst 1, 1) := by decide +kernel
theorem dX0_givesBack_41 : decode cX0_givesBack 41 = .ok (.ireturn, 1) := by decide +kernel
theorem dX0_givesBack_42 : decode cX0_givesBack 42 = .ok (.iconst 0, 1) := by decide +kernel
theorem dX0_givesBack_43 : decode cX0_givesBack 43 = .ok (.ireturn, 1) := by decide +kernel
theorem dX0_givesBack_44 : decode cX0_givesBack 44 = .ok (.aload_n 0, 1) := by decide +kernel
theorem dX0_givesBack_45 : decode cX0_givesBack 45 = .ok (.getfield 43, 3) := by decide +kernel
theorem dX0_givesBack_48 : decode cX0_givesBack 48 = .ok (.iload_n 2, 1) := by decide +kernel
theorem dX0_givesBack_49 : decode cX0_givesBack 49 = .ok (.iaload, 1) := by decide +kernel
theorem dX0_givesBack_50 : decode cX0_givesBack 50 = .ok (.bipush 80, 2) := by decide +kernel
theorem dX0_givesBack_52 : decode cX0_givesBack 52 = .ok (.if_icmp .lt 7, 3) := by decide +kernel
theorem dX0_givesBack_55 : decode cX0_givesBack 55 = .ok (.iconst 1, 1) := by decide +kernel
theorem dX0_givesBack_56 : decode cX0_givesBack 56 = .ok (.goto 4, 3) := by decide +kernel
theorem dX0_givesBack_59 : decode cX0_givesBack 59 = .ok (.iconst 0, 1) := by decide +kernel
theorem dX0_givesBack_60 : decode cX0_givesBack 60 = .ok (.ireturn, 1) := by decide +kernel
theorem dX0_givesBack_61 : decode cX0_givesBack 61 = .ok (.aload_n 0, 1) := by decide +kernel
theorem dX0_givesBack_62 : decode cX0_givesBack 62 = .ok (.getfield 43, 3) := by decide +kernel
theorem dX0_givesBack_65 : decode cX0_givesBack 65 = .ok (.iload_n 2, 1) := by decide +kernel
theorem dX0_givesBack_66 : decode cX0_givesBack 66 = .ok (.iaload, 1) := by decide +kernel
theorem dX0_givesBack_67 : decode cX0_givesBack 67 = .ok (.bipush 60, 2) := by decide +kernel
theorem dX0_givesBack_69 : decode cX0_givesBack 69 = .ok (.if_icmp .lt 7, 3) := by decide +kernel
theorem dX0_givesBack_72 : decode cX0_givesBack 72 = .ok (.iconst 1, 1) := by decide +kernel
theorem dX0_givesBack_73 : decode cX0_givesBack 73 = .ok (.goto 4, 3) := by decide +kernel
theorem dX0_givesBack_76 : decode cX0_givesBack 76 = .ok (.iconst 0, 1) := by decide +kernel
theorem dX0_givesBack_77 : decode cX0_givesBack 77 = .ok (.ireturn, 1) := by decide +kernel
theorem dX0_claims_0 : decode cX0_claims 0 = .ok (.aload_n 0, 1) := by decide +kernel
theorem dX0_claims_1 : decode cX0_claims 1 = .ok (.getfield 37, 3) := by decide +kernel
theorem dX0_claims_4 : decode cX0_claims 4 = .ok (.iload_n 2, 1) := by decide +kernel
theorem dX0_claims_5 : decode cX0_claims 5 = .ok (.iaload, 1) := by decide +kernel
theorem dX0_claims_6 : decode cX0_claims 6 = .ok (.iload_n 1, 1) := by decide +kernel
theorem dX0_claims_7 : decode cX0_claims 7 = .ok (.if_icmp .ne 7, 3) := by decide +kernel
theorem dX0_claims_10 : decode cX0_claims 10 = .ok (.iconst 1, 1) := by decide +kernel
theorem dX0_claims_11 : decode cX0_claims 11 = .ok (.goto 4, 3) := by decide +kernel
theorem dX0_claims_14 : decode cX0_claims 14 = .ok (.iconst 0, 1) := by decide +kernel
theorem dX0_claims_15 : decode cX0_claims 15 = .ok (.istore_n 3, 1) := by decide +kernel
theorem dX0_claims_16 : decode cX0_claims 16 = .ok (.aload_n 0, 1) := by decide +kernel
theorem dX0_claims_17 : decode cX0_claims 17 = .ok (.getfield 49, 3) := by decide +kernel
theorem dX0_claims_20 : decode cX0_claims 20 = .ok (.iload_n 1, 1) := by decide +kernel
theorem dX0_claims_21 : decode cX0_claims 21 = .ok (.iaload, 1) := by decide +kernel
theorem dX0_claims_22 : decode cX0_claims 22 = .ok (.aload_n 0, 1) := by decide +kernel
theorem dX0_claims_23 : decode cX0_claims 23 = .ok (.getfield 52, 3) := by decide +kernel
theorem dX0_claims_26 : decode cX0_claims 26 = .ok (.iload_n 1, 1) := by decide +kernel
theorem dX0_claims_27 : decode cX0_claims 27 = .ok (.iaload, 1) := by decide +kernel
theorem dX0_claims_28 : decode cX0_claims 28 = .ok (.iadd, 1) := by decide +kernel
theorem dX0_claims_29 : decode cX0_claims 29 = .ok (.ifCond .ne 7, 3) := by decide +kernel
theorem dX0_claims_32 : decode cX0_claims 32 = .ok (.iconst 1, 1) := by decide +kernel
theorem dX0_claims_33 : decode cX0_claims 33 = .ok (.goto 4, 3) := by decide +kernel
theorem dX0_claims_36 : decode cX0_claims 36 = .ok (.iconst 0, 1) := by decide +kernel
theorem dX0_claims_37 : decode cX0_claims 37 = .ok (.istore 4, 2) := by decide +kernel
theorem dX0_claims_39 : decode cX0_claims 39 = .ok (.aload_n 0, 1) := by decide +kernel
theorem dX0_claims_40 : decode cX0_claims 40 = .ok (.getfield 21, 3) := by decide +kernel
theorem dX0_claims_43 : decode cX0_claims 43 = .ok (.iload_n 1, 1) := by decide +kernel
theorem dX0_claims_44 : decode cX0_claims 44 = .ok (.iaload, 1) := by decide +kernel
theorem dX0_claims_45 : decode cX0_claims 45 = .ok (.tableswitch 62 1 5 #[35, 37, 62, 35, 40], 35) := by decide +kernel
theorem dX0_claims_80 : decode cX0_claims 80 = .ok (.iload_n 3, 1) := by decide +kernel
theorem dX0_claims_81 : decode cX0_claims 81 = .ok (.ireturn, 1) := by decide +kernel
theorem dX0_claims_82 : decode cX0_claims 82 = .ok (.iload 4, 2) := by decide +kernel
theorem dX0_claims_84 : decode cX0_claims 84 = .ok (.ireturn, 1) := by decide +kernel
theorem dX0_claims_85 : decode cX0_claims 85 = .ok (.iload 4, 2) := by decide +kernel
theorem dX0_claims_87 : decode cX0_claims 87 = .ok (.ifCond .ne 14, 3) := by decide +kernel
theorem dX0_claims_90 : decode cX0_claims 90 = .ok (.aload_n 0, 1) := by decide +kernel
theorem dX0_claims_91 : decode cX0_claims 91 = .ok (.getfield 43, 3) := by decide +kernel
theorem dX0_claims_94 : decode cX0_claims 94 = .ok (.iload_n 2, 1) := by decide +kernel
theorem dX0_claims_95 : decode cX0_claims 95 = .ok (.iaload, 1) := by decide +kernel
theorem dX0_claims_96 : decode cX0_claims 96 = .ok (.bipush 50, 2) := by decide +kernel
theorem dX0_claims_98 : decode cX0_claims 98 = .ok (.if_icmp .lt 7, 3) := by decide +kernel
theorem dX0_claims_101 : decode cX0_claims 101 = .ok (.iconst 1, 1) := by decide +kernel
theorem dX0_claims_102 : decode cX0_claims 102 = .ok (.goto 4, 3) := by decide +kernel
theorem dX0_claims_105 : decode cX0_claims 105 = .ok (.iconst 0, 1) := by decide +kernel
theorem dX0_claims_106 : decode cX0_claims 106 = .ok (.ireturn, 1) := by decide +kernel
theorem dX0_claims_107 : decode cX0_claims 107 = .ok (.iload_n 3, 1) := by decide +kernel
theorem dX0_claims_108 : decode cX0_claims 108 = .ok (.ifCond .eq 17, 3) := by decide +kernel
theorem dX0_claims_111 : decode cX0_claims 111 = .ok (.aload_n 0, 1) := by decide +kernel
theorem dX0_claims_112 : decode cX0_claims 112 = .ok (.getfield 43, 3) := by decide +kernel
theorem dX0_claims_115 : decode cX0_claims 115 = .ok (.iload_n 2, 1) := by decide +kernel
theorem dX0_claims_116 : decode cX0_claims 116 = .ok (.iaload, 1) := by decide +kernel
theorem dX0_claims_117 : decode cX0_claims 117 = .ok (.iconst 1, 1) := by decide +kernel
theorem dX0_claims_118 : decode cX0_claims 118 = .ok (.if_icmp .lt 7, 3) := by decide +kernel
theorem dX0_claims_121 : decode cX0_claims 121 = .ok (.iconst 1, 1) := by decide +kernel
theorem dX0_claims_122 : decode cX0_claims 122 = .ok (.goto 4, 3) := by decide +kernel
theorem dX0_claims_125 : decode cX0_claims 125 = .ok (.iconst 0, 1) := by decide +kernel
theorem dX0_claims_126 : decode cX0_claims 126 = .ok (.ireturn, 1) := by decide +kernel
theorem dX0_minds_0 : decode cX0_minds 0 = .ok (.aload_n 0, 1) := by decide +kernel
theorem dX0_minds_1 : decode cX0_minds 1 = .ok (.getfield 49, 3) := by decide +kernel
theorem dX0_minds_4 : decode cX0_minds 4 = .ok (.iload_n 1, 1) := by decide +kernel
theorem dX0_minds_5 : decode cX0_minds 5 = .ok (.iaload, 1) := by decide +kernel
theorem dX0_minds_6 : decode cX0_minds 6 = .ok (.istore_n 2, 1) := by decide +kernel
theorem dX0_minds_7 : decode cX0_minds 7 = .ok (.aload_n 0, 1) := by decide +kernel
theorem dX0_minds_8 : decode cX0_minds 8 = .ok (.getfield 52, 3) := by decide +kernel
theorem dX0_minds_11 : decode cX0_minds 11 = .ok (.iload_n 1, 1) := by decide +kernel
theorem dX0_minds_12 : decode cX0_minds 12 = .ok (.iaload, 1) := by decide +kernel
theorem dX0_minds_13 : decode cX0_minds 13 = .ok (.istore_n 3, 1) := by decide +kernel
theorem dX0_minds_14 : decode cX0_minds 14 = .ok (.aload_n 0, 1) := by decide +kernel
theorem dX0_minds_15 : decode cX0_minds 15 = .ok (.getfield 21, 3) := by decide +kernel
theorem dX0_minds_18 : decode cX0_minds 18 = .ok (.iload_n 1, 1) := by decide +kernel
theorem dX0_minds_19 : decode cX0_minds 19 = .ok (.iaload, 1) := by decide +kernel
theorem dX0_minds_20 : decode cX0_minds 20 = .ok (.tableswitch 78 1 5 #[36, 44, 48, 54, 72], 36) := by decide +kernel
theorem dX0_minds_56 : decode cX0_minds 56 = .ok (.iconst 2, 1) := by decide +kernel
theorem dX0_minds_57 : decode cX0_minds 57 = .ok (.iload_n 2, 1) := by decide +kernel
theorem dX0_minds_58 : decode cX0_minds 58 = .ok (.imul, 1) := by decide +kernel
theorem dX0_minds_59 : decode cX0_minds 59 = .ok (.iconst 3, 1) := by decide +kernel
theorem dX0_minds_60 : decode cX0_minds 60 = .ok (.iload_n 3, 1) := by decide +kernel
theorem dX0_minds_61 : decode cX0_minds 61 = .ok (.imul, 1) := by decide +kernel
theorem dX0_minds_62 : decode cX0_minds 62 = .ok (.isub, 1) := by decide +kernel
theorem dX0_minds_63 : decode cX0_minds 63 = .ok (.ireturn, 1) := by decide +kernel
theorem dX0_minds_64 : decode cX0_minds 64 = .ok (.iload_n 2, 1) := by decide +kernel
theorem dX0_minds_65 : decode cX0_minds 65 = .ok (.iload_n 3, 1) := by decide +kernel
theorem dX0_minds_66 : decode cX0_minds 66 = .ok (.iadd, 1) := by decide +kernel
theorem dX0_minds_67 : decode cX0_minds 67 = .ok (.ireturn, 1) := by decide +kernel
theorem dX0_minds_68 : decode cX0_minds 68 = .ok (.iload_n 2, 1) := by decide +kernel
theorem dX0_minds_69 : decode cX0_minds 69 = .ok (.iload_n 3, 1) := by decide +kernel
theorem dX0_minds_70 : decode cX0_minds 70 = .ok (.isub, 1) := by decide +kernel
theorem dX0_minds_71 : decode cX0_minds 71 = .ok (.iconst 1, 1) := by decide +kernel
theorem dX0_minds_72 : decode cX0_minds 72 = .ok (.iadd, 1) := by decide +kernel
theorem dX0_minds_73 : decode cX0_minds 73 = .ok (.ireturn, 1) := by decide +kernel
theorem dX0_minds_74 : decode cX0_minds 74 = .ok (.iconst 2, 1) := by decide +kernel
theorem dX0_minds_75 : decode cX0_minds 75 = .ok (.iload_n 2, 1) := by decide +kernel
theorem dX0_minds_76 : decode cX0_minds 76 = .ok (.imul, 1) := by decide +kernel
theorem dX0_minds_77 : decode cX0_minds 77 = .ok (.iconst 3, 1) := by decide +kernel
theorem dX0_minds_78 : decode cX0_minds 78 = .ok (.iload_n 3, 1) := by decide +kernel
theorem dX0_minds_79 : decode cX0_minds 79 = .ok (.imul, 1) := by decide +kernel
theorem dX0_minds_80 : decode cX0_minds 80 = .ok (.isub, 1) := by decide +kernel
theorem dX0_minds_81 : decode cX0_minds 81 = .ok (.iload_n 3, 1) := by decide +kernel
theorem dX0_minds_82 : decode cX0_minds 82 = .ok (.ifCond .ne 7, 3) := by decide +kernel
theorem dX0_minds_85 : decode cX0_minds 85 = .ok (.iconst 2, 1) := by decide +kernel
theorem dX0_minds_86 : decode cX0_minds 86 = .ok (.goto 4, 3) := by decide +kernel
theorem dX0_minds_89 : decode cX0_minds 89 = .ok (.iconst 0, 1) := by decide +kernel
theorem dX0_minds_90 : decode cX0_minds 90 = .ok (.iadd, 1) := by decide +kernel
theorem dX0_minds_91 : decode cX0_minds 91 = .ok (.ireturn, 1) := by decide +kernel
theorem dX0_minds_92 : decode cX0_minds 92 = .ok (.iload_n 2, 1) := by decide +kernel
theorem dX0_minds_93 : decode cX0_minds 93 = .ok (.iconst 2, 1) := by decide +kernel
theorem dX0_minds_94 : decode cX0_minds 94 = .ok (.iload_n 3, 1) := by decide +kernel
theorem dX0_minds_95 : decode cX0_minds 95 = .ok (.imul, 1) := by decide +kernel
theorem dX0_minds_96 : decode cX0_minds 96 = .ok (.iadd, 1) := by decide +kernel
theorem dX0_minds_97 : decode cX0_minds 97 = .ok (.ireturn, 1) := by decide +kernel
theorem dX0_minds_98 : decode cX0_minds 98 = .ok (.iload_n 2, 1) := by decide +kernel
theorem dX0_minds_99 : decode cX0_minds 99 = .ok (.iload_n 3, 1) := by decide +kernel
theorem dX0_minds_100 : decode cX0_minds 100 = .ok (.isub, 1) := by decide +kernel
theorem dX0_minds_101 : decode cX0_minds 101 = .ok (.ireturn, 1) := by decide +kernel
theorem dX0_tally_0 : decode cX0_tally 0 = .ok (.iconst 0, 1) := by decide +kernel
theorem dX0_tally_1 : decode cX0_tally 1 = .ok (.istore_n 1, 1) := by decide +kernel
theorem dX0_tally_2 : decode cX0_tally 2 = .ok (.iload_n 1, 1) := by decide +kernel
theorem dX0_tally_3 : decode cX0_tally 3 = .ok (.aload_n 0, 1) := by decide +kernel
theorem dX0_tally_4 : decode cX0_tally 4 = .ok (.getfield 18, 3) := by decide +kernel
theorem dX0_tally_7 : decode cX0_tally 7 = .ok (.if_icmp .ge 23, 3) := by decide +kernel
theorem dX0_tally_10 : decode cX0_tally 10 = .ok (.aload_n 0, 1) := by decide +kernel
theorem dX0_tally_11 : decode cX0_tally 11 = .ok (.getfield 49, 3) := by decide +kernel
theorem dX0_tally_14 : decode cX0_tally 14 = .ok (.iload_n 1, 1) := by decide +kernel
theorem dX0_tally_15 : decode cX0_tally 15 = .ok (.iconst 0, 1) := by decide +kernel
theorem dX0_tally_16 : decode cX0_tally 16 = .ok (.iastore, 1) := by decide +kernel
theorem dX0_tally_17 : decode cX0_tally 17 = .ok (.aload_n 0, 1) := by decide +kernel
theorem dX0_tally_18 : decode cX0_tally 18 = .ok (.getfield 52, 3) := by decide +kernel
theorem dX0_tally_21 : decode cX0_tally 21 = .ok (.iload_n 1, 1) := by decide +kernel
theorem dX0_tally_22 : decode cX0_tally 22 = .ok (.iconst 0, 1) := by decide +kernel
theorem dX0_tally_23 : decode cX0_tally 23 = .ok (.iastore, 1) := by decide +kernel
theorem dX0_tally_24 : decode cX0_tally 24 = .ok (.iinc 1 1, 3) := by decide +kernel
theorem dX0_tally_27 : decode cX0_tally 27 = .ok (.goto (-25), 3) := by decide +kernel
theorem dX0_tally_30 : decode cX0_tally 30 = .ok (.iconst 0, 1) := by decide +kernel
theorem dX0_tally_31 : decode cX0_tally 31 = .ok (.istore_n 1, 1) := by decide +kernel
theorem dX0_tally_32 : decode cX0_tally 32 = .ok (.iload_n 1, 1) := by decide +kernel
theorem dX0_tally_33 : decode cX0_tally 33 = .ok (.aload_n 0, 1) := by decide +kernel
theorem dX0_tally_34 : decode cX0_tally 34 = .ok (.getfield 34, 3) := by decide +kernel
theorem dX0_tally_37 : decode cX0_tally 37 = .ok (.if_icmp .ge 24, 3) := by decide +kernel
theorem dX0_tally_40 : decode cX0_tally 40 = .ok (.aload_n 0, 1) := by decide +kernel
theorem dX0_tally_41 : decode cX0_tally 41 = .ok (.getfield 46, 3) := by decide +kernel
theorem dX0_tally_44 : decode cX0_tally 44 = .ok (.iload_n 1, 1) := by decide +kernel
theorem dX0_tally_45 : decode cX0_tally 45 = .ok (.iaload, 1) := by decide +kernel
theorem dX0_tally_46 : decode cX0_tally 46 = .ok (.iconst (-1), 1) := by decide +kernel
theorem dX0_tally_47 : decode cX0_tally 47 = .ok (.if_icmp .eq 8, 3) := by decide +kernel
theorem dX0_tally_50 : decode cX0_tally 50 = .ok (.aload_n 0, 1) := by decide +kernel
theorem dX0_tally_51 : decode cX0_tally 51 = .ok (.iload_n 1, 1) := by decide +kernel
theorem dX0_tally_52 : decode cX0_tally 52 = .ok (.invokevirtual 79, 3) := by decide +kernel
theorem dX0_tally_55 : decode cX0_tally 55 = .ok (.iinc 1 1, 3) := by decide +kernel
theorem dX0_tally_58 : decode cX0_tally 58 = .ok (.goto (-26), 3) := by decide +kernel
theorem dX0_tally_61 : decode cX0_tally 61 = .ok (.return_, 1) := by decide +kernel
theorem dX0_tallyOne_0 : decode cX0_tallyOne 0 = .ok (.aload_n 0, 1) := by decide +kernel
theorem dX0_tallyOne_1 : decode cX0_tallyOne 1 = .ok (.getfield 46, 3) := by decide +kernel
theorem dX0_tallyOne_4 : decode cX0_tallyOne 4 = .ok (.iload_n 1, 1) := by decide +kernel
theorem dX0_tallyOne_5 : decode cX0_tallyOne 5 = .ok (.iaload, 1) := by decide +kernel
theorem dX0_tallyOne_6 : decode cX0_tallyOne 6 = .ok (.istore_n 2, 1) := by decide +kernel
theorem dX0_tallyOne_7 : decode cX0_tallyOne 7 = .ok (.aload_n 0, 1) := by decide +kernel
theorem dX0_tallyOne_8 : decode cX0_tallyOne 8 = .ok (.getfield 37, 3) := by decide +kernel
theorem dX0_tallyOne_11 : decode cX0_tallyOne 11 = .ok (.iload_n 1, 1) := by decide +kernel
theorem dX0_tallyOne_12 : decode cX0_tallyOne 12 = .ok (.iaload, 1) := by decide +kernel
theorem dX0_tallyOne_13 : decode cX0_tallyOne 13 = .ok (.iload_n 2, 1) := by decide +kernel
theorem dX0_tallyOne_14 : decode cX0_tallyOne 14 = .ok (.if_icmp .ne 16, 3) := by decide +kernel
theorem dX0_tallyOne_17 : decode cX0_tallyOne 17 = .ok (.aload_n 0, 1) := by decide +kernel
theorem dX0_tallyOne_18 : decode cX0_tallyOne 18 = .ok (.getfield 49, 3) := by decide +kernel
theorem dX0_tallyOne_21 : decode cX0_tallyOne 21 = .ok (.iload_n 2, 1) := by decide +kernel
theorem dX0_tallyOne_22 : decode cX0_tallyOne 22 = .ok (.dup2, 1) := by decide +kernel
theorem dX0_tallyOne_23 : decode cX0_tallyOne 23 = .ok (.iaload, 1) := by decide +kernel
theorem dX0_tallyOne_24 : decode cX0_tallyOne 24 = .ok (.iconst 1, 1) := by decide +kernel
theorem dX0_tallyOne_25 : decode cX0_tallyOne 25 = .ok (.iadd, 1) := by decide +kernel
theorem dX0_tallyOne_26 : decode cX0_tallyOne 26 = .ok (.iastore, 1) := by decide +kernel
theorem dX0_tallyOne_27 : decode cX0_tallyOne 27 = .ok (.goto 13, 3) := by decide +kernel
theorem dX0_tallyOne_30 : decode cX0_tallyOne 30 = .ok (.aload_n 0, 1) := by decide +kernel
theorem dX0_tallyOne_31 : decode cX0_tallyOne 31 = .ok (.getfield 52, 3) := by decide +kernel
theorem dX0_tallyOne_34 : decode cX0_tallyOne 34 = .ok (.iload_n 2, 1) := by decide +kernel
theorem dX0_tallyOne_35 : decode cX0_tallyOne 35 = .ok (.dup2, 1) := by decide +kernel
theorem dX0_tallyOne_36 : decode cX0_tallyOne 36 = .ok (.iaload, 1) := by decide +kernel
theorem dX0_tallyOne_37 : decode cX0_tallyOne 37 = .ok (.iconst 1, 1) := by decide +kernel
theorem dX0_tallyOne_38 : decode cX0_tallyOne 38 = .ok (.iadd, 1) := by decide +kernel
theorem dX0_tallyOne_39 : decode cX0_tallyOne 39 = .ok (.iastore, 1) := by decide +kernel
theorem dX0_tallyOne_40 : decode cX0_tallyOne 40 = .ok (.return_, 1) := by decide +kernel
theorem dX0_goWeeks_0 : decode cX0_goWeeks 0 = .ok (.iconst 0, 1) := by decide +kernel
theorem dX0_goWeeks_1 : decode cX0_goWeeks 1 = .ok (.istore_n 2, 1) := by decide +kernel
theorem dX0_goWeeks_2 : decode cX0_goWeeks 2 = .ok (.iload_n 2, 1) := by decide +kernel
theorem dX0_goWeeks_3 : decode cX0_goWeeks 3 = .ok (.iload_n 1, 1) := by decide +kernel
theorem dX0_goWeeks_4 : decode cX0_goWeeks 4 = .ok (.if_icmp .ge 45, 3) := by decide +kernel
theorem dX0_goWeeks_7 : decode cX0_goWeeks 7 = .ok (.aload_n 0, 1) := by decide +kernel
theorem dX0_goWeeks_8 : decode cX0_goWeeks 8 = .ok (.invokevirtual 83, 3) := by decide +kernel
theorem dX0_goWeeks_11 : decode cX0_goWeeks 11 = .ok (.aload_n 0, 1) := by decide +kernel
theorem dX0_goWeeks_12 : decode cX0_goWeeks 12 = .ok (.invokevirtual 86, 3) := by decide +kernel
theorem dX0_goWeeks_15 : decode cX0_goWeeks 15 = .ok (.aload_n 0, 1) := by decide +kernel
theorem dX0_goWeeks_16 : decode cX0_goWeeks 16 = .ok (.getfield 9, 3) := by decide +kernel
theorem dX0_goWeeks_19 : decode cX0_goWeeks 19 = .ok (.iconst 2, 1) := by decide +kernel
theorem dX0_goWeeks_20 : decode cX0_goWeeks 20 = .ok (.irem, 1) := by decide +kernel
theorem dX0_goWeeks_21 : decode cX0_goWeeks 21 = .ok (.iconst 1, 1) := by decide +kernel
theorem dX0_goWeeks_22 : decode cX0_goWeeks 22 = .ok (.if_icmp .ne 7, 3) := by decide +kernel
theorem dX0_goWeeks_25 : decode cX0_goWeeks 25 = .ok (.aload_n 0, 1) := by decide +kernel
theorem dX0_goWeeks_26 : decode cX0_goWeeks 26 = .ok (.invokevirtual 89, 3) := by decide +kernel
theorem dX0_goWeeks_29 : decode cX0_goWeeks 29 = .ok (.aload_n 0, 1) := by decide +kernel
theorem dX0_goWeeks_30 : decode cX0_goWeeks 30 = .ok (.invokevirtual 92, 3) := by decide +kernel
theorem dX0_goWeeks_33 : decode cX0_goWeeks 33 = .ok (.aload_n 0, 1) := by decide +kernel
theorem dX0_goWeeks_34 : decode cX0_goWeeks 34 = .ok (.dup, 1) := by decide +kernel
theorem dX0_goWeeks_35 : decode cX0_goWeeks 35 = .ok (.getfield 9, 3) := by decide +kernel
theorem dX0_goWeeks_38 : decode cX0_goWeeks 38 = .ok (.iconst 1, 1) := by decide +kernel
theorem dX0_goWeeks_39 : decode cX0_goWeeks 39 = .ok (.iadd, 1) := by decide +kernel
theorem dX0_goWeeks_40 : decode cX0_goWeeks 40 = .ok (.putfield 9, 3) := by decide +kernel
theorem dX0_goWeeks_43 : decode cX0_goWeeks 43 = .ok (.iinc 2 1, 3) := by decide +kernel
theorem dX0_goWeeks_46 : decode cX0_goWeeks 46 = .ok (.goto (-44), 3) := by decide +kernel
theorem dX0_goWeeks_49 : decode cX0_goWeeks 49 = .ok (.return_, 1) := by decide +kernel
theorem dX0_countRightWeeks_0 : decode cX0_countRightWeeks 0 = .ok (.iconst 0, 1) := by decide +kernel
theorem dX0_countRightWeeks_1 : decode cX0_countRightWeeks 1 = .ok (.istore_n 3, 1) := by decide +kernel
theorem dX0_countRightWeeks_2 : decode cX0_countRightWeeks 2 = .ok (.iconst 0, 1) := by decide +kernel
theorem dX0_countRightWeeks_3 : decode cX0_countRightWeeks 3 = .ok (.istore 4, 2) := by decide +kernel
theorem dX0_countRightWeeks_5 : decode cX0_countRightWeeks 5 = .ok (.iload 4, 2) := by decide +kernel
theorem dX0_countRightWeeks_7 : decode cX0_countRightWeeks 7 = .ok (.iload_n 2, 1) := by decide +kernel
theorem dX0_countRightWeeks_8 : decode cX0_countRightWeeks 8 = .ok (.if_icmp .ge 25, 3) := by decide +kernel
theorem dX0_countRightWeeks_11 : decode cX0_countRightWeeks 11 = .ok (.aload_n 0, 1) := by decide +kernel
theorem dX0_countRightWeeks_12 : decode cX0_countRightWeeks 12 = .ok (.iconst 1, 1) := by decide +kernel
theorem dX0_countRightWeeks_13 : decode cX0_countRightWeeks 13 = .ok (.invokevirtual 95, 3) := by decide +kernel
theorem dX0_countRightWeeks_16 : decode cX0_countRightWeeks 16 = .ok (.aload_n 0, 1) := by decide +kernel
theorem dX0_countRightWeeks_17 : decode cX0_countRightWeeks 17 = .ok (.iload_n 1, 1) := by decide +kernel
theorem dX0_countRightWeeks_18 : decode cX0_countRightWeeks 18 = .ok (.invokevirtual 65, 3) := by decide +kernel
theorem dX0_countRightWeeks_21 : decode cX0_countRightWeeks 21 = .ok (.ifCond .eq 6, 3) := by decide +kernel
theorem dX0_countRightWeeks_24 : decode cX0_countRightWeeks 24 = .ok (.iinc 3 1, 3) := by decide +kernel
theorem dX0_countRightWeeks_27 : decode cX0_countRightWeeks 27 = .ok (.iinc 4 1, 3) := by decide +kernel
theorem dX0_countRightWeeks_30 : decode cX0_countRightWeeks 30 = .ok (.goto (-25), 3) := by decide +kernel
theorem dX0_countRightWeeks_33 : decode cX0_countRightWeeks 33 = .ok (.iload_n 3, 1) := by decide +kernel
theorem dX0_countRightWeeks_34 : decode cX0_countRightWeeks 34 = .ok (.ireturn, 1) := by decide +kernel
theorem dX0_bringWash_0 : decode cX0_bringWash 0 = .ok (.iconst 0, 1) := by decide +kernel
theorem dX0_bringWash_1 : decode cX0_bringWash 1 = .ok (.istore_n 1, 1) := by decide +kernel
theorem dX0_bringWash_2 : decode cX0_bringWash 2 = .ok (.iload_n 1, 1) := by decide +kernel
theorem dX0_bringWash_3 : decode cX0_bringWash 3 = .ok (.aload_n 0, 1) := by decide +kernel
theorem dX0_bringWash_4 : decode cX0_bringWash 4 = .ok (.getfield 34, 3) := by decide +kernel
theorem dX0_bringWash_7 : decode cX0_bringWash 7 = .ok (.if_icmp .ge 86, 3) := by decide +kernel
theorem dX0_bringWash_10 : decode cX0_bringWash 10 = .ok (.aload_n 0, 1) := by decide +kernel
theorem dX0_bringWash_11 : decode cX0_bringWash 11 = .ok (.getfield 46, 3) := by decide +kernel
theorem dX0_bringWash_14 : decode cX0_bringWash 14 = .ok (.iload_n 1, 1) := by decide +kernel
theorem dX0_bringWash_15 : decode cX0_bringWash 15 = .ok (.iaload, 1) := by decide +kernel
theorem dX0_bringWash_16 : decode cX0_bringWash 16 = .ok (.istore_n 2, 1) := by decide +kernel
theorem dX0_bringWash_17 : decode cX0_bringWash 17 = .ok (.iload_n 2, 1) := by decide +kernel
theorem dX0_bringWash_18 : decode cX0_bringWash 18 = .ok (.iconst (-1), 1) := by decide +kernel
theorem dX0_bringWash_19 : decode cX0_bringWash 19 = .ok (.if_icmp .ne 6, 3) := by decide +kernel
theorem dX0_bringWash_22 : decode cX0_bringWash 22 = .ok (.goto 65, 3) := by decide +kernel
theorem dX0_bringWash_25 : decode cX0_bringWash 25 = .ok (.aload_n 0, 1) := by decide +kernel
theorem dX0_bringWash_26 : decode cX0_bringWash 26 = .ok (.getfield 43, 3) := by decide +kernel
theorem dX0_bringWash_29 : decode cX0_bringWash 29 = .ok (.iload_n 1, 1) := by decide +kernel
theorem dX0_bringWash_30 : decode cX0_bringWash 30 = .ok (.iconst 0, 1) := by decide +kernel
theorem dX0_bringWash_31 : decode cX0_bringWash 31 = .ok (.aload_n 0, 1) := by decide +kernel
theorem dX0_bringWash_32 : decode cX0_bringWash 32 = .ok (.getfield 43, 3) := by decide +kernel
theorem dX0_bringWash_35 : decode cX0_bringWash 35 = .ok (.iload_n 1, 1) := by decide +kernel
theorem dX0_bringWash_36 : decode cX0_bringWash 36 = .ok (.iaload, 1) := by decide +kernel
theorem dX0_bringWash_37 : decode cX0_bringWash 37 = .ok (.aload_n 0, 1) := by decide +kernel
theorem dX0_bringWash_38 : decode cX0_bringWash 38 = .ok (.iload_n 1, 1) := by decide +kernel
theorem dX0_bringWash_39 : decode cX0_bringWash 39 = .ok (.invokevirtual 98, 3) := by decide +kernel
theorem dX0_bringWash_42 : decode cX0_bringWash 42 = .ok (.isub, 1) := by decide +kernel
theorem dX0_bringWash_43 : decode cX0_bringWash 43 = .ok (.invokestatic 69, 3) := by decide +kernel
theorem dX0_bringWash_46 : decode cX0_bringWash 46 = .ok (.iastore, 1) := by decide +kernel
theorem dX0_bringWash_47 : decode cX0_bringWash 47 = .ok (.iload_n 2, 1) := by decide +kernel
theorem dX0_bringWash_48 : decode cX0_bringWash 48 = .ok (.aload_n 0, 1) := by decide +kernel
theorem dX0_bringWash_49 : decode cX0_bringWash 49 = .ok (.getfield 37, 3) := by decide +kernel
theorem dX0_bringWash_52 : decode cX0_bringWash 52 = .ok (.iload_n 1, 1) := by decide +kernel
theorem dX0_bringWash_53 : decode cX0_bringWash 53 = .ok (.iaload, 1) := by decide +kernel
theorem dX0_bringWash_54 : decode cX0_bringWash 54 = .ok (.if_icmp .eq 22, 3) := by decide +kernel
theorem dX0_bringWash_57 : decode cX0_bringWash 57 = .ok (.aload_n 0, 1) := by decide +kernel
theorem dX0_bringWash_58 : decode cX0_bringWash 58 = .ok (.getfield 31, 3) := by decide +kernel
theorem dX0_bringWash_61 : decode cX0_bringWash 61 = .ok (.iload_n 2, 1) := by decide +kernel
theorem dX0_bringWash_62 : decode cX0_bringWash 62 = .ok (.iaload, 1) := by decide +kernel
theorem dX0_bringWash_63 : decode cX0_bringWash 63 = .ok (.iconst 1, 1) := by decide +kernel
theorem dX0_bringWash_64 : decode cX0_bringWash 64 = .ok (.if_icmp .eq 12, 3) := by decide +kernel
theorem dX0_bringWash_67 : decode cX0_bringWash 67 = .ok (.aload_n 0, 1) := by decide +kernel
theorem dX0_bringWash_68 : decode cX0_bringWash 68 = .ok (.iload_n 2, 1) := by decide +kernel
theorem dX0_bringWash_69 : decode cX0_bringWash 69 = .ok (.iload_n 1, 1) := by decide +kernel
theorem dX0_bringWash_70 : decode cX0_bringWash 70 = .ok (.invokevirtual 101, 3) := by decide +kernel
theorem dX0_bringWash_73 : decode cX0_bringWash 73 = .ok (.ifCond .eq 14, 3) := by decide +kernel
theorem dX0_bringWash_76 : decode cX0_bringWash 76 = .ok (.aload_n 0, 1) := by decide +kernel
theorem dX0_bringWash_77 : decode cX0_bringWash 77 = .ok (.getfield 46, 3) := by decide +kernel
theorem dX0_bringWash_80 : decode cX0_bringWash 80 = .ok (.iload_n 1, 1) := by decide +kernel
theorem dX0_bringWash_81 : decode cX0_bringWash 81 = .ok (.aload_n 0, 1) := by decide +kernel
theorem dX0_bringWash_82 : decode cX0_bringWash 82 = .ok (.iload_n 1, 1) := by decide +kernel
theorem dX0_bringWash_83 : decode cX0_bringWash 83 = .ok (.invokevirtual 105, 3) := by decide +kernel
theorem dX0_bringWash_86 : decode cX0_bringWash 86 = .ok (.iastore, 1) := by decide +kernel
theorem dX0_bringWash_87 : decode cX0_bringWash 87 = .ok (.iinc 1 1, 3) := by decide +kernel
theorem dX0_bringWash_90 : decode cX0_bringWash 90 = .ok (.goto (-88), 3) := by decide +kernel
theorem dX0_bringWash_93 : decode cX0_bringWash 93 = .ok (.return_, 1) := by decide +kernel
theorem dX0_layTable_0 : decode cX0_layTable 0 = .ok (.iconst 0, 1) := by decide +kernel
theorem dX0_layTable_1 : decode cX0_layTable 1 = .ok (.istore_n 1, 1) := by decide +kernel
theorem dX0_layTable_2 : decode cX0_layTable 2 = .ok (.iload_n 1, 1) := by decide +kernel
theorem dX0_layTable_3 : decode cX0_layTable 3 = .ok (.aload_n 0, 1) := by decide +kernel
theorem dX0_layTable_4 : decode cX0_layTable 4 = .ok (.getfield 34, 3) := by decide +kernel
theorem dX0_layTable_7 : decode cX0_layTable 7 = .ok (.if_icmp .ge 45, 3) := by decide +kernel
theorem dX0_layTable_10 : decode cX0_layTable 10 = .ok (.aload_n 0, 1) := by decide +kernel
theorem dX0_layTable_11 : decode cX0_layTable 11 = .ok (.getfield 46, 3) := by decide +kernel
theorem dX0_layTable_14 : decode cX0_layTable 14 = .ok (.iload_n 1, 1) := by decide +kernel
theorem dX0_layTable_15 : decode cX0_layTable 15 = .ok (.iaload, 1) := by decide +kernel
theorem dX0_layTable_16 : decode cX0_layTable 16 = .ok (.iconst (-1), 1) := by decide +kernel
theorem dX0_layTable_17 : decode cX0_layTable 17 = .ok (.if_icmp .ne 29, 3) := by decide +kernel
theorem dX0_layTable_20 : decode cX0_layTable 20 = .ok (.aload_n 0, 1) := by decide +kernel
theorem dX0_layTable_21 : decode cX0_layTable 21 = .ok (.getfield 46, 3) := by decide +kernel
theorem dX0_layTable_24 : decode cX0_layTable 24 = .ok (.iload_n 1, 1) := by decide +kernel
theorem dX0_layTable_25 : decode cX0_layTable 25 = .ok (.aload_n 0, 1) := by decide +kernel
theorem dX0_layTable_26 : decode cX0_layTable 26 = .ok (.iload_n 1, 1) := by decide +kernel
theorem dX0_layTable_27 : decode cX0_layTable 27 = .ok (.invokevirtual 108, 3) := by decide +kernel
theorem dX0_layTable_30 : decode cX0_layTable 30 = .ok (.iastore, 1) := by decide +kernel
theorem dX0_layTable_31 : decode cX0_layTable 31 = .ok (.aload_n 0, 1) := by decide +kernel
theorem dX0_layTable_32 : decode cX0_layTable 32 = .ok (.getfield 46, 3) := by decide +kernel
theorem dX0_layTable_35 : decode cX0_layTable 35 = .ok (.iload_n 1, 1) := by decide +kernel
theorem dX0_layTable_36 : decode cX0_layTable 36 = .ok (.iaload, 1) := by decide +kernel
theorem dX0_layTable_37 : decode cX0_layTable 37 = .ok (.iconst (-1), 1) := by decide +kernel
theorem dX0_layTable_38 : decode cX0_layTable 38 = .ok (.if_icmp .eq 8, 3) := by decide +kernel
theorem dX0_layTable_41 : decode cX0_layTable 41 = .ok (.aload_n 0, 1) := by decide +kernel
theorem dX0_layTable_42 : decode cX0_layTable 42 = .ok (.iload_n 1, 1) := by decide +kernel
theorem dX0_layTable_43 : decode cX0_layTable 43 = .ok (.invokevirtual 79, 3) := by decide +kernel
theorem dX0_layTable_46 : decode cX0_layTable 46 = .ok (.iinc 1 1, 3) := by decide +kernel
theorem dX0_layTable_49 : decode cX0_layTable 49 = .ok (.goto (-47), 3) := by decide +kernel
theorem dX0_layTable_52 : decode cX0_layTable 52 = .ok (.return_, 1) := by decide +kernel
theorem dX0_leastClaimant_0 : decode cX0_leastClaimant 0 = .ok (.iconst 0, 1) := by decide +kernel
theorem dX0_leastClaimant_1 : decode cX0_leastClaimant 1 = .ok (.istore_n 2, 1) := by decide +kernel
theorem dX0_leastClaimant_2 : decode cX0_leastClaimant 2 = .ok (.iload_n 2, 1) := by decide +kernel
theorem dX0_leastClaimant_3 : decode cX0_leastClaimant 3 = .ok (.aload_n 0, 1) := by decide +kernel
theorem dX0_leastClaimant_4 : decode cX0_leastClaimant 4 = .ok (.getfield 18, 3) := by decide +kernel
theorem dX0_leastClaimant_7 : decode cX0_leastClaimant 7 = .ok (.if_icmp .ge 29, 3) := by decide +kernel
theorem dX0_leastClaimant_10 : decode cX0_leastClaimant 10 = .ok (.aload_n 0, 1) := by decide +kernel
theorem dX0_leastClaimant_11 : decode cX0_leastClaimant 11 = .ok (.getfield 31, 3) := by decide +kernel
theorem dX0_leastClaimant_14 : decode cX0_leastClaimant 14 = .ok (.iload_n 2, 1) := by decide +kernel
theorem dX0_leastClaimant_15 : decode cX0_leastClaimant 15 = .ok (.iaload, 1) := by decide +kernel
theorem dX0_leastClaimant_16 : decode cX0_leastClaimant 16 = .ok (.ifCond .ne 14, 3) := by decide +kernel
theorem dX0_leastClaimant_19 : decode cX0_leastClaimant 19 = .ok (.aload_n 0, 1) := by decide +kernel
theorem dX0_leastClaimant_20 : decode cX0_leastClaimant 20 = .ok (.iload_n 2, 1) := by decide +kernel
theorem dX0_leastClaimant_21 : decode cX0_leastClaimant 21 = .ok (.iload_n 1, 1) := by decide +kernel
theorem dX0_leastClaimant_22 : decode cX0_leastClaimant 22 = .ok (.invokevirtual 111, 3) := by decide +kernel
theorem dX0_leastClaimant_25 : decode cX0_leastClaimant 25 = .ok (.ifCond .eq 5, 3) := by decide +kernel
theorem dX0_leastClaimant_28 : decode cX0_leastClaimant 28 = .ok (.iload_n 2, 1) := by decide +kernel
theorem dX0_leastClaimant_29 : decode cX0_leastClaimant 29 = .ok (.ireturn, 1) := by decide +kernel
theorem dX0_leastClaimant_30 : decode cX0_leastClaimant 30 = .ok (.iinc 2 1, 3) := by decide +kernel
theorem dX0_leastClaimant_33 : decode cX0_leastClaimant 33 = .ok (.goto (-31), 3) := by decide +kernel
theorem dX0_leastClaimant_36 : decode cX0_leastClaimant 36 = .ok (.iconst (-1), 1) := by decide +kernel
theorem dX0_leastClaimant_37 : decode cX0_leastClaimant 37 = .ok (.ireturn, 1) := by decide +kernel
theorem dX0_addContents_0 : decode cX0_addContents 0 = .ok (.iconst 0, 1) := by decide +kernel
theorem dX0_addContents_1 : decode cX0_addContents 1 = .ok (.istore_n 1, 1) := by decide +kernel
theorem dX0_addContents_2 : decode cX0_addContents 2 = .ok (.iload_n 1, 1) := by decide +kernel
theorem dX0_addContents_3 : decode cX0_addContents 3 = .ok (.aload_n 0, 1) := by decide +kernel
theorem dX0_addContents_4 : decode cX0_addContents 4 = .ok (.getfield 18, 3) := by decide +kernel
theorem dX0_addContents_7 : decode cX0_addContents 7 = .ok (.if_icmp .ge 50, 3) := by decide +kernel
theorem dX0_addContents_10 : decode cX0_addContents 10 = .ok (.aload_n 0, 1) := by decide +kernel
theorem dX0_addContents_11 : decode cX0_addContents 11 = .ok (.getfield 31, 3) := by decide +kernel
theorem dX0_addContents_14 : decode cX0_addContents 14 = .ok (.iload_n 1, 1) := by decide +kernel
theorem dX0_addContents_15 : decode cX0_addContents 15 = .ok (.iaload, 1) := by decide +kernel
theorem dX0_addContents_16 : decode cX0_addContents 16 = .ok (.ifCond .ne 35, 3) := by decide +kernel
theorem dX0_addContents_19 : decode cX0_addContents 19 = .ok (.aload_n 0, 1) := by decide +kernel
theorem dX0_addContents_20 : decode cX0_addContents 20 = .ok (.getfield 28, 3) := by decide +kernel
theorem dX0_addContents_23 : decode cX0_addContents 23 = .ok (.iload_n 1, 1) := by decide +kernel
theorem dX0_addContents_24 : decode cX0_addContents 24 = .ok (.iaload, 1) := by decide +kernel
theorem dX0_addContents_25 : decode cX0_addContents 25 = .ok (.aload_n 0, 1) := by decide +kernel
theorem dX0_addContents_26 : decode cX0_addContents 26 = .ok (.iload_n 1, 1) := by decide +kernel
theorem dX0_addContents_27 : decode cX0_addContents 27 = .ok (.invokevirtual 114, 3) := by decide +kernel
theorem dX0_addContents_30 : decode cX0_addContents 30 = .ok (.iadd, 1) := by decide +kernel
theorem dX0_addContents_31 : decode cX0_addContents 31 = .ok (.istore_n 2, 1) := by decide +kernel
theorem dX0_addContents_32 : decode cX0_addContents 32 = .ok (.aload_n 0, 1) := by decide +kernel
theorem dX0_addContents_33 : decode cX0_addContents 33 = .ok (.getfield 28, 3) := by decide +kernel
theorem dX0_addContents_36 : decode cX0_addContents 36 = .ok (.iload_n 1, 1) := by decide +kernel
theorem dX0_addContents_37 : decode cX0_addContents 37 = .ok (.sipush (-999), 3) := by decide +kernel
theorem dX0_addContents_40 : decode cX0_addContents 40 = .ok (.sipush 999, 3) := by decide +kernel
theorem dX0_addContents_43 : decode cX0_addContents 43 = .ok (.iload_n 2, 1) := by decide +kernel
theorem dX0_addContents_44 : decode cX0_addContents 44 = .ok (.invokestatic 117, 3) := by decide +kernel
theorem dX0_addContents_47 : decode cX0_addContents 47 = .ok (.invokestatic 69, 3) := by decide +kernel
theorem dX0_addContents_50 : decode cX0_addContents 50 = .ok (.iastore, 1) := by decide +kernel
theorem dX0_addContents_51 : decode cX0_addContents 51 = .ok (.iinc 1 1, 3) := by decide +kernel
theorem dX0_addContents_54 : decode cX0_addContents 54 = .ok (.goto (-52), 3) := by decide +kernel
theorem dX0_addContents_57 : decode cX0_addContents 57 = .ok (.return_, 1) := by decide +kernel
theorem dX1_init_0 : decode cX1_init 0 = .ok (.aload_n 0, 1) := by decide +kernel
theorem dX1_init_1 : decode cX1_init 1 = .ok (.invokespecial 3, 3) := by decide +kernel
theorem dX1_init_4 : decode cX1_init 4 = .ok (.aload_n 0, 1) := by decide +kernel
theorem dX1_init_5 : decode cX1_init 5 = .ok (.aload_n 1, 1) := by decide +kernel
theorem dX1_init_6 : decode cX1_init 6 = .ok (.putfield 9, 3) := by decide +kernel
theorem dX1_init_9 : decode cX1_init 9 = .ok (.aload_n 0, 1) := by decide +kernel
theorem dX1_init_10 : decode cX1_init 10 = .ok (.aload_n 2, 1) := by decide +kernel
theorem dX1_init_11 : decode cX1_init 11 = .ok (.putfield 15, 3) := by decide +kernel
theorem dX1_init_14 : decode cX1_init 14 = .ok (.aload_n 0, 1) := by decide +kernel
theorem dX1_init_15 : decode cX1_init 15 = .ok (.iconst 0, 1) := by decide +kernel
theorem dX1_init_16 : decode cX1_init 16 = .ok (.putfield 19, 3) := by decide +kernel
theorem dX1_init_19 : decode cX1_init 19 = .ok (.return_, 1) := by decide +kernel
theorem dX1_takeItems_0 : decode cX1_takeItems 0 = .ok (.aload_n 0, 1) := by decide +kernel
theorem dX1_takeItems_1 : decode cX1_takeItems 1 = .ok (.iconst 0, 1) := by decide +kernel
theorem dX1_takeItems_2 : decode cX1_takeItems 2 = .ok (.putfield 19, 3) := by decide +kernel
theorem dX1_takeItems_5 : decode cX1_takeItems 5 = .ok (.aload_n 0, 1) := by decide +kernel
theorem dX1_takeItems_6 : decode cX1_takeItems 6 = .ok (.getfield 9, 3) := by decide +kernel
theorem dX1_takeItems_9 : decode cX1_takeItems 9 = .ok (.invokevirtual 23, 3) := by decide +kernel
theorem dX1_takeItems_12 : decode cX1_takeItems 12 = .ok (.iconst 0, 1) := by decide +kernel
theorem dX1_takeItems_13 : decode cX1_takeItems 13 = .ok (.istore_n 1, 1) := by decide +kernel
theorem dX1_takeItems_14 : decode cX1_takeItems 14 = .ok (.iload_n 1, 1) := by decide +kernel
theorem dX1_takeItems_15 : decode cX1_takeItems 15 = .ok (.aload_n 0, 1) := by decide +kernel
theorem dX1_takeItems_16 : decode cX1_takeItems 16 = .ok (.getfield 9, 3) := by decide +kernel
theorem dX1_takeItems_19 : decode cX1_takeItems 19 = .ok (.getfield 28, 3) := by decide +kernel
theorem dX1_takeItems_22 : decode cX1_takeItems 22 = .ok (.if_icmp .gt 62, 3) := by decide +kernel
theorem dX1_takeItems_25 : decode cX1_takeItems 25 = .ok (.aload_n 0, 1) := by decide +kernel
theorem dX1_takeItems_26 : decode cX1_takeItems 26 = .ok (.getfield 9, 3) := by decide +kernel
theorem dX1_takeItems_29 : decode cX1_takeItems 29 = .ok (.invokevirtual 31, 3) := by decide +kernel
theorem dX1_takeItems_32 : decode cX1_takeItems 32 = .ok (.aload_n 0, 1) := by decide +kernel
theorem dX1_takeItems_33 : decode cX1_takeItems 33 = .ok (.invokevirtual 34, 3) := by decide +kernel
theorem dX1_takeItems_36 : decode cX1_takeItems 36 = .ok (.ifCond .ne 5, 3) := by decide +kernel
theorem dX1_takeItems_39 : decode cX1_takeItems 39 = .ok (.iconst 0, 1) := by decide +kernel
theorem dX1_takeItems_40 : decode cX1_takeItems 40 = .ok (.ireturn, 1) := by decide +kernel
theorem dX1_takeItems_41 : decode cX1_takeItems 41 = .ok (.aload_n 0, 1) := by decide +kernel
theorem dX1_takeItems_42 : decode cX1_takeItems 42 = .ok (.dup, 1) := by decide +kernel
theorem dX1_takeItems_43 : decode cX1_takeItems 43 = .ok (.getfield 19, 3) := by decide +kernel
theorem dX1_takeItems_46 : decode cX1_takeItems 46 = .ok (.iconst 1, 1) := by decide +kernel
theorem dX1_takeItems_47 : decode cX1_takeItems 47 = .ok (.iadd, 1) := by decide +kernel
theorem dX1_takeItems_48 : decode cX1_takeItems 48 = .ok (.putfield 19, 3) := by decide +kernel
theorem dX1_takeItems_51 : decode cX1_takeItems 51 = .ok (.aload_n 0, 1) := by decide +kernel
theorem dX1_takeItems_52 : decode cX1_takeItems 52 = .ok (.getfield 9, 3) := by decide +kernel
theorem dX1_takeItems_55 : decode cX1_takeItems 55 = .ok (.getfield 38, 3) := by decide +kernel
theorem dX1_takeItems_58 : decode cX1_takeItems 58 = .ok (.iconst 3, 1) := by decide +kernel
theorem dX1_takeItems_59 : decode cX1_takeItems 59 = .ok (.if_icmp .eq 19, 3) := by decide +kernel
theorem dX1_takeItems_62 : decode cX1_takeItems 62 = .ok (.aload_n 0, 1) := by decide +kernel
theorem dX1_takeItems_63 : decode cX1_takeItems 63 = .ok (.getfield 9, 3) := by decide +kernel
theorem dX1_takeItems_66 : decode cX1_takeItems 66 = .ok (.getfield 38, 3) := by decide +kernel
theorem dX1_takeItems_69 : decode cX1_takeItems 69 = .ok (.ifCond .ne 7, 3) := by decide +kernel
theorem dX1_takeItems_72 : decode cX1_takeItems 72 = .ok (.iconst 1, 1) := by decide +kernel
theorem dX1_takeItems_73 : decode cX1_takeItems 73 = .ok (.goto 4, 3) := by decide +kernel
theorem dX1_takeItems_76 : decode cX1_takeItems 76 = .ok (.iconst 0, 1) := by decide +kernel
theorem dX1_takeItems_77 : decode cX1_takeItems 77 = .ok (.ireturn, 1) := by decide +kernel
theorem dX1_takeItems_78 : decode cX1_takeItems 78 = .ok (.iinc 1 1, 3) := by decide +kernel
theorem dX1_takeItems_81 : decode cX1_takeItems 81 = .ok (.goto (-67), 3) := by decide +kernel
theorem dX1_takeItems_84 : decode cX1_takeItems 84 = .ok (.iconst 0, 1) := by decide +kernel
theorem dX1_takeItems_85 : decode cX1_takeItems 85 = .ok (.ireturn, 1) := by decide +kernel
theorem dX1_takeItem_0 : decode cX1_takeItem 0 = .ok (.aload_n 0, 1) := by decide +kernel
theorem dX1_takeItem_1 : decode cX1_takeItem 1 = .ok (.invokevirtual 41, 3) := by decide +kernel
theorem dX1_takeItem_4 : decode cX1_takeItem 4 = .ok (.istore_n 1, 1) := by decide +kernel
theorem dX1_takeItem_5 : decode cX1_takeItem 5 = .ok (.iload_n 1, 1) := by decide +kernel
theorem dX1_takeItem_6 : decode cX1_takeItem 6 = .ok (.ifCond .lt 9, 3) := by decide +kernel
theorem dX1_takeItem_9 : decode cX1_takeItem 9 = .ok (.aload_n 0, 1) := by decide +kernel
theorem dX1_takeItem_10 : decode cX1_takeItem 10 = .ok (.iload_n 1, 1) := by decide +kernel
theorem dX1_takeItem_11 : decode cX1_takeItem 11 = .ok (.invokevirtual 45, 3) := by decide +kernel
theorem dX1_takeItem_14 : decode cX1_takeItem 14 = .ok (.ireturn, 1) := by decide +kernel
theorem dX1_takeItem_15 : decode cX1_takeItem 15 = .ok (.aload_n 0, 1) := by decide +kernel
theorem dX1_takeItem_16 : decode cX1_takeItem 16 = .ok (.invokevirtual 49, 3) := by decide +kernel
theorem dX1_takeItem_19 : decode cX1_takeItem 19 = .ok (.istore_n 2, 1) := by decide +kernel
theorem dX1_takeItem_20 : decode cX1_takeItem 20 = .ok (.iload_n 2, 1) := by decide +kernel
theorem dX1_takeItem_21 : decode cX1_takeItem 21 = .ok (.ifCond .lt 9, 3) := by decide +kernel
theorem dX1_takeItem_24 : decode cX1_takeItem 24 = .ok (.aload_n 0, 1) := by decide +kernel
theorem dX1_takeItem_25 : decode cX1_takeItem 25 = .ok (.iload_n 2, 1) := by decide +kernel
theorem dX1_takeItem_26 : decode cX1_takeItem 26 = .ok (.invokevirtual 52, 3) := by decide +kernel
theorem dX1_takeItem_29 : decode cX1_takeItem 29 = .ok (.ireturn, 1) := by decide +kernel
theorem dX1_takeItem_30 : decode cX1_takeItem 30 = .ok (.aload_n 0, 1) := by decide +kernel
theorem dX1_takeItem_31 : decode cX1_takeItem 31 = .ok (.getfield 9, 3) := by decide +kernel
theorem dX1_takeItem_34 : decode cX1_takeItem 34 = .ok (.ldc 55, 2) := by decide +kernel
theorem dX1_takeItem_36 : decode cX1_takeItem 36 = .ok (.invokevirtual 57, 3) := by decide +kernel
theorem dX1_takeItem_39 : decode cX1_takeItem 39 = .ok (.ifCond .eq 8, 3) := by decide +kernel
theorem dX1_takeItem_42 : decode cX1_takeItem 42 = .ok (.aload_n 0, 1) := by decide +kernel
theorem dX1_takeItem_43 : decode cX1_takeItem 43 = .ok (.invokevirtual 61, 3) := by decide +kernel
theorem dX1_takeItem_46 : decode cX1_takeItem 46 = .ok (.ireturn, 1) := by decide +kernel
theorem dX1_takeItem_47 : decode cX1_takeItem 47 = .ok (.aload_n 0, 1) := by decide +kernel
theorem dX1_takeItem_48 : decode cX1_takeItem 48 = .ok (.getfield 9, 3) := by decide +kernel
theorem dX1_takeItem_51 : decode cX1_takeItem 51 = .ok (.ldc 64, 2) := by decide +kernel
theorem dX1_takeItem_53 : decode cX1_takeItem 53 = .ok (.invokevirtual 57, 3) := by decide +kernel
theorem dX1_takeItem_56 : decode cX1_takeItem 56 = .ok (.ifCond .eq 14, 3) := by decide +kernel
theorem dX1_takeItem_59 : decode cX1_takeItem 59 = .ok (.aload_n 0, 1) := by decide +kernel
theorem dX1_takeItem_60 : decode cX1_takeItem 60 = .ok (.invokevirtual 66, 3) := by decide +kernel
theorem dX1_takeItem_63 : decode cX1_takeItem 63 = .ok (.ifCond .eq 7, 3) := by decide +kernel
theorem dX1_takeItem_66 : decode cX1_takeItem 66 = .ok (.iconst 1, 1) := by decide +kernel
theorem dX1_takeItem_67 : decode cX1_takeItem 67 = .ok (.goto 4, 3) := by decide +kernel
theorem dX1_takeItem_70 : decode cX1_takeItem 70 = .ok (.iconst 0, 1) := by decide +kernel
theorem dX1_takeItem_71 : decode cX1_takeItem 71 = .ok (.ireturn, 1) := by decide +kernel
theorem dX1_takePerson_0 : decode cX1_takePerson 0 = .ok (.aload_n 0, 1) := by decide +kernel
theorem dX1_takePerson_1 : decode cX1_takePerson 1 = .ok (.getfield 15, 3) := by decide +kernel
theorem dX1_takePerson_4 : decode cX1_takePerson 4 = .ok (.getfield 69, 3) := by decide +kernel
theorem dX1_takePerson_7 : decode cX1_takePerson 7 = .ok (.bipush 6, 2) := by decide +kernel
theorem dX1_takePerson_9 : decode cX1_takePerson 9 = .ok (.if_icmp .lt 5, 3) := by decide +kernel
theorem dX1_takePerson_12 : decode cX1_takePerson 12 = .ok (.iconst 0, 1) := by decide +kernel
theorem dX1_takePerson_13 : decode cX1_takePerson 13 = .ok (.ireturn, 1) := by decide +kernel
theorem dX1_takePerson_14 : decode cX1_takePerson 14 = .ok (.aload_n 0, 1) := by decide +kernel
theorem dX1_takePerson_15 : decode cX1_takePerson 15 = .ok (.getfield 15, 3) := by decide +kernel
theorem dX1_takePerson_18 : decode cX1_takePerson 18 = .ok (.iload_n 1, 1) := by decide +kernel
theorem dX1_takePerson_19 : decode cX1_takePerson 19 = .ok (.invokevirtual 74, 3) := by decide +kernel
theorem dX1_takePerson_22 : decode cX1_takePerson 22 = .ok (.istore_n 2, 1) := by decide +kernel
theorem dX1_takePerson_23 : decode cX1_takePerson 23 = .ok (.aload_n 0, 1) := by decide +kernel
theorem dX1_takePerson_24 : decode cX1_takePerson 24 = .ok (.getfield 9, 3) := by decide +kernel
theorem dX1_takePerson_27 : decode cX1_takePerson 27 = .ok (.invokevirtual 31, 3) := by decide +kernel
theorem dX1_takePerson_30 : decode cX1_takePerson 30 = .ok (.aload_n 0, 1) := by decide +kernel
theorem dX1_takePerson_31 : decode cX1_takePerson 31 = .ok (.getfield 9, 3) := by decide +kernel
theorem dX1_takePerson_34 : decode cX1_takePerson 34 = .ok (.ldc 78, 2) := by decide +kernel
theorem dX1_takePerson_36 : decode cX1_takePerson 36 = .ok (.invokevirtual 57, 3) := by decide +kernel
theorem dX1_takePerson_39 : decode cX1_takePerson 39 = .ok (.ifCond .eq 37, 3) := by decide +kernel
theorem dX1_takePerson_42 : decode cX1_takePerson 42 = .ok (.aload_n 0, 1) := by decide +kernel
theorem dX1_takePerson_43 : decode cX1_takePerson 43 = .ok (.iconst 0, 1) := by decide +kernel
theorem dX1_takePerson_44 : decode cX1_takePerson 44 = .ok (.iconst 2, 1) := by decide +kernel
theorem dX1_takePerson_45 : decode cX1_takePerson 45 = .ok (.invokevirtual 80, 3) := by decide +kernel
theorem dX1_takePerson_48 : decode cX1_takePerson 48 = .ok (.ifCond .ne 5, 3) := by decide +kernel
theorem dX1_takePerson_51 : decode cX1_takePerson 51 = .ok (.iconst 0, 1) := by decide +kernel
theorem dX1_takePerson_52 : decode cX1_takePerson 52 = .ok (.ireturn, 1) := by decide +kernel
theorem dX1_takePerson_53 : decode cX1_takePerson 53 = .ok (.aload_n 0, 1) := by decide +kernel
theorem dX1_takePerson_54 : decode cX1_takePerson 54 = .ok (.getfield 15, 3) := by decide +kernel
theorem dX1_takePerson_57 : decode cX1_takePerson 57 = .ok (.getfield 84, 3) := by decide +kernel
theorem dX1_takePerson_60 : decode cX1_takePerson 60 = .ok (.iload_n 2, 1) := by decide +kernel
theorem dX1_takePerson_61 : decode cX1_takePerson 61 = .ok (.aload_n 0, 1) := by decide +kernel
theorem dX1_takePerson_62 : decode cX1_takePerson 62 = .ok (.getfield 9, 3) := by decide +kernel
theorem dX1_takePerson_65 : decode cX1_takePerson 65 = .ok (.getfield 88, 3) := by decide +kernel
theorem dX1_takePerson_68 : decode cX1_takePerson 68 = .ok (.iastore, 1) := by decide +kernel
theorem dX1_takePerson_69 : decode cX1_takePerson 69 = .ok (.aload_n 0, 1) := by decide +kernel
theorem dX1_takePerson_70 : decode cX1_takePerson 70 = .ok (.getfield 9, 3) := by decide +kernel
theorem dX1_takePerson_73 : decode cX1_takePerson 73 = .ok (.invokevirtual 31, 3) := by decide +kernel
theorem dX1_takePerson_76 : decode cX1_takePerson 76 = .ok (.iconst 1, 1) := by decide +kernel
theorem dX1_takePerson_77 : decode cX1_takePerson 77 = .ok (.ireturn, 1) := by decide +kernel
theorem dX1_takeGarment_0 : decode cX1_takeGarment 0 = .ok (.aload_n 0, 1) := by decide +kernel
theorem dX1_takeGarment_1 : decode cX1_takeGarment 1 = .ok (.getfield 15, 3) := by decide +kernel
theorem dX1_takeGarment_4 : decode cX1_takeGarment 4 = .ok (.getfield 91, 3) := by decide +kernel
theorem dX1_takeGarment_7 : decode cX1_takeGarment 7 = .ok (.bipush 10, 2) := by decide +kernel
theorem dX1_takeGarment_9 : decode cX1_takeGarment 9 = .ok (.if_icmp .ge 20, 3) := by decide +kernel
theorem dX1_takeGarment_12 : decode cX1_takeGarment 12 = .ok (.aload_n 0, 1) := by decide +kernel
theorem dX1_takeGarment_13 : decode cX1_takeGarment 13 = .ok (.iconst 0, 1) := by decide +kernel
theorem dX1_takeGarment_14 : decode cX1_takeGarment 14 = .ok (.aload_n 0, 1) := by decide +kernel
theorem dX1_takeGarment_15 : decode cX1_takeGarment 15 = .ok (.getfield 15, 3) := by decide +kernel
theorem dX1_takeGarment_18 : decode cX1_takeGarment 18 = .ok (.getfield 69, 3) := by decide +kernel
theorem dX1_takeGarment_21 : decode cX1_takeGarment 21 = .ok (.iconst 1, 1) := by decide +kernel
theorem dX1_takeGarment_22 : decode cX1_takeGarment 22 = .ok (.isub, 1) := by decide +kernel
theorem dX1_takeGarment_23 : decode cX1_takeGarment 23 = .ok (.invokevirtual 80, 3) := by decide +kernel
theorem dX1_takeGarment_26 : decode cX1_takeGarment 26 = .ok (.ifCond .ne 5, 3) := by decide +kernel
theorem dX1_takeGarment_29 : decode cX1_takeGarment 29 = .ok (.iconst 0, 1) := by decide +kernel
theorem dX1_takeGarment_30 : decode cX1_takeGarment 30 = .ok (.ireturn, 1) := by decide +kernel
theorem dX1_takeGarment_31 : decode cX1_takeGarment 31 = .ok (.aload_n 0, 1) := by decide +kernel
theorem dX1_takeGarment_32 : decode cX1_takeGarment 32 = .ok (.getfield 15, 3) := by decide +kernel
theorem dX1_takeGarment_35 : decode cX1_takeGarment 35 = .ok (.aload_n 0, 1) := by decide +kernel
theorem dX1_takeGarment_36 : decode cX1_takeGarment 36 = .ok (.getfield 9, 3) := by decide +kernel
theorem dX1_takeGarment_39 : decode cX1_takeGarment 39 = .ok (.getfield 88, 3) := by decide +kernel
theorem dX1_takeGarment_42 : decode cX1_takeGarment 42 = .ok (.iload_n 1, 1) := by decide +kernel
theorem dX1_takeGarment_43 : decode cX1_takeGarment 43 = .ok (.invokevirtual 94, 3) := by decide +kernel
theorem dX1_takeGarment_46 : decode cX1_takeGarment 46 = .ok (.istore_n 2, 1) := by decide +kernel
theorem dX1_takeGarment_47 : decode cX1_takeGarment 47 = .ok (.aload_n 0, 1) := by decide +kernel
theorem dX1_takeGarment_48 : decode cX1_takeGarment 48 = .ok (.getfield 9, 3) := by decide +kernel
theorem dX1_takeGarment_51 : decode cX1_takeGarment 51 = .ok (.invokevirtual 31, 3) := by decide +kernel
theorem dX1_takeGarment_54 : decode cX1_takeGarment 54 = .ok (.aload_n 0, 1) := by decide +kernel
theorem dX1_takeGarment_55 : decode cX1_takeGarment 55 = .ok (.getfield 9, 3) := by decide +kernel
theorem dX1_takeGarment_58 : decode cX1_takeGarment 58 = .ok (.ldc 98, 2) := by decide +kernel
theorem dX1_takeGarment_60 : decode cX1_takeGarment 60 = .ok (.invokevirtual 57, 3) := by decide +kernel
theorem dX1_takeGarment_63 : decode cX1_takeGarment 63 = .ok (.ifCond .eq 38, 3) := by decide +kernel
theorem dX1_takeGarment_66 : decode cX1_takeGarment 66 = .ok (.aload_n 0, 1) := by decide +kernel
theorem dX1_takeGarment_67 : decode cX1_takeGarment 67 = .ok (.iconst 0, 1) := by decide +kernel
theorem dX1_takeGarment_68 : decode cX1_takeGarment 68 = .ok (.bipush 99, 2) := by decide +kernel
theorem dX1_takeGarment_70 : decode cX1_takeGarment 70 = .ok (.invokevirtual 80, 3) := by decide +kernel
theorem dX1_takeGarment_73 : decode cX1_takeGarment 73 = .ok (.ifCond .ne 5, 3) := by decide +kernel
theorem dX1_takeGarment_76 : decode cX1_takeGarment 76 = .ok (.iconst 0, 1) := by decide +kernel
theorem dX1_takeGarment_77 : decode cX1_takeGarment 77 = .ok (.ireturn, 1) := by decide +kernel
theorem dX1_takeGarment_78 : decode cX1_takeGarment 78 = .ok (.aload_n 0, 1) := by decide +kernel
theorem dX1_takeGarment_79 : decode cX1_takeGarment 79 = .ok (.getfield 15, 3) := by decide +kernel
theorem dX1_takeGarment_82 : decode cX1_takeGarment 82 = .ok (.getfield 100, 3) := by decide +kernel
theorem dX1_takeGarment_85 : decode cX1_takeGarment 85 = .ok (.iload_n 2, 1) := by decide +kernel
theorem dX1_takeGarment_86 : decode cX1_takeGarment 86 = .ok (.aload_n 0, 1) := by decide +kernel
theorem dX1_takeGarment_87 : decode cX1_takeGarment 87 = .ok (.getfield 9, 3) := by decide +kernel
theorem dX1_takeGarment_90 : decode cX1_takeGarment 90 = .ok (.getfield 88, 3) := by decide +kernel
theorem dX1_takeGarment_93 : decode cX1_takeGarment 93 = .ok (.iastore, 1) := by decide +kernel
theorem dX1_takeGarment_94 : decode cX1_takeGarment 94 = .ok (.aload_n 0, 1) := by decide +kernel
theorem dX1_takeGarment_95 : decode cX1_takeGarment 95 = .ok (.getfield 9, 3) := by decide +kernel
theorem dX1_takeGarment_98 : decode cX1_takeGarment 98 = .ok (.invokevirtual 31, 3) := by decide +kernel
theorem dX1_takeGarment_101 : decode cX1_takeGarment 101 = .ok (.aload_n 0, 1) := by decide +kernel
theorem dX1_takeGarment_102 : decode cX1_takeGarment 102 = .ok (.getfield 9, 3) := by decide +kernel
theorem dX1_takeGarment_105 : decode cX1_takeGarment 105 = .ok (.ldc 103, 2) := by decide +kernel
theorem dX1_takeGarment_107 : decode cX1_takeGarment 107 = .ok (.invokevirtual 57, 3) := by decide +kernel
theorem dX1_takeGarment_110 : decode cX1_takeGarment 110 = .ok (.ifCond .eq 20, 3) := by decide +kernel
theorem dX1_takeGarment_113 : decode cX1_takeGarment 113 = .ok (.aload_n 0, 1) := by decide +kernel
theorem dX1_takeGarment_114 : decode cX1_takeGarment 114 = .ok (.getfield 15, 3) := by decide +kernel
theorem dX1_takeGarment_117 : decode cX1_takeGarment 117 = .ok (.getfield 105, 3) := by decide +kernel
theorem dX1_takeGarment_120 : decode cX1_takeGarment 120 = .ok (.iload_n 2, 1) := by decide +kernel
theorem dX1_takeGarment_121 : decode cX1_takeGarment 121 = .ok (.iconst (-1), 1) := by decide +kernel
theorem dX1_takeGarment_122 : decode cX1_takeGarment 122 = .ok (.iastore, 1) := by decide +kernel
theorem dX1_takeGarment_123 : decode cX1_takeGarment 123 = .ok (.aload_n 0, 1) := by decide +kernel
theorem dX1_takeGarment_124 : decode cX1_takeGarment 124 = .ok (.getfield 9, 3) := by decide +kernel
theorem dX1_takeGarment_127 : decode cX1_takeGarment 127 = .ok (.invokevirtual 31, 3) := by decide +kernel
theorem dX1_takeGarment_130 : decode cX1_takeGarment 130 = .ok (.iconst 1, 1) := by decide +kernel
theorem dX1_takeGarment_131 : decode cX1_takeGarment 131 = .ok (.ireturn, 1) := by decide +kernel
theorem dX1_takeHeat_0 : decode cX1_takeHeat 0 = .ok (.aload_n 0, 1) := by decide +kernel
theorem dX1_takeHeat_1 : decode cX1_takeHeat 1 = .ok (.bipush 20, 2) := by decide +kernel
theorem dX1_takeHeat_3 : decode cX1_takeHeat 3 = .ok (.bipush 90, 2) := by decide +kernel
theorem dX1_takeHeat_5 : decode cX1_takeHeat 5 = .ok (.invokevirtual 80, 3) := by decide +kernel
theorem dX1_takeHeat_8 : decode cX1_takeHeat 8 = .ok (.ifCond .ne 5, 3) := by decide +kernel
theorem dX1_takeHeat_11 : decode cX1_takeHeat 11 = .ok (.iconst 0, 1) := by decide +kernel
theorem dX1_takeHeat_12 : decode cX1_takeHeat 12 = .ok (.ireturn, 1) := by decide +kernel
theorem dX1_takeHeat_13 : decode cX1_takeHeat 13 = .ok (.aload_n 0, 1) := by decide +kernel
theorem dX1_takeHeat_14 : decode cX1_takeHeat 14 = .ok (.getfield 15, 3) := by decide +kernel
theorem dX1_takeHeat_17 : decode cX1_takeHeat 17 = .ok (.aload_n 0, 1) := by decide +kernel
theorem dX1_takeHeat_18 : decode cX1_takeHeat 18 = .ok (.getfield 9, 3) := by decide +kernel
theorem dX1_takeHeat_21 : decode cX1_takeHeat 21 = .ok (.getfield 88, 3) := by decide +kernel
theorem dX1_takeHeat_24 : decode cX1_takeHeat 24 = .ok (.putfield 108, 3) := by decide +kernel
theorem dX1_takeHeat_27 : decode cX1_takeHeat 27 = .ok (.aload_n 0, 1) := by decide +kernel
theorem dX1_takeHeat_28 : decode cX1_takeHeat 28 = .ok (.getfield 9, 3) := by decide +kernel
theorem dX1_takeHeat_31 : decode cX1_takeHeat 31 = .ok (.invokevirtual 31, 3) := by decide +kernel
theorem dX1_takeHeat_34 : decode cX1_takeHeat 34 = .ok (.iconst 1, 1) := by decide +kernel
theorem dX1_takeHeat_35 : decode cX1_takeHeat 35 = .ok (.ireturn, 1) := by decide +kernel
theorem dX1_takeDeath_0 : decode cX1_takeDeath 0 = .ok (.aload_n 0, 1) := by decide +kernel
theorem dX1_takeDeath_1 : decode cX1_takeDeath 1 = .ok (.iconst 0, 1) := by decide +kernel
theorem dX1_takeDeath_2 : decode cX1_takeDeath 2 = .ok (.aload_n 0, 1) := by decide +kernel
theorem dX1_takeDeath_3 : decode cX1_takeDeath 3 = .ok (.getfield 15, 3) := by decide +kernel
theorem dX1_takeDeath_6 : decode cX1_takeDeath 6 = .ok (.getfield 69, 3) := by decide +kernel
theorem dX1_takeDeath_9 : decode cX1_takeDeath 9 = .ok (.iconst 1, 1) := by decide +kernel
theorem dX1_takeDeath_10 : decode cX1_takeDeath 10 = .ok (.isub, 1) := by decide +kernel
theorem dX1_takeDeath_11 : decode cX1_takeDeath 11 = .ok (.invokevirtual 80, 3) := by decide +kernel
theorem dX1_takeDeath_14 : decode cX1_takeDeath 14 = .ok (.ifCond .ne 5, 3) := by decide +kernel
theorem dX1_takeDeath_17 : decode cX1_takeDeath 17 = .ok (.iconst 0, 1) := by decide +kernel
theorem dX1_takeDeath_18 : decode cX1_takeDeath 18 = .ok (.ireturn, 1) := by decide +kernel
theorem dX1_takeDeath_19 : decode cX1_takeDeath 19 = .ok (.aload_n 0, 1) := by decide +kernel
theorem dX1_takeDeath_20 : decode cX1_takeDeath 20 = .ok (.getfield 15, 3) := by decide +kernel
theorem dX1_takeDeath_23 : decode cX1_takeDeath 23 = .ok (.getfield 111, 3) := by decide +kernel
theorem dX1_takeDeath_26 : decode cX1_takeDeath 26 = .ok (.aload_n 0, 1) := by decide +kernel
theorem dX1_takeDeath_27 : decode cX1_takeDeath 27 = .ok (.getfield 9, 3) := by decide +kernel
theorem dX1_takeDeath_30 : decode cX1_takeDeath 30 = .ok (.getfield 88, 3) := by decide +kernel
theorem dX1_takeDeath_33 : decode cX1_takeDeath 33 = .ok (.iconst 1, 1) := by decide +kernel
theorem dX1_takeDeath_34 : decode cX1_takeDeath 34 = .ok (.iastore, 1) := by decide +kernel
theorem dX1_takeDeath_35 : decode cX1_takeDeath 35 = .ok (.aload_n 0, 1) := by decide +kernel
theorem dX1_takeDeath_36 : decode cX1_takeDeath 36 = .ok (.getfield 9, 3) := by decide +kernel
theorem dX1_takeDeath_39 : decode cX1_takeDeath 39 = .ok (.invokevirtual 31, 3) := by decide +kernel
theorem dX1_takeDeath_42 : decode cX1_takeDeath 42 = .ok (.iconst 1, 1) := by decide +kernel
theorem dX1_takeDeath_43 : decode cX1_takeDeath 43 = .ok (.ireturn, 1) := by decide +kernel
theorem dX1_takeNumber_0 : decode cX1_takeNumber 0 = .ok (.aload_n 0, 1) := by decide +kernel
theorem dX1_takeNumber_1 : decode cX1_takeNumber 1 = .ok (.getfield 9, 3) := by decide +kernel
theorem dX1_takeNumber_4 : decode cX1_takeNumber 4 = .ok (.invokevirtual 31, 3) := by decide +kernel
theorem dX1_takeNumber_7 : decode cX1_takeNumber 7 = .ok (.aload_n 0, 1) := by decide +kernel
theorem dX1_takeNumber_8 : decode cX1_takeNumber 8 = .ok (.getfield 9, 3) := by decide +kernel
theorem dX1_takeNumber_11 : decode cX1_takeNumber 11 = .ok (.iload_n 1, 1) := by decide +kernel
theorem dX1_takeNumber_12 : decode cX1_takeNumber 12 = .ok (.iload_n 2, 1) := by decide +kernel
theorem dX1_takeNumber_13 : decode cX1_takeNumber 13 = .ok (.invokevirtual 114, 3) := by decide +kernel
theorem dX1_takeNumber_16 : decode cX1_takeNumber 16 = .ok (.ireturn, 1) := by decide +kernel
theorem dX1_kindAtTape_0 : decode cX1_kindAtTape 0 = .ok (.aload_n 0, 1) := by decide +kernel
theorem dX1_kindAtTape_1 : decode cX1_kindAtTape 1 = .ok (.getfield 9, 3) := by decide +kernel
theorem dX1_kindAtTape_4 : decode cX1_kindAtTape 4 = .ok (.ldc 117, 2) := by decide +kernel
theorem dX1_kindAtTape_6 : decode cX1_kindAtTape 6 = .ok (.invokevirtual 57, 3) := by decide +kernel
theorem dX1_kindAtTape_9 : decode cX1_kindAtTape 9 = .ok (.ifCond .eq 5, 3) := by decide +kernel
theorem dX1_kindAtTape_12 : decode cX1_kindAtTape 12 = .ok (.iconst 0, 1) := by decide +kernel
theorem dX1_kindAtTape_13 : decode cX1_kindAtTape 13 = .ok (.ireturn, 1) := by decide +kernel
theorem dX1_kindAtTape_14 : decode cX1_kindAtTape 14 = .ok (.aload_n 0, 1) := by decide +kernel
theorem dX1_kindAtTape_15 : decode cX1_kindAtTape 15 = .ok (.getfield 9, 3) := by decide +kernel
theorem dX1_kindAtTape_18 : decode cX1_kindAtTape 18 = .ok (.ldc 119, 2) := by decide +kernel
theorem dX1_kindAtTape_20 : decode cX1_kindAtTape 20 = .ok (.invokevirtual 57, 3) := by decide +kernel
theorem dX1_kindAtTape_23 : decode cX1_kindAtTape 23 = .ok (.ifCond .eq 5, 3) := by decide +kernel
theorem dX1_kindAtTape_26 : decode cX1_kindAtTape 26 = .ok (.iconst 1, 1) := by decide +kernel
theorem dX1_kindAtTape_27 : decode cX1_kindAtTape 27 = .ok (.ireturn, 1) := by decide +kernel
theorem dX1_kindAtTape_28 : decode cX1_kindAtTape 28 = .ok (.aload_n 0, 1) := by decide +kernel
theorem dX1_kindAtTape_29 : decode cX1_kindAtTape 29 = .ok (.getfield 9, 3) := by decide +kernel
theorem dX1_kindAtTape_32 : decode cX1_kindAtTape 32 = .ok (.ldc 121, 2) := by decide +kernel
theorem dX1_kindAtTape_34 : decode cX1_kindAtTape 34 = .ok (.invokevirtual 57, 3) := by decide +kernel
theorem dX1_kindAtTape_37 : decode cX1_kindAtTape 37 = .ok (.ifCond .eq 5, 3) := by decide +kernel
theorem dX1_kindAtTape_40 : decode cX1_kindAtTape 40 = .ok (.iconst 2, 1) := by decide +kernel
theorem dX1_kindAtTape_41 : decode cX1_kindAtTape 41 = .ok (.ireturn, 1) := by decide +kernel
theorem dX1_kindAtTape_42 : decode cX1_kindAtTape 42 = .ok (.aload_n 0, 1) := by decide +kernel
theorem dX1_kindAtTape_43 : decode cX1_kindAtTape 43 = .ok (.getfield 9, 3) := by decide +kernel
theorem dX1_kindAtTape_46 : decode cX1_kindAtTape 46 = .ok (.ldc 123, 2) := by decide +kernel
theorem dX1_kindAtTape_48 : decode cX1_kindAtTape 48 = .ok (.invokevirtual 57, 3) := by decide +kernel
theorem dX1_kindAtTape_51 : decode cX1_kindAtTape 51 = .ok (.ifCond .eq 5, 3) := by decide +kernel
theorem dX1_kindAtTape_54 : decode cX1_kindAtTape 54 = .ok (.iconst 3, 1) := by decide +kernel
theorem dX1_kindAtTape_55 : decode cX1_kindAtTape 55 = .ok (.ireturn, 1) := by decide +kernel
theorem dX1_kindAtTape_56 : decode cX1_kindAtTape 56 = .ok (.aload_n 0, 1) := by decide +kernel
theorem dX1_kindAtTape_57 : decode cX1_kindAtTape 57 = .ok (.getfield 9, 3) := by decide +kernel
theorem dX1_kindAtTape_60 : decode cX1_kindAtTape 60 = .ok (.ldc 125, 2) := by decide +kernel
theorem dX1_kindAtTape_62 : decode cX1_kindAtTape 62 = .ok (.invokevirtual 57, 3) := by decide +kernel
theorem dX1_kindAtTape_65 : decode cX1_kindAtTape 65 = .ok (.ifCond .eq 5, 3) := by decide +kernel
theorem dX1_kindAtTape_68 : decode cX1_kindAtTape 68 = .ok (.iconst 4, 1) := by decide +kernel
theorem dX1_kindAtTape_69 : decode cX1_kindAtTape 69 = .ok (.ireturn, 1) := by decide +kernel
theorem dX1_kindAtTape_70 : decode cX1_kindAtTape 70 = .ok (.aload_n 0, 1) := by decide +kernel
theorem dX1_kindAtTape_71 : decode cX1_kindAtTape 71 = .ok (.getfield 9, 3) := by decide +kernel
theorem dX1_kindAtTape_74 : decode cX1_kindAtTape 74 = .ok (.ldc 127, 2) := by decide +kernel
theorem dX1_kindAtTape_76 : decode cX1_kindAtTape 76 = .ok (.invokevirtual 57, 3) := by decide +kernel
theorem dX1_kindAtTape_79 : decode cX1_kindAtTape 79 = .ok (.ifCond .eq 7, 3) := by decide +kernel
theorem dX1_kindAtTape_82 : decode cX1_kindAtTape 82 = .ok (.iconst 5, 1) := by decide +kernel
theorem dX1_kindAtTape_83 : decode cX1_kindAtTape 83 = .ok (.goto 4, 3) := by decide +kernel
theorem dX1_kindAtTape_86 : decode cX1_kindAtTape 86 = .ok (.iconst (-1), 1) := by decide +kernel
theorem dX1_kindAtTape_87 : decode cX1_kindAtTape 87 = .ok (.ireturn, 1) := by decide +kernel
theorem dX1_markAtTape_0 : decode cX1_markAtTape 0 = .ok (.aload_n 0, 1) := by decide +kernel
theorem dX1_markAtTape_1 : decode cX1_markAtTape 1 = .ok (.getfield 9, 3) := by decide +kernel
theorem dX1_markAtTape_4 : decode cX1_markAtTape 4 = .ok (.ldc 129, 2) := by decide +kernel
theorem dX1_markAtTape_6 : decode cX1_markAtTape 6 = .ok (.invokevirtual 57, 3) := by decide +kernel
theorem dX1_markAtTape_9 : decode cX1_markAtTape 9 = .ok (.ifCond .eq 5, 3) := by decide +kernel
theorem dX1_markAtTape_12 : decode cX1_markAtTape 12 = .ok (.iconst 0, 1) := by decide +kernel
theorem dX1_markAtTape_13 : decode cX1_markAtTape 13 = .ok (.ireturn, 1) := by decide +kernel
theorem dX1_markAtTape_14 : decode cX1_markAtTape 14 = .ok (.aload_n 0, 1) := by decide +kernel
theorem dX1_markAtTape_15 : decode cX1_markAtTape 15 = .ok (.getfield 9, 3) := by decide +kernel
theorem dX1_markAtTape_18 : decode cX1_markAtTape 18 = .ok (.ldc 131, 2) := by decide +kernel
theorem dX1_markAtTape_20 : decode cX1_markAtTape 20 = .ok (.invokevirtual 57, 3) := by decide +kernel
theorem dX1_markAtTape_23 : decode cX1_markAtTape 23 = .ok (.ifCond .eq 5, 3) := by decide +kernel
theorem dX1_markAtTape_26 : decode cX1_markAtTape 26 = .ok (.iconst 1, 1) := by decide +kernel
theorem dX1_markAtTape_27 : decode cX1_markAtTape 27 = .ok (.ireturn, 1) := by decide +kernel
theorem dX1_markAtTape_28 : decode cX1_markAtTape 28 = .ok (.aload_n 0, 1) := by decide +kernel
theorem dX1_markAtTape_29 : decode cX1_markAtTape 29 = .ok (.getfield 9, 3) := by decide +kernel
theorem dX1_markAtTape_32 : decode cX1_markAtTape 32 = .ok (.ldc 133, 2) := by decide +kernel
theorem dX1_markAtTape_34 : decode cX1_markAtTape 34 = .ok (.invokevirtual 57, 3) := by decide +kernel
theorem dX1_markAtTape_37 : decode cX1_markAtTape 37 = .ok (.ifCond .eq 7, 3) := by decide +kernel
theorem dX1_markAtTape_40 : decode cX1_markAtTape 40 = .ok (.iconst 2, 1) := by decide +kernel
theorem dX1_markAtTape_41 : decode cX1_markAtTape 41 = .ok (.goto 4, 3) := by decide +kernel
theorem dX1_markAtTape_44 : decode cX1_markAtTape 44 = .ok (.iconst (-1), 1) := by decide +kernel
theorem dX1_markAtTape_45 : decode cX1_markAtTape 45 = .ok (.ireturn, 1) := by decide +kernel
theorem dX2_init_0 : decode cX2_init 0 = .ok (.aload_n 0, 1) := by decide +kernel
theorem dX2_init_1 : decode cX2_init 1 = .ok (.invokespecial 3, 3) := by decide +kernel
theorem dX2_init_4 : decode cX2_init 4 = .ok (.aload_n 0, 1) := by decide +kernel
theorem dX2_init_5 : decode cX2_init 5 = .ok (.bipush 40, 2) := by decide +kernel
theorem dX2_init_7 : decode cX2_init 7 = .ok (.newarray .long, 2) := by decide +kernel
theorem dX2_init_9 : decode cX2_init 9 = .ok (.putfield 9, 3) := by decide +kernel
theorem dX2_init_12 : decode cX2_init 12 = .ok (.aload_n 0, 1) := by decide +kernel
theorem dX2_init_13 : decode cX2_init 13 = .ok (.iconst 0, 1) := by decide +kernel
theorem dX2_init_14 : decode cX2_init 14 = .ok (.putfield 15, 3) := by decide +kernel
theorem dX2_init_17 : decode cX2_init 17 = .ok (.aload_n 0, 1) := by decide +kernel
theorem dX2_init_18 : decode cX2_init 18 = .ok (.iconst 0, 1) := by decide +kernel
theorem dX2_init_19 : decode cX2_init 19 = .ok (.putfield 19, 3) := by decide +kernel
theorem dX2_init_22 : decode cX2_init 22 = .ok (.return_, 1) := by decide +kernel
theorem dX2_isMissing_0 : decode cX2_isMissing 0 = .ok (.aload_n 0, 1) := by decide +kernel
theorem dX2_isMissing_1 : decode cX2_isMissing 1 = .ok (.getfield 15, 3) := by decide +kernel
theorem dX2_isMissing_4 : decode cX2_isMissing 4 = .ok (.ifCond .ne 7, 3) := by decide +kernel
theorem dX2_isMissing_7 : decode cX2_isMissing 7 = .ok (.iconst 1, 1) := by decide +kernel
theorem dX2_isMissing_8 : decode cX2_isMissing 8 = .ok (.goto 4, 3) := by decide +kernel
theorem dX2_isMissing_11 : decode cX2_isMissing 11 = .ok (.iconst 0, 1) := by decide +kernel
theorem dX2_isMissing_12 : decode cX2_isMissing 12 = .ok (.ireturn, 1) := by decide +kernel
theorem dX2_begin_0 : decode cX2_begin 0 = .ok (.aload_n 0, 1) := by decide +kernel
theorem dX2_begin_1 : decode cX2_begin 1 = .ok (.iload_n 1, 1) := by decide +kernel
theorem dX2_begin_2 : decode cX2_begin 2 = .ok (.putfield 15, 3) := by decide +kernel
theorem dX2_begin_5 : decode cX2_begin 5 = .ok (.aload_n 0, 1) := by decide +kernel
theorem dX2_begin_6 : decode cX2_begin 6 = .ok (.iload_n 1, 1) := by decide +kernel
theorem dX2_begin_7 : decode cX2_begin 7 = .ok (.ifCond .ne 7, 3) := by decide +kernel
theorem dX2_begin_10 : decode cX2_begin 10 = .ok (.iconst 0, 1) := by decide +kernel
theorem dX2_begin_11 : decode cX2_begin 11 = .ok (.goto 4, 3) := by decide +kernel
theorem dX2_begin_14 : decode cX2_begin 14 = .ok (.iload_n 2, 1) := by decide +kernel
theorem dX2_begin_15 : decode cX2_begin 15 = .ok (.putfield 19, 3) := by decide +kernel
theorem dX2_begin_18 : decode cX2_begin 18 = .ok (.iconst 0, 1) := by decide +kernel
theorem dX2_begin_19 : decode cX2_begin 19 = .ok (.istore_n 3, 1) := by decide +kernel
theorem dX2_begin_20 : decode cX2_begin 20 = .ok (.iload_n 3, 1) := by decide +kernel
theorem dX2_begin_21 : decode cX2_begin 21 = .ok (.bipush 40, 2) := by decide +kernel
theorem dX2_begin_23 : decode cX2_begin 23 = .ok (.if_icmp .ge 16, 3) := by decide +kernel
theorem dX2_begin_26 : decode cX2_begin 26 = .ok (.aload_n 0, 1) := by decide +kernel
theorem dX2_begin_27 : decode cX2_begin 27 = .ok (.getfield 9, 3) := by decide +kernel
theorem dX2_begin_30 : decode cX2_begin 30 = .ok (.iload_n 3, 1) := by decide +kernel
theorem dX2_begin_31 : decode cX2_begin 31 = .ok (.lconst 0, 1) := by decide +kernel
theorem dX2_begin_32 : decode cX2_begin 32 = .ok (.lastore, 1) := by decide +kernel
theorem dX2_begin_33 : decode cX2_begin 33 = .ok (.iinc 3 1, 3) := by decide +kernel
theorem dX2_begin_36 : decode cX2_begin 36 = .ok (.goto (-16), 3) := by decide +kernel
theorem dX2_begin_39 : decode cX2_begin 39 = .ok (.return_, 1) := by decide +kernel
theorem dX2_put_0 : decode cX2_put 0 = .ok (.aload_n 0, 1) := by decide +kernel
theorem dX2_put_1 : decode cX2_put 1 = .ok (.getfield 15, 3) := by decide +kernel
theorem dX2_put_4 : decode cX2_put 4 = .ok (.lookupswitch 54 #[(8, 28), (16, 41)], 28) := by decide +kernel
theorem dX2_put_32 : decode cX2_put 32 = .ok (.aload_n 0, 1) := by decide +kernel
theorem dX2_put_33 : decode cX2_put 33 = .ok (.getfield 9, 3) := by decide +kernel
theorem dX2_put_36 : decode cX2_put 36 = .ok (.iload_n 1, 1) := by decide +kernel
theorem dX2_put_37 : decode cX2_put 37 = .ok (.lload_n 2, 1) := by decide +kernel
theorem dX2_put_38 : decode cX2_put 38 = .ok (.l2i, 1) := by decide +kernel
theorem dX2_put_39 : decode cX2_put 39 = .ok (.i2b, 1) := by decide +kernel
theorem dX2_put_40 : decode cX2_put 40 = .ok (.i2l, 1) := by decide +kernel
theorem dX2_put_41 : decode cX2_put 41 = .ok (.lastore, 1) := by decide +kernel
theorem dX2_put_42 : decode cX2_put 42 = .ok (.goto 23, 3) := by decide +kernel
theorem dX2_put_45 : decode cX2_put 45 = .ok (.aload_n 0, 1) := by decide +kernel
theorem dX2_put_46 : decode cX2_put 46 = .ok (.getfield 9, 3) := by decide +kernel
theorem dX2_put_49 : decode cX2_put 49 = .ok (.iload_n 1, 1) := by decide +kernel
theorem dX2_put_50 : decode cX2_put 50 = .ok (.lload_n 2, 1) := by decide +kernel
theorem dX2_put_51 : decode cX2_put 51 = .ok (.l2i, 1) := by decide +kernel
theorem dX2_put_52 : decode cX2_put 52 = .ok (.i2s, 1) := by decide +kernel
theorem dX2_put_53 : decode cX2_put 53 = .ok (.i2l, 1) := by decide +kernel
theorem dX2_put_54 : decode cX2_put 54 = .ok (.lastore, 1) := by decide +kernel
theorem dX2_put_55 : decode cX2_put 55 = .ok (.goto 10, 3) := by decide +kernel
theorem dX2_put_58 : decode cX2_put 58 = .ok (.aload_n 0, 1) := by decide +kernel
theorem dX2_put_59 : decode cX2_put 59 = .ok (.getfield 9, 3) := by decide +kernel
theorem dX2_put_62 : decode cX2_put 62 = .ok (.iload_n 1, 1) := by decide +kernel
theorem dX2_put_63 : decode cX2_put 63 = .ok (.lload_n 2, 1) := by decide +kernel
theorem dX2_put_64 : decode cX2_put 64 = .ok (.lastore, 1) := by decide +kernel
theorem dX2_put_65 : decode cX2_put 65 = .ok (.return_, 1) := by decide +kernel
theorem dX2_hasRun_0 : decode cX2_hasRun 0 = .ok (.iload_n 1, 1) := by decide +kernel
theorem dX2_hasRun_1 : decode cX2_hasRun 1 = .ok (.ifCond .lt 29, 3) := by decide +kernel
theorem dX2_hasRun_4 : decode cX2_hasRun 4 = .ok (.iload_n 2, 1) := by decide +kernel
theorem dX2_hasRun_5 : decode cX2_hasRun 5 = .ok (.ifCond .lt 25, 3) := by decide +kernel
theorem dX2_hasRun_8 : decode cX2_hasRun 8 = .ok (.iload_n 1, 1) := by decide +kernel
theorem dX2_hasRun_9 : decode cX2_hasRun 9 = .ok (.aload_n 0, 1) := by decide +kernel
theorem dX2_hasRun_10 : decode cX2_hasRun 10 = .ok (.getfield 19, 3) := by decide +kernel
theorem dX2_hasRun_13 : decode cX2_hasRun 13 = .ok (.if_icmp .gt 17, 3) := by decide +kernel
theorem dX2_hasRun_16 : decode cX2_hasRun 16 = .ok (.iload_n 2, 1) := by decide +kernel
theorem dX2_hasRun_17 : decode cX2_hasRun 17 = .ok (.aload_n 0, 1) := by decide +kernel
theorem dX2_hasRun_18 : decode cX2_hasRun 18 = .ok (.getfield 19, 3) := by decide +kernel
theorem dX2_hasRun_21 : decode cX2_hasRun 21 = .ok (.iload_n 1, 1) := by decide +kernel
theorem dX2_hasRun_22 : decode cX2_hasRun 22 = .ok (.isub, 1) := by decide +kernel
theorem dX2_hasRun_23 : decode cX2_hasRun 23 = .ok (.if_icmp .gt 7, 3) := by decide +kernel
theorem dX2_hasRun_26 : decode cX2_hasRun 26 = .ok (.iconst 1, 1) := by decide +kernel
theorem dX2_hasRun_27 : decode cX2_hasRun 27 = .ok (.goto 4, 3) := by decide +kernel
theorem dX2_hasRun_30 : decode cX2_hasRun 30 = .ok (.iconst 0, 1) := by decide +kernel
theorem dX2_hasRun_31 : decode cX2_hasRun 31 = .ok (.ireturn, 1) := by decide +kernel
theorem dX3_init_0 : decode cX3_init 0 = .ok (.aload_n 0, 1) := by decide +kernel
theorem dX3_init_1 : decode cX3_init 1 = .ok (.invokespecial 3, 3) := by decide +kernel
theorem dX3_init_4 : decode cX3_init 4 = .ok (.aload_n 0, 1) := by decide +kernel
theorem dX3_init_5 : decode cX3_init 5 = .ok (.bipush 120, 2) := by decide +kernel
theorem dX3_init_7 : decode cX3_init 7 = .ok (.newarray .int, 2) := by decide +kernel
theorem dX3_init_9 : decode cX3_init 9 = .ok (.putfield 9, 3) := by decide +kernel
theorem dX3_init_12 : decode cX3_init 12 = .ok (.aload_n 0, 1) := by decide +kernel
theorem dX3_init_13 : decode cX3_init 13 = .ok (.iconst 0, 1) := by decide +kernel
theorem dX3_init_14 : decode cX3_init 14 = .ok (.putfield 15, 3) := by decide +kernel
theorem dX3_init_17 : decode cX3_init 17 = .ok (.aload_n 0, 1) := by decide +kernel
theorem dX3_init_18 : decode cX3_init 18 = .ok (.invokevirtual 19, 3) := by decide +kernel
theorem dX3_init_21 : decode cX3_init 21 = .ok (.return_, 1) := by decide +kernel
theorem dX3_append_0 : decode cX3_append 0 = .ok (.aload_n 0, 1) := by decide +kernel
theorem dX3_append_1 : decode cX3_append 1 = .ok (.getfield 9, 3) := by decide +kernel
theorem dX3_append_4 : decode cX3_append 4 = .ok (.aload_n 0, 1) := by decide +kernel
theorem dX3_append_5 : decode cX3_append 5 = .ok (.getfield 15, 3) := by decide +kernel
theorem dX3_append_8 : decode cX3_append 8 = .ok (.iload_n 1, 1) := by decide +kernel
theorem dX3_append_9 : decode cX3_append 9 = .ok (.iastore, 1) := by decide +kernel
theorem dX3_append_10 : decode cX3_append 10 = .ok (.aload_n 0, 1) := by decide +kernel
theorem dX3_append_11 : decode cX3_append 11 = .ok (.dup, 1) := by decide +kernel
theorem dX3_append_12 : decode cX3_append 12 = .ok (.getfield 15, 3) := by decide +kernel
theorem dX3_append_15 : decode cX3_append 15 = .ok (.iconst 1, 1) := by decide +kernel
theorem dX3_append_16 : decode cX3_append 16 = .ok (.iadd, 1) := by decide +kernel
theorem dX3_append_17 : decode cX3_append 17 = .ok (.putfield 15, 3) := by decide +kernel
theorem dX3_append_20 : decode cX3_append 20 = .ok (.return_, 1) := by decide +kernel
theorem dX3_clear_0 : decode cX3_clear 0 = .ok (.aload_n 0, 1) := by decide +kernel
theorem dX3_clear_1 : decode cX3_clear 1 = .ok (.iconst 0, 1) := by decide +kernel
theorem dX3_clear_2 : decode cX3_clear 2 = .ok (.putfield 15, 3) := by decide +kernel
theorem dX3_clear_5 : decode cX3_clear 5 = .ok (.return_, 1) := by decide +kernel
theorem dX3_rewind_0 : decode cX3_rewind 0 = .ok (.aload_n 0, 1) := by decide +kernel
theorem dX3_rewind_1 : decode cX3_rewind 1 = .ok (.iconst 0, 1) := by decide +kernel
theorem dX3_rewind_2 : decode cX3_rewind 2 = .ok (.putfield 22, 3) := by decide +kernel
theorem dX3_rewind_5 : decode cX3_rewind 5 = .ok (.aload_n 0, 1) := by decide +kernel
theorem dX3_rewind_6 : decode cX3_rewind 6 = .ok (.iconst 0, 1) := by decide +kernel
theorem dX3_rewind_7 : decode cX3_rewind 7 = .ok (.putfield 25, 3) := by decide +kernel
theorem dX3_rewind_10 : decode cX3_rewind 10 = .ok (.aload_n 0, 1) := by decide +kernel
theorem dX3_rewind_11 : decode cX3_rewind 11 = .ok (.iconst 0, 1) := by decide +kernel
theorem dX3_rewind_12 : decode cX3_rewind 12 = .ok (.putfield 28, 3) := by decide +kernel
theorem dX3_rewind_15 : decode cX3_rewind 15 = .ok (.aload_n 0, 1) := by decide +kernel
theorem dX3_rewind_16 : decode cX3_rewind 16 = .ok (.iconst 0, 1) := by decide +kernel
theorem dX3_rewind_17 : decode cX3_rewind 17 = .ok (.putfield 31, 3) := by decide +kernel
theorem dX3_rewind_20 : decode cX3_rewind 20 = .ok (.return_, 1) := by decide +kernel
theorem dX3_step_0 : decode cX3_step 0 = .ok (.aload_n 0, 1) := by decide +kernel
theorem dX3_step_1 : decode cX3_step 1 = .ok (.aload_n 0, 1) := by decide +kernel
theorem dX3_step_2 : decode cX3_step 2 = .ok (.getfield 28, 3) := by decide +kernel
theorem dX3_step_5 : decode cX3_step 5 = .ok (.putfield 25, 3) := by decide +kernel
theorem dX3_step_8 : decode cX3_step 8 = .ok (.aload_n 0, 1) := by decide +kernel
theorem dX3_step_9 : decode cX3_step 9 = .ok (.getfield 25, 3) := by decide +kernel
theorem dX3_step_12 : decode cX3_step 12 = .ok (.aload_n 0, 1) := by decide +kernel
theorem dX3_step_13 : decode cX3_step 13 = .ok (.getfield 15, 3) := by decide +kernel
theorem dX3_step_16 : decode cX3_step 16 = .ok (.if_icmp .ge 30, 3) := by decide +kernel
theorem dX3_step_19 : decode cX3_step 19 = .ok (.aload_n 0, 1) := by decide +kernel
theorem dX3_step_20 : decode cX3_step 20 = .ok (.getfield 9, 3) := by decide +kernel
theorem dX3_step_23 : decode cX3_step 23 = .ok (.aload_n 0, 1) := by decide +kernel
theorem dX3_step_24 : decode cX3_step 24 = .ok (.getfield 25, 3) := by decide +kernel
theorem dX3_step_27 : decode cX3_step 27 = .ok (.iaload, 1) := by decide +kernel
theorem dX3_step_28 : decode cX3_step 28 = .ok (.bipush 32, 2) := by decide +kernel
theorem dX3_step_30 : decode cX3_step 30 = .ok (.if_icmp .ne 16, 3) := by decide +kernel
theorem dX3_step_33 : decode cX3_step 33 = .ok (.aload_n 0, 1) := by decide +kernel
theorem dX3_step_34 : decode cX3_step 34 = .ok (.dup, 1) := by decide +kernel
theorem dX3_step_35 : decode cX3_step 35 = .ok (.getfield 25, 3) := by decide +kernel
theorem dX3_step_38 : decode cX3_step 38 = .ok (.iconst 1, 1) := by decide +kernel
theorem dX3_step_39 : decode cX3_step 39 = .ok (.iadd, 1) := by decide +kernel
theorem dX3_step_40 : decode cX3_step 40 = .ok (.putfield 25, 3) := by decide +kernel
theorem dX3_step_43 : decode cX3_step 43 = .ok (.goto (-35), 3) := by decide +kernel
theorem dX3_step_46 : decode cX3_step 46 = .ok (.aload_n 0, 1) := by decide +kernel
theorem dX3_step_47 : decode cX3_step 47 = .ok (.aload_n 0, 1) := by decide +kernel
theorem dX3_step_48 : decode cX3_step 48 = .ok (.getfield 25, 3) := by decide +kernel
theorem dX3_step_51 : decode cX3_step 51 = .ok (.putfield 28, 3) := by decide +kernel
theorem dX3_step_54 : decode cX3_step 54 = .ok (.aload_n 0, 1) := by decide +kernel
theorem dX3_step_55 : decode cX3_step 55 = .ok (.iconst 0, 1) := by decide +kernel
theorem dX3_step_56 : decode cX3_step 56 = .ok (.putfield 31, 3) := by decide +kernel
theorem dX3_step_59 : decode cX3_step 59 = .ok (.aload_n 0, 1) := by decide +kernel
theorem dX3_step_60 : decode cX3_step 60 = .ok (.aload_n 0, 1) := by decide +kernel
theorem dX3_step_61 : decode cX3_step 61 = .ok (.getfield 25, 3) := by decide +kernel
theorem dX3_step_64 : decode cX3_step 64 = .ok (.aload_n 0, 1) := by decide +kernel
theorem dX3_step_65 : decode cX3_step 65 = .ok (.getfield 15, 3) := by decide +kernel
theorem dX3_step_68 : decode cX3_step 68 = .ok (.if_icmp .ge 18, 3) := by decide +kernel
theorem dX3_step_71 : decode cX3_step 71 = .ok (.aload_n 0, 1) := by decide +kernel
theorem dX3_step_72 : decode cX3_step 72 = .ok (.getfield 9, 3) := by decide +kernel
theorem dX3_step_75 : decode cX3_step 75 = .ok (.aload_n 0, 1) := by decide +kernel
theorem dX3_step_76 : decode cX3_step 76 = .ok (.getfield 25, 3) := by decide +kernel
theorem dX3_step_79 : decode cX3_step 79 = .ok (.iaload, 1) := by decide +kernel
theorem dX3_step_80 : decode cX3_step 80 = .ok (.invokestatic 34, 3) := by decide +kernel
theorem dX3_step_83 : decode cX3_step 83 = .ok (.goto 4, 3) := by decide +kernel
theorem dX3_step_86 : decode cX3_step 86 = .ok (.iconst 0, 1) := by decide +kernel
theorem dX3_step_87 : decode cX3_step 87 = .ok (.putfield 22, 3) := by decide +kernel
theorem dX3_step_90 : decode cX3_step 90 = .ok (.aload_n 0, 1) := by decide +kernel
theorem dX3_step_91 : decode cX3_step 91 = .ok (.getfield 22, 3) := by decide +kernel
theorem dX3_step_94 : decode cX3_step 94 = .ok (.iconst 3, 1) := by decide +kernel
theorem dX3_step_95 : decode cX3_step 95 = .ok (.if_icmp .eq 11, 3) := by decide +kernel
theorem dX3_step_98 : decode cX3_step 98 = .ok (.aload_n 0, 1) := by decide +kernel
theorem dX3_step_99 : decode cX3_step 99 = .ok (.getfield 22, 3) := by decide +kernel
theorem dX3_step_102 : decode cX3_step 102 = .ok (.iconst 4, 1) := by decide +kernel
theorem dX3_step_103 : decode cX3_step 103 = .ok (.if_icmp .ne 12, 3) := by decide +kernel
theorem dX3_step_106 : decode cX3_step 106 = .ok (.aload_n 0, 1) := by decide +kernel
theorem dX3_step_107 : decode cX3_step 107 = .ok (.getfield 25, 3) := by decide +kernel
theorem dX3_step_110 : decode cX3_step 110 = .ok (.iconst 1, 1) := by decide +kernel
theorem dX3_step_111 : decode cX3_step 111 = .ok (.iadd, 1) := by decide +kernel
theorem dX3_step_112 : decode cX3_step 112 = .ok (.goto 7, 3) := by decide +kernel
theorem dX3_step_115 : decode cX3_step 115 = .ok (.aload_n 0, 1) := by decide +kernel
theorem dX3_step_116 : decode cX3_step 116 = .ok (.getfield 15, 3) := by decide +kernel
theorem dX3_step_119 : decode cX3_step 119 = .ok (.istore_n 1, 1) := by decide +kernel
theorem dX3_step_120 : decode cX3_step 120 = .ok (.aload_n 0, 1) := by decide +kernel
theorem dX3_step_121 : decode cX3_step 121 = .ok (.getfield 28, 3) := by decide +kernel
theorem dX3_step_124 : decode cX3_step 124 = .ok (.iload_n 1, 1) := by decide +kernel
theorem dX3_step_125 : decode cX3_step 125 = .ok (.if_icmp .ge 73, 3) := by decide +kernel
theorem dX3_step_128 : decode cX3_step 128 = .ok (.aload_n 0, 1) := by decide +kernel
theorem dX3_step_129 : decode cX3_step 129 = .ok (.getfield 9, 3) := by decide +kernel
theorem dX3_step_132 : decode cX3_step 132 = .ok (.aload_n 0, 1) := by decide +kernel
theorem dX3_step_133 : decode cX3_step 133 = .ok (.getfield 28, 3) := by decide +kernel
theorem dX3_step_136 : decode cX3_step 136 = .ok (.iaload, 1) := by decide +kernel
theorem dX3_step_137 : decode cX3_step 137 = .ok (.invokestatic 34, 3) := by decide +kernel
theorem dX3_step_140 : decode cX3_step 140 = .ok (.aload_n 0, 1) := by decide +kernel
theorem dX3_step_141 : decode cX3_step 141 = .ok (.getfield 22, 3) := by decide +kernel
theorem dX3_step_144 : decode cX3_step 144 = .ok (.if_icmp .ne 54, 3) := by decide +kernel
theorem dX3_step_147 : decode cX3_step 147 = .ok (.aload_n 0, 1) := by decide +kernel
theorem dX3_step_148 : decode cX3_step 148 = .ok (.getfield 22, 3) := by decide +kernel
theorem dX3_step_151 : decode cX3_step 151 = .ok (.iconst 2, 1) := by decide +kernel
theorem dX3_step_152 : decode cX3_step 152 = .ok (.if_icmp .ne 33, 3) := by decide +kernel
theorem dX3_step_155 : decode cX3_step 155 = .ok (.aload_n 0, 1) := by decide +kernel
theorem dX3_step_156 : decode cX3_step 156 = .ok (.sipush 1000, 3) := by decide +kernel
theorem dX3_step_159 : decode cX3_step 159 = .ok (.aload_n 0, 1) := by decide +kernel
theorem dX3_step_160 : decode cX3_step 160 = .ok (.getfield 31, 3) := by decide +kernel
theorem dX3_step_163 : decode cX3_step 163 = .ok (.bipush 10, 2) := by decide +kernel
theorem dX3_step_165 : decode cX3_step 165 = .ok (.imul, 1) := by decide +kernel
theorem dX3_step_166 : decode cX3_step 166 = .ok (.aload_n 0, 1) := by decide +kernel
theorem dX3_step_167 : decode cX3_step 167 = .ok (.getfield 9, 3) := by decide +kernel
theorem dX3_step_170 : decode cX3_step 170 = .ok (.aload_n 0, 1) := by decide +kernel
theorem dX3_step_171 : decode cX3_step 171 = .ok (.getfield 28, 3) := by decide +kernel
theorem dX3_step_174 : decode cX3_step 174 = .ok (.iaload, 1) := by decide +kernel
theorem dX3_step_175 : decode cX3_step 175 = .ok (.iadd, 1) := by decide +kernel
theorem dX3_step_176 : decode cX3_step 176 = .ok (.bipush 48, 2) := by decide +kernel
theorem dX3_step_178 : decode cX3_step 178 = .ok (.isub, 1) := by decide +kernel
theorem dX3_step_179 : decode cX3_step 179 = .ok (.invokestatic 38, 3) := by decide +kernel
theorem dX3_step_182 : decode cX3_step 182 = .ok (.putfield 31, 3) := by decide +kernel
theorem dX3_step_185 : decode cX3_step 185 = .ok (.aload_n 0, 1) := by decide +kernel
theorem dX3_step_186 : decode cX3_step 186 = .ok (.dup, 1) := by decide +kernel
theorem dX3_step_187 : decode cX3_step 187 = .ok (.getfield 28, 3) := by decide +kernel
theorem dX3_step_190 : decode cX3_step 190 = .ok (.iconst 1, 1) := by decide +kernel
theorem dX3_step_191 : decode cX3_step 191 = .ok (.iadd, 1) := by decide +kernel
theorem dX3_step_192 : decode cX3_step 192 = .ok (.putfield 28, 3) := by decide +kernel
theorem dX3_step_195 : decode cX3_step 195 = .ok (.goto (-75), 3) := by decide +kernel
theorem dX3_step_198 : decode cX3_step 198 = .ok (.return_, 1) := by decide +kernel
theorem dX3_tokenOf_0 : decode cX3_tokenOf 0 = .ok (.iload_n 0, 1) := by decide +kernel
theorem dX3_tokenOf_1 : decode cX3_tokenOf 1 = .ok (.bipush 97, 2) := by decide +kernel
theorem dX3_tokenOf_3 : decode cX3_tokenOf 3 = .ok (.if_icmp .lt 11, 3) := by decide +kernel
theorem dX3_tokenOf_6 : decode cX3_tokenOf 6 = .ok (.iload_n 0, 1) := by decide +kernel
theorem dX3_tokenOf_7 : decode cX3_tokenOf 7 = .ok (.bipush 122, 2) := by decide +kernel
theorem dX3_tokenOf_9 : decode cX3_tokenOf 9 = .ok (.if_icmp .gt 5, 3) := by decide +kernel
theorem dX3_tokenOf_12 : decode cX3_tokenOf 12 = .ok (.iconst 1, 1) := by decide +kernel
theorem dX3_tokenOf_13 : decode cX3_tokenOf 13 = .ok (.ireturn, 1) := by decide +kernel
theorem dX3_tokenOf_14 : decode cX3_tokenOf 14 = .ok (.iload_n 0, 1) := by decide +kernel
theorem dX3_tokenOf_15 : decode cX3_tokenOf 15 = .ok (.bipush 48, 2) := by decide +kernel
theorem dX3_tokenOf_17 : decode cX3_tokenOf 17 = .ok (.if_icmp .lt 11, 3) := by decide +kernel
theorem dX3_tokenOf_20 : decode cX3_tokenOf 20 = .ok (.iload_n 0, 1) := by decide +kernel
theorem dX3_tokenOf_21 : decode cX3_tokenOf 21 = .ok (.bipush 57, 2) := by decide +kernel
theorem dX3_tokenOf_23 : decode cX3_tokenOf 23 = .ok (.if_icmp .gt 5, 3) := by decide +kernel
theorem dX3_tokenOf_26 : decode cX3_tokenOf 26 = .ok (.iconst 2, 1) := by decide +kernel
theorem dX3_tokenOf_27 : decode cX3_tokenOf 27 = .ok (.ireturn, 1) := by decide +kernel
theorem dX3_tokenOf_28 : decode cX3_tokenOf 28 = .ok (.iload_n 0, 1) := by decide +kernel
theorem dX3_tokenOf_29 : decode cX3_tokenOf 29 = .ok (.bipush 59, 2) := by decide +kernel
theorem dX3_tokenOf_31 : decode cX3_tokenOf 31 = .ok (.if_icmp .ne 7, 3) := by decide +kernel
theorem dX3_tokenOf_34 : decode cX3_tokenOf 34 = .ok (.iconst 3, 1) := by decide +kernel
theorem dX3_tokenOf_35 : decode cX3_tokenOf 35 = .ok (.goto 4, 3) := by decide +kernel
theorem dX3_tokenOf_38 : decode cX3_tokenOf 38 = .ok (.iconst 4, 1) := by decide +kernel
theorem dX3_tokenOf_39 : decode cX3_tokenOf 39 = .ok (.ireturn, 1) := by decide +kernel
theorem dX3_isAtWord_0 : decode cX3_isAtWord 0 = .ok (.aload_n 0, 1) := by decide +kernel
theorem dX3_isAtWord_1 : decode cX3_isAtWord 1 = .ok (.getfield 22, 3) := by decide +kernel
theorem dX3_isAtWord_4 : decode cX3_isAtWord 4 = .ok (.iconst 1, 1) := by decide +kernel
theorem dX3_isAtWord_5 : decode cX3_isAtWord 5 = .ok (.if_icmp .ne 19, 3) := by decide +kernel
theorem dX3_isAtWord_8 : decode cX3_isAtWord 8 = .ok (.aload_n 0, 1) := by decide +kernel
theorem dX3_isAtWord_9 : decode cX3_isAtWord 9 = .ok (.getfield 28, 3) := by decide +kernel
theorem dX3_isAtWord_12 : decode cX3_isAtWord 12 = .ok (.aload_n 0, 1) := by decide +kernel
theorem dX3_isAtWord_13 : decode cX3_isAtWord 13 = .ok (.getfield 25, 3) := by decide +kernel
theorem dX3_isAtWord_16 : decode cX3_isAtWord 16 = .ok (.isub, 1) := by decide +kernel
theorem dX3_isAtWord_17 : decode cX3_isAtWord 17 = .ok (.aload_n 1, 1) := by decide +kernel
theorem dX3_isAtWord_18 : decode cX3_isAtWord 18 = .ok (.invokevirtual 44, 3) := by decide +kernel
theorem dX3_isAtWord_21 : decode cX3_isAtWord 21 = .ok (.if_icmp .eq 5, 3) := by decide +kernel
theorem dX3_isAtWord_24 : decode cX3_isAtWord 24 = .ok (.iconst 0, 1) := by decide +kernel
theorem dX3_isAtWord_25 : decode cX3_isAtWord 25 = .ok (.ireturn, 1) := by decide +kernel
theorem dX3_isAtWord_26 : decode cX3_isAtWord 26 = .ok (.iconst 0, 1) := by decide +kernel
theorem dX3_isAtWord_27 : decode cX3_isAtWord 27 = .ok (.istore_n 2, 1) := by decide +kernel
theorem dX3_isAtWord_28 : decode cX3_isAtWord 28 = .ok (.iload_n 2, 1) := by decide +kernel
theorem dX3_isAtWord_29 : decode cX3_isAtWord 29 = .ok (.aload_n 1, 1) := by decide +kernel
theorem dX3_isAtWord_30 : decode cX3_isAtWord 30 = .ok (.invokevirtual 44, 3) := by decide +kernel
theorem dX3_isAtWord_33 : decode cX3_isAtWord 33 = .ok (.if_icmp .ge 30, 3) := by decide +kernel
theorem dX3_isAtWord_36 : decode cX3_isAtWord 36 = .ok (.aload_n 0, 1) := by decide +kernel
theorem dX3_isAtWord_37 : decode cX3_isAtWord 37 = .ok (.getfield 9, 3) := by decide +kernel
theorem dX3_isAtWord_40 : decode cX3_isAtWord 40 = .ok (.aload_n 0, 1) := by decide +kernel
theorem dX3_isAtWord_41 : decode cX3_isAtWord 41 = .ok (.getfield 25, 3) := by decide +kernel
theorem dX3_isAtWord_44 : decode cX3_isAtWord 44 = .ok (.iload_n 2, 1) := by decide +kernel
theorem dX3_isAtWord_45 : decode cX3_isAtWord 45 = .ok (.iadd, 1) := by decide +kernel
theorem dX3_isAtWord_46 : decode cX3_isAtWord 46 = .ok (.iaload, 1) := by decide +kernel
theorem dX3_isAtWord_47 : decode cX3_isAtWord 47 = .ok (.aload_n 1, 1) := by decide +kernel
theorem dX3_isAtWord_48 : decode cX3_isAtWord 48 = .ok (.iload_n 2, 1) := by decide +kernel
theorem dX3_isAtWord_49 : decode cX3_isAtWord 49 = .ok (.invokevirtual 49, 3) := by decide +kernel
theorem dX3_isAtWord_52 : decode cX3_isAtWord 52 = .ok (.if_icmp .eq 5, 3) := by decide +kernel
theorem dX3_isAtWord_55 : decode cX3_isAtWord 55 = .ok (.iconst 0, 1) := by decide +kernel
theorem dX3_isAtWord_56 : decode cX3_isAtWord 56 = .ok (.ireturn, 1) := by decide +kernel
theorem dX3_isAtWord_57 : decode cX3_isAtWord 57 = .ok (.iinc 2 1, 3) := by decide +kernel
theorem dX3_isAtWord_60 : decode cX3_isAtWord 60 = .ok (.goto (-32), 3) := by decide +kernel
theorem dX3_isAtWord_63 : decode cX3_isAtWord 63 = .ok (.iconst 1, 1) := by decide +kernel
theorem dX3_isAtWord_64 : decode cX3_isAtWord 64 = .ok (.ireturn, 1) := by decide +kernel
theorem dX3_isAtNumber_0 : decode cX3_isAtNumber 0 = .ok (.aload_n 0, 1) := by decide +kernel
theorem dX3_isAtNumber_1 : decode cX3_isAtNumber 1 = .ok (.getfield 22, 3) := by decide +kernel
theorem dX3_isAtNumber_4 : decode cX3_isAtNumber 4 = .ok (.iconst 2, 1) := by decide +kernel
theorem dX3_isAtNumber_5 : decode cX3_isAtNumber 5 = .ok (.if_icmp .ne 19, 3) := by decide +kernel
theorem dX3_isAtNumber_8 : decode cX3_isAtNumber 8 = .ok (.aload_n 0, 1) := by decide +kernel
theorem dX3_isAtNumber_9 : decode cX3_isAtNumber 9 = .ok (.getfield 31, 3) := by decide +kernel
theorem dX3_isAtNumber_12 : decode cX3_isAtNumber 12 = .ok (.iload_n 1, 1) := by decide +kernel
theorem dX3_isAtNumber_13 : decode cX3_isAtNumber 13 = .ok (.iload_n 2, 1) := by decide +kernel
theorem dX3_isAtNumber_14 : decode cX3_isAtNumber 14 = .ok (.invokestatic 53, 3) := by decide +kernel
theorem dX3_isAtNumber_17 : decode cX3_isAtNumber 17 = .ok (.ifCond .eq 7, 3) := by decide +kernel
theorem dX3_isAtNumber_20 : decode cX3_isAtNumber 20 = .ok (.iconst 1, 1) := by decide +kernel
theorem dX3_isAtNumber_21 : decode cX3_isAtNumber 21 = .ok (.goto 4, 3) := by decide +kernel
theorem dX3_isAtNumber_24 : decode cX3_isAtNumber 24 = .ok (.iconst 0, 1) := by decide +kernel
theorem dX3_isAtNumber_25 : decode cX3_isAtNumber 25 = .ok (.ireturn, 1) := by decide +kernel
theorem dX4_init_0 : decode cX4_init 0 = .ok (.aload_n 0, 1) := by decide +kernel
theorem dX4_init_1 : decode cX4_init 1 = .ok (.invokespecial 1, 3) := by decide +kernel
theorem dX4_init_4 : decode cX4_init 4 = .ok (.aload_n 0, 1) := by decide +kernel
theorem dX4_init_5 : decode cX4_init 5 = .ok (.new 7, 3) := by decide +kernel
theorem dX4_init_8 : decode cX4_init 8 = .ok (.dup, 1) := by decide +kernel
theorem dX4_init_9 : decode cX4_init 9 = .ok (.invokespecial 9, 3) := by decide +kernel
theorem dX4_init_12 : decode cX4_init 12 = .ok (.putfield 10, 3) := by decide +kernel
theorem dX4_init_15 : decode cX4_init 15 = .ok (.aload_n 0, 1) := by decide +kernel
theorem dX4_init_16 : decode cX4_init 16 = .ok (.new 7, 3) := by decide +kernel
theorem dX4_init_19 : decode cX4_init 19 = .ok (.dup, 1) := by decide +kernel
theorem dX4_init_20 : decode cX4_init 20 = .ok (.invokespecial 9, 3) := by decide +kernel
theorem dX4_init_23 : decode cX4_init 23 = .ok (.putfield 16, 3) := by decide +kernel
theorem dX4_init_26 : decode cX4_init 26 = .ok (.aload_n 0, 1) := by decide +kernel
theorem dX4_init_27 : decode cX4_init 27 = .ok (.new 7, 3) := by decide +kernel
theorem dX4_init_30 : decode cX4_init 30 = .ok (.dup, 1) := by decide +kernel
theorem dX4_init_31 : decode cX4_init 31 = .ok (.invokespecial 9, 3) := by decide +kernel
theorem dX4_init_34 : decode cX4_init 34 = .ok (.putfield 19, 3) := by decide +kernel
theorem dX4_init_37 : decode cX4_init 37 = .ok (.aload_n 0, 1) := by decide +kernel
theorem dX4_init_38 : decode cX4_init 38 = .ok (.iconst 0, 1) := by decide +kernel
theorem dX4_init_39 : decode cX4_init 39 = .ok (.putfield 22, 3) := by decide +kernel
theorem dX4_init_42 : decode cX4_init 42 = .ok (.aload_n 0, 1) := by decide +kernel
theorem dX4_init_43 : decode cX4_init 43 = .ok (.new 26, 3) := by decide +kernel
theorem dX4_init_46 : decode cX4_init 46 = .ok (.dup, 1) := by decide +kernel
theorem dX4_init_47 : decode cX4_init 47 = .ok (.invokespecial 28, 3) := by decide +kernel
theorem dX4_init_50 : decode cX4_init 50 = .ok (.putfield 29, 3) := by decide +kernel
theorem dX4_init_53 : decode cX4_init 53 = .ok (.aload_n 0, 1) := by decide +kernel
theorem dX4_init_54 : decode cX4_init 54 = .ok (.new 33, 3) := by decide +kernel
theorem dX4_init_57 : decode cX4_init 57 = .ok (.dup, 1) := by decide +kernel
theorem dX4_init_58 : decode cX4_init 58 = .ok (.aload_n 0, 1) := by decide +kernel
theorem dX4_init_59 : decode cX4_init 59 = .ok (.getfield 29, 3) := by decide +kernel
theorem dX4_init_62 : decode cX4_init 62 = .ok (.aload_n 0, 1) := by decide +kernel
theorem dX4_init_63 : decode cX4_init 63 = .ok (.getfield 16, 3) := by decide +kernel
theorem dX4_init_66 : decode cX4_init 66 = .ok (.invokespecial 35, 3) := by decide +kernel
theorem dX4_init_69 : decode cX4_init 69 = .ok (.putfield 38, 3) := by decide +kernel
theorem dX4_init_72 : decode cX4_init 72 = .ok (.aload_n 0, 1) := by decide +kernel
theorem dX4_init_73 : decode cX4_init 73 = .ok (.iconst 4, 1) := by decide +kernel
theorem dX4_init_74 : decode cX4_init 74 = .ok (.anewarray 42, 3) := by decide +kernel
theorem dX4_init_77 : decode cX4_init 77 = .ok (.putfield 44, 3) := by decide +kernel
theorem dX4_init_80 : decode cX4_init 80 = .ok (.iconst 0, 1) := by decide +kernel
theorem dX4_init_81 : decode cX4_init 81 = .ok (.istore_n 1, 1) := by decide +kernel
theorem dX4_init_82 : decode cX4_init 82 = .ok (.iload_n 1, 1) := by decide +kernel
theorem dX4_init_83 : decode cX4_init 83 = .ok (.iconst 4, 1) := by decide +kernel
theorem dX4_init_84 : decode cX4_init 84 = .ok (.if_icmp .ge 22, 3) := by decide +kernel
theorem dX4_init_87 : decode cX4_init 87 = .ok (.aload_n 0, 1) := by decide +kernel
theorem dX4_init_88 : decode cX4_init 88 = .ok (.getfield 44, 3) := by decide +kernel
theorem dX4_init_91 : decode cX4_init 91 = .ok (.iload_n 1, 1) := by decide +kernel
theorem dX4_init_92 : decode cX4_init 92 = .ok (.new 42, 3) := by decide +kernel
theorem dX4_init_95 : decode cX4_init 95 = .ok (.dup, 1) := by decide +kernel
theorem dX4_init_96 : decode cX4_init 96 = .ok (.invokespecial 48, 3) := by decide +kernel
theorem dX4_init_99 : decode cX4_init 99 = .ok (.aastore, 1) := by decide +kernel
theorem dX4_init_100 : decode cX4_init 100 = .ok (.iinc 1 1, 3) := by decide +kernel
theorem dX4_init_103 : decode cX4_init 103 = .ok (.goto (-21), 3) := by decide +kernel
theorem dX4_init_106 : decode cX4_init 106 = .ok (.aload_n 0, 1) := by decide +kernel
theorem dX4_init_107 : decode cX4_init 107 = .ok (.bipush 7, 2) := by decide +kernel
theorem dX4_init_109 : decode cX4_init 109 = .ok (.newarray .int, 2) := by decide +kernel
theorem dX4_init_111 : decode cX4_init 111 = .ok (.putfield 49, 3) := by decide +kernel
theorem dX4_init_114 : decode cX4_init 114 = .ok (.return_, 1) := by decide +kernel
theorem dX4_heat_0 : decode cX4_heat 0 = .ok (.iload_n 1, 1) := by decide +kernel
theorem dX4_heat_1 : decode cX4_heat 1 = .ok (.bipush 20, 2) := by decide +kernel
theorem dX4_heat_3 : decode cX4_heat 3 = .ok (.bipush 90, 2) := by decide +kernel
theorem dX4_heat_5 : decode cX4_heat 5 = .ok (.invokestatic 53, 3) := by decide +kernel
theorem dX4_heat_8 : decode cX4_heat 8 = .ok (.ifCond .ne 9, 3) := by decide +kernel
theorem dX4_heat_11 : decode cX4_heat 11 = .ok (.aload_n 0, 1) := by decide +kernel
theorem dX4_heat_12 : decode cX4_heat 12 = .ok (.iconst 0, 1) := by decide +kernel
theorem dX4_heat_13 : decode cX4_heat 13 = .ok (.invokevirtual 57, 3) := by decide +kernel
theorem dX4_heat_16 : decode cX4_heat 16 = .ok (.ireturn, 1) := by decide +kernel
theorem dX4_heat_17 : decode cX4_heat 17 = .ok (.aload_n 0, 1) := by decide +kernel
theorem dX4_heat_18 : decode cX4_heat 18 = .ok (.getfield 10, 3) := by decide +kernel
theorem dX4_heat_21 : decode cX4_heat 21 = .ok (.getfield 61, 3) := by decide +kernel
theorem dX4_heat_24 : decode cX4_heat 24 = .ok (.istore_n 2, 1) := by decide +kernel
theorem dX4_heat_25 : decode cX4_heat 25 = .ok (.aload_n 0, 1) := by decide +kernel
theorem dX4_heat_26 : decode cX4_heat 26 = .ok (.getfield 10, 3) := by decide +kernel
theorem dX4_heat_29 : decode cX4_heat 29 = .ok (.iload_n 1, 1) := by decide +kernel
theorem dX4_heat_30 : decode cX4_heat 30 = .ok (.putfield 61, 3) := by decide +kernel
theorem dX4_heat_33 : decode cX4_heat 33 = .ok (.iload_n 2, 1) := by decide +kernel
theorem dX4_heat_34 : decode cX4_heat 34 = .ok (.ireturn, 1) := by decide +kernel
theorem dX4_now_0 : decode cX4_now 0 = .ok (.iload_n 1, 1) := by decide +kernel
theorem dX4_now_1 : decode cX4_now 1 = .ok (.tableswitch 92 0 5 #[39, 47, 55, 64, 72, 80], 39) := by decide +kernel
theorem dX4_now_40 : decode cX4_now 40 = .ok (.aload_n 0, 1) := by decide +kernel
theorem dX4_now_41 : decode cX4_now 41 = .ok (.getfield 10, 3) := by decide +kernel
theorem dX4_now_44 : decode cX4_now 44 = .ok (.getfield 65, 3) := by decide +kernel
theorem dX4_now_47 : decode cX4_now 47 = .ok (.ireturn, 1) := by decide +kernel
theorem dX4_now_48 : decode cX4_now 48 = .ok (.aload_n 0, 1) := by decide +kernel
theorem dX4_now_49 : decode cX4_now 49 = .ok (.getfield 10, 3) := by decide +kernel
theorem dX4_now_52 : decode cX4_now 52 = .ok (.getfield 61, 3) := by decide +kernel
theorem dX4_now_55 : decode cX4_now 55 = .ok (.ireturn, 1) := by decide +kernel
theorem dX4_now_56 : decode cX4_now 56 = .ok (.aload_n 0, 1) := by decide +kernel
theorem dX4_now_57 : decode cX4_now 57 = .ok (.getfield 10, 3) := by decide +kernel
theorem dX4_now_60 : decode cX4_now 60 = .ok (.iconst (-1), 1) := by decide +kernel
theorem dX4_now_61 : decode cX4_now 61 = .ok (.invokevirtual 68, 3) := by decide +kernel
theorem dX4_now_64 : decode cX4_now 64 = .ok (.ireturn, 1) := by decide +kernel
theorem dX4_now_65 : decode cX4_now 65 = .ok (.aload_n 0, 1) := by decide +kernel
theorem dX4_now_66 : decode cX4_now 66 = .ok (.getfield 10, 3) := by decide +kernel
theorem dX4_now_69 : decode cX4_now 69 = .ok (.invokevirtual 71, 3) := by decide +kernel
theorem dX4_now_72 : decode cX4_now 72 = .ok (.ireturn, 1) := by decide +kernel
theorem dX4_now_73 : decode cX4_now 73 = .ok (.aload_n 0, 1) := by decide +kernel
theorem dX4_now_74 : decode cX4_now 74 = .ok (.getfield 10, 3) := by decide +kernel
theorem dX4_now_77 : decode cX4_now 77 = .ok (.invokevirtual 75, 3) := by decide +kernel
theorem dX4_now_80 : decode cX4_now 80 = .ok (.ireturn, 1) := by decide +kernel
theorem dX4_now_81 : decode cX4_now 81 = .ok (.sipush 10000, 3) := by decide +kernel
theorem dX4_now_84 : decode cX4_now 84 = .ok (.aload_n 0, 1) := by decide +kernel
theorem dX4_now_85 : decode cX4_now 85 = .ok (.getfield 10, 3) := by decide +kernel
theorem dX4_now_88 : decode cX4_now 88 = .ok (.invokevirtual 78, 3) := by decide +kernel
theorem dX4_now_91 : decode cX4_now 91 = .ok (.iadd, 1) := by decide +kernel
theorem dX4_now_92 : decode cX4_now 92 = .ok (.ireturn, 1) := by decide +kernel
theorem dX4_now_93 : decode cX4_now 93 = .ok (.aload_n 0, 1) := by decide +kernel
theorem dX4_now_94 : decode cX4_now 94 = .ok (.iconst 0, 1) := by decide +kernel
theorem dX4_now_95 : decode cX4_now 95 = .ok (.invokevirtual 57, 3) := by decide +kernel
theorem dX4_now_98 : decode cX4_now 98 = .ok (.ireturn, 1) := by decide +kernel
theorem dX4_person_0 : decode cX4_person 0 = .ok (.iload_n 1, 1) := by decide +kernel
theorem dX4_person_1 : decode cX4_person 1 = .ok (.invokestatic 81, 3) := by decide +kernel
theorem dX4_person_4 : decode cX4_person 4 = .ok (.ifCond .ne 9, 3) := by decide +kernel
theorem dX4_person_7 : decode cX4_person 7 = .ok (.aload_n 0, 1) := by decide +kernel
theorem dX4_person_8 : decode cX4_person 8 = .ok (.iconst 0, 1) := by decide +kernel
theorem dX4_person_9 : decode cX4_person 9 = .ok (.invokevirtual 57, 3) := by decide +kernel
theorem dX4_person_12 : decode cX4_person 12 = .ok (.ireturn, 1) := by decide +kernel
theorem dX4_person_13 : decode cX4_person 13 = .ok (.aload_n 0, 1) := by decide +kernel
theorem dX4_person_14 : decode cX4_person 14 = .ok (.getfield 10, 3) := by decide +kernel
theorem dX4_person_17 : decode cX4_person 17 = .ok (.getfield 85, 3) := by decide +kernel
theorem dX4_person_20 : decode cX4_person 20 = .ok (.bipush 6, 2) := by decide +kernel
theorem dX4_person_22 : decode cX4_person 22 = .ok (.if_icmp .lt 9, 3) := by decide +kernel
theorem dX4_person_25 : decode cX4_person 25 = .ok (.aload_n 0, 1) := by decide +kernel
theorem dX4_person_26 : decode cX4_person 26 = .ok (.iconst 1, 1) := by decide +kernel
theorem dX4_person_27 : decode cX4_person 27 = .ok (.invokevirtual 57, 3) := by decide +kernel
theorem dX4_person_30 : decode cX4_person 30 = .ok (.ireturn, 1) := by decide +kernel
theorem dX4_person_31 : decode cX4_person 31 = .ok (.aload_n 0, 1) := by decide +kernel
theorem dX4_person_32 : decode cX4_person 32 = .ok (.getfield 10, 3) := by decide +kernel
theorem dX4_person_35 : decode cX4_person 35 = .ok (.iload_n 1, 1) := by decide +kernel
theorem dX4_person_36 : decode cX4_person 36 = .ok (.invokevirtual 88, 3) := by decide +kernel
theorem dX4_person_39 : decode cX4_person 39 = .ok (.ireturn, 1) := by decide +kernel
theorem dX4_of_0 : decode cX4_of 0 = .ok (.aload_n 0, 1) := by decide +kernel
theorem dX4_of_1 : decode cX4_of 1 = .ok (.getfield 10, 3) := by decide +kernel
theorem dX4_of_4 : decode cX4_of 4 = .ok (.iload_n 1, 1) := by decide +kernel
theorem dX4_of_5 : decode cX4_of 5 = .ok (.invokevirtual 91, 3) := by decide +kernel
theorem dX4_of_8 : decode cX4_of 8 = .ok (.ifCond .ne 9, 3) := by decide +kernel
theorem dX4_of_11 : decode cX4_of 11 = .ok (.aload_n 0, 1) := by decide +kernel
theorem dX4_of_12 : decode cX4_of 12 = .ok (.iconst 0, 1) := by decide +kernel
theorem dX4_of_13 : decode cX4_of 13 = .ok (.invokevirtual 57, 3) := by decide +kernel
theorem dX4_of_16 : decode cX4_of 16 = .ok (.ireturn, 1) := by decide +kernel
theorem dX4_of_17 : decode cX4_of 17 = .ok (.iload_n 2, 1) := by decide +kernel
theorem dX4_of_18 : decode cX4_of 18 = .ok (.tableswitch 111 0 5 #[38, 48, 58, 72, 82, 91], 38) := by decide +kernel
theorem dX4_of_56 : decode cX4_of 56 = .ok (.aload_n 0, 1) := by decide +kernel
theorem dX4_of_57 : decode cX4_of 57 = .ok (.getfield 10, 3) := by decide +kernel
theorem dX4_of_60 : decode cX4_of 60 = .ok (.getfield 94, 3) := by decide +kernel
theorem dX4_of_63 : decode cX4_of 63 = .ok (.iload_n 1, 1) := by decide +kernel
theorem dX4_of_64 : decode cX4_of 64 = .ok (.iaload, 1) := by decide +kernel
theorem dX4_of_65 : decode cX4_of 65 = .ok (.ireturn, 1) := by decide +kernel
theorem dX4_of_66 : decode cX4_of 66 = .ok (.aload_n 0, 1) := by decide +kernel
theorem dX4_of_67 : decode cX4_of 67 = .ok (.getfield 10, 3) := by decide +kernel
theorem dX4_of_70 : decode cX4_of 70 = .ok (.getfield 97, 3) := by decide +kernel
theorem dX4_of_73 : decode cX4_of 73 = .ok (.iload_n 1, 1) := by decide +kernel
theorem dX4_of_74 : decode cX4_of 74 = .ok (.iaload, 1) := by decide +kernel
theorem dX4_of_75 : decode cX4_of 75 = .ok (.ireturn, 1) := by decide +kernel
theorem dX4_of_76 : decode cX4_of 76 = .ok (.sipush 1000, 3) := by decide +kernel
theorem dX4_of_79 : decode cX4_of 79 = .ok (.aload_n 0, 1) := by decide +kernel
theorem dX4_of_80 : decode cX4_of 80 = .ok (.getfield 10, 3) := by decide +kernel
theorem dX4_of_83 : decode cX4_of 83 = .ok (.getfield 100, 3) := by decide +kernel
theorem dX4_of_86 : decode cX4_of 86 = .ok (.iload_n 1, 1) := by decide +kernel
theorem dX4_of_87 : decode cX4_of 87 = .ok (.iaload, 1) := by decide +kernel
theorem dX4_of_88 : decode cX4_of 88 = .ok (.iadd, 1) := by decide +kernel
theorem dX4_of_89 : decode cX4_of 89 = .ok (.ireturn, 1) := by decide +kernel
theorem dX4_of_90 : decode cX4_of 90 = .ok (.aload_n 0, 1) := by decide +kernel
theorem dX4_of_91 : decode cX4_of 91 = .ok (.getfield 10, 3) := by decide +kernel
theorem dX4_of_94 : decode cX4_of 94 = .ok (.getfield 103, 3) := by decide +kernel
theorem dX4_of_97 : decode cX4_of 97 = .ok (.iload_n 1, 1) := by decide +kernel
theorem dX4_of_98 : decode cX4_of 98 = .ok (.iaload, 1) := by decide +kernel
theorem dX4_of_99 : decode cX4_of 99 = .ok (.ireturn, 1) := by decide +kernel
theorem dX4_of_100 : decode cX4_of 100 = .ok (.aload_n 0, 1) := by decide +kernel
theorem dX4_of_101 : decode cX4_of 101 = .ok (.getfield 10, 3) := by decide +kernel
theorem dX4_of_104 : decode cX4_of 104 = .ok (.iload_n 1, 1) := by decide +kernel
theorem dX4_of_105 : decode cX4_of 105 = .ok (.invokevirtual 68, 3) := by decide +kernel
theorem dX4_of_108 : decode cX4_of 108 = .ok (.ireturn, 1) := by decide +kernel
theorem dX4_of_109 : decode cX4_of 109 = .ok (.aload_n 0, 1) := by decide +kernel
theorem dX4_of_110 : decode cX4_of 110 = .ok (.getfield 10, 3) := by decide +kernel
theorem dX4_of_113 : decode cX4_of 113 = .ok (.invokevirtual 106, 3) := by decide +kernel
theorem dX4_of_116 : decode cX4_of 116 = .ok (.sipush 1000, 3) := by decide +kernel
theorem dX4_of_119 : decode cX4_of 119 = .ok (.aload_n 0, 1) := by decide +kernel
theorem dX4_of_120 : decode cX4_of 120 = .ok (.getfield 10, 3) := by decide +kernel
theorem dX4_of_123 : decode cX4_of 123 = .ok (.iload_n 1, 1) := by decide +kernel
theorem dX4_of_124 : decode cX4_of 124 = .ok (.invokevirtual 109, 3) := by decide +kernel
theorem dX4_of_127 : decode cX4_of 127 = .ok (.iadd, 1) := by decide +kernel
theorem dX4_of_128 : decode cX4_of 128 = .ok (.ireturn, 1) := by decide +kernel
theorem dX4_of_129 : decode cX4_of 129 = .ok (.aload_n 0, 1) := by decide +kernel
theorem dX4_of_130 : decode cX4_of 130 = .ok (.iconst 0, 1) := by decide +kernel
theorem dX4_of_131 : decode cX4_of 131 = .ok (.invokevirtual 57, 3) := by decide +kernel
theorem dX4_of_134 : decode cX4_of 134 = .ok (.ireturn, 1) := by decide +kernel
theorem dX4_set_0 : decode cX4_set 0 = .ok (.aload_n 0, 1) := by decide +kernel
theorem dX4_set_1 : decode cX4_set 1 = .ok (.getfield 10, 3) := by decide +kernel
theorem dX4_set_4 : decode cX4_set 4 = .ok (.iload_n 1, 1) := by decide +kernel
theorem dX4_set_5 : decode cX4_set 5 = .ok (.invokevirtual 91, 3) := by decide +kernel
theorem dX4_set_8 : decode cX4_set 8 = .ok (.ifCond .ne 9, 3) := by decide +kernel
theorem dX4_set_11 : decode cX4_set 11 = .ok (.aload_n 0, 1) := by decide +kernel
theorem dX4_set_12 : decode cX4_set 12 = .ok (.iconst 0, 1) := by decide +kernel
theorem dX4_set_13 : decode cX4_set 13 = .ok (.invokevirtual 57, 3) := by decide +kernel
theorem dX4_set_16 : decode cX4_set 16 = .ok (.ireturn, 1) := by decide +kernel
theorem dX4_set_17 : decode cX4_set 17 = .ok (.iload_n 2, 1) := by decide +kernel
theorem dX4_set_18 : decode cX4_set 18 = .ok (.tableswitch 78 1 3 #[26, 42, 62], 26) := by decide +kernel
theorem dX4_set_44 : decode cX4_set 44 = .ok (.aload_n 0, 1) := by decide +kernel
theorem dX4_set_45 : decode cX4_set 45 = .ok (.aload_n 0, 1) := by decide +kernel
theorem dX4_set_46 : decode cX4_set 46 = .ok (.getfield 10, 3) := by decide +kernel
theorem dX4_set_49 : decode cX4_set 49 = .ok (.getfield 97, 3) := by decide +kernel
theorem dX4_set_52 : decode cX4_set 52 = .ok (.iload_n 1, 1) := by decide +kernel
theorem dX4_set_53 : decode cX4_set 53 = .ok (.iload_n 3, 1) := by decide +kernel
theorem dX4_set_54 : decode cX4_set 54 = .ok (.iconst 0, 1) := by decide +kernel
theorem dX4_set_55 : decode cX4_set 55 = .ok (.iconst 2, 1) := by decide +kernel
theorem dX4_set_56 : decode cX4_set 56 = .ok (.invokevirtual 112, 3) := by decide +kernel
theorem dX4_set_59 : decode cX4_set 59 = .ok (.ireturn, 1) := by decide +kernel
theorem dX4_set_60 : decode cX4_set 60 = .ok (.aload_n 0, 1) := by decide +kernel
theorem dX4_set_61 : decode cX4_set 61 = .ok (.aload_n 0, 1) := by decide +kernel
theorem dX4_set_62 : decode cX4_set 62 = .ok (.getfield 10, 3) := by decide +kernel
theorem dX4_set_65 : decode cX4_set 65 = .ok (.getfield 100, 3) := by decide +kernel
theorem dX4_set_68 : decode cX4_set 68 = .ok (.iload_n 1, 1) := by decide +kernel
theorem dX4_set_69 : decode cX4_set 69 = .ok (.iload_n 3, 1) := by decide +kernel
theorem dX4_set_70 : decode cX4_set 70 = .ok (.sipush (-999), 3) := by decide +kernel
theorem dX4_set_73 : decode cX4_set 73 = .ok (.sipush 999, 3) := by decide +kernel
theorem dX4_set_76 : decode cX4_set 76 = .ok (.invokevirtual 112, 3) := by decide +kernel
theorem dX4_set_79 : decode cX4_set 79 = .ok (.ireturn, 1) := by decide +kernel
theorem dX4_set_80 : decode cX4_set 80 = .ok (.aload_n 0, 1) := by decide +kernel
theorem dX4_set_81 : decode cX4_set 81 = .ok (.aload_n 0, 1) := by decide +kernel
theorem dX4_set_82 : decode cX4_set 82 = .ok (.getfield 10, 3) := by decide +kernel
theorem dX4_set_85 : decode cX4_set 85 = .ok (.getfield 103, 3) := by decide +kernel
theorem dX4_set_88 : decode cX4_set 88 = .ok (.iload_n 1, 1) := by decide +kernel
theorem dX4_set_89 : decode cX4_set 89 = .ok (.iload_n 3, 1) := by decide +kernel
theorem dX4_set_90 : decode cX4_set 90 = .ok (.iconst 0, 1) := by decide +kernel
theorem dX4_set_91 : decode cX4_set 91 = .ok (.iconst 1, 1) := by decide +kernel
theorem dX4_set_92 : decode cX4_set 92 = .ok (.invokevirtual 112, 3) := by decide +kernel
theorem dX4_set_95 : decode cX4_set 95 = .ok (.ireturn, 1) := by decide +kernel
theorem dX4_set_96 : decode cX4_set 96 = .ok (.aload_n 0, 1) := by decide +kernel
theorem dX4_set_97 : decode cX4_set 97 = .ok (.iconst 0, 1) := by decide +kernel
theorem dX4_set_98 : decode cX4_set 98 = .ok (.invokevirtual 57, 3) := by decide +kernel
theorem dX4_set_101 : decode cX4_set 101 = .ok (.ireturn, 1) := by decide +kernel
theorem dX4_would_0 : decode cX4_would 0 = .ok (.aload_n 0, 1) := by decide +kernel
theorem dX4_would_1 : decode cX4_would 1 = .ok (.getfield 10, 3) := by decide +kernel
theorem dX4_would_4 : decode cX4_would 4 = .ok (.iload_n 1, 1) := by decide +kernel
theorem dX4_would_5 : decode cX4_would 5 = .ok (.invokevirtual 91, 3) := by decide +kernel
theorem dX4_would_8 : decode cX4_would 8 = .ok (.ifCond .eq 23, 3) := by decide +kernel
theorem dX4_would_11 : decode cX4_would 11 = .ok (.aload_n 0, 1) := by decide +kernel
theorem dX4_would_12 : decode cX4_would 12 = .ok (.getfield 10, 3) := by decide +kernel
theorem dX4_would_15 : decode cX4_would 15 = .ok (.iload_n 2, 1) := by decide +kernel
theorem dX4_would_16 : decode cX4_would 16 = .ok (.invokevirtual 116, 3) := by decide +kernel
theorem dX4_would_19 : decode cX4_would 19 = .ok (.ifCond .eq 12, 3) := by decide +kernel
theorem dX4_would_22 : decode cX4_would 22 = .ok (.iload_n 3, 1) := by decide +kernel
theorem dX4_would_23 : decode cX4_would 23 = .ok (.iconst 0, 1) := by decide +kernel
theorem dX4_would_24 : decode cX4_would 24 = .ok (.iconst 1, 1) := by decide +kernel
theorem dX4_would_25 : decode cX4_would 25 = .ok (.invokestatic 53, 3) := by decide +kernel
theorem dX4_would_28 : decode cX4_would 28 = .ok (.ifCond .ne 9, 3) := by decide +kernel
theorem dX4_would_31 : decode cX4_would 31 = .ok (.aload_n 0, 1) := by decide +kernel
theorem dX4_would_32 : decode cX4_would 32 = .ok (.iconst 0, 1) := by decide +kernel
theorem dX4_would_33 : decode cX4_would 33 = .ok (.invokevirtual 57, 3) := by decide +kernel
theorem dX4_would_36 : decode cX4_would 36 = .ok (.ireturn, 1) := by decide +kernel
theorem dX4_would_37 : decode cX4_would 37 = .ok (.aload_n 0, 1) := by decide +kernel
theorem dX4_would_38 : decode cX4_would 38 = .ok (.getfield 10, 3) := by decide +kernel
theorem dX4_would_41 : decode cX4_would 41 = .ok (.invokevirtual 106, 3) := by decide +kernel
theorem dX4_would_44 : decode cX4_would 44 = .ok (.iload_n 3, 1) := by decide +kernel
theorem dX4_would_45 : decode cX4_would 45 = .ok (.ifCond .ne 15, 3) := by decide +kernel
theorem dX4_would_48 : decode cX4_would 48 = .ok (.aload_n 0, 1) := by decide +kernel
theorem dX4_would_49 : decode cX4_would 49 = .ok (.getfield 10, 3) := by decide +kernel
theorem dX4_would_52 : decode cX4_would 52 = .ok (.iload_n 1, 1) := by decide +kernel
theorem dX4_would_53 : decode cX4_would 53 = .ok (.iload_n 2, 1) := by decide +kernel
theorem dX4_would_54 : decode cX4_would 54 = .ok (.invokevirtual 119, 3) := by decide +kernel
theorem dX4_would_57 : decode cX4_would 57 = .ok (.goto 12, 3) := by decide +kernel
theorem dX4_would_60 : decode cX4_would 60 = .ok (.aload_n 0, 1) := by decide +kernel
theorem dX4_would_61 : decode cX4_would 61 = .ok (.getfield 10, 3) := by decide +kernel
theorem dX4_would_64 : decode cX4_would 64 = .ok (.iload_n 1, 1) := by decide +kernel
theorem dX4_would_65 : decode cX4_would 65 = .ok (.iload_n 2, 1) := by decide +kernel
theorem dX4_would_66 : decode cX4_would 66 = .ok (.invokevirtual 123, 3) := by decide +kernel
theorem dX4_would_69 : decode cX4_would 69 = .ok (.istore 4, 2) := by decide +kernel
theorem dX4_would_71 : decode cX4_would 71 = .ok (.iload 4, 2) := by decide +kernel
theorem dX4_would_73 : decode cX4_would 73 = .ok (.ifCond .eq 7, 3) := by decide +kernel
theorem dX4_would_76 : decode cX4_would 76 = .ok (.iconst 1, 1) := by decide +kernel
theorem dX4_would_77 : decode cX4_would 77 = .ok (.goto 4, 3) := by decide +kernel
theorem dX4_would_80 : decode cX4_would 80 = .ok (.iconst 0, 1) := by decide +kernel
theorem dX4_would_81 : decode cX4_would 81 = .ok (.ireturn, 1) := by decide +kernel
theorem dX4_turn_0 : decode cX4_turn 0 = .ok (.aload_n 0, 1) := by decide +kernel
theorem dX4_turn_1 : decode cX4_turn 1 = .ok (.getfield 10, 3) := by decide +kernel
theorem dX4_turn_4 : decode cX4_turn 4 = .ok (.iload_n 1, 1) := by decide +kernel
theorem dX4_turn_5 : decode cX4_turn 5 = .ok (.invokevirtual 91, 3) := by decide +kernel
theorem dX4_turn_8 : decode cX4_turn 8 = .ok (.ifCond .ne 9, 3) := by decide +kernel
theorem dX4_turn_11 : decode cX4_turn 11 = .ok (.aload_n 0, 1) := by decide +kernel
theorem dX4_turn_12 : decode cX4_turn 12 = .ok (.iconst 0, 1) := by decide +kernel
theorem dX4_turn_13 : decode cX4_turn 13 = .ok (.invokevirtual 57, 3) := by decide +kernel
theorem dX4_turn_16 : decode cX4_turn 16 = .ok (.ireturn, 1) := by decide +kernel
theorem dX4_turn_17 : decode cX4_turn 17 = .ok (.aload_n 0, 1) := by decide +kernel
theorem dX4_turn_18 : decode cX4_turn 18 = .ok (.aload_n 0, 1) := by decide +kernel
theorem dX4_turn_19 : decode cX4_turn 19 = .ok (.getfield 10, 3) := by decide +kernel
theorem dX4_turn_22 : decode cX4_turn 22 = .ok (.getfield 94, 3) := by decide +kernel
theorem dX4_turn_25 : decode cX4_turn 25 = .ok (.iload_n 1, 1) := by decide +kernel
theorem dX4_turn_26 : decode cX4_turn 26 = .ok (.iload_n 2, 1) := by decide +kernel
theorem dX4_turn_27 : decode cX4_turn 27 = .ok (.iconst 0, 1) := by decide +kernel
theorem dX4_turn_28 : decode cX4_turn 28 = .ok (.iconst 5, 1) := by decide +kernel
theorem dX4_turn_29 : decode cX4_turn 29 = .ok (.invokevirtual 112, 3) := by decide +kernel
theorem dX4_turn_32 : decode cX4_turn 32 = .ok (.ireturn, 1) := by decide +kernel
theorem dX4_as_0 : decode cX4_as 0 = .ok (.aload_n 0, 1) := by decide +kernel
theorem dX4_as_1 : decode cX4_as 1 = .ok (.getfield 10, 3) := by decide +kernel
theorem dX4_as_4 : decode cX4_as 4 = .ok (.iload_n 1, 1) := by decide +kernel
theorem dX4_as_5 : decode cX4_as 5 = .ok (.invokevirtual 91, 3) := by decide +kernel
theorem dX4_as_8 : decode cX4_as 8 = .ok (.ifCond .eq 10, 3) := by decide +kernel
theorem dX4_as_11 : decode cX4_as 11 = .ok (.iload_n 2, 1) := by decide +kernel
theorem dX4_as_12 : decode cX4_as 12 = .ok (.invokestatic 81, 3) := by decide +kernel
theorem dX4_as_15 : decode cX4_as 15 = .ok (.ifCond .ne 9, 3) := by decide +kernel
theorem dX4_as_18 : decode cX4_as 18 = .ok (.aload_n 0, 1) := by decide +kernel
theorem dX4_as_19 : decode cX4_as 19 = .ok (.iconst 0, 1) := by decide +kernel
theorem dX4_as_20 : decode cX4_as 20 = .ok (.invokevirtual 57, 3) := by decide +kernel
theorem dX4_as_23 : decode cX4_as 23 = .ok (.ireturn, 1) := by decide +kernel
theorem dX4_as_24 : decode cX4_as 24 = .ok (.aload_n 0, 1) := by decide +kernel
theorem dX4_as_25 : decode cX4_as 25 = .ok (.getfield 10, 3) := by decide +kernel
theorem dX4_as_28 : decode cX4_as 28 = .ok (.getfield 94, 3) := by decide +kernel
theorem dX4_as_31 : decode cX4_as 31 = .ok (.iload_n 1, 1) := by decide +kernel
theorem dX4_as_32 : decode cX4_as 32 = .ok (.iaload, 1) := by decide +kernel
theorem dX4_as_33 : decode cX4_as 33 = .ok (.iload_n 2, 1) := by decide +kernel
theorem dX4_as_34 : decode cX4_as 34 = .ok (.invokestatic 126, 3) := by decide +kernel
theorem dX4_as_37 : decode cX4_as 37 = .ok (.ifCond .ne 9, 3) := by decide +kernel
theorem dX4_as_40 : decode cX4_as 40 = .ok (.aload_n 0, 1) := by decide +kernel
theorem dX4_as_41 : decode cX4_as 41 = .ok (.iconst 2, 1) := by decide +kernel
theorem dX4_as_42 : decode cX4_as 42 = .ok (.invokevirtual 57, 3) := by decide +kernel
theorem dX4_as_45 : decode cX4_as 45 = .ok (.ireturn, 1) := by decide +kernel
theorem dX4_as_46 : decode cX4_as 46 = .ok (.sipush 1000, 3) := by decide +kernel
theorem dX4_as_49 : decode cX4_as 49 = .ok (.aload_n 0, 1) := by decide +kernel
theorem dX4_as_50 : decode cX4_as 50 = .ok (.getfield 10, 3) := by decide +kernel
theorem dX4_as_53 : decode cX4_as 53 = .ok (.getfield 100, 3) := by decide +kernel
theorem dX4_as_56 : decode cX4_as 56 = .ok (.iload_n 1, 1) := by decide +kernel
theorem dX4_as_57 : decode cX4_as 57 = .ok (.iaload, 1) := by decide +kernel
theorem dX4_as_58 : decode cX4_as 58 = .ok (.iadd, 1) := by decide +kernel
theorem dX4_as_59 : decode cX4_as 59 = .ok (.ireturn, 1) := by decide +kernel
theorem dX4_garment_0 : decode cX4_garment 0 = .ok (.aload_n 0, 1) := by decide +kernel
theorem dX4_garment_1 : decode cX4_garment 1 = .ok (.getfield 10, 3) := by decide +kernel
theorem dX4_garment_4 : decode cX4_garment 4 = .ok (.iload_n 1, 1) := by decide +kernel
theorem dX4_garment_5 : decode cX4_garment 5 = .ok (.invokevirtual 91, 3) := by decide +kernel
theorem dX4_garment_8 : decode cX4_garment 8 = .ok (.ifCond .eq 12, 3) := by decide +kernel
theorem dX4_garment_11 : decode cX4_garment 11 = .ok (.iload_n 2, 1) := by decide +kernel
theorem dX4_garment_12 : decode cX4_garment 12 = .ok (.iconst 0, 1) := by decide +kernel
theorem dX4_garment_13 : decode cX4_garment 13 = .ok (.iconst 2, 1) := by decide +kernel
theorem dX4_garment_14 : decode cX4_garment 14 = .ok (.invokestatic 53, 3) := by decide +kernel
theorem dX4_garment_17 : decode cX4_garment 17 = .ok (.ifCond .ne 9, 3) := by decide +kernel
theorem dX4_garment_20 : decode cX4_garment 20 = .ok (.aload_n 0, 1) := by decide +kernel
theorem dX4_garment_21 : decode cX4_garment 21 = .ok (.iconst 0, 1) := by decide +kernel
theorem dX4_garment_22 : decode cX4_garment 22 = .ok (.invokevirtual 57, 3) := by decide +kernel
theorem dX4_garment_25 : decode cX4_garment 25 = .ok (.ireturn, 1) := by decide +kernel
theorem dX4_garment_26 : decode cX4_garment 26 = .ok (.aload_n 0, 1) := by decide +kernel
theorem dX4_garment_27 : decode cX4_garment 27 = .ok (.getfield 10, 3) := by decide +kernel
theorem dX4_garment_30 : decode cX4_garment 30 = .ok (.getfield 129, 3) := by decide +kernel
theorem dX4_garment_33 : decode cX4_garment 33 = .ok (.bipush 10, 2) := by decide +kernel
theorem dX4_garment_35 : decode cX4_garment 35 = .ok (.if_icmp .lt 9, 3) := by decide +kernel
theorem dX4_garment_38 : decode cX4_garment 38 = .ok (.aload_n 0, 1) := by decide +kernel
theorem dX4_garment_39 : decode cX4_garment 39 = .ok (.iconst 1, 1) := by decide +kernel
theorem dX4_garment_40 : decode cX4_garment 40 = .ok (.invokevirtual 57, 3) := by decide +kernel
theorem dX4_garment_43 : decode cX4_garment 43 = .ok (.ireturn, 1) := by decide +kernel
theorem dX4_garment_44 : decode cX4_garment 44 = .ok (.aload_n 0, 1) := by decide +kernel
theorem dX4_garment_45 : decode cX4_garment 45 = .ok (.getfield 10, 3) := by decide +kernel
theorem dX4_garment_48 : decode cX4_garment 48 = .ok (.iload_n 1, 1) := by decide +kernel
theorem dX4_garment_49 : decode cX4_garment 49 = .ok (.iload_n 2, 1) := by decide +kernel
theorem dX4_garment_50 : decode cX4_garment 50 = .ok (.invokevirtual 132, 3) := by decide +kernel
theorem dX4_garment_53 : decode cX4_garment 53 = .ok (.ireturn, 1) := by decide +kernel
theorem dX4_garmentOf_0 : decode cX4_garmentOf 0 = .ok (.aload_n 0, 1) := by decide +kernel
theorem dX4_garmentOf_1 : decode cX4_garmentOf 1 = .ok (.getfield 10, 3) := by decide +kernel
theorem dX4_garmentOf_4 : decode cX4_garmentOf 4 = .ok (.iload_n 1, 1) := by decide +kernel
theorem dX4_garmentOf_5 : decode cX4_garmentOf 5 = .ok (.invokevirtual 116, 3) := by decide +kernel
theorem dX4_garmentOf_8 : decode cX4_garmentOf 8 = .ok (.ifCond .ne 9, 3) := by decide +kernel
theorem dX4_garmentOf_11 : decode cX4_garmentOf 11 = .ok (.aload_n 0, 1) := by decide +kernel
theorem dX4_garmentOf_12 : decode cX4_garmentOf 12 = .ok (.iconst 0, 1) := by decide +kernel
theorem dX4_garmentOf_13 : decode cX4_garmentOf 13 = .ok (.invokevirtual 57, 3) := by decide +kernel
theorem dX4_garmentOf_16 : decode cX4_garmentOf 16 = .ok (.ireturn, 1) := by decide +kernel
theorem dX4_garmentOf_17 : decode cX4_garmentOf 17 = .ok (.iload_n 2, 1) := by decide +kernel
theorem dX4_garmentOf_18 : decode cX4_garmentOf 18 = .ok (.tableswitch 96 0 5 #[38, 48, 58, 68, 78, 87], 38) := by decide +kernel
theorem dX4_garmentOf_56 : decode cX4_garmentOf 56 = .ok (.aload_n 0, 1) := by decide +kernel
