theorem inX0 : ∀ w ∈ u_ws RX0 TX0 14, w ∈ GL := GL_all [110, 112, 114, 116, 118, 120, 122, 124, 126, 128, 130, 132, 134, 136] (by decide +kernel) (by decide +kernel)
theorem inX1 : ∀ w ∈ u_ws RX1 TX1 3, w ∈ GL := GL_all [184, 186, 188] (by decide +kernel) (by decide +kernel)
theorem inX2 : ∀ w ∈ u_ws RX2 TX2 3, w ∈ GL := GL_all [204, 206, 208] (by decide +kernel) (by decide +kernel)
theorem inX3 : ∀ w ∈ u_ws RX3 TX3 6, w ∈ GL := GL_all [161, 163, 165, 167, 169, 171] (by decide +kernel) (by decide +kernel)
theorem inX4 : ∀ w ∈ u_ws RX4 TX4 8, w ∈ GL := GL_all [220, 222, 224, 226, 228, 230, 232, 234] (by decide +kernel) (by decide +kernel)
theorem inX5 : ∀ w ∈ u_ws RX5 TX5 19, w ∈ GL := GL_all [712, 714, 716, 718, 720, 722, 724, 726, 728, 730, 732, 734, 736, 738, 740, 742, 744, 746, 748] (by decide +kernel) (by decide +kernel)
theorem flX0_9 : FL RX0 9 0 0 := ⟨RX0, TX0, 14, rfl, inX0, by decide, GL_of (i := 77) (by decide +kernel) rfl⟩
theorem fpX0_9 : FP RX0 9 0 0 .int := ⟨RX0, TX0, 14, tyX0, rfl, inX0, by decide, GL_of (i := 77) (by decide +kernel) rfl, rfl, rfl, tyX0_ok, nmX0⟩
theorem flX4_65 : FL RX4 65 0 0 := ⟨RX0, TX0, 14, rfl, inX0, by decide, GL_of (i := 78) (by decide +kernel) rfl⟩
theorem fpX4_65 : FP RX4 65 0 0 .int := ⟨RX0, TX0, 14, tyX0, rfl, inX0, by decide, GL_of (i := 78) (by decide +kernel) rfl, rfl, rfl, tyX0_ok, nmX0⟩
theorem flX0_15 : FL RX0 15 0 1 := ⟨RX0, TX0, 14, rfl, inX0, by decide, GL_of (i := 79) (by decide +kernel) rfl⟩
theorem fpX0_15 : FP RX0 15 0 1 .int := ⟨RX0, TX0, 14, tyX0, rfl, inX0, by decide, GL_of (i := 79) (by decide +kernel) rfl, rfl, rfl, tyX0_ok, nmX0⟩
theorem flX4_61 : FL RX4 61 0 1 := ⟨RX0, TX0, 14, rfl, inX0, by decide, GL_of (i := 80) (by decide +kernel) rfl⟩
theorem fpX4_61 : FP RX4 61 0 1 .int := ⟨RX0, TX0, 14, tyX0, rfl, inX0, by decide, GL_of (i := 80) (by decide +kernel) rfl, rfl, rfl, tyX0_ok, nmX0⟩
theorem flX1_108 : FL RX1 108 0 1 := ⟨RX0, TX0, 14, rfl, inX0, by decide, GL_of (i := 81) (by decide +kernel) rfl⟩
theorem fpX1_108 : FP RX1 108 0 1 .int := ⟨RX0, TX0, 14, tyX0, rfl, inX0, by decide, GL_of (i := 81) (by decide +kernel) rfl, rfl, rfl, tyX0_ok, nmX0⟩
theorem flX0_18 : FL RX0 18 0 2 := ⟨RX0, TX0, 14, rfl, inX0, by decide, GL_of (i := 82) (by decide +kernel) rfl⟩
theorem fpX0_18 : FP RX0 18 0 2 .int := ⟨RX0, TX0, 14, tyX0, rfl, inX0, by decide, GL_of (i := 82) (by decide +kernel) rfl, rfl, rfl, tyX0_ok, nmX0⟩
theorem flX1_69 : FL RX1 69 0 2 := ⟨RX0, TX0, 14, rfl, inX0, by decide, GL_of (i := 83) (by decide +kernel) rfl⟩
theorem fpX1_69 : FP RX1 69 0 2 .int := ⟨RX0, TX0, 14, tyX0, rfl, inX0, by decide, GL_of (i := 83) (by decide +kernel) rfl, rfl, rfl, tyX0_ok, nmX0⟩
theorem flX4_85 : FL RX4 85 0 2 := ⟨RX0, TX0, 14, rfl, inX0, by decide, GL_of (i := 84) (by decide +kernel) rfl⟩
theorem fpX4_85 : FP RX4 85 0 2 .int := ⟨RX0, TX0, 14, tyX0, rfl, inX0, by decide, GL_of (i := 84) (by decide +kernel) rfl, rfl, rfl, tyX0_ok, nmX0⟩
theorem flX0_21 : FL RX0 21 0 3 := ⟨RX0, TX0, 14, rfl, inX0, by decide, GL_of (i := 85) (by decide +kernel) rfl⟩
theorem flX4_94 : FL RX4 94 0 3 := ⟨RX0, TX0, 14, rfl, inX0, by decide, GL_of (i := 86) (by decide +kernel) rfl⟩
theorem flX0_25 : FL RX0 25 0 4 := ⟨RX0, TX0, 14, rfl, inX0, by decide, GL_of (i := 87) (by decide +kernel) rfl⟩
theorem flX1_84 : FL RX1 84 0 4 := ⟨RX0, TX0, 14, rfl, inX0, by decide, GL_of (i := 88) (by decide +kernel) rfl⟩
theorem flX4_97 : FL RX4 97 0 4 := ⟨RX0, TX0, 14, rfl, inX0, by decide, GL_of (i := 89) (by decide +kernel) rfl⟩
theorem flX0_28 : FL RX0 28 0 5 := ⟨RX0, TX0, 14, rfl, inX0, by decide, GL_of (i := 90) (by decide +kernel) rfl⟩
theorem flX4_100 : FL RX4 100 0 5 := ⟨RX0, TX0, 14, rfl, inX0, by decide, GL_of (i := 91) (by decide +kernel) rfl⟩
theorem flX0_31 : FL RX0 31 0 6 := ⟨RX0, TX0, 14, rfl, inX0, by decide, GL_of (i := 92) (by decide +kernel) rfl⟩
theorem flX4_103 : FL RX4 103 0 6 := ⟨RX0, TX0, 14, rfl, inX0, by decide, GL_of (i := 93) (by decide +kernel) rfl⟩
theorem flX1_111 : FL RX1 111 0 6 := ⟨RX0, TX0, 14, rfl, inX0, by decide, GL_of (i := 94) (by decide +kernel) rfl⟩
theorem flX0_34 : FL RX0 34 0 7 := ⟨RX0, TX0, 14, rfl, inX0, by decide, GL_of (i := 95) (by decide +kernel) rfl⟩
theorem fpX0_34 : FP RX0 34 0 7 .int := ⟨RX0, TX0, 14, tyX0, rfl, inX0, by decide, GL_of (i := 95) (by decide +kernel) rfl, rfl, rfl, tyX0_ok, nmX0⟩
theorem flX1_91 : FL RX1 91 0 7 := ⟨RX0, TX0, 14, rfl, inX0, by decide, GL_of (i := 96) (by decide +kernel) rfl⟩
theorem fpX1_91 : FP RX1 91 0 7 .int := ⟨RX0, TX0, 14, tyX0, rfl, inX0, by decide, GL_of (i := 96) (by decide +kernel) rfl, rfl, rfl, tyX0_ok, nmX0⟩
theorem flX4_129 : FL RX4 129 0 7 := ⟨RX0, TX0, 14, rfl, inX0, by decide, GL_of (i := 97) (by decide +kernel) rfl⟩
theorem fpX4_129 : FP RX4 129 0 7 .int := ⟨RX0, TX0, 14, tyX0, rfl, inX0, by decide, GL_of (i := 97) (by decide +kernel) rfl, rfl, rfl, tyX0_ok, nmX0⟩
theorem flX0_37 : FL RX0 37 0 8 := ⟨RX0, TX0, 14, rfl, inX0, by decide, GL_of (i := 98) (by decide +kernel) rfl⟩
theorem flX4_136 : FL RX4 136 0 8 := ⟨RX0, TX0, 14, rfl, inX0, by decide, GL_of (i := 99) (by decide +kernel) rfl⟩
theorem flX0_40 : FL RX0 40 0 9 := ⟨RX0, TX0, 14, rfl, inX0, by decide, GL_of (i := 100) (by decide +kernel) rfl⟩
theorem flX4_139 : FL RX4 139 0 9 := ⟨RX0, TX0, 14, rfl, inX0, by decide, GL_of (i := 101) (by decide +kernel) rfl⟩
theorem flX0_43 : FL RX0 43 0 10 := ⟨RX0, TX0, 14, rfl, inX0, by decide, GL_of (i := 102) (by decide +kernel) rfl⟩
theorem flX1_100 : FL RX1 100 0 10 := ⟨RX0, TX0, 14, rfl, inX0, by decide, GL_of (i := 103) (by decide +kernel) rfl⟩
theorem flX4_142 : FL RX4 142 0 10 := ⟨RX0, TX0, 14, rfl, inX0, by decide, GL_of (i := 104) (by decide +kernel) rfl⟩
theorem flX0_46 : FL RX0 46 0 11 := ⟨RX0, TX0, 14, rfl, inX0, by decide, GL_of (i := 105) (by decide +kernel) rfl⟩
theorem flX1_105 : FL RX1 105 0 11 := ⟨RX0, TX0, 14, rfl, inX0, by decide, GL_of (i := 106) (by decide +kernel) rfl⟩
theorem flX4_145 : FL RX4 145 0 11 := ⟨RX0, TX0, 14, rfl, inX0, by decide, GL_of (i := 107) (by decide +kernel) rfl⟩
theorem flX0_49 : FL RX0 49 0 12 := ⟨RX0, TX0, 14, rfl, inX0, by decide, GL_of (i := 108) (by decide +kernel) rfl⟩
theorem flX0_52 : FL RX0 52 0 13 := ⟨RX0, TX0, 14, rfl, inX0, by decide, GL_of (i := 109) (by decide +kernel) rfl⟩
theorem flX3_9 : FL RX3 9 3 0 := ⟨RX3, TX3, 6, rfl, inX3, by decide, GL_of (i := 150) (by decide +kernel) rfl⟩
theorem flX3_15 : FL RX3 15 3 1 := ⟨RX3, TX3, 6, rfl, inX3, by decide, GL_of (i := 151) (by decide +kernel) rfl⟩
theorem fpX3_15 : FP RX3 15 3 1 .int := ⟨RX3, TX3, 6, tyX3, rfl, inX3, by decide, GL_of (i := 151) (by decide +kernel) rfl, rfl, rfl, tyX3_ok, nmX3⟩
theorem flX1_28 : FL RX1 28 3 1 := ⟨RX3, TX3, 6, rfl, inX3, by decide, GL_of (i := 152) (by decide +kernel) rfl⟩
theorem fpX1_28 : FP RX1 28 3 1 .int := ⟨RX3, TX3, 6, tyX3, rfl, inX3, by decide, GL_of (i := 152) (by decide +kernel) rfl, rfl, rfl, tyX3_ok, nmX3⟩
theorem flX4_173 : FL RX4 173 3 1 := ⟨RX3, TX3, 6, rfl, inX3, by decide, GL_of (i := 153) (by decide +kernel) rfl⟩
theorem fpX4_173 : FP RX4 173 3 1 .int := ⟨RX3, TX3, 6, tyX3, rfl, inX3, by decide, GL_of (i := 153) (by decide +kernel) rfl, rfl, rfl, tyX3_ok, nmX3⟩
theorem flX1_38 : FL RX1 38 3 2 := ⟨RX3, TX3, 6, rfl, inX3, by decide, GL_of (i := 154) (by decide +kernel) rfl⟩
theorem fpX1_38 : FP RX1 38 3 2 .int := ⟨RX3, TX3, 6, tyX3, rfl, inX3, by decide, GL_of (i := 154) (by decide +kernel) rfl, rfl, rfl, tyX3_ok, nmX3⟩
theorem flX3_22 : FL RX3 22 3 2 := ⟨RX3, TX3, 6, rfl, inX3, by decide, GL_of (i := 155) (by decide +kernel) rfl⟩
theorem fpX3_22 : FP RX3 22 3 2 .int := ⟨RX3, TX3, 6, tyX3, rfl, inX3, by decide, GL_of (i := 155) (by decide +kernel) rfl, rfl, rfl, tyX3_ok, nmX3⟩
theorem flX3_25 : FL RX3 25 3 3 := ⟨RX3, TX3, 6, rfl, inX3, by decide, GL_of (i := 156) (by decide +kernel) rfl⟩
theorem fpX3_25 : FP RX3 25 3 3 .int := ⟨RX3, TX3, 6, tyX3, rfl, inX3, by decide, GL_of (i := 156) (by decide +kernel) rfl, rfl, rfl, tyX3_ok, nmX3⟩
theorem flX4_186 : FL RX4 186 3 3 := ⟨RX3, TX3, 6, rfl, inX3, by decide, GL_of (i := 157) (by decide +kernel) rfl⟩
theorem fpX4_186 : FP RX4 186 3 3 .int := ⟨RX3, TX3, 6, tyX3, rfl, inX3, by decide, GL_of (i := 157) (by decide +kernel) rfl, rfl, rfl, tyX3_ok, nmX3⟩
theorem flX3_28 : FL RX3 28 3 4 := ⟨RX3, TX3, 6, rfl, inX3, by decide, GL_of (i := 158) (by decide +kernel) rfl⟩
theorem fpX3_28 : FP RX3 28 3 4 .int := ⟨RX3, TX3, 6, tyX3, rfl, inX3, by decide, GL_of (i := 158) (by decide +kernel) rfl, rfl, rfl, tyX3_ok, nmX3⟩
theorem flX3_31 : FL RX3 31 3 5 := ⟨RX3, TX3, 6, rfl, inX3, by decide, GL_of (i := 159) (by decide +kernel) rfl⟩
theorem fpX3_31 : FP RX3 31 3 5 .int := ⟨RX3, TX3, 6, tyX3, rfl, inX3, by decide, GL_of (i := 159) (by decide +kernel) rfl, rfl, rfl, tyX3_ok, nmX3⟩
theorem flX1_88 : FL RX1 88 3 5 := ⟨RX3, TX3, 6, rfl, inX3, by decide, GL_of (i := 160) (by decide +kernel) rfl⟩
theorem fpX1_88 : FP RX1 88 3 5 .int := ⟨RX3, TX3, 6, tyX3, rfl, inX3, by decide, GL_of (i := 160) (by decide +kernel) rfl, rfl, rfl, tyX3_ok, nmX3⟩
theorem flX1_9 : FL RX1 9 1 0 := ⟨RX1, TX1, 3, rfl, inX1, by decide, GL_of (i := 180) (by decide +kernel) rfl⟩
theorem flX1_15 : FL RX1 15 1 1 := ⟨RX1, TX1, 3, rfl, inX1, by decide, GL_of (i := 181) (by decide +kernel) rfl⟩
theorem flX1_19 : FL RX1 19 1 2 := ⟨RX1, TX1, 3, rfl, inX1, by decide, GL_of (i := 182) (by decide +kernel) rfl⟩
theorem fpX1_19 : FP RX1 19 1 2 .int := ⟨RX1, TX1, 3, tyX1, rfl, inX1, by decide, GL_of (i := 182) (by decide +kernel) rfl, rfl, rfl, tyX1_ok, nmX1⟩
theorem flX4_193 : FL RX4 193 1 2 := ⟨RX1, TX1, 3, rfl, inX1, by decide, GL_of (i := 183) (by decide +kernel) rfl⟩
theorem fpX4_193 : FP RX4 193 1 2 .int := ⟨RX1, TX1, 3, tyX1, rfl, inX1, by decide, GL_of (i := 183) (by decide +kernel) rfl, rfl, rfl, tyX1_ok, nmX1⟩
theorem flX2_9 : FL RX2 9 2 0 := ⟨RX2, TX2, 3, rfl, inX2, by decide, GL_of (i := 198) (by decide +kernel) rfl⟩
theorem flX4_207 : FL RX4 207 2 0 := ⟨RX2, TX2, 3, rfl, inX2, by decide, GL_of (i := 199) (by decide +kernel) rfl⟩
theorem flX2_15 : FL RX2 15 2 1 := ⟨RX2, TX2, 3, rfl, inX2, by decide, GL_of (i := 200) (by decide +kernel) rfl⟩
theorem fpX2_15 : FP RX2 15 2 1 .int := ⟨RX2, TX2, 3, tyX2, rfl, inX2, by decide, GL_of (i := 200) (by decide +kernel) rfl, rfl, rfl, tyX2_ok, nmX2⟩
theorem flX4_218 : FL RX4 218 2 1 := ⟨RX2, TX2, 3, rfl, inX2, by decide, GL_of (i := 201) (by decide +kernel) rfl⟩
theorem fpX4_218 : FP RX4 218 2 1 .int := ⟨RX2, TX2, 3, tyX2, rfl, inX2, by decide, GL_of (i := 201) (by decide +kernel) rfl, rfl, rfl, tyX2_ok, nmX2⟩
theorem flX2_19 : FL RX2 19 2 2 := ⟨RX2, TX2, 3, rfl, inX2, by decide, GL_of (i := 202) (by decide +kernel) rfl⟩
theorem fpX2_19 : FP RX2 19 2 2 .int := ⟨RX2, TX2, 3, tyX2, rfl, inX2, by decide, GL_of (i := 202) (by decide +kernel) rfl, rfl, rfl, tyX2_ok, nmX2⟩
theorem flX4_203 : FL RX4 203 2 2 := ⟨RX2, TX2, 3, rfl, inX2, by decide, GL_of (i := 203) (by decide +kernel) rfl⟩
theorem fpX4_203 : FP RX4 203 2 2 .int := ⟨RX2, TX2, 3, tyX2, rfl, inX2, by decide, GL_of (i := 203) (by decide +kernel) rfl, rfl, rfl, tyX2_ok, nmX2⟩
theorem flX4_10 : FL RX4 10 4 0 := ⟨RX4, TX4, 8, rfl, inX4, by decide, GL_of (i := 212) (by decide +kernel) rfl⟩
theorem flX4_16 : FL RX4 16 4 1 := ⟨RX4, TX4, 8, rfl, inX4, by decide, GL_of (i := 213) (by decide +kernel) rfl⟩
theorem flX4_19 : FL RX4 19 4 2 := ⟨RX4, TX4, 8, rfl, inX4, by decide, GL_of (i := 214) (by decide +kernel) rfl⟩
theorem flX4_22 : FL RX4 22 4 3 := ⟨RX4, TX4, 8, rfl, inX4, by decide, GL_of (i := 215) (by decide +kernel) rfl⟩
theorem fpX4_22 : FP RX4 22 4 3 .boolean := ⟨RX4, TX4, 8, tyX4, rfl, inX4, by decide, GL_of (i := 215) (by decide +kernel) rfl, rfl, rfl, tyX4_ok, nmX4⟩
theorem flX4_29 : FL RX4 29 4 4 := ⟨RX4, TX4, 8, rfl, inX4, by decide, GL_of (i := 216) (by decide +kernel) rfl⟩
theorem flX4_38 : FL RX4 38 4 5 := ⟨RX4, TX4, 8, rfl, inX4, by decide, GL_of (i := 217) (by decide +kernel) rfl⟩
theorem flX4_44 : FL RX4 44 4 6 := ⟨RX4, TX4, 8, rfl, inX4, by decide, GL_of (i := 218) (by decide +kernel) rfl⟩
theorem flX4_49 : FL RX4 49 4 7 := ⟨RX4, TX4, 8, rfl, inX4, by decide, GL_of (i := 219) (by decide +kernel) rfl⟩
theorem flX5_7 : FL RX5 7 5 0 := ⟨RX5, TX5, 19, rfl, inX5, by decide, GL_of (i := 693) (by decide +kernel) rfl⟩
theorem flX5_13 : FL RX5 13 5 1 := ⟨RX5, TX5, 19, rfl, inX5, by decide, GL_of (i := 694) (by decide +kernel) rfl⟩
theorem flX5_16 : FL RX5 16 5 2 := ⟨RX5, TX5, 19, rfl, inX5, by decide, GL_of (i := 695) (by decide +kernel) rfl⟩
theorem flX5_19 : FL RX5 19 5 3 := ⟨RX5, TX5, 19, rfl, inX5, by decide, GL_of (i := 696) (by decide +kernel) rfl⟩
theorem flX5_22 : FL RX5 22 5 4 := ⟨RX5, TX5, 19, rfl, inX5, by decide, GL_of (i := 697) (by decide +kernel) rfl⟩
theorem flX5_167 : FL RX5 167 5 5 := ⟨RX5, TX5, 19, rfl, inX5, by decide, GL_of (i := 698) (by decide +kernel) rfl⟩
theorem fpX5_167 : FP RX5 167 5 5 .int := ⟨RX5, TX5, 19, tyX5, rfl, inX5, by decide, GL_of (i := 698) (by decide +kernel) rfl, rfl, rfl, tyX5_ok, nmX5⟩
theorem flX5_186 : FL RX5 186 5 6 := ⟨RX5, TX5, 19, rfl, inX5, by decide, GL_of (i := 699) (by decide +kernel) rfl⟩
theorem fpX5_186 : FP RX5 186 5 6 .int := ⟨RX5, TX5, 19, tyX5, rfl, inX5, by decide, GL_of (i := 699) (by decide +kernel) rfl, rfl, rfl, tyX5_ok, nmX5⟩
theorem flX5_174 : FL RX5 174 5 7 := ⟨RX5, TX5, 19, rfl, inX5, by decide, GL_of (i := 700) (by decide +kernel) rfl⟩
theorem fpX5_174 : FP RX5 174 5 7 .int := ⟨RX5, TX5, 19, tyX5, rfl, inX5, by decide, GL_of (i := 700) (by decide +kernel) rfl, rfl, rfl, tyX5_ok, nmX5⟩
theorem flX5_171 : FL RX5 171 5 8 := ⟨RX5, TX5, 19, rfl, inX5, by decide, GL_of (i := 701) (by decide +kernel) rfl⟩
theorem fpX5_171 : FP RX5 171 5 8 .int := ⟨RX5, TX5, 19, tyX5, rfl, inX5, by decide, GL_of (i := 701) (by decide +kernel) rfl, rfl, rfl, tyX5_ok, nmX5⟩
theorem flX5_189 : FL RX5 189 5 9 := ⟨RX5, TX5, 19, rfl, inX5, by decide, GL_of (i := 702) (by decide +kernel) rfl⟩
theorem fpX5_189 : FP RX5 189 5 9 .long := ⟨RX5, TX5, 19, tyX5, rfl, inX5, by decide, GL_of (i := 702) (by decide +kernel) rfl, rfl, rfl, tyX5_ok, nmX5⟩
theorem flX5_193 : FL RX5 193 5 10 := ⟨RX5, TX5, 19, rfl, inX5, by decide, GL_of (i := 703) (by decide +kernel) rfl⟩
theorem fpX5_193 : FP RX5 193 5 10 .int := ⟨RX5, TX5, 19, tyX5, rfl, inX5, by decide, GL_of (i := 703) (by decide +kernel) rfl, rfl, rfl, tyX5_ok, nmX5⟩
theorem flX5_224 : FL RX5 224 5 11 := ⟨RX5, TX5, 19, rfl, inX5, by decide, GL_of (i := 704) (by decide +kernel) rfl⟩
theorem fpX5_224 : FP RX5 224 5 11 .boolean := ⟨RX5, TX5, 19, tyX5, rfl, inX5, by decide, GL_of (i := 704) (by decide +kernel) rfl, rfl, rfl, tyX5_ok, nmX5⟩
theorem flX5_25 : FL RX5 25 5 12 := ⟨RX5, TX5, 19, rfl, inX5, by decide, GL_of (i := 705) (by decide +kernel) rfl⟩
theorem flX5_28 : FL RX5 28 5 13 := ⟨RX5, TX5, 19, rfl, inX5, by decide, GL_of (i := 706) (by decide +kernel) rfl⟩
theorem flX5_31 : FL RX5 31 5 14 := ⟨RX5, TX5, 19, rfl, inX5, by decide, GL_of (i := 707) (by decide +kernel) rfl⟩
theorem flX5_35 : FL RX5 35 5 15 := ⟨RX5, TX5, 19, rfl, inX5, by decide, GL_of (i := 708) (by decide +kernel) rfl⟩
theorem flX5_38 : FL RX5 38 5 16 := ⟨RX5, TX5, 19, rfl, inX5, by decide, GL_of (i := 709) (by decide +kernel) rfl⟩
theorem flX5_41 : FL RX5 41 5 17 := ⟨RX5, TX5, 19, rfl, inX5, by decide, GL_of (i := 710) (by decide +kernel) rfl⟩
theorem flX5_282 : FL RX5 282 5 18 := ⟨RX5, TX5, 19, rfl, inX5, by decide, GL_of (i := 711) (by decide +kernel) rfl⟩
theorem fpX5_282 : FP RX5 282 5 18 .boolean := ⟨RX5, TX5, 19, tyX5, rfl, inX5, by decide, GL_of (i := 711) (by decide +kernel) rfl, rfl, rfl, tyX5_ok, nmX5⟩
theorem lkX3_19 : LkV RX3 19 RX3 yX3_rewind cX3_rewind 1 0 none := ⟨GL_all [146, 147, 148, 52, 149] (by decide +kernel) (by decide +kernel), by decide +kernel⟩
theorem lkL_13 : LkV RL 13 RX4 yX4_heat cX4_heat 3 1 (some .int) := ⟨GL_all [237, 238, 239, 50, 240] (by decide +kernel) (by decide +kernel), by decide +kernel⟩
theorem lkX4_53 : LkS RX4 53 yX4_isWithin cX4_isWithin 3 3 (some .boolean) := ⟨GL_all [241, 242, 50, 243] (by decide +kernel) (by decide +kernel), by decide +kernel⟩
theorem lkX4_57 : LkV RX4 57 RX4 yX4_finding cX4_finding 2 1 (some .int) := ⟨GL_all [244, 246, 0, 50, 247] (by decide +kernel) (by decide +kernel), by decide +kernel⟩
theorem lkL_18 : LkV RL 18 RX4 yX4_now cX4_now 2 1 (some .int) := ⟨GL_all [249, 250, 251, 50, 252] (by decide +kernel) (by decide +kernel), by decide +kernel⟩
theorem lkX4_68 : LkV RX4 68 RX0 yX0_setHeldBy cX0_setHeldBy 4 1 (some .int) := ⟨GL_all [253, 254, 255, 51, 256] (by decide +kernel) (by decide +kernel), by decide +kernel⟩
theorem lkX4_71 : LkV RX4 71 RX0 yX0_setOfRight cX0_setOfRight 3 0 (some .int) := ⟨GL_all [257, 258, 259, 51, 260] (by decide +kernel) (by decide +kernel), by decide +kernel⟩
theorem lkX0_65 : LkV RX0 65 RX0 yX0_isRight cX0_isRight 2 1 (some .boolean) := ⟨GL_all [261, 262, 263, 51, 264] (by decide +kernel) (by decide +kernel), by decide +kernel⟩
theorem lkX4_75 : LkV RX4 75 RX0 yX0_setOfLiving cX0_setOfLiving 3 0 (some .int) := ⟨GL_all [265, 266, 267, 51, 268] (by decide +kernel) (by decide +kernel), by decide +kernel⟩
theorem lkX4_78 : LkV RX4 78 RX0 yX0_sumOfContents cX0_sumOfContents 3 0 (some .int) := ⟨GL_all [269, 270, 271, 51, 272] (by decide +kernel) (by decide +kernel), by decide +kernel⟩
theorem lkL_22 : LkV RL 22 RX4 yX4_person cX4_person 2 1 (some .int) := ⟨GL_all [273, 274, 275, 50, 276] (by decide +kernel) (by decide +kernel), by decide +kernel⟩
theorem lkX4_81 : LkS RX4 81 yX4_isKind cX4_isKind 1 1 (some .boolean) := ⟨GL_all [277, 278, 50, 279] (by decide +kernel) (by decide +kernel), by decide +kernel⟩
theorem lkX4_88 : LkV RX4 88 RX0 yX0_addPerson cX0_addPerson 3 1 (some .int) := ⟨GL_all [280, 281, 282, 51, 283] (by decide +kernel) (by decide +kernel), by decide +kernel⟩
theorem lkL_26 : LkV RL 26 RX4 yX4_of cX4_of 3 2 (some .int) := ⟨GL_all [284, 285, 286, 50, 287] (by decide +kernel) (by decide +kernel), by decide +kernel⟩
theorem lkX4_91 : LkV RX4 91 RX0 yX0_hasPerson cX0_hasPerson 2 1 (some .boolean) := ⟨GL_all [288, 289, 290, 51, 291] (by decide +kernel) (by decide +kernel), by decide +kernel⟩
theorem lkX4_106 : LkV RX4 106 RX0 yX0_tally cX0_tally 2 0 none := ⟨GL_all [293, 294, 295, 51, 296] (by decide +kernel) (by decide +kernel), by decide +kernel⟩
theorem lkX0_79 : LkV RX0 79 RX0 yX0_tallyOne cX0_tallyOne 3 1 none := ⟨GL_all [297, 298, 299, 51, 300] (by decide +kernel) (by decide +kernel), by decide +kernel⟩
theorem lkX4_109 : LkV RX4 109 RX0 yX0_minds cX0_minds 4 1 (some .int) := ⟨GL_all [301, 302, 303, 51, 304] (by decide +kernel) (by decide +kernel), by decide +kernel⟩
theorem lkL_31 : LkV RL 31 RX4 yX4_set cX4_set 4 3 (some .int) := ⟨GL_all [305, 306, 307, 50, 308] (by decide +kernel) (by decide +kernel), by decide +kernel⟩
theorem lkX4_112 : LkV RX4 112 RX4 yX4_putChecked cX4_putChecked 7 5 (some .int) := ⟨GL_all [309, 311, 1, 50, 312] (by decide +kernel) (by decide +kernel), by decide +kernel⟩
theorem lkL_36 : LkV RL 36 RX4 yX4_would cX4_would 5 3 (some .int) := ⟨GL_all [313, 314, 315, 50, 316] (by decide +kernel) (by decide +kernel), by decide +kernel⟩
theorem lkX4_116 : LkV RX4 116 RX0 yX0_hasGarment cX0_hasGarment 2 1 (some .boolean) := ⟨GL_all [317, 318, 319, 51, 320] (by decide +kernel) (by decide +kernel), by decide +kernel⟩
theorem lkX4_119 : LkV RX4 119 RX0 yX0_givesBack cX0_givesBack 3 2 (some .boolean) := ⟨GL_all [321, 322, 323, 51, 324] (by decide +kernel) (by decide +kernel), by decide +kernel⟩
theorem lkX4_123 : LkV RX4 123 RX0 yX0_claims cX0_claims 5 2 (some .boolean) := ⟨GL_all [325, 326, 327, 51, 328] (by decide +kernel) (by decide +kernel), by decide +kernel⟩
theorem lkL_40 : LkV RL 40 RX4 yX4_turn cX4_turn 3 2 (some .int) := ⟨GL_all [329, 330, 331, 50, 332] (by decide +kernel) (by decide +kernel), by decide +kernel⟩
theorem lkL_44 : LkV RL 44 RX4 yX4_as cX4_as 3 2 (some .int) := ⟨GL_all [333, 334, 335, 50, 336] (by decide +kernel) (by decide +kernel), by decide +kernel⟩
theorem lkX4_126 : LkS RX4 126 yX4_isUnder cX4_isUnder 2 2 (some .boolean) := ⟨GL_all [337, 338, 50, 339] (by decide +kernel) (by decide +kernel), by decide +kernel⟩
theorem lkX4_240 : LkS RX4 240 yX4_kindAbove cX4_kindAbove 1 1 (some .int) := ⟨GL_all [340, 341, 50, 342] (by decide +kernel) (by decide +kernel), by decide +kernel⟩
theorem lkL_48 : LkV RL 48 RX4 yX4_garment cX4_garment 3 2 (some .int) := ⟨GL_all [343, 344, 345, 50, 346] (by decide +kernel) (by decide +kernel), by decide +kernel⟩
theorem lkX4_132 : LkV RX4 132 RX0 yX0_addGarment cX0_addGarment 4 2 (some .int) := ⟨GL_all [347, 348, 349, 51, 350] (by decide +kernel) (by decide +kernel), by decide +kernel⟩
theorem lkL_52 : LkV RL 52 RX4 yX4_garmentOf cX4_garmentOf 3 2 (some .int) := ⟨GL_all [351, 352, 353, 50, 354] (by decide +kernel) (by decide +kernel), by decide +kernel⟩
theorem lkX4_148 : LkV RX4 148 RX0 yX0_readsFor cX0_readsFor 3 1 (some .int) := ⟨GL_all [355, 356, 357, 51, 358] (by decide +kernel) (by decide +kernel), by decide +kernel⟩
theorem lkX0_75 : LkV RX0 75 RX0 yX0_leastOfBand cX0_leastOfBand 3 1 (some .int) := ⟨GL_all [359, 360, 361, 51, 362] (by decide +kernel) (by decide +kernel), by decide +kernel⟩
theorem lkX4_151 : LkV RX4 151 RX0 yX0_fades cX0_fades 2 1 (some .int) := ⟨GL_all [363, 364, 365, 51, 366] (by decide +kernel) (by decide +kernel), by decide +kernel⟩
theorem lkX0_69 : LkS RX0 69 yJ9_max_7cf53 cJ9_max_7cf53 2 2 (some .int) := ⟨GL_all [367, 368, 56, 369] (by decide +kernel) (by decide +kernel), by decide +kernel⟩
theorem lkL_56 : LkV RL 56 RX4 yX4_sew cX4_sew 4 3 (some .int) := ⟨GL_all [370, 371, 372, 50, 373] (by decide +kernel) (by decide +kernel), by decide +kernel⟩
theorem lkL_60 : LkV RL 60 RX4 yX4_weeks cX4_weeks 2 1 (some .int) := ⟨GL_all [374, 375, 376, 50, 377] (by decide +kernel) (by decide +kernel), by decide +kernel⟩
theorem lkX4_155 : LkV RX4 155 RX0 yX0_goWeeks cX0_goWeeks 3 1 none := ⟨GL_all [379, 380, 381, 51, 382] (by decide +kernel) (by decide +kernel), by decide +kernel⟩
theorem lkX0_83 : LkV RX0 83 RX0 yX0_bringWash cX0_bringWash 3 0 none := ⟨GL_all [383, 384, 385, 51, 386] (by decide +kernel) (by decide +kernel), by decide +kernel⟩
theorem lkX0_98 : LkV RX0 98 RX0 yX0_fades cX0_fades 2 1 (some .int) := ⟨GL_all [387, 364, 365, 51, 366] (by decide +kernel) (by decide +kernel), by decide +kernel⟩
theorem lkX0_101 : LkV RX0 101 RX0 yX0_givesBack cX0_givesBack 3 2 (some .boolean) := ⟨GL_all [388, 322, 323, 51, 324] (by decide +kernel) (by decide +kernel), by decide +kernel⟩
theorem lkX0_105 : LkV RX0 105 RX0 yX0_readsFor cX0_readsFor 3 1 (some .int) := ⟨GL_all [389, 356, 357, 51, 358] (by decide +kernel) (by decide +kernel), by decide +kernel⟩
theorem lkX0_86 : LkV RX0 86 RX0 yX0_tally cX0_tally 2 0 none := ⟨GL_all [390, 294, 295, 51, 296] (by decide +kernel) (by decide +kernel), by decide +kernel⟩
theorem lkX0_89 : LkV RX0 89 RX0 yX0_layTable cX0_layTable 2 0 none := ⟨GL_all [391, 392, 393, 51, 394] (by decide +kernel) (by decide +kernel), by decide +kernel⟩
theorem lkX0_108 : LkV RX0 108 RX0 yX0_leastClaimant cX0_leastClaimant 3 1 (some .int) := ⟨GL_all [395, 396, 397, 51, 398] (by decide +kernel) (by decide +kernel), by decide +kernel⟩
theorem lkX0_111 : LkV RX0 111 RX0 yX0_claims cX0_claims 5 2 (some .boolean) := ⟨GL_all [399, 326, 327, 51, 328] (by decide +kernel) (by decide +kernel), by decide +kernel⟩
theorem lkX0_92 : LkV RX0 92 RX0 yX0_addContents cX0_addContents 3 0 none := ⟨GL_all [400, 401, 402, 51, 403] (by decide +kernel) (by decide +kernel), by decide +kernel⟩
theorem lkX0_114 : LkV RX0 114 RX0 yX0_minds cX0_minds 4 1 (some .int) := ⟨GL_all [404, 302, 303, 51, 304] (by decide +kernel) (by decide +kernel), by decide +kernel⟩
theorem lkX0_117 : LkS RX0 117 yJ9_min_7cf53 cJ9_min_7cf53 2 2 (some .int) := ⟨GL_all [405, 406, 56, 407] (by decide +kernel) (by decide +kernel), by decide +kernel⟩
theorem lkL_64 : LkV RL 64 RX4 yX4_on cX4_on 4 3 (some .int) := ⟨GL_all [408, 409, 410, 50, 411] (by decide +kernel) (by decide +kernel), by decide +kernel⟩
theorem lkX4_159 : LkV RX4 159 RX4 yX4_startTrial cX4_startTrial 1 0 none := ⟨GL_all [412, 414, 2, 50, 415] (by decide +kernel) (by decide +kernel), by decide +kernel⟩
theorem lkX4_189 : LkV RX4 189 RX0 yX0_become cX0_become 2 1 none := ⟨GL_all [416, 417, 418, 51, 419] (by decide +kernel) (by decide +kernel), by decide +kernel⟩
theorem lkL_68 : LkV RL 68 RX4 yX4_then cX4_then 3 2 (some .int) := ⟨GL_all [423, 424, 425, 50, 426] (by decide +kernel) (by decide +kernel), by decide +kernel⟩
theorem lkL_72 : LkV RL 72 RX4 yX4_lost cX4_lost 3 1 (some .int) := ⟨GL_all [427, 428, 429, 50, 430] (by decide +kernel) (by decide +kernel), by decide +kernel⟩
theorem lkX4_162 : LkV RX4 162 RX0 yX0_isRight cX0_isRight 2 1 (some .boolean) := ⟨GL_all [431, 262, 263, 51, 264] (by decide +kernel) (by decide +kernel), by decide +kernel⟩
theorem lkL_76 : LkV RL 76 RX4 yX4_comes cX4_comes 4 2 (some .int) := ⟨GL_all [432, 433, 434, 50, 435] (by decide +kernel) (by decide +kernel), by decide +kernel⟩
theorem lkL_80 : LkV RL 80 RX4 yX4_mark cX4_mark 7 2 (some .int) := ⟨GL_all [436, 437, 438, 50, 439] (by decide +kernel) (by decide +kernel), by decide +kernel⟩
theorem lkX4_165 : LkV RX4 165 RX0 yX0_countRightWeeks cX0_countRightWeeks 5 2 (some .int) := ⟨GL_all [440, 441, 442, 51, 443] (by decide +kernel) (by decide +kernel), by decide +kernel⟩
theorem lkX0_95 : LkV RX0 95 RX0 yX0_goWeeks cX0_goWeeks 3 1 none := ⟨GL_all [444, 380, 381, 51, 382] (by decide +kernel) (by decide +kernel), by decide +kernel⟩
theorem lkL_84 : LkV RL 84 RX4 yX4_kind cX4_kind 7 2 (some .int) := ⟨GL_all [445, 446, 447, 50, 448] (by decide +kernel) (by decide +kernel), by decide +kernel⟩
theorem lkX4_168 : LkS RX4 168 yJ6_bitCount_0f7a4 cJ6_bitCount_0f7a4 1 1 (some .int) := ⟨GL_all [449, 450, 58, 451] (by decide +kernel) (by decide +kernel), by decide +kernel⟩
theorem lkL_88 : LkV RL 88 RX4 yX4_warmest cX4_warmest 4 2 (some .int) := ⟨GL_all [455, 456, 457, 50, 458] (by decide +kernel) (by decide +kernel), by decide +kernel⟩
theorem lkL_92 : LkV RL 92 RX4 yX4_plain cX4_plain 4 2 (some .int) := ⟨GL_all [459, 460, 461, 50, 462] (by decide +kernel) (by decide +kernel), by decide +kernel⟩
theorem lkL_96 : LkV RL 96 RX4 yX4_teach cX4_teach 6 1 (some .int) := ⟨GL_all [463, 464, 465, 50, 466] (by decide +kernel) (by decide +kernel), by decide +kernel⟩
theorem lkL_100 : LkV RL 100 RX4 yX4_best cX4_best 4 1 (some .int) := ⟨GL_all [467, 468, 469, 50, 470] (by decide +kernel) (by decide +kernel), by decide +kernel⟩
theorem lkL_104 : LkV RL 104 RX4 yX4_feed cX4_feed 4 2 (some .int) := ⟨GL_all [471, 472, 473, 50, 474] (by decide +kernel) (by decide +kernel), by decide +kernel⟩
theorem lkX4_176 : LkV RX4 176 RX3 yX3_append cX3_append 2 1 none := ⟨GL_all [475, 476, 477, 52, 478] (by decide +kernel) (by decide +kernel), by decide +kernel⟩
theorem lkL_108 : LkV RL 108 RX4 yX4_wipe cX4_wipe 2 0 (some .int) := ⟨GL_all [479, 480, 481, 50, 482] (by decide +kernel) (by decide +kernel), by decide +kernel⟩
theorem lkX4_179 : LkV RX4 179 RX3 yX3_clear cX3_clear 1 0 none := ⟨GL_all [483, 484, 485, 52, 486] (by decide +kernel) (by decide +kernel), by decide +kernel⟩
theorem lkL_113 : LkV RL 113 RX4 yX4_home cX4_home 3 0 (some .int) := ⟨GL_all [487, 488, 489, 50, 490] (by decide +kernel) (by decide +kernel), by decide +kernel⟩
theorem lkX4_182 : LkV RX4 182 RX1 yX1_takeItems cX1_takeItems 2 0 (some .boolean) := ⟨GL_all [491, 492, 493, 53, 494] (by decide +kernel) (by decide +kernel), by decide +kernel⟩
theorem lkX1_23 : LkV RX1 23 RX3 yX3_rewind cX3_rewind 1 0 none := ⟨GL_all [495, 147, 148, 52, 149] (by decide +kernel) (by decide +kernel), by decide +kernel⟩
theorem lkX1_31 : LkV RX1 31 RX3 yX3_step cX3_step 2 0 none := ⟨GL_all [496, 497, 498, 52, 499] (by decide +kernel) (by decide +kernel), by decide +kernel⟩
theorem lkX3_34 : LkS RX3 34 yX3_tokenOf cX3_tokenOf 1 1 (some .int) := ⟨GL_all [500, 501, 52, 502] (by decide +kernel) (by decide +kernel), by decide +kernel⟩
theorem lkX3_38 : LkS RX3 38 yJ9_min_7cf53 cJ9_min_7cf53 2 2 (some .int) := ⟨GL_all [503, 406, 56, 407] (by decide +kernel) (by decide +kernel), by decide +kernel⟩
theorem lkX1_34 : LkV RX1 34 RX1 yX1_takeItem cX1_takeItem 3 0 (some .boolean) := ⟨GL_all [504, 505, 506, 53, 507] (by decide +kernel) (by decide +kernel), by decide +kernel⟩
theorem lkX1_41 : LkV RX1 41 RX1 yX1_kindAtTape cX1_kindAtTape 1 0 (some .int) := ⟨GL_all [508, 509, 510, 53, 511] (by decide +kernel) (by decide +kernel), by decide +kernel⟩
theorem lkX1_57 : LkV RX1 57 RX3 yX3_isAtWord cX3_isAtWord 3 1 (some .boolean) := ⟨GL_all [513, 514, 515, 52, 516] (by decide +kernel) (by decide +kernel), by decide +kernel⟩
theorem lkX3_44 : LkV RX3 44 RJ0 yJ0_length_8abf5 cJ0_length_8abf5 1 0 (some .int) := ⟨GL_all [517, 518, 519, 59, 520] (by decide +kernel) (by decide +kernel), by decide +kernel⟩
theorem lkX3_49 : LkV RX3 49 RJ0 yJ0_charAt_5068e cJ0_charAt_5068e 2 1 (some .char) := ⟨GL_all [527, 528, 529, 59, 530] (by decide +kernel) (by decide +kernel), by decide +kernel⟩
theorem lkX1_45 : LkV RX1 45 RX1 yX1_takePerson cX1_takePerson 3 1 (some .boolean) := ⟨GL_all [570, 571, 572, 53, 573] (by decide +kernel) (by decide +kernel), by decide +kernel⟩
theorem lkX1_74 : LkV RX1 74 RX0 yX0_addPerson cX0_addPerson 3 1 (some .int) := ⟨GL_all [574, 281, 282, 51, 283] (by decide +kernel) (by decide +kernel), by decide +kernel⟩
theorem lkX1_80 : LkV RX1 80 RX1 yX1_takeNumber cX1_takeNumber 3 2 (some .boolean) := ⟨GL_all [576, 577, 578, 53, 579] (by decide +kernel) (by decide +kernel), by decide +kernel⟩
theorem lkX1_114 : LkV RX1 114 RX3 yX3_isAtNumber cX3_isAtNumber 3 2 (some .boolean) := ⟨GL_all [580, 581, 582, 52, 583] (by decide +kernel) (by decide +kernel), by decide +kernel⟩
theorem lkX1_49 : LkV RX1 49 RX1 yX1_markAtTape cX1_markAtTape 1 0 (some .int) := ⟨GL_all [585, 586, 587, 53, 588] (by decide +kernel) (by decide +kernel), by decide +kernel⟩
theorem lkX1_52 : LkV RX1 52 RX1 yX1_takeGarment cX1_takeGarment 3 1 (some .boolean) := ⟨GL_all [592, 593, 594, 53, 595] (by decide +kernel) (by decide +kernel), by decide +kernel⟩
theorem lkX1_94 : LkV RX1 94 RX0 yX0_addGarment cX0_addGarment 4 2 (some .int) := ⟨GL_all [596, 348, 349, 51, 350] (by decide +kernel) (by decide +kernel), by decide +kernel⟩
theorem lkX1_61 : LkV RX1 61 RX1 yX1_takeHeat cX1_takeHeat 1 0 (some .boolean) := ⟨GL_all [600, 601, 602, 53, 603] (by decide +kernel) (by decide +kernel), by decide +kernel⟩
theorem lkX1_66 : LkV RX1 66 RX1 yX1_takeDeath cX1_takeDeath 1 0 (some .boolean) := ⟨GL_all [605, 606, 607, 53, 608] (by decide +kernel) (by decide +kernel), by decide +kernel⟩
theorem lkL_117 : LkV RL 117 RX4 yX4_sheet cX4_sheet 4 3 (some .int) := ⟨GL_all [610, 611, 612, 50, 613] (by decide +kernel) (by decide +kernel), by decide +kernel⟩
theorem lkX4_196 : LkS RX4 196 yX4_isSheet cX4_isSheet 1 1 (some .boolean) := ⟨GL_all [614, 615, 50, 616] (by decide +kernel) (by decide +kernel), by decide +kernel⟩
theorem lkX4_199 : LkV RX4 199 RX2 yX2_begin cX2_begin 4 2 none := ⟨GL_all [617, 618, 619, 54, 620] (by decide +kernel) (by decide +kernel), by decide +kernel⟩
theorem lkL_123 : LkV RL 123 RX4 yX4_write cX4_write 8 3 (some .long) := ⟨GL_all [621, 622, 623, 50, 624] (by decide +kernel) (by decide +kernel), by decide +kernel⟩
theorem lkX4_204 : LkV RX4 204 RX4 yX4_findingOfSheet cX4_findingOfSheet 2 1 (some .int) := ⟨GL_all [625, 627, 3, 50, 628] (by decide +kernel) (by decide +kernel), by decide +kernel⟩
theorem lkX4_215 : LkV RX4 215 RX2 yX2_isMissing cX2_isMissing 1 0 (some .boolean) := ⟨GL_all [629, 630, 631, 54, 632] (by decide +kernel) (by decide +kernel), by decide +kernel⟩
theorem lkX4_211 : LkV RX4 211 RX2 yX2_put cX2_put 4 2 none := ⟨GL_all [633, 634, 635, 54, 636] (by decide +kernel) (by decide +kernel), by decide +kernel⟩
theorem lkL_128 : LkV RL 128 RX4 yX4_copy cX4_copy 8 5 (some .int) := ⟨GL_all [637, 638, 639, 50, 640] (by decide +kernel) (by decide +kernel), by decide +kernel⟩
theorem lkX4_221 : LkV RX4 221 RX2 yX2_hasRun cX2_hasRun 3 2 (some .boolean) := ⟨GL_all [641, 642, 643, 54, 644] (by decide +kernel) (by decide +kernel), by decide +kernel⟩
theorem lkL_133 : LkV RL 133 RX4 yX4_lays cX4_lays 7 1 (some .int) := ⟨GL_all [646, 647, 648, 50, 649] (by decide +kernel) (by decide +kernel), by decide +kernel⟩
theorem lkL_137 : LkV RL 137 RX4 yX4_book cX4_book 5 2 (some .int) := ⟨GL_all [651, 652, 653, 50, 654] (by decide +kernel) (by decide +kernel), by decide +kernel⟩
theorem lkL_141 : LkV RL 141 RX4 yX4_read cX4_read 7 2 (some .int) := ⟨GL_all [655, 656, 657, 50, 658] (by decide +kernel) (by decide +kernel), by decide +kernel⟩
theorem lkX4_232 : LkV RX4 232 RX4 yX4_goesAsBooked cX4_goesAsBooked 4 2 (some .boolean) := ⟨GL_all [659, 661, 4, 50, 662] (by decide +kernel) (by decide +kernel), by decide +kernel⟩
theorem lkL_145 : LkV RL 145 RX4 yX4_image cX4_image 1 0 (some .int) := ⟨GL_all [663, 664, 665, 50, 666] (by decide +kernel) (by decide +kernel), by decide +kernel⟩
theorem lkL_149 : LkV RL 149 RX4 yX4_undo cX4_undo 1 0 (some .int) := ⟨GL_all [667, 668, 669, 50, 670] (by decide +kernel) (by decide +kernel), by decide +kernel⟩
theorem lkL_153 : LkV RL 153 RX4 yX4_tear cX4_tear 2 0 (some .int) := ⟨GL_all [671, 672, 673, 50, 674] (by decide +kernel) (by decide +kernel), by decide +kernel⟩
theorem lkL_157 : LkV RL 157 RX4 yX4_count cX4_count 2 1 (some .int) := ⟨GL_all [675, 676, 677, 50, 678] (by decide +kernel) (by decide +kernel), by decide +kernel⟩
theorem lkX4_236 : LkV RX4 236 RX0 yX0_sumOfNames cX0_sumOfNames 3 0 (some .int) := ⟨GL_all [679, 680, 681, 51, 682] (by decide +kernel) (by decide +kernel), by decide +kernel⟩
theorem lkL_161 : LkV RL 161 RX4 yX4_status cX4_status 4 1 (some .int) := ⟨GL_all [683, 684, 685, 50, 686] (by decide +kernel) (by decide +kernel), by decide +kernel⟩
theorem lkL_17 : LkV RL 17 RX5 yX5_heat cX5_heat 2 1 (some .int) := ⟨GL_all [751, 752, 753, 55, 754] (by decide +kernel) (by decide +kernel), by decide +kernel⟩
theorem lkX5_45 : LkS RX5 45 yX5_in cX5_in 3 3 (some .boolean) := ⟨GL_all [755, 756, 55, 757] (by decide +kernel) (by decide +kernel), by decide +kernel⟩
theorem lkX5_70 : LkV RX5 70 RX5 yX5_becomes cX5_becomes 4 2 (some .int) := ⟨GL_all [758, 760, 5, 55, 761] (by decide +kernel) (by decide +kernel), by decide +kernel⟩
theorem lkX5_73 : LkV RX5 73 RX5 yX5_finds cX5_finds 2 1 (some .int) := ⟨GL_all [763, 765, 6, 55, 766] (by decide +kernel) (by decide +kernel), by decide +kernel⟩
theorem lkL_21 : LkV RL 21 RX5 yX5_now cX5_now 2 1 (some .int) := ⟨GL_all [767, 768, 769, 55, 770] (by decide +kernel) (by decide +kernel), by decide +kernel⟩
theorem lkX5_60 : LkV RX5 60 RX5 yX5_withWhom cX5_withWhom 4 1 (some .int) := ⟨GL_all [771, 773, 7, 55, 774] (by decide +kernel) (by decide +kernel), by decide +kernel⟩
theorem lkX5_49 : LkV RX5 49 RX5 yX5_worn cX5_worn 3 2 (some .int) := ⟨GL_all [775, 777, 8, 55, 778] (by decide +kernel) (by decide +kernel), by decide +kernel⟩
theorem lkX5_76 : LkV RX5 76 RX5 yX5_rights cX5_rights 3 0 (some .int) := ⟨GL_all [779, 781, 9, 55, 782] (by decide +kernel) (by decide +kernel), by decide +kernel⟩
theorem lkX5_53 : LkV RX5 53 RX5 yX5_isRight cX5_isRight 2 1 (some .boolean) := ⟨GL_all [783, 785, 10, 55, 786] (by decide +kernel) (by decide +kernel), by decide +kernel⟩
theorem lkX5_80 : LkV RX5 80 RX5 yX5_living cX5_living 3 0 (some .int) := ⟨GL_all [787, 789, 11, 55, 790] (by decide +kernel) (by decide +kernel), by decide +kernel⟩
theorem lkX5_57 : LkV RX5 57 RX5 yX5_its cX5_its 3 2 (some .int) := ⟨GL_all [791, 793, 12, 55, 794] (by decide +kernel) (by decide +kernel), by decide +kernel⟩
theorem lkX5_83 : LkV RX5 83 RX5 yX5_contentOfAll cX5_contentOfAll 3 0 (some .int) := ⟨GL_all [795, 797, 13, 55, 798] (by decide +kernel) (by decide +kernel), by decide +kernel⟩
theorem lkL_25 : LkV RL 25 RX5 yX5_person cX5_person 2 1 (some .int) := ⟨GL_all [799, 800, 801, 55, 802] (by decide +kernel) (by decide +kernel), by decide +kernel⟩
theorem lkX5_90 : LkS RX5 90 yX5_isKind cX5_isKind 1 1 (some .boolean) := ⟨GL_all [803, 804, 55, 805] (by decide +kernel) (by decide +kernel), by decide +kernel⟩
theorem lkX5_94 : LkV RX5 94 RX5 yX5_adds cX5_adds 4 2 none := ⟨GL_all [807, 809, 14, 55, 810] (by decide +kernel) (by decide +kernel), by decide +kernel⟩
theorem lkX5_86 : LkV RX5 86 RX5 yX5_puts cX5_puts 4 3 none := ⟨GL_all [811, 813, 15, 55, 814] (by decide +kernel) (by decide +kernel), by decide +kernel⟩
theorem lkL_30 : LkV RL 30 RX5 yX5_of cX5_of 3 2 (some .int) := ⟨GL_all [815, 816, 817, 55, 818] (by decide +kernel) (by decide +kernel), by decide +kernel⟩
theorem lkX5_98 : LkV RX5 98 RX5 yX5_isOne cX5_isOne 2 1 (some .boolean) := ⟨GL_all [819, 821, 16, 55, 822] (by decide +kernel) (by decide +kernel), by decide +kernel⟩
theorem lkX5_101 : LkV RX5 101 RX5 yX5_minds cX5_minds 5 1 (some .int) := ⟨GL_all [823, 825, 17, 55, 826] (by decide +kernel) (by decide +kernel), by decide +kernel⟩
theorem lkX5_64 : LkV RX5 64 RX5 yX5_ownedBy cX5_ownedBy 4 1 (some .int) := ⟨GL_all [827, 829, 18, 55, 830] (by decide +kernel) (by decide +kernel), by decide +kernel⟩
theorem lkX5_67 : LkS RX5 67 yX5_bits cX5_bits 3 1 (some .int) := ⟨GL_all [831, 832, 55, 833] (by decide +kernel) (by decide +kernel), by decide +kernel⟩
theorem lkL_35 : LkV RL 35 RX5 yX5_set cX5_set 4 3 (some .int) := ⟨GL_all [834, 835, 836, 55, 837] (by decide +kernel) (by decide +kernel), by decide +kernel⟩
theorem lkX5_104 : LkS RX5 104 yX5_isPart cX5_isPart 2 2 (some .boolean) := ⟨GL_all [838, 839, 55, 840] (by decide +kernel) (by decide +kernel), by decide +kernel⟩
theorem lkL_39 : LkV RL 39 RX5 yX5_would cX5_would 5 3 (some .int) := ⟨GL_all [841, 842, 843, 55, 844] (by decide +kernel) (by decide +kernel), by decide +kernel⟩
theorem lkX5_108 : LkV RX5 108 RX5 yX5_isGarment cX5_isGarment 2 1 (some .boolean) := ⟨GL_all [845, 847, 19, 55, 848] (by decide +kernel) (by decide +kernel), by decide +kernel⟩
theorem lkX5_111 : LkV RX5 111 RX5 yX5_isGiving cX5_isGiving 4 2 (some .boolean) := ⟨GL_all [849, 851, 20, 55, 852] (by decide +kernel) (by decide +kernel), by decide +kernel⟩
theorem lkX5_114 : LkV RX5 114 RX5 yX5_isClaiming cX5_isClaiming 5 2 (some .boolean) := ⟨GL_all [853, 855, 21, 55, 856] (by decide +kernel) (by decide +kernel), by decide +kernel⟩
theorem lkL_43 : LkV RL 43 RX5 yX5_turn cX5_turn 3 2 (some .int) := ⟨GL_all [857, 858, 859, 55, 860] (by decide +kernel) (by decide +kernel), by decide +kernel⟩
theorem lkL_47 : LkV RL 47 RX5 yX5_as cX5_as 5 2 (some .int) := ⟨GL_all [861, 862, 863, 55, 864] (by decide +kernel) (by decide +kernel), by decide +kernel⟩
theorem lkL_51 : LkV RL 51 RX5 yX5_garment cX5_garment 3 2 (some .int) := ⟨GL_all [866, 867, 868, 55, 869] (by decide +kernel) (by decide +kernel), by decide +kernel⟩
theorem lkX5_121 : LkV RX5 121 RX5 yX5_addsGarment cX5_addsGarment 6 4 none := ⟨GL_all [870, 872, 22, 55, 873] (by decide +kernel) (by decide +kernel), by decide +kernel⟩
theorem lkX5_118 : LkV RX5 118 RX5 yX5_sews cX5_sews 4 3 none := ⟨GL_all [874, 876, 23, 55, 877] (by decide +kernel) (by decide +kernel), by decide +kernel⟩
theorem lkL_55 : LkV RL 55 RX5 yX5_garmentOf cX5_garmentOf 3 2 (some .int) := ⟨GL_all [878, 879, 880, 55, 881] (by decide +kernel) (by decide +kernel), by decide +kernel⟩
theorem lkX5_125 : LkV RX5 125 RX5 yX5_reads cX5_reads 6 1 (some .int) := ⟨GL_all [882, 884, 24, 55, 885] (by decide +kernel) (by decide +kernel), by decide +kernel⟩
theorem lkX5_128 : LkV RX5 128 RX5 yX5_fades cX5_fades 3 1 (some .int) := ⟨GL_all [886, 888, 25, 55, 889] (by decide +kernel) (by decide +kernel), by decide +kernel⟩
theorem lkL_59 : LkV RL 59 RX5 yX5_sew cX5_sew 4 3 (some .int) := ⟨GL_all [890, 891, 892, 55, 893] (by decide +kernel) (by decide +kernel), by decide +kernel⟩
theorem lkX5_131 : LkV RX5 131 RX5 yX5_isSewing cX5_isSewing 3 2 (some .boolean) := ⟨GL_all [894, 896, 26, 55, 897] (by decide +kernel) (by decide +kernel), by decide +kernel⟩
theorem lkL_63 : LkV RL 63 RX5 yX5_weeks cX5_weeks 2 1 (some .int) := ⟨GL_all [898, 899, 900, 55, 901] (by decide +kernel) (by decide +kernel), by decide +kernel⟩
theorem lkX5_150 : LkV RX5 150 RX5 yX5_passes cX5_passes 3 1 none := ⟨GL_all [904, 906, 27, 55, 907] (by decide +kernel) (by decide +kernel), by decide +kernel⟩
theorem lkX5_145 : LkV RX5 145 RX5 yX5_oneWeek cX5_oneWeek 2 0 none := ⟨GL_all [908, 910, 28, 55, 911] (by decide +kernel) (by decide +kernel), by decide +kernel⟩
theorem lkX5_138 : LkV RX5 138 RX5 yX5_washes cX5_washes 3 1 none := ⟨GL_all [912, 914, 29, 55, 915] (by decide +kernel) (by decide +kernel), by decide +kernel⟩
theorem lkX5_134 : LkS RX5 134 yX5_held cX5_held 3 3 (some .int) := ⟨GL_all [916, 917, 55, 918] (by decide +kernel) (by decide +kernel), by decide +kernel⟩
theorem lkX5_142 : LkV RX5 142 RX5 yX5_lies cX5_lies 4 1 none := ⟨GL_all [919, 921, 30, 55, 922] (by decide +kernel) (by decide +kernel), by decide +kernel⟩
theorem lkL_67 : LkV RL 67 RX5 yX5_on cX5_on 4 3 (some .int) := ⟨GL_all [923, 924, 925, 55, 926] (by decide +kernel) (by decide +kernel), by decide +kernel⟩
theorem lkX5_153 : LkV RX5 153 RX5 yX5_moveAll cX5_moveAll 4 2 none := ⟨GL_all [927, 929, 31, 55, 930] (by decide +kernel) (by decide +kernel), by decide +kernel⟩
theorem lkX5_157 : LkV RX5 157 RX5 yX5_behind cX5_behind 4 2 (some .int) := ⟨GL_all [931, 933, 32, 55, 934] (by decide +kernel) (by decide +kernel), by decide +kernel⟩
theorem lkL_71 : LkV RL 71 RX5 yX5_then cX5_then 3 2 (some .int) := ⟨GL_all [935, 936, 937, 55, 938] (by decide +kernel) (by decide +kernel), by decide +kernel⟩
theorem lkL_75 : LkV RL 75 RX5 yX5_lost cX5_lost 3 1 (some .int) := ⟨GL_all [939, 940, 941, 55, 942] (by decide +kernel) (by decide +kernel), by decide +kernel⟩
theorem lkL_79 : LkV RL 79 RX5 yX5_comes cX5_comes 4 2 (some .int) := ⟨GL_all [944, 945, 946, 55, 947] (by decide +kernel) (by decide +kernel), by decide +kernel⟩
theorem lkL_83 : LkV RL 83 RX5 yX5_mark cX5_mark 7 2 (some .int) := ⟨GL_all [948, 949, 950, 55, 951] (by decide +kernel) (by decide +kernel), by decide +kernel⟩
theorem lkX5_161 : LkV RX5 161 RX5 yX5_rightIn cX5_rightIn 5 2 (some .int) := ⟨GL_all [952, 954, 33, 55, 955] (by decide +kernel) (by decide +kernel), by decide +kernel⟩
theorem lkL_87 : LkV RL 87 RX5 yX5_kind cX5_kind 7 2 (some .int) := ⟨GL_all [956, 957, 958, 55, 959] (by decide +kernel) (by decide +kernel), by decide +kernel⟩
theorem lkL_91 : LkV RL 91 RX5 yX5_warmest cX5_warmest 5 2 (some .int) := ⟨GL_all [960, 961, 962, 55, 963] (by decide +kernel) (by decide +kernel), by decide +kernel⟩
theorem lkX5_164 : LkV RX5 164 RX5 yX5_isRightBehind cX5_isRightBehind 4 2 (some .boolean) := ⟨GL_all [964, 966, 34, 55, 967] (by decide +kernel) (by decide +kernel), by decide +kernel⟩
theorem lkL_95 : LkV RL 95 RX5 yX5_plain cX5_plain 5 2 (some .int) := ⟨GL_all [968, 969, 970, 55, 971] (by decide +kernel) (by decide +kernel), by decide +kernel⟩
theorem lkL_99 : LkV RL 99 RX5 yX5_teach cX5_teach 6 1 (some .int) := ⟨GL_all [972, 973, 974, 55, 975] (by decide +kernel) (by decide +kernel), by decide +kernel⟩
theorem lkL_103 : LkV RL 103 RX5 yX5_best cX5_best 4 1 (some .int) := ⟨GL_all [976, 977, 978, 55, 979] (by decide +kernel) (by decide +kernel), by decide +kernel⟩
theorem lkL_107 : LkV RL 107 RX5 yX5_feed cX5_feed 4 2 (some .int) := ⟨GL_all [980, 981, 982, 55, 983] (by decide +kernel) (by decide +kernel), by decide +kernel⟩
theorem lkL_112 : LkV RL 112 RX5 yX5_wipe cX5_wipe 2 0 (some .int) := ⟨GL_all [984, 985, 986, 55, 987] (by decide +kernel) (by decide +kernel), by decide +kernel⟩
theorem lkL_116 : LkV RL 116 RX5 yX5_home cX5_home 3 0 (some .int) := ⟨GL_all [988, 989, 990, 55, 991] (by decide +kernel) (by decide +kernel), by decide +kernel⟩
theorem lkX5_228 : LkV RX5 228 RX5 yX5_advance cX5_advance 2 0 none := ⟨GL_all [992, 994, 35, 55, 995] (by decide +kernel) (by decide +kernel), by decide +kernel⟩
theorem lkX5_177 : LkV RX5 177 RX5 yX5_byteAt cX5_byteAt 2 1 (some .int) := ⟨GL_all [996, 998, 36, 55, 999] (by decide +kernel) (by decide +kernel), by decide +kernel⟩
theorem lkX5_180 : LkS RX5 180 yX5_isLetter cX5_isLetter 1 1 (some .boolean) := ⟨GL_all [1000, 1001, 55, 1002] (by decide +kernel) (by decide +kernel), by decide +kernel⟩
theorem lkX5_183 : LkS RX5 183 yX5_isDigit cX5_isDigit 1 1 (some .boolean) := ⟨GL_all [1003, 1004, 55, 1005] (by decide +kernel) (by decide +kernel), by decide +kernel⟩
theorem lkX5_260 : LkV RX5 260 RX5 yX5_wantItem cX5_wantItem 2 0 none := ⟨GL_all [1009, 1011, 37, 55, 1012] (by decide +kernel) (by decide +kernel), by decide +kernel⟩
theorem lkX5_244 : LkV RX5 244 RX5 yX5_kindHere cX5_kindHere 1 0 (some .int) := ⟨GL_all [1013, 1015, 38, 55, 1016] (by decide +kernel) (by decide +kernel), by decide +kernel⟩
theorem lkX5_204 : LkV RX5 204 RX5 yX5_isWord cX5_isWord 3 1 (some .boolean) := ⟨GL_all [1018, 1020, 39, 55, 1021] (by decide +kernel) (by decide +kernel), by decide +kernel⟩
theorem lkX5_247 : LkV RX5 247 RX5 yX5_wantOne cX5_wantOne 3 1 none := ⟨GL_all [1027, 1029, 40, 55, 1030] (by decide +kernel) (by decide +kernel), by decide +kernel⟩
theorem lkX5_236 : LkV RX5 236 RX5 yX5_mayWant cX5_mayWant 6 4 (some .int) := ⟨GL_all [1032, 1034, 41, 55, 1035] (by decide +kernel) (by decide +kernel), by decide +kernel⟩
theorem lkX5_231 : LkV RX5 231 RX5 yX5_wantNumber cX5_wantNumber 4 2 (some .int) := ⟨GL_all [1036, 1038, 42, 55, 1039] (by decide +kernel) (by decide +kernel), by decide +kernel⟩
theorem lkX5_250 : LkV RX5 250 RX5 yX5_markHere cX5_markHere 1 0 (some .int) := ⟨GL_all [1040, 1042, 43, 55, 1043] (by decide +kernel) (by decide +kernel), by decide +kernel⟩
theorem lkX5_253 : LkV RX5 253 RX5 yX5_wantGarment cX5_wantGarment 5 1 none := ⟨GL_all [1047, 1049, 44, 55, 1050] (by decide +kernel) (by decide +kernel), by decide +kernel⟩
theorem lkL_120 : LkV RL 120 RX5 yX5_sheet cX5_sheet 5 3 (some .int) := ⟨GL_all [1055, 1056, 1057, 55, 1058] (by decide +kernel) (by decide +kernel), by decide +kernel⟩
theorem lkX5_263 : LkS RX5 263 yX5_isSheet cX5_isSheet 1 1 (some .boolean) := ⟨GL_all [1059, 1060, 55, 1061] (by decide +kernel) (by decide +kernel), by decide +kernel⟩
theorem lkL_127 : LkV RL 127 RX5 yX5_write cX5_write 7 3 (some .long) := ⟨GL_all [1063, 1064, 1065, 55, 1066] (by decide +kernel) (by decide +kernel), by decide +kernel⟩
theorem lkX5_268 : LkS RX5 268 yX5_narrow cX5_narrow 3 2 (some .long) := ⟨GL_all [1068, 1069, 55, 1070] (by decide +kernel) (by decide +kernel), by decide +kernel⟩
theorem lkL_132 : LkV RL 132 RX5 yX5_copy cX5_copy 7 5 (some .int) := ⟨GL_all [1071, 1072, 1073, 55, 1074] (by decide +kernel) (by decide +kernel), by decide +kernel⟩
theorem lkX5_272 : LkV RX5 272 RX5 yX5_isPart_ cX5_isPart_ 4 3 (some .boolean) := ⟨GL_all [1075, 1077, 45, 55, 1078] (by decide +kernel) (by decide +kernel), by decide +kernel⟩
theorem lkL_136 : LkV RL 136 RX5 yX5_lays cX5_lays 7 1 (some .int) := ⟨GL_all [1079, 1080, 1081, 55, 1082] (by decide +kernel) (by decide +kernel), by decide +kernel⟩
theorem lkX5_274 : LkV RX5 274 RX5 yX5_badSheet cX5_badSheet 2 1 (some .int) := ⟨GL_all [1083, 1085, 46, 55, 1086] (by decide +kernel) (by decide +kernel), by decide +kernel⟩
theorem lkL_140 : LkV RL 140 RX5 yX5_book cX5_book 5 2 (some .int) := ⟨GL_all [1088, 1089, 1090, 55, 1091] (by decide +kernel) (by decide +kernel), by decide +kernel⟩
theorem lkL_144 : LkV RL 144 RX5 yX5_read cX5_read 6 2 (some .int) := ⟨GL_all [1092, 1093, 1094, 55, 1095] (by decide +kernel) (by decide +kernel), by decide +kernel⟩
theorem lkX5_279 : LkV RX5 279 RX5 yX5_isSo cX5_isSo 5 2 (some .boolean) := ⟨GL_all [1096, 1098, 47, 55, 1099] (by decide +kernel) (by decide +kernel), by decide +kernel⟩
theorem lkL_148 : LkV RL 148 RX5 yX5_image cX5_image 1 0 (some .int) := ⟨GL_all [1100, 1101, 1102, 55, 1103] (by decide +kernel) (by decide +kernel), by decide +kernel⟩
theorem lkL_152 : LkV RL 152 RX5 yX5_undo cX5_undo 1 0 (some .int) := ⟨GL_all [1104, 1105, 1106, 55, 1107] (by decide +kernel) (by decide +kernel), by decide +kernel⟩
theorem lkL_156 : LkV RL 156 RX5 yX5_tear cX5_tear 2 0 (some .int) := ⟨GL_all [1108, 1109, 1110, 55, 1111] (by decide +kernel) (by decide +kernel), by decide +kernel⟩
theorem lkL_160 : LkV RL 160 RX5 yX5_count cX5_count 2 1 (some .int) := ⟨GL_all [1112, 1113, 1114, 55, 1115] (by decide +kernel) (by decide +kernel), by decide +kernel⟩
theorem lkX5_285 : LkV RX5 285 RX5 yX5_names cX5_names 3 0 (some .int) := ⟨GL_all [1116, 1118, 48, 55, 1119] (by decide +kernel) (by decide +kernel), by decide +kernel⟩
theorem lkL_164 : LkV RL 164 RX5 yX5_status cX5_status 4 1 (some .int) := ⟨GL_all [1120, 1121, 1122, 55, 1123] (by decide +kernel) (by decide +kernel), by decide +kernel⟩
theorem ctX4_239 : Cond.constant RX4 239 (-1000000001) ∈ GL := GL_of (i := 248) (by decide +kernel) rfl
theorem ctX4_154 : Cond.constant RX4 154 (99999) ∈ GL := GL_of (i := 378) (by decide +kernel) rfl
theorem ctJ6_265 : Cond.constant RJ6 265 (1431655765) ∈ GL := GL_of (i := 452) (by decide +kernel) rfl
theorem ctJ6_266 : Cond.constant RJ6 266 (858993459) ∈ GL := GL_of (i := 453) (by decide +kernel) rfl
theorem ctJ6_267 : Cond.constant RJ6 267 (252645135) ∈ GL := GL_of (i := 454) (by decide +kernel) rfl
theorem ctX5_44 : Cond.constant RX5 44 (-1000000001) ∈ GL := GL_of (i := 762) (by decide +kernel) rfl
theorem ctX5_93 : Cond.constant RX5 93 (-1000000002) ∈ GL := GL_of (i := 806) (by decide +kernel) rfl
theorem ctX5_117 : Cond.constant RX5 117 (-1000000003) ∈ GL := GL_of (i := 865) (by decide +kernel) rfl
theorem ctX5_148 : Cond.constant RX5 148 (99999) ∈ GL := GL_of (i := 902) (by decide +kernel) rfl
theorem ctX5_149 : Cond.constant RX5 149 (-1000000005) ∈ GL := GL_of (i := 903) (by decide +kernel) rfl
theorem ctX5_160 : Cond.constant RX5 160 (-1000000004) ∈ GL := GL_of (i := 943) (by decide +kernel) rfl
theorem ctX5_266 : Cond.constant RX5 266 (-1000000007) ∈ GL := GL_of (i := 1062) (by decide +kernel) rfl
theorem ctX5_267 : Cond.constant RX5 267 (-1000000006) ∈ GL := GL_of (i := 1067) (by decide +kernel) rfl
theorem clX4_230 : Cond.constantLong RX4 230 (99) ∈ GL := GL_of (i := 650) (by decide +kernel) rfl
theorem clX5_196 : Cond.constantLong RX5 196 (27) ∈ GL := GL_of (i := 1006) (by decide +kernel) rfl
theorem clX5_198 : Cond.constantLong RX5 198 (96) ∈ GL := GL_of (i := 1007) (by decide +kernel) rfl
theorem clX5_200 : Cond.constantLong RX5 200 (-1) ∈ GL := GL_of (i := 1008) (by decide +kernel) rfl
theorem clX5_202 : Cond.constantLong RX5 202 (4137608) ∈ GL := GL_of (i := 1017) (by decide +kernel) rfl
theorem clX5_208 : Cond.constantLong RX5 208 (191597391) ∈ GL := GL_of (i := 1022) (by decide +kernel) rfl
theorem clX5_210 : Cond.constantLong RX5 210 (11717060) ∈ GL := GL_of (i := 1023) (by decide +kernel) rfl
theorem clX5_212 : Cond.constantLong RX5 212 (82410) ∈ GL := GL_of (i := 1024) (by decide +kernel) rfl
theorem clX5_214 : Cond.constantLong RX5 214 (42534052632) ∈ GL := GL_of (i := 1025) (by decide +kernel) rfl
theorem clX5_216 : Cond.constantLong RX5 216 (187216925) ∈ GL := GL_of (i := 1026) (by decide +kernel) rfl
theorem clX5_234 : Cond.constantLong RX5 234 (40477) ∈ GL := GL_of (i := 1031) (by decide +kernel) rfl
theorem clX5_218 : Cond.constantLong RX5 218 (378257) ∈ GL := GL_of (i := 1044) (by decide +kernel) rfl
theorem clX5_220 : Cond.constantLong RX5 220 (139011691) ∈ GL := GL_of (i := 1045) (by decide +kernel) rfl
theorem clX5_222 : Cond.constantLong RX5 222 (11813) ∈ GL := GL_of (i := 1046) (by decide +kernel) rfl
theorem clX5_240 : Cond.constantLong RX5 240 (276647) ∈ GL := GL_of (i := 1051) (by decide +kernel) rfl
theorem clX5_242 : Cond.constantLong RX5 242 (161152) ∈ GL := GL_of (i := 1052) (by decide +kernel) rfl
theorem clX5_256 : Cond.constantLong RX5 256 (161156) ∈ GL := GL_of (i := 1053) (by decide +kernel) rfl
theorem clX5_258 : Cond.constantLong RX5 258 (85447) ∈ GL := GL_of (i := 1054) (by decide +kernel) rfl
theorem clX5_277 : Cond.constantLong RX5 277 (99) ∈ GL := GL_of (i := 1087) (by decide +kernel) rfl
theorem clL_121 : Cond.constantLong RL 121 (4294967295) ∈ GL := GL_of (i := 1124) (by decide +kernel) rfl
theorem lkN_isWithin : (∀ w ∈ ([.static yX4_isWithin, .initialized yX4_isWithin.cls, .code yX4_isWithin cX4_isWithin 3 (some .boolean)] : List Cond), w ∈ GL) ∧ (yX4_isWithin.cls ≠ "java/lang/invoke/MethodHandle" ∧ yX4_isWithin.cls ≠ "java/lang/invoke/VarHandle" ∧ (parseMethodDescriptor yX4_isWithin.desc).map (fun d => d.parameters.length) = some 3) := ⟨GL_all [242, 50, 243] (by decide +kernel) (by decide +kernel), by decide +kernel⟩
