theorem ffX0_21 : FF RX0 21 0 3 (tyX0 3) := ⟨RX0, TX0, 14, tyX0, rfl, inX0, by decide, GL_of (i := 85) (by decide +kernel) rfl, ⟨rfl, rfl⟩, tyX0_ok 3 (by decide), tyX0_ok, nmX0⟩
theorem ffX0_25 : FF RX0 25 0 4 (tyX0 4) := ⟨RX0, TX0, 14, tyX0, rfl, inX0, by decide, GL_of (i := 87) (by decide +kernel) rfl, ⟨rfl, rfl⟩, tyX0_ok 4 (by decide), tyX0_ok, nmX0⟩
theorem ffX0_28 : FF RX0 28 0 5 (tyX0 5) := ⟨RX0, TX0, 14, tyX0, rfl, inX0, by decide, GL_of (i := 90) (by decide +kernel) rfl, ⟨rfl, rfl⟩, tyX0_ok 5 (by decide), tyX0_ok, nmX0⟩
theorem ffX0_31 : FF RX0 31 0 6 (tyX0 6) := ⟨RX0, TX0, 14, tyX0, rfl, inX0, by decide, GL_of (i := 92) (by decide +kernel) rfl, ⟨rfl, rfl⟩, tyX0_ok 6 (by decide), tyX0_ok, nmX0⟩
theorem ffX0_37 : FF RX0 37 0 8 (tyX0 8) := ⟨RX0, TX0, 14, tyX0, rfl, inX0, by decide, GL_of (i := 98) (by decide +kernel) rfl, ⟨rfl, rfl⟩, tyX0_ok 8 (by decide), tyX0_ok, nmX0⟩
theorem ffX0_40 : FF RX0 40 0 9 (tyX0 9) := ⟨RX0, TX0, 14, tyX0, rfl, inX0, by decide, GL_of (i := 100) (by decide +kernel) rfl, ⟨rfl, rfl⟩, tyX0_ok 9 (by decide), tyX0_ok, nmX0⟩
theorem ffX0_43 : FF RX0 43 0 10 (tyX0 10) := ⟨RX0, TX0, 14, tyX0, rfl, inX0, by decide, GL_of (i := 102) (by decide +kernel) rfl, ⟨rfl, rfl⟩, tyX0_ok 10 (by decide), tyX0_ok, nmX0⟩
theorem ffX0_46 : FF RX0 46 0 11 (tyX0 11) := ⟨RX0, TX0, 14, tyX0, rfl, inX0, by decide, GL_of (i := 105) (by decide +kernel) rfl, ⟨rfl, rfl⟩, tyX0_ok 11 (by decide), tyX0_ok, nmX0⟩
theorem ffX0_49 : FF RX0 49 0 12 (tyX0 12) := ⟨RX0, TX0, 14, tyX0, rfl, inX0, by decide, GL_of (i := 108) (by decide +kernel) rfl, ⟨rfl, rfl⟩, tyX0_ok 12 (by decide), tyX0_ok, nmX0⟩
theorem ffX0_52 : FF RX0 52 0 13 (tyX0 13) := ⟨RX0, TX0, 14, tyX0, rfl, inX0, by decide, GL_of (i := 109) (by decide +kernel) rfl, ⟨rfl, rfl⟩, tyX0_ok 13 (by decide), tyX0_ok, nmX0⟩
theorem ffX3_9 : FF RX3 9 3 0 (tyX3 0) := ⟨RX3, TX3, 6, tyX3, rfl, inX3, by decide, GL_of (i := 150) (by decide +kernel) rfl, ⟨rfl, rfl⟩, tyX3_ok 0 (by decide), tyX3_ok, nmX3⟩
theorem ffX1_9 : FF RX1 9 1 0 (tyX1 0) := ⟨RX1, TX1, 3, tyX1, rfl, inX1, by decide, GL_of (i := 180) (by decide +kernel) rfl, ⟨rfl, rfl⟩, tyX1_ok 0 (by decide), tyX1_ok, nmX1⟩
theorem ffX1_15 : FF RX1 15 1 1 (tyX1 1) := ⟨RX1, TX1, 3, tyX1, rfl, inX1, by decide, GL_of (i := 181) (by decide +kernel) rfl, ⟨rfl, rfl⟩, tyX1_ok 1 (by decide), tyX1_ok, nmX1⟩
theorem ffX2_9 : FF RX2 9 2 0 (tyX2 0) := ⟨RX2, TX2, 3, tyX2, rfl, inX2, by decide, GL_of (i := 198) (by decide +kernel) rfl, ⟨rfl, rfl⟩, tyX2_ok 0 (by decide), tyX2_ok, nmX2⟩
theorem ffX4_10 : FF RX4 10 4 0 (tyX4 0) := ⟨RX4, TX4, 8, tyX4, rfl, inX4, by decide, GL_of (i := 212) (by decide +kernel) rfl, ⟨rfl, rfl⟩, tyX4_ok 0 (by decide), tyX4_ok, nmX4⟩
theorem ffX4_16 : FF RX4 16 4 1 (tyX4 1) := ⟨RX4, TX4, 8, tyX4, rfl, inX4, by decide, GL_of (i := 213) (by decide +kernel) rfl, ⟨rfl, rfl⟩, tyX4_ok 1 (by decide), tyX4_ok, nmX4⟩
theorem ffX4_19 : FF RX4 19 4 2 (tyX4 2) := ⟨RX4, TX4, 8, tyX4, rfl, inX4, by decide, GL_of (i := 214) (by decide +kernel) rfl, ⟨rfl, rfl⟩, tyX4_ok 2 (by decide), tyX4_ok, nmX4⟩
theorem ffX4_29 : FF RX4 29 4 4 (tyX4 4) := ⟨RX4, TX4, 8, tyX4, rfl, inX4, by decide, GL_of (i := 216) (by decide +kernel) rfl, ⟨rfl, rfl⟩, tyX4_ok 4 (by decide), tyX4_ok, nmX4⟩
theorem ffX4_38 : FF RX4 38 4 5 (tyX4 5) := ⟨RX4, TX4, 8, tyX4, rfl, inX4, by decide, GL_of (i := 217) (by decide +kernel) rfl, ⟨rfl, rfl⟩, tyX4_ok 5 (by decide), tyX4_ok, nmX4⟩
theorem ffX4_44 : FF RX4 44 4 6 (tyX4 6) := ⟨RX4, TX4, 8, tyX4, rfl, inX4, by decide, GL_of (i := 218) (by decide +kernel) rfl, ⟨rfl, rfl⟩, tyX4_ok 6 (by decide), tyX4_ok, nmX4⟩
theorem ffX4_49 : FF RX4 49 4 7 (tyX4 7) := ⟨RX4, TX4, 8, tyX4, rfl, inX4, by decide, GL_of (i := 219) (by decide +kernel) rfl, ⟨rfl, rfl⟩, tyX4_ok 7 (by decide), tyX4_ok, nmX4⟩
theorem ffX5_7 : FF RX5 7 5 0 (tyX5 0) := ⟨RX5, TX5, 19, tyX5, rfl, inX5, by decide, GL_of (i := 693) (by decide +kernel) rfl, ⟨rfl, rfl⟩, tyX5_ok 0 (by decide), tyX5_ok, nmX5⟩
theorem ffX5_13 : FF RX5 13 5 1 (tyX5 1) := ⟨RX5, TX5, 19, tyX5, rfl, inX5, by decide, GL_of (i := 694) (by decide +kernel) rfl, ⟨rfl, rfl⟩, tyX5_ok 1 (by decide), tyX5_ok, nmX5⟩
theorem ffX5_16 : FF RX5 16 5 2 (tyX5 2) := ⟨RX5, TX5, 19, tyX5, rfl, inX5, by decide, GL_of (i := 695) (by decide +kernel) rfl, ⟨rfl, rfl⟩, tyX5_ok 2 (by decide), tyX5_ok, nmX5⟩
theorem ffX5_19 : FF RX5 19 5 3 (tyX5 3) := ⟨RX5, TX5, 19, tyX5, rfl, inX5, by decide, GL_of (i := 696) (by decide +kernel) rfl, ⟨rfl, rfl⟩, tyX5_ok 3 (by decide), tyX5_ok, nmX5⟩
theorem ffX5_22 : FF RX5 22 5 4 (tyX5 4) := ⟨RX5, TX5, 19, tyX5, rfl, inX5, by decide, GL_of (i := 697) (by decide +kernel) rfl, ⟨rfl, rfl⟩, tyX5_ok 4 (by decide), tyX5_ok, nmX5⟩
theorem ffX5_25 : FF RX5 25 5 12 (tyX5 12) := ⟨RX5, TX5, 19, tyX5, rfl, inX5, by decide, GL_of (i := 705) (by decide +kernel) rfl, ⟨rfl, rfl⟩, tyX5_ok 12 (by decide), tyX5_ok, nmX5⟩
theorem ffX5_28 : FF RX5 28 5 13 (tyX5 13) := ⟨RX5, TX5, 19, tyX5, rfl, inX5, by decide, GL_of (i := 706) (by decide +kernel) rfl, ⟨rfl, rfl⟩, tyX5_ok 13 (by decide), tyX5_ok, nmX5⟩
theorem ffX5_31 : FF RX5 31 5 14 (tyX5 14) := ⟨RX5, TX5, 19, tyX5, rfl, inX5, by decide, GL_of (i := 707) (by decide +kernel) rfl, ⟨rfl, rfl⟩, tyX5_ok 14 (by decide), tyX5_ok, nmX5⟩
theorem ffX5_35 : FF RX5 35 5 15 (tyX5 15) := ⟨RX5, TX5, 19, tyX5, rfl, inX5, by decide, GL_of (i := 708) (by decide +kernel) rfl, ⟨rfl, rfl⟩, tyX5_ok 15 (by decide), tyX5_ok, nmX5⟩
theorem ffX5_38 : FF RX5 38 5 16 (tyX5 16) := ⟨RX5, TX5, 19, tyX5, rfl, inX5, by decide, GL_of (i := 709) (by decide +kernel) rfl, ⟨rfl, rfl⟩, tyX5_ok 16 (by decide), tyX5_ok, nmX5⟩
theorem ffX5_41 : FF RX5 41 5 17 (tyX5 17) := ⟨RX5, TX5, 19, tyX5, rfl, inX5, by decide, GL_of (i := 710) (by decide +kernel) rfl, ⟨rfl, rfl⟩, tyX5_ok 17 (by decide), tyX5_ok, nmX5⟩
theorem fnL_7 : FN RL 7 4 [.null, .null, .null, .int 0, .null, .null, .null, .null] := ⟨RX4, TX4, 8, tyX4, rfl, inX4, tyX4_ok, GL_of (i := 63) (by decide +kernel) rfl, GL_of (i := 64) (by decide +kernel) rfl, GL_of (i := 50) (by decide +kernel) rfl, rfl, by decide +kernel⟩
theorem fnX4_7 : FN RX4 7 0 [.int 0, .int 0, .int 0, .null, .null, .null, .null, .int 0, .null, .null, .null, .null, .null, .null] := ⟨RX0, TX0, 14, tyX0, rfl, inX0, tyX0_ok, GL_of (i := 71) (by decide +kernel) rfl, GL_of (i := 72) (by decide +kernel) rfl, GL_of (i := 51) (by decide +kernel) rfl, rfl, by decide +kernel⟩
theorem fnX4_26 : FN RX4 26 3 [.null, .int 0, .int 0, .int 0, .int 0, .int 0] := ⟨RX3, TX3, 6, tyX3, rfl, inX3, tyX3_ok, GL_of (i := 140) (by decide +kernel) rfl, GL_of (i := 141) (by decide +kernel) rfl, GL_of (i := 52) (by decide +kernel) rfl, rfl, by decide +kernel⟩
theorem fnX4_33 : FN RX4 33 1 [.null, .null, .int 0] := ⟨RX1, TX1, 3, tyX1, rfl, inX1, tyX1_ok, GL_of (i := 174) (by decide +kernel) rfl, GL_of (i := 175) (by decide +kernel) rfl, GL_of (i := 53) (by decide +kernel) rfl, rfl, by decide +kernel⟩
theorem fnX4_42 : FN RX4 42 2 [.null, .int 0, .int 0] := ⟨RX2, TX2, 3, tyX2, rfl, inX2, tyX2_ok, GL_of (i := 191) (by decide +kernel) rfl, GL_of (i := 193) (by decide +kernel) rfl, GL_of (i := 54) (by decide +kernel) rfl, rfl, by decide +kernel⟩
theorem fnL_10 : FN RL 10 5 [.null, .null, .null, .null, .null, .int 0, .int 0, .int 0, .int 0, .long 0, .int 0, .int 0, .null, .null, .null, .null, .null, .null, .int 0] := ⟨RX5, TX5, 19, tyX5, rfl, inX5, tyX5_ok, GL_of (i := 687) (by decide +kernel) rfl, GL_of (i := 688) (by decide +kernel) rfl, GL_of (i := 55) (by decide +kernel) rfl, rfl, by decide +kernel⟩
theorem liL_9 : LkI RL 9 yX4_init cX4_init 2 0 := ⟨GL_all [65, 66, 50, 67] (by decide +kernel) (by decide +kernel), rfl, by decide +kernel⟩
theorem liX4_9 : LkI RX4 9 yX0_init cX0_init 1 0 := ⟨GL_all [73, 74, 51, 75] (by decide +kernel) (by decide +kernel), rfl, by decide +kernel⟩
theorem liX4_28 : LkI RX4 28 yX3_init cX3_init 1 0 := ⟨GL_all [142, 143, 52, 144] (by decide +kernel) (by decide +kernel), rfl, by decide +kernel⟩
theorem liX4_35 : LkI RX4 35 yX1_init cX1_init 3 2 := ⟨GL_all [176, 177, 53, 178] (by decide +kernel) (by decide +kernel), rfl, by decide +kernel⟩
theorem liX4_48 : LkI RX4 48 yX2_init cX2_init 1 0 := ⟨GL_all [194, 195, 54, 196] (by decide +kernel) (by decide +kernel), rfl, by decide +kernel⟩
theorem liL_12 : LkI RL 12 yX5_init cX5_init 1 0 := ⟨GL_all [689, 690, 55, 691] (by decide +kernel) (by decide +kernel), rfl, by decide +kernel⟩
theorem loX4_1 : Cond.methodLink RX4 1 Lib.objectInit ∈ GL := GL_of (i := 68) (by decide +kernel) rfl
theorem loX0_3 : Cond.methodLink RX0 3 Lib.objectInit ∈ GL := GL_of (i := 76) (by decide +kernel) rfl
theorem loX3_3 : Cond.methodLink RX3 3 Lib.objectInit ∈ GL := GL_of (i := 145) (by decide +kernel) rfl
theorem loX1_3 : Cond.methodLink RX1 3 Lib.objectInit ∈ GL := GL_of (i := 179) (by decide +kernel) rfl
theorem loX2_3 : Cond.methodLink RX2 3 Lib.objectInit ∈ GL := GL_of (i := 197) (by decide +kernel) rfl
theorem loX5_1 : Cond.methodLink RX5 1 Lib.objectInit ∈ GL := GL_of (i := 692) (by decide +kernel) rfl
theorem lo_i : Cond.instanceMethod Lib.objectInit ∈ GL := GL_of (i := 69) (by decide +kernel) rfl
theorem lo_c : Cond.code Lib.objectInit ⟨#[0xb1]⟩ 1 none ∈ GL := GL_of (i := 70) (by decide +kernel) rfl
theorem na_i : Cond.arrayClass .int ∈ GL := GL_of (i := 139) (by decide +kernel) rfl
theorem na_l : Cond.arrayClass .long ∈ GL := GL_of (i := 211) (by decide +kernel) rfl
