theorem iw_X0 : ∀ w ∈ u_ws RX0 TX0 3, w ∈ wT := List.forall_mem_cons.mpr ⟨kw_83, List.forall_mem_cons.mpr ⟨kw_85, List.forall_mem_cons.mpr ⟨kw_87, fun _ h => absurd h List.not_mem_nil⟩⟩⟩
theorem iw_X1 : ∀ w ∈ u_ws RX1 TX1 2, w ∈ wT := List.forall_mem_cons.mpr ⟨kw_99, List.forall_mem_cons.mpr ⟨kw_101, fun _ h => absurd h List.not_mem_nil⟩⟩
theorem iw_X2 : ∀ w ∈ u_ws RX2 TX2 10, w ∈ wT := List.forall_mem_cons.mpr ⟨kw_47, List.forall_mem_cons.mpr ⟨kw_49, List.forall_mem_cons.mpr ⟨kw_51, List.forall_mem_cons.mpr ⟨kw_53, List.forall_mem_cons.mpr ⟨kw_55, List.forall_mem_cons.mpr ⟨kw_57, List.forall_mem_cons.mpr ⟨kw_59, List.forall_mem_cons.mpr ⟨kw_61, List.forall_mem_cons.mpr ⟨kw_63, List.forall_mem_cons.mpr ⟨kw_65, fun _ h => absurd h List.not_mem_nil⟩⟩⟩⟩⟩⟩⟩⟩⟩⟩
theorem iw_X3 : ∀ w ∈ u_ws RX3 TX3 16, w ∈ wT := List.forall_mem_cons.mpr ⟨kw_120, List.forall_mem_cons.mpr ⟨kw_122, List.forall_mem_cons.mpr ⟨kw_124, List.forall_mem_cons.mpr ⟨kw_126, List.forall_mem_cons.mpr ⟨kw_128, List.forall_mem_cons.mpr ⟨kw_130, List.forall_mem_cons.mpr ⟨kw_132, List.forall_mem_cons.mpr ⟨kw_134, List.forall_mem_cons.mpr ⟨kw_136, List.forall_mem_cons.mpr ⟨kw_138, List.forall_mem_cons.mpr ⟨kw_140, List.forall_mem_cons.mpr ⟨kw_142, List.forall_mem_cons.mpr ⟨kw_144, List.forall_mem_cons.mpr ⟨kw_146, List.forall_mem_cons.mpr ⟨kw_148, List.forall_mem_cons.mpr ⟨kw_150, fun _ h => absurd h List.not_mem_nil⟩⟩⟩⟩⟩⟩⟩⟩⟩⟩⟩⟩⟩⟩⟩⟩
theorem iw_X4 : ∀ w ∈ u_ws RX4 TX4 21, w ∈ wT := List.forall_mem_cons.mpr ⟨kw_501, List.forall_mem_cons.mpr ⟨kw_503, List.forall_mem_cons.mpr ⟨kw_505, List.forall_mem_cons.mpr ⟨kw_507, List.forall_mem_cons.mpr ⟨kw_509, List.forall_mem_cons.mpr ⟨kw_511, List.forall_mem_cons.mpr ⟨kw_513, List.forall_mem_cons.mpr ⟨kw_515, List.forall_mem_cons.mpr ⟨kw_517, List.forall_mem_cons.mpr ⟨kw_519, List.forall_mem_cons.mpr ⟨kw_521, List.forall_mem_cons.mpr ⟨kw_523, List.forall_mem_cons.mpr ⟨kw_525, List.forall_mem_cons.mpr ⟨kw_527, List.forall_mem_cons.mpr ⟨kw_529, List.forall_mem_cons.mpr ⟨kw_531, List.forall_mem_cons.mpr ⟨kw_533, List.forall_mem_cons.mpr ⟨kw_535, List.forall_mem_cons.mpr ⟨kw_537, List.forall_mem_cons.mpr ⟨kw_539, List.forall_mem_cons.mpr ⟨kw_541, fun _ h => absurd h List.not_mem_nil⟩⟩⟩⟩⟩⟩⟩⟩⟩⟩⟩⟩⟩⟩⟩⟩⟩⟩⟩⟩⟩
theorem fl_X2_40 : gx_FL RX2 40 2 0 := ⟨RX2, TX2, 10, tyX2, rfl, iw_X2, by decide, kw_27, tyX2_ok, nmX2⟩
theorem fl_X3_147 : gx_FL RX3 147 2 0 := ⟨RX2, TX2, 10, tyX2, rfl, iw_X2, by decide, kw_28, tyX2_ok, nmX2⟩
theorem fl_X2_9 : gx_FL RX2 9 2 1 := ⟨RX2, TX2, 10, tyX2, rfl, iw_X2, by decide, kw_29, tyX2_ok, nmX2⟩
theorem fl_X3_120 : gx_FL RX3 120 2 1 := ⟨RX2, TX2, 10, tyX2, rfl, iw_X2, by decide, kw_30, tyX2_ok, nmX2⟩
theorem fl_X2_15 : gx_FL RX2 15 2 2 := ⟨RX2, TX2, 10, tyX2, rfl, iw_X2, by decide, kw_31, tyX2_ok, nmX2⟩
theorem fl_X3_123 : gx_FL RX3 123 2 2 := ⟨RX2, TX2, 10, tyX2, rfl, iw_X2, by decide, kw_32, tyX2_ok, nmX2⟩
theorem fl_X2_18 : gx_FL RX2 18 2 3 := ⟨RX2, TX2, 10, tyX2, rfl, iw_X2, by decide, kw_33, tyX2_ok, nmX2⟩
theorem fl_X3_126 : gx_FL RX3 126 2 3 := ⟨RX2, TX2, 10, tyX2, rfl, iw_X2, by decide, kw_34, tyX2_ok, nmX2⟩
theorem fl_X2_21 : gx_FL RX2 21 2 4 := ⟨RX2, TX2, 10, tyX2, rfl, iw_X2, by decide, kw_35, tyX2_ok, nmX2⟩
theorem fl_X3_129 : gx_FL RX3 129 2 4 := ⟨RX2, TX2, 10, tyX2, rfl, iw_X2, by decide, kw_36, tyX2_ok, nmX2⟩
theorem fl_X2_24 : gx_FL RX2 24 2 5 := ⟨RX2, TX2, 10, tyX2, rfl, iw_X2, by decide, kw_37, tyX2_ok, nmX2⟩
theorem fl_X3_132 : gx_FL RX3 132 2 5 := ⟨RX2, TX2, 10, tyX2, rfl, iw_X2, by decide, kw_38, tyX2_ok, nmX2⟩
theorem fl_X2_27 : gx_FL RX2 27 2 6 := ⟨RX2, TX2, 10, tyX2, rfl, iw_X2, by decide, kw_39, tyX2_ok, nmX2⟩
theorem fl_X3_95 : gx_FL RX3 95 2 6 := ⟨RX2, TX2, 10, tyX2, rfl, iw_X2, by decide, kw_40, tyX2_ok, nmX2⟩
theorem fl_X2_31 : gx_FL RX2 31 2 7 := ⟨RX2, TX2, 10, tyX2, rfl, iw_X2, by decide, kw_41, tyX2_ok, nmX2⟩
theorem fl_X3_135 : gx_FL RX3 135 2 7 := ⟨RX2, TX2, 10, tyX2, rfl, iw_X2, by decide, kw_42, tyX2_ok, nmX2⟩
theorem fl_X2_34 : gx_FL RX2 34 2 8 := ⟨RX2, TX2, 10, tyX2, rfl, iw_X2, by decide, kw_43, tyX2_ok, nmX2⟩
theorem fl_X3_138 : gx_FL RX3 138 2 8 := ⟨RX2, TX2, 10, tyX2, rfl, iw_X2, by decide, kw_44, tyX2_ok, nmX2⟩
theorem fl_X2_37 : gx_FL RX2 37 2 9 := ⟨RX2, TX2, 10, tyX2, rfl, iw_X2, by decide, kw_45, tyX2_ok, nmX2⟩
theorem fl_X3_163 : gx_FL RX3 163 2 9 := ⟨RX2, TX2, 10, tyX2, rfl, iw_X2, by decide, kw_46, tyX2_ok, nmX2⟩
theorem fl_X0_16 : gx_FL RX0 16 0 0 := ⟨RX0, TX0, 3, tyX0, rfl, iw_X0, by decide, kw_75, tyX0_ok, nmX0⟩
theorem fl_X2_70 : gx_FL RX2 70 0 0 := ⟨RX0, TX0, 3, tyX0, rfl, iw_X0, by decide, kw_76, tyX0_ok, nmX0⟩
theorem fl_X0_7 : gx_FL RX0 7 0 1 := ⟨RX0, TX0, 3, tyX0, rfl, iw_X0, by decide, kw_77, tyX0_ok, nmX0⟩
theorem fl_X3_114 : gx_FL RX3 114 0 1 := ⟨RX0, TX0, 3, tyX0, rfl, iw_X0, by decide, kw_78, tyX0_ok, nmX0⟩
theorem fl_X2_75 : gx_FL RX2 75 0 1 := ⟨RX0, TX0, 3, tyX0, rfl, iw_X0, by decide, kw_79, tyX0_ok, nmX0⟩
theorem fl_X0_13 : gx_FL RX0 13 0 2 := ⟨RX0, TX0, 3, tyX0, rfl, iw_X0, by decide, kw_80, tyX0_ok, nmX0⟩
theorem fl_X3_117 : gx_FL RX3 117 0 2 := ⟨RX0, TX0, 3, tyX0, rfl, iw_X0, by decide, kw_81, tyX0_ok, nmX0⟩
theorem fl_X2_81 : gx_FL RX2 81 0 2 := ⟨RX0, TX0, 3, tyX0, rfl, iw_X0, by decide, kw_82, tyX0_ok, nmX0⟩
theorem fl_X1_7 : gx_FL RX1 7 1 0 := ⟨RX1, TX1, 2, tyX1, rfl, iw_X1, by decide, kw_95, tyX1_ok, nmX1⟩
theorem fl_X3_157 : gx_FL RX3 157 1 0 := ⟨RX1, TX1, 2, tyX1, rfl, iw_X1, by decide, kw_96, tyX1_ok, nmX1⟩
theorem fl_X1_13 : gx_FL RX1 13 1 1 := ⟨RX1, TX1, 2, tyX1, rfl, iw_X1, by decide, kw_97, tyX1_ok, nmX1⟩
theorem fl_X3_160 : gx_FL RX3 160 1 1 := ⟨RX1, TX1, 2, tyX1, rfl, iw_X1, by decide, kw_98, tyX1_ok, nmX1⟩
theorem fl_X3_11 : gx_FL RX3 11 3 0 := ⟨RX3, TX3, 16, tyX3, rfl, iw_X3, by decide, kw_104, tyX3_ok, nmX3⟩
theorem fl_X3_15 : gx_FL RX3 15 3 1 := ⟨RX3, TX3, 16, tyX3, rfl, iw_X3, by decide, kw_105, tyX3_ok, nmX3⟩
theorem fl_X3_19 : gx_FL RX3 19 3 2 := ⟨RX3, TX3, 16, tyX3, rfl, iw_X3, by decide, kw_106, tyX3_ok, nmX3⟩
theorem fl_X3_22 : gx_FL RX3 22 3 3 := ⟨RX3, TX3, 16, tyX3, rfl, iw_X3, by decide, kw_107, tyX3_ok, nmX3⟩
theorem fl_X3_27 : gx_FL RX3 27 3 4 := ⟨RX3, TX3, 16, tyX3, rfl, iw_X3, by decide, kw_108, tyX3_ok, nmX3⟩
theorem fl_X3_31 : gx_FL RX3 31 3 5 := ⟨RX3, TX3, 16, tyX3, rfl, iw_X3, by decide, kw_109, tyX3_ok, nmX3⟩
theorem fl_X3_36 : gx_FL RX3 36 3 6 := ⟨RX3, TX3, 16, tyX3, rfl, iw_X3, by decide, kw_110, tyX3_ok, nmX3⟩
theorem fl_X3_40 : gx_FL RX3 40 3 7 := ⟨RX3, TX3, 16, tyX3, rfl, iw_X3, by decide, kw_111, tyX3_ok, nmX3⟩
theorem fl_X3_43 : gx_FL RX3 43 3 8 := ⟨RX3, TX3, 16, tyX3, rfl, iw_X3, by decide, kw_112, tyX3_ok, nmX3⟩
theorem fl_X3_46 : gx_FL RX3 46 3 9 := ⟨RX3, TX3, 16, tyX3, rfl, iw_X3, by decide, kw_113, tyX3_ok, nmX3⟩
theorem fl_X3_49 : gx_FL RX3 49 3 10 := ⟨RX3, TX3, 16, tyX3, rfl, iw_X3, by decide, kw_114, tyX3_ok, nmX3⟩
theorem fl_X3_53 : gx_FL RX3 53 3 11 := ⟨RX3, TX3, 16, tyX3, rfl, iw_X3, by decide, kw_115, tyX3_ok, nmX3⟩
theorem fl_X3_56 : gx_FL RX3 56 3 12 := ⟨RX3, TX3, 16, tyX3, rfl, iw_X3, by decide, kw_116, tyX3_ok, nmX3⟩
theorem fl_X3_59 : gx_FL RX3 59 3 13 := ⟨RX3, TX3, 16, tyX3, rfl, iw_X3, by decide, kw_117, tyX3_ok, nmX3⟩
theorem fl_X3_62 : gx_FL RX3 62 3 14 := ⟨RX3, TX3, 16, tyX3, rfl, iw_X3, by decide, kw_118, tyX3_ok, nmX3⟩
theorem fl_X3_66 : gx_FL RX3 66 3 15 := ⟨RX3, TX3, 16, tyX3, rfl, iw_X3, by decide, kw_119, tyX3_ok, nmX3⟩
theorem fl_X4_91 : gx_FL RX4 91 4 0 := ⟨RX4, TX4, 21, tyX4, rfl, iw_X4, by decide, kw_480, tyX4_ok, nmX4⟩
theorem fl_X4_94 : gx_FL RX4 94 4 1 := ⟨RX4, TX4, 21, tyX4, rfl, iw_X4, by decide, kw_481, tyX4_ok, nmX4⟩
theorem fl_X4_7 : gx_FL RX4 7 4 2 := ⟨RX4, TX4, 21, tyX4, rfl, iw_X4, by decide, kw_482, tyX4_ok, nmX4⟩
theorem fl_X4_13 : gx_FL RX4 13 4 3 := ⟨RX4, TX4, 21, tyX4, rfl, iw_X4, by decide, kw_483, tyX4_ok, nmX4⟩
theorem fl_X4_56 : gx_FL RX4 56 4 4 := ⟨RX4, TX4, 21, tyX4, rfl, iw_X4, by decide, kw_484, tyX4_ok, nmX4⟩
theorem fl_X4_16 : gx_FL RX4 16 4 5 := ⟨RX4, TX4, 21, tyX4, rfl, iw_X4, by decide, kw_485, tyX4_ok, nmX4⟩
theorem fl_X4_19 : gx_FL RX4 19 4 6 := ⟨RX4, TX4, 21, tyX4, rfl, iw_X4, by decide, kw_486, tyX4_ok, nmX4⟩
theorem fl_X4_22 : gx_FL RX4 22 4 7 := ⟨RX4, TX4, 21, tyX4, rfl, iw_X4, by decide, kw_487, tyX4_ok, nmX4⟩
theorem fl_X4_25 : gx_FL RX4 25 4 8 := ⟨RX4, TX4, 21, tyX4, rfl, iw_X4, by decide, kw_488, tyX4_ok, nmX4⟩
theorem fl_X4_28 : gx_FL RX4 28 4 9 := ⟨RX4, TX4, 21, tyX4, rfl, iw_X4, by decide, kw_489, tyX4_ok, nmX4⟩
theorem fl_X4_31 : gx_FL RX4 31 4 10 := ⟨RX4, TX4, 21, tyX4, rfl, iw_X4, by decide, kw_490, tyX4_ok, nmX4⟩
theorem fl_X4_34 : gx_FL RX4 34 4 11 := ⟨RX4, TX4, 21, tyX4, rfl, iw_X4, by decide, kw_491, tyX4_ok, nmX4⟩
theorem fl_X4_37 : gx_FL RX4 37 4 12 := ⟨RX4, TX4, 21, tyX4, rfl, iw_X4, by decide, kw_492, tyX4_ok, nmX4⟩
theorem fl_X4_41 : gx_FL RX4 41 4 13 := ⟨RX4, TX4, 21, tyX4, rfl, iw_X4, by decide, kw_493, tyX4_ok, nmX4⟩
theorem fl_X4_44 : gx_FL RX4 44 4 14 := ⟨RX4, TX4, 21, tyX4, rfl, iw_X4, by decide, kw_494, tyX4_ok, nmX4⟩
theorem fl_X4_47 : gx_FL RX4 47 4 15 := ⟨RX4, TX4, 21, tyX4, rfl, iw_X4, by decide, kw_495, tyX4_ok, nmX4⟩
theorem fl_X4_132 : gx_FL RX4 132 4 16 := ⟨RX4, TX4, 21, tyX4, rfl, iw_X4, by decide, kw_496, tyX4_ok, nmX4⟩
theorem fl_X4_135 : gx_FL RX4 135 4 17 := ⟨RX4, TX4, 21, tyX4, rfl, iw_X4, by decide, kw_497, tyX4_ok, nmX4⟩
theorem fl_X4_125 : gx_FL RX4 125 4 18 := ⟨RX4, TX4, 21, tyX4, rfl, iw_X4, by decide, kw_498, tyX4_ok, nmX4⟩
theorem fl_X4_50 : gx_FL RX4 50 4 19 := ⟨RX4, TX4, 21, tyX4, rfl, iw_X4, by decide, kw_499, tyX4_ok, nmX4⟩
theorem fl_X4_53 : gx_FL RX4 53 4 20 := ⟨RX4, TX4, 21, tyX4, rfl, iw_X4, by decide, kw_500, tyX4_ok, nmX4⟩
theorem fw_X0_1 : gx_FW 0 1 .int := ⟨RX0, TX0, 3, rfl, rfl, by decide +kernel⟩
theorem pw_X0_1 {G : gx_G} {i : Nat} (h : i < 2) (r : Nat → Int32) (x : Int32) : gc_mk G (44 + 1 * i) (upd r 1 x) = .inr (0, [Value.int (r 0), .int (r 1), .int (r 2)].set 1 (.int x)) := (gc_a _ h).trans rfl
theorem fw_X0_2 : gx_FW 0 2 .int := ⟨RX0, TX0, 3, rfl, rfl, by decide +kernel⟩
theorem pw_X0_2 {G : gx_G} {i : Nat} (h : i < 2) (r : Nat → Int32) (x : Int32) : gc_mk G (44 + 1 * i) (upd r 2 x) = .inr (0, [Value.int (r 0), .int (r 1), .int (r 2)].set 2 (.int x)) := (gc_a _ h).trans rfl
theorem fw_X1_0 : gx_FW 1 0 .boolean := ⟨RX1, TX1, 2, rfl, rfl, by decide +kernel⟩
theorem pw_X1_0 {G : gx_G} {i : Nat} (h : i < 4) (r : Nat → Int32) (x : Int32) : gc_mk G (46 + 1 * i) (upd r 0 x) = .inr (1, [Value.int (r 0), .int (r 1)].set 0 (.int x)) := (gc_u _ h).trans rfl
theorem fw_X1_1 : gx_FW 1 1 .int := ⟨RX1, TX1, 2, rfl, rfl, by decide +kernel⟩
theorem pw_X1_1 {G : gx_G} {i : Nat} (h : i < 4) (r : Nat → Int32) (x : Int32) : gc_mk G (46 + 1 * i) (upd r 1 x) = .inr (1, [Value.int (r 0), .int (r 1)].set 1 (.int x)) := (gc_u _ h).trans rfl
theorem fw_X2_1 : gx_FW 2 1 .int := ⟨RX2, TX2, 10, rfl, rfl, by decide +kernel⟩
theorem pw_X2_1 {G : gx_G} {i : Nat} (h : i < 12) (r : Nat → Int32) (x : Int32) : gc_mk G (8 + 3 * i) (upd r 1 x) = .inr (2, (gc_ef G (8 + 3 * i) r).set 1 (.int x)) := (gc_e _ h).trans rfl
theorem fw_X2_2 : gx_FW 2 2 .int := ⟨RX2, TX2, 10, rfl, rfl, by decide +kernel⟩
theorem pw_X2_2 {G : gx_G} {i : Nat} (h : i < 12) (r : Nat → Int32) (x : Int32) : gc_mk G (8 + 3 * i) (upd r 2 x) = .inr (2, (gc_ef G (8 + 3 * i) r).set 2 (.int x)) := (gc_e _ h).trans rfl
theorem fw_X2_3 : gx_FW 2 3 .int := ⟨RX2, TX2, 10, rfl, rfl, by decide +kernel⟩
theorem pw_X2_3 {G : gx_G} {i : Nat} (h : i < 12) (r : Nat → Int32) (x : Int32) : gc_mk G (8 + 3 * i) (upd r 3 x) = .inr (2, (gc_ef G (8 + 3 * i) r).set 3 (.int x)) := (gc_e _ h).trans rfl
theorem fw_X2_4 : gx_FW 2 4 .int := ⟨RX2, TX2, 10, rfl, rfl, by decide +kernel⟩
theorem pw_X2_4 {G : gx_G} {i : Nat} (h : i < 12) (r : Nat → Int32) (x : Int32) : gc_mk G (8 + 3 * i) (upd r 4 x) = .inr (2, (gc_ef G (8 + 3 * i) r).set 4 (.int x)) := (gc_e _ h).trans rfl
theorem fw_X2_5 : gx_FW 2 5 .int := ⟨RX2, TX2, 10, rfl, rfl, by decide +kernel⟩
theorem pw_X2_5 {G : gx_G} {i : Nat} (h : i < 12) (r : Nat → Int32) (x : Int32) : gc_mk G (8 + 3 * i) (upd r 5 x) = .inr (2, (gc_ef G (8 + 3 * i) r).set 5 (.int x)) := (gc_e _ h).trans rfl
theorem fw_X2_7 : gx_FW 2 7 .int := ⟨RX2, TX2, 10, rfl, rfl, by decide +kernel⟩
theorem pw_X2_7 {G : gx_G} {i : Nat} (h : i < 12) (r : Nat → Int32) (x : Int32) : gc_mk G (8 + 3 * i) (upd r 7 x) = .inr (2, (gc_ef G (8 + 3 * i) r).set 7 (.int x)) := (gc_e _ h).trans rfl
theorem fw_X2_8 : gx_FW 2 8 .int := ⟨RX2, TX2, 10, rfl, rfl, by decide +kernel⟩
theorem pw_X2_8 {G : gx_G} {i : Nat} (h : i < 12) (r : Nat → Int32) (x : Int32) : gc_mk G (8 + 3 * i) (upd r 8 x) = .inr (2, (gc_ef G (8 + 3 * i) r).set 8 (.int x)) := (gc_e _ h).trans rfl
theorem fw_X3_1 : gx_FW 3 1 .int := ⟨RX3, TX3, 16, rfl, rfl, by decide +kernel⟩
theorem pw_X3_1 {G : gx_G} (r : Nat → Int32) (x : Int32) : gc_mk G 0 (upd r 1 x) = .inr (3, (gc_fs G r).set 1 (.int x)) := rfl
theorem fw_X3_3 : gx_FW 3 3 .int := ⟨RX3, TX3, 16, rfl, rfl, by decide +kernel⟩
theorem pw_X3_3 {G : gx_G} (r : Nat → Int32) (x : Int32) : gc_mk G 0 (upd r 3 x) = .inr (3, (gc_fs G r).set 3 (.int x)) := rfl
theorem fw_X3_5 : gx_FW 3 5 .int := ⟨RX3, TX3, 16, rfl, rfl, by decide +kernel⟩
theorem pw_X3_5 {G : gx_G} (r : Nat → Int32) (x : Int32) : gc_mk G 0 (upd r 5 x) = .inr (3, (gc_fs G r).set 5 (.int x)) := rfl
theorem fw_X3_7 : gx_FW 3 7 .int := ⟨RX3, TX3, 16, rfl, rfl, by decide +kernel⟩
theorem pw_X3_7 {G : gx_G} (r : Nat → Int32) (x : Int32) : gc_mk G 0 (upd r 7 x) = .inr (3, (gc_fs G r).set 7 (.int x)) := rfl
theorem fw_X3_8 : gx_FW 3 8 .int := ⟨RX3, TX3, 16, rfl, rfl, by decide +kernel⟩
theorem pw_X3_8 {G : gx_G} (r : Nat → Int32) (x : Int32) : gc_mk G 0 (upd r 8 x) = .inr (3, (gc_fs G r).set 8 (.int x)) := rfl
theorem fw_X3_9 : gx_FW 3 9 .int := ⟨RX3, TX3, 16, rfl, rfl, by decide +kernel⟩
theorem pw_X3_9 {G : gx_G} (r : Nat → Int32) (x : Int32) : gc_mk G 0 (upd r 9 x) = .inr (3, (gc_fs G r).set 9 (.int x)) := rfl
theorem fw_X3_10 : gx_FW 3 10 .boolean := ⟨RX3, TX3, 16, rfl, rfl, by decide +kernel⟩
theorem pw_X3_10 {G : gx_G} (r : Nat → Int32) (x : Int32) : gc_mk G 0 (upd r 10 x) = .inr (3, (gc_fs G r).set 10 (.int x)) := rfl
theorem fw_X3_11 : gx_FW 3 11 .int := ⟨RX3, TX3, 16, rfl, rfl, by decide +kernel⟩
theorem pw_X3_11 {G : gx_G} (r : Nat → Int32) (x : Int32) : gc_mk G 0 (upd r 11 x) = .inr (3, (gc_fs G r).set 11 (.int x)) := rfl
theorem fw_X3_12 : gx_FW 3 12 .int := ⟨RX3, TX3, 16, rfl, rfl, by decide +kernel⟩
theorem pw_X3_12 {G : gx_G} (r : Nat → Int32) (x : Int32) : gc_mk G 0 (upd r 12 x) = .inr (3, (gc_fs G r).set 12 (.int x)) := rfl
theorem fw_X4_0 : gx_FW 4 0 .int := ⟨RX4, TX4, 21, rfl, rfl, by decide +kernel⟩
theorem pw_X4_0 {G : gx_G} (r : Nat → Int32) (x : Int32) : gm_mk G 0 (upd r 0 x) = .inr (4, (gm_fs G r).set 0 (.int x)) := rfl
theorem fw_X4_1 : gx_FW 4 1 .int := ⟨RX4, TX4, 21, rfl, rfl, by decide +kernel⟩
theorem pw_X4_1 {G : gx_G} (r : Nat → Int32) (x : Int32) : gm_mk G 0 (upd r 1 x) = .inr (4, (gm_fs G r).set 1 (.int x)) := rfl
theorem fw_X4_4 : gx_FW 4 4 .int := ⟨RX4, TX4, 21, rfl, rfl, by decide +kernel⟩
theorem pw_X4_4 {G : gx_G} (r : Nat → Int32) (x : Int32) : gm_mk G 0 (upd r 4 x) = .inr (4, (gm_fs G r).set 4 (.int x)) := rfl
theorem fw_X4_12 : gx_FW 4 12 .int := ⟨RX4, TX4, 21, rfl, rfl, by decide +kernel⟩
theorem pw_X4_12 {G : gx_G} (r : Nat → Int32) (x : Int32) : gm_mk G 0 (upd r 12 x) = .inr (4, (gm_fs G r).set 12 (.int x)) := rfl
theorem fw_X4_16 : gx_FW 4 16 .int := ⟨RX4, TX4, 21, rfl, rfl, by decide +kernel⟩
theorem pw_X4_16 {G : gx_G} (r : Nat → Int32) (x : Int32) : gm_mk G 0 (upd r 16 x) = .inr (4, (gm_fs G r).set 16 (.int x)) := rfl
theorem fw_X4_17 : gx_FW 4 17 .int := ⟨RX4, TX4, 21, rfl, rfl, by decide +kernel⟩
theorem pw_X4_17 {G : gx_G} (r : Nat → Int32) (x : Int32) : gm_mk G 0 (upd r 17 x) = .inr (4, (gm_fs G r).set 17 (.int x)) := rfl
theorem fw_X4_18 : gx_FW 4 18 .boolean := ⟨RX4, TX4, 21, rfl, rfl, by decide +kernel⟩
theorem pw_X4_18 {G : gx_G} (r : Nat → Int32) (x : Int32) : gm_mk G 0 (upd r 18 x) = .inr (4, (gm_fs G r).set 18 (.int x)) := rfl
theorem fw_X4_19 : gx_FW 4 19 .int := ⟨RX4, TX4, 21, rfl, rfl, by decide +kernel⟩
theorem pw_X4_19 {G : gx_G} (r : Nat → Int32) (x : Int32) : gm_mk G 0 (upd r 19 x) = .inr (4, (gm_fs G r).set 19 (.int x)) := rfl
theorem fw_X4_20 : gx_FW 4 20 .int := ⟨RX4, TX4, 21, rfl, rfl, by decide +kernel⟩
theorem pw_X4_20 {G : gx_G} (r : Nat → Int32) (x : Int32) : gm_mk G 0 (upd r 20 x) = .inr (4, (gm_fs G r).set 20 (.int x)) := rfl
theorem lk_L_13 : gx_LV RL 13 yX3_effect cX3_effect 7 (some .int) 5 := ⟨⟨kw_153, kw_154, kw_155, kw_1, kw_156⟩, by decide, by decide, by decide +kernel⟩
theorem lk_X3_75 : gx_LS RX3 75 yX3_isShape cX3_isShape 6 (some .boolean) 5 := ⟨⟨kw_157, kw_158, kw_1, kw_159⟩, by decide, by decide, by decide +kernel⟩
theorem lk_X3_250 : gx_LS RX3 250 yX3_isShapeNumber cX3_isShapeNumber 4 (some .boolean) 3 := ⟨⟨kw_160, kw_161, kw_1, kw_162⟩, by decide, by decide, by decide +kernel⟩
theorem lk_X3_102 : gx_LS RX3 102 yX3_isWithin cX3_isWithin 3 (some .boolean) 3 := ⟨⟨kw_167, kw_168, kw_1, kw_169⟩, by decide, by decide, by decide +kernel⟩
theorem lk_X3_79 : gx_LV RX3 79 yX2_become cX2_become 7 none 5 := ⟨⟨kw_170, kw_171, kw_172, kw_2, kw_173⟩, by decide, by decide, by decide +kernel⟩
theorem lk_L_18 : gx_LV RL 18 yX3_set cX3_set 5 (some .int) 3 := ⟨⟨kw_176, kw_177, kw_178, kw_1, kw_179⟩, by decide, by decide, by decide +kernel⟩
theorem lk_X3_83 : gx_LV RX3 83 yX3_isEffect cX3_isEffect 2 (some .boolean) 1 := ⟨⟨kw_180, kw_182, ks_0, kw_1, kw_183⟩, by decide, by decide, by decide +kernel⟩
theorem lk_X3_87 : gx_LS RX3 87 yX3_isNumber cX3_isNumber 2 (some .boolean) 2 := ⟨⟨kw_184, kw_185, kw_1, kw_186⟩, by decide, by decide, by decide +kernel⟩
theorem lk_X3_91 : gx_LS RX3 91 yX3_toldNumber cX3_toldNumber 2 (some .int) 2 := ⟨⟨kw_191, kw_192, kw_1, kw_193⟩, by decide, by decide, by decide +kernel⟩
theorem lk_L_23 : gx_LV RL 23 yX3_drop cX3_drop 1 (some .int) 0 := ⟨⟨kw_194, kw_195, kw_196, kw_1, kw_197⟩, by decide, by decide, by decide +kernel⟩
theorem lk_X3_98 : gx_LV RX3 98 yX3_takeOut cX3_takeOut 4 none 1 := ⟨⟨kw_198, kw_200, ks_1, kw_1, kw_201⟩, by decide, by decide, by decide +kernel⟩
theorem lk_L_28 : gx_LV RL 28 yX3_hand cX3_hand 4 (some .int) 2 := ⟨⟨kw_202, kw_203, kw_204, kw_1, kw_205⟩, by decide, by decide, by decide +kernel⟩
theorem lk_X3_106 : gx_LV RX3 106 yX0_moveTo cX0_moveTo 3 none 2 := ⟨⟨kw_206, kw_207, kw_208, kw_3, kw_209⟩, by decide, by decide, by decide +kernel⟩
theorem lk_L_33 : gx_LV RL 33 yX3_ofAxis cX3_ofAxis 3 (some .int) 2 := ⟨⟨kw_210, kw_211, kw_212, kw_1, kw_213⟩, by decide, by decide, by decide +kernel⟩
theorem lk_X3_110 : gx_LS RX3 110 yX3_isAxis cX3_isAxis 1 (some .boolean) 1 := ⟨⟨kw_214, kw_215, kw_1, kw_216⟩, by decide, by decide, by decide +kernel⟩
theorem lk_L_37 : gx_LV RL 37 yX3_ofEffect cX3_ofEffect 4 (some .int) 2 := ⟨⟨kw_218, kw_219, kw_220, kw_1, kw_221⟩, by decide, by decide, by decide +kernel⟩
theorem lk_X3_141 : gx_LV RX3 141 yX2_playsAt cX2_playsAt 4 (some .boolean) 2 := ⟨⟨kw_222, kw_223, kw_224, kw_2, kw_225⟩, by decide, by decide, by decide +kernel⟩
theorem lk_X3_144 : gx_LV RX3 144 yX2_isOnAt cX2_isOnAt 3 (some .boolean) 2 := ⟨⟨kw_226, kw_227, kw_228, kw_2, kw_229⟩, by decide, by decide, by decide +kernel⟩
theorem lk_X2_46 : gx_LV RX2 46 yX2_playsAt cX2_playsAt 4 (some .boolean) 2 := ⟨⟨kw_230, kw_223, kw_224, kw_2, kw_225⟩, by decide, by decide, by decide +kernel⟩
theorem lk_L_41 : gx_LV RL 41 yX3_slots cX3_slots 3 (some .int) 1 := ⟨⟨kw_231, kw_232, kw_233, kw_1, kw_234⟩, by decide, by decide, by decide +kernel⟩
theorem lk_L_46 : gx_LV RL 46 yX3_slot cX3_slot 3 (some .int) 1 := ⟨⟨kw_235, kw_236, kw_237, kw_1, kw_238⟩, by decide, by decide, by decide +kernel⟩
theorem lk_L_50 : gx_LV RL 50 yX3_load cX3_load 2 (some .int) 1 := ⟨⟨kw_239, kw_240, kw_241, kw_1, kw_242⟩, by decide, by decide, by decide +kernel⟩
theorem lk_X3_150 : gx_LV RX3 150 yX3_bringIn cX3_bringIn 4 (some .int) 1 := ⟨⟨kw_243, kw_245, ks_2, kw_1, kw_246⟩, by decide, by decide, by decide +kernel⟩
theorem lk_X3_265 : gx_LV RX3 265 yX3_leastFreeSlot cX3_leastFreeSlot 2 (some .int) 0 := ⟨⟨kw_247, kw_249, ks_3, kw_1, kw_250⟩, by decide, by decide, by decide +kernel⟩
theorem lk_X3_268 : gx_LV RX3 268 yX3_whichGoes cX3_whichGoes 7 (some (.object "PushStick$Effect")) 1 := ⟨⟨kw_251, kw_253, ks_4, kw_1, kw_254⟩, by decide, by decide, by decide +kernel⟩
theorem lk_L_54 : gx_LV RL 54 yX3_unload cX3_unload 3 (some .int) 1 := ⟨⟨kw_255, kw_256, kw_257, kw_1, kw_258⟩, by decide, by decide, by decide +kernel⟩
theorem lk_L_58 : gx_LV RL 58 yX3_play cX3_play 3 (some .int) 1 := ⟨⟨kw_259, kw_260, kw_261, kw_1, kw_262⟩, by decide, by decide, by decide +kernel⟩
theorem lk_L_62 : gx_LV RL 62 yX3_stop cX3_stop 4 (some .int) 1 := ⟨⟨kw_263, kw_264, kw_265, kw_1, kw_266⟩, by decide, by decide, by decide +kernel⟩
theorem lk_L_66 : gx_LV RL 66 yX3_press cX3_press 5 (some .int) 1 := ⟨⟨kw_267, kw_268, kw_269, kw_1, kw_270⟩, by decide, by decide, by decide +kernel⟩
theorem lk_X3_154 : gx_LS RX3 154 yX3_isButton cX3_isButton 1 (some .boolean) 1 := ⟨⟨kw_271, kw_272, kw_1, kw_273⟩, by decide, by decide, by decide +kernel⟩
theorem lk_L_70 : gx_LV RL 70 yX3_free cX3_free 2 (some .int) 1 := ⟨⟨kw_274, kw_275, kw_276, kw_1, kw_277⟩, by decide, by decide, by decide +kernel⟩
theorem lk_X3_166 : gx_LV RX3 166 yX3_letGo cX3_letGo 3 none 1 := ⟨⟨kw_278, kw_280, ks_5, kw_1, kw_281⟩, by decide, by decide, by decide +kernel⟩
theorem lk_L_74 : gx_LV RL 74 yX3_pass cX3_pass 4 (some .int) 1 := ⟨⟨kw_282, kw_283, kw_284, kw_1, kw_285⟩, by decide, by decide, by decide +kernel⟩
theorem lk_X3_170 : gx_LV RX3 170 yX3_lossAt cX3_lossAt 1 (some .int) 0 := ⟨⟨kw_287, kw_289, ks_6, kw_1, kw_290⟩, by decide, by decide, by decide +kernel⟩
theorem lk_X3_180 : gx_LV RX3 180 yX3_beginAgainUpTo cX3_beginAgainUpTo 4 none 1 := ⟨⟨kw_295, kw_297, ks_7, kw_1, kw_298⟩, by decide, by decide, by decide +kernel⟩
theorem lk_X3_276 : gx_LV RX3 276 yX3_startBy cX3_startBy 7 (some .int) 2 := ⟨⟨kw_299, kw_301, ks_8, kw_1, kw_302⟩, by decide, by decide, by decide +kernel⟩
theorem lk_X3_273 : gx_LS RX3 273 yX3_remainder cX3_remainder 2 (some .int) 2 := ⟨⟨kw_303, kw_304, kw_1, kw_305⟩, by decide, by decide, by decide +kernel⟩
theorem lk_X3_183 : gx_LV RX3 183 yX3_loseHostAt cX3_loseHostAt 4 none 1 := ⟨⟨kw_306, kw_308, ks_9, kw_1, kw_309⟩, by decide, by decide, by decide +kernel⟩
theorem lk_X3_186 : gx_LV RX3 186 yX3_howManyPlay cX3_howManyPlay 4 (some .int) 0 := ⟨⟨kw_310, kw_312, ks_10, kw_1, kw_313⟩, by decide, by decide, by decide +kernel⟩
theorem lk_L_78 : gx_LV RL 78 yX3_hello cX3_hello 2 (some .int) 0 := ⟨⟨kw_314, kw_315, kw_316, kw_1, kw_317⟩, by decide, by decide, by decide +kernel⟩
theorem lk_L_82 : gx_LV RL 82 yX3_watch cX3_watch 3 (some .int) 1 := ⟨⟨kw_318, kw_319, kw_320, kw_1, kw_321⟩, by decide, by decide, by decide +kernel⟩
theorem lk_L_86 : gx_LV RL 86 yX3_master cX3_master 3 (some .int) 1 := ⟨⟨kw_322, kw_323, kw_324, kw_1, kw_325⟩, by decide, by decide, by decide +kernel⟩
theorem lk_L_90 : gx_LV RL 90 yX3_part cX3_part 4 (some .int) 2 := ⟨⟨kw_326, kw_327, kw_328, kw_1, kw_329⟩, by decide, by decide, by decide +kernel⟩
theorem lk_X3_189 : gx_LV RX3 189 yX2_partAt cX2_partAt 5 (some .int) 3 := ⟨⟨kw_330, kw_331, kw_332, kw_2, kw_333⟩, by decide, by decide, by decide +kernel⟩
theorem lk_X2_60 : gx_LV RX2 60 yX2_isOnAt cX2_isOnAt 3 (some .boolean) 2 := ⟨⟨kw_334, kw_227, kw_228, kw_2, kw_229⟩, by decide, by decide, by decide +kernel⟩
theorem lk_X2_63 : gx_LV RX2 63 yX2_sinceDelay cX2_sinceDelay 3 (some .int) 2 := ⟨⟨kw_335, kw_336, kw_337, kw_2, kw_338⟩, by decide, by decide, by decide +kernel⟩
theorem lk_X2_66 : gx_LV RX2 66 yX2_valueAt cX2_valueAt 3 (some .int) 2 := ⟨⟨kw_339, kw_340, kw_341, kw_2, kw_342⟩, by decide, by decide, by decide +kernel⟩
theorem lk_X2_78 : gx_LV RX2 78 yX2_awayFrom cX2_awayFrom 4 (some .int) 2 := ⟨⟨kw_343, kw_344, kw_345, kw_2, kw_346⟩, by decide, by decide, by decide +kernel⟩
theorem lk_X2_100 : gx_LN yX3_quotient cX3_quotient 2 (some .int) 2 := ⟨⟨kw_351, kw_1, kw_352⟩, by decide, by decide, by decide +kernel⟩
theorem lk_X2_106 : gx_LN yX3_noFarther cX3_noFarther 2 (some .int) 2 := ⟨⟨kw_354, kw_1, kw_355⟩, by decide, by decide, by decide +kernel⟩
theorem lk_X2_84 : gx_LV RX2 84 yX2_wallAt cX2_wallAt 4 (some .int) 1 := ⟨⟨kw_356, kw_357, kw_358, kw_2, kw_359⟩, by decide, by decide, by decide +kernel⟩
theorem lk_X2_88 : gx_LV RX2 88 yX2_waveAt cX2_waveAt 2 (some .int) 1 := ⟨⟨kw_360, kw_361, kw_362, kw_2, kw_363⟩, by decide, by decide, by decide +kernel⟩
theorem lk_X2_94 : gx_LN yX3_remainder cX3_remainder 2 (some .int) 2 := ⟨⟨kw_304, kw_1, kw_305⟩, by decide, by decide, by decide +kernel⟩
theorem lk_X2_97 : gx_LV RX2 97 yX2_riseAt cX2_riseAt 2 (some .int) 1 := ⟨⟨kw_365, kw_366, kw_367, kw_2, kw_368⟩, by decide, by decide, by decide +kernel⟩
theorem lk_X2_91 : gx_LV RX2 91 yX2_envelopeAt cX2_envelopeAt 4 (some .int) 1 := ⟨⟨kw_369, kw_370, kw_371, kw_2, kw_372⟩, by decide, by decide, by decide +kernel⟩
theorem lk_X2_50 : gx_LS RX2 50 yX2_levelAt cX2_levelAt 3 (some .int) 3 := ⟨⟨kw_373, kw_374, kw_2, kw_375⟩, by decide, by decide, by decide +kernel⟩
theorem lk_L_94 : gx_LV RL 94 yX3_envelope cX3_envelope 3 (some .int) 1 := ⟨⟨kw_377, kw_378, kw_379, kw_1, kw_380⟩, by decide, by decide, by decide +kernel⟩
theorem lk_X3_193 : gx_LV RX3 193 yX2_hasEnvelope cX2_hasEnvelope 1 (some .boolean) 0 := ⟨⟨kw_381, kw_382, kw_383, kw_2, kw_384⟩, by decide, by decide, by decide +kernel⟩
theorem lk_X3_197 : gx_LV RX3 197 yX2_sinceDelay cX2_sinceDelay 3 (some .int) 2 := ⟨⟨kw_385, kw_336, kw_337, kw_2, kw_338⟩, by decide, by decide, by decide +kernel⟩
theorem lk_X3_200 : gx_LV RX3 200 yX2_envelopeAt cX2_envelopeAt 4 (some .int) 1 := ⟨⟨kw_386, kw_370, kw_371, kw_2, kw_372⟩, by decide, by decide, by decide +kernel⟩
theorem lk_L_98 : gx_LV RL 98 yX3_force cX3_force 4 (some .int) 2 := ⟨⟨kw_387, kw_388, kw_389, kw_1, kw_390⟩, by decide, by decide, by decide +kernel⟩
theorem lk_X3_204 : gx_LV RX3 204 yX3_rawAt cX3_rawAt 6 (some .int) 2 := ⟨⟨kw_391, kw_393, ks_11, kw_1, kw_394⟩, by decide, by decide, by decide +kernel⟩
theorem lk_X3_208 : gx_LS RX3 208 yX3_noFarther cX3_noFarther 2 (some .int) 2 := ⟨⟨kw_395, kw_354, kw_1, kw_355⟩, by decide, by decide, by decide +kernel⟩
theorem lk_L_102 : gx_LV RL 102 yX3_rate cX3_rate 3 (some .int) 1 := ⟨⟨kw_396, kw_397, kw_398, kw_1, kw_399⟩, by decide, by decide, by decide +kernel⟩
theorem lk_L_106 : gx_LV RL 106 yX3_frame cX3_frame 2 (some .int) 1 := ⟨⟨kw_400, kw_401, kw_402, kw_1, kw_403⟩, by decide, by decide, by decide +kernel⟩
theorem lk_X3_212 : gx_LS RX3 212 yX3_quotient cX3_quotient 2 (some .int) 2 := ⟨⟨kw_405, kw_351, kw_1, kw_352⟩, by decide, by decide, by decide +kernel⟩
theorem lk_L_110 : gx_LV RL 110 yX3_frames cX3_frames 3 (some .int) 0 := ⟨⟨kw_406, kw_407, kw_408, kw_1, kw_409⟩, by decide, by decide, by decide +kernel⟩
theorem lk_L_114 : gx_LV RL 114 yX3_peak cX3_peak 9 (some .int) 3 := ⟨⟨kw_412, kw_413, kw_414, kw_1, kw_415⟩, by decide, by decide, by decide +kernel⟩
theorem lk_X3_219 : gx_LV RX3 219 yX3_endOfPush cX3_endOfPush 2 (some .int) 1 := ⟨⟨kw_416, kw_418, ks_12, kw_1, kw_419⟩, by decide, by decide, by decide +kernel⟩
theorem lk_L_118 : gx_LV RL 118 yX3_soLong cX3_soLong 5 (some .int) 1 := ⟨⟨kw_421, kw_422, kw_423, kw_1, kw_424⟩, by decide, by decide, by decide +kernel⟩
theorem lk_X3_225 : gx_LS RX3 225 yX3_isHeldBack cX3_isHeldBack 1 (some .boolean) 1 := ⟨⟨kw_425, kw_426, kw_1, kw_427⟩, by decide, by decide, by decide +kernel⟩
theorem lk_L_122 : gx_LV RL 122 yX3_quiet cX3_quiet 6 (some .int) 1 := ⟨⟨kw_428, kw_429, kw_430, kw_1, kw_431⟩, by decide, by decide, by decide +kernel⟩
theorem lk_X3_228 : gx_LV RX3 228 yX3_gatherPlaying cX3_gatherPlaying 4 (some .int) 0 := ⟨⟨kw_432, kw_434, ks_13, kw_1, kw_435⟩, by decide, by decide, by decide +kernel⟩
theorem lk_X3_231 : gx_LV RX3 231 yX3_markHeldBack cX3_markHeldBack 8 none 3 := ⟨⟨kw_436, kw_438, ks_14, kw_1, kw_439⟩, by decide, by decide, by decide +kernel⟩
theorem lk_X3_279 : gx_LV RX3 279 yX3_lackAt cX3_lackAt 5 (some .int) 3 := ⟨⟨kw_440, kw_442, ks_15, kw_1, kw_443⟩, by decide, by decide, by decide +kernel⟩
theorem lk_X3_235 : gx_LV RX3 235 yX3_fewestNotHeldBack cX3_fewestNotHeldBack 5 (some .int) 1 := ⟨⟨kw_444, kw_446, ks_16, kw_1, kw_447⟩, by decide, by decide, by decide +kernel⟩
theorem lk_X3_283 : gx_LS RX3 283 yJ6_bitCount_0f7a4 cJ6_bitCount_0f7a4 1 (some .int) 1 := ⟨⟨kw_448, kw_449, kw_7, kw_450⟩, by decide, by decide, by decide +kernel⟩
theorem lk_X3_238 : gx_LV RX3 238 yX3_asEffects cX3_asEffects 6 (some .int) 2 := ⟨⟨kw_454, kw_456, ks_17, kw_1, kw_457⟩, by decide, by decide, by decide +kernel⟩
theorem lk_L_126 : gx_LV RL 126 yX3_many cX3_many 2 (some .int) 1 := ⟨⟨kw_458, kw_459, kw_460, kw_1, kw_461⟩, by decide, by decide, by decide +kernel⟩
theorem lk_X3_241 : gx_LV RX3 241 yX3_howManyLoaded cX3_howManyLoaded 3 (some .int) 0 := ⟨⟨kw_462, kw_464, ks_18, kw_1, kw_465⟩, by decide, by decide, by decide +kernel⟩
theorem lk_X3_244 : gx_LV RX3 244 yX3_howManyOn cX3_howManyOn 4 (some .int) 0 := ⟨⟨kw_466, kw_468, ks_19, kw_1, kw_469⟩, by decide, by decide, by decide +kernel⟩
theorem lk_X3_247 : gx_LV RX3 247 yX3_howManyHeld cX3_howManyHeld 3 (some .int) 0 := ⟨⟨kw_470, kw_472, ks_20, kw_1, kw_473⟩, by decide, by decide, by decide +kernel⟩
theorem lk_L_17 : gx_LV RL 17 yX4_effect cX4_effect 8 (some .int) 5 := ⟨⟨kw_544, kw_545, kw_546, kw_5, kw_547⟩, by decide, by decide, by decide +kernel⟩
theorem lk_X4_63 : gx_LS RX4 63 yX4_mayBe cX4_mayBe 6 (some .boolean) 5 := ⟨⟨kw_548, kw_549, kw_5, kw_550⟩, by decide, by decide, by decide +kernel⟩
theorem lk_X4_59 : gx_LS RX4 59 yX4_within cX4_within 3 (some .boolean) 3 := ⟨⟨kw_551, kw_552, kw_5, kw_553⟩, by decide, by decide, by decide +kernel⟩
theorem lk_L_22 : gx_LV RL 22 yX4_set cX4_set 5 (some .int) 3 := ⟨⟨kw_554, kw_555, kw_556, kw_5, kw_557⟩, by decide, by decide, by decide +kernel⟩
theorem lk_X4_76 : gx_LV RX4 76 yX4_isEffect cX4_isEffect 2 (some .boolean) 1 := ⟨⟨kw_558, kw_560, ks_21, kw_5, kw_561⟩, by decide, by decide, by decide +kernel⟩
theorem lk_X4_80 : gx_LS RX4 80 yX4_mayBeNumber cX4_mayBeNumber 3 (some .boolean) 2 := ⟨⟨kw_562, kw_563, kw_5, kw_564⟩, by decide, by decide, by decide +kernel⟩
theorem lk_X4_68 : gx_LS RX4 68 yX4_mostOf cX4_mostOf 1 (some .int) 1 := ⟨⟨kw_565, kw_566, kw_5, kw_567⟩, by decide, by decide, by decide +kernel⟩
theorem lk_X4_84 : gx_LV RX4 84 yX4_tellNumber cX4_tellNumber 3 (some .int) 2 := ⟨⟨kw_569, kw_571, ks_22, kw_5, kw_572⟩, by decide, by decide, by decide +kernel⟩
theorem lk_X4_72 : gx_LV RX4 72 yX4_numberOf cX4_numberOf 3 (some .int) 2 := ⟨⟨kw_573, kw_575, ks_23, kw_5, kw_576⟩, by decide, by decide, by decide +kernel⟩
theorem lk_L_27 : gx_LV RL 27 yX4_drop cX4_drop 1 (some .int) 0 := ⟨⟨kw_577, kw_578, kw_579, kw_5, kw_580⟩, by decide, by decide, by decide +kernel⟩
theorem lk_X4_87 : gx_LV RX4 87 yX4_goes cX4_goes 4 none 1 := ⟨⟨kw_581, kw_583, ks_24, kw_5, kw_584⟩, by decide, by decide, by decide +kernel⟩
theorem lk_X4_105 : gx_LV RX4 105 yX4_slotOf cX4_slotOf 3 (some .int) 1 := ⟨⟨kw_585, kw_587, ks_25, kw_5, kw_588⟩, by decide, by decide, by decide +kernel⟩
theorem lk_L_32 : gx_LV RL 32 yX4_hand cX4_hand 3 (some .int) 2 := ⟨⟨kw_589, kw_590, kw_591, kw_5, kw_592⟩, by decide, by decide, by decide +kernel⟩
theorem lk_X4_97 : gx_LV RX4 97 yX4_moves cX4_moves 4 none 2 := ⟨⟨kw_593, kw_595, ks_26, kw_5, kw_596⟩, by decide, by decide, by decide +kernel⟩
theorem lk_L_36 : gx_LV RL 36 yX4_ofAxis cX4_ofAxis 3 (some .int) 2 := ⟨⟨kw_597, kw_598, kw_599, kw_5, kw_600⟩, by decide, by decide, by decide +kernel⟩
theorem lk_X4_101 : gx_LS RX4 101 yX4_isAxis cX4_isAxis 1 (some .boolean) 1 := ⟨⟨kw_601, kw_602, kw_5, kw_603⟩, by decide, by decide, by decide +kernel⟩
theorem lk_L_40 : gx_LV RL 40 yX4_ofEffect cX4_ofEffect 3 (some .int) 2 := ⟨⟨kw_605, kw_606, kw_607, kw_5, kw_608⟩, by decide, by decide, by decide +kernel⟩
theorem lk_X4_108 : gx_LV RX4 108 yX4_doesPlay cX4_doesPlay 5 (some .boolean) 3 := ⟨⟨kw_609, kw_611, ks_27, kw_5, kw_612⟩, by decide, by decide, by decide +kernel⟩
theorem lk_X4_111 : gx_LV RX4 111 yX4_isOn cX4_isOn 4 (some .boolean) 3 := ⟨⟨kw_613, kw_615, ks_28, kw_5, kw_616⟩, by decide, by decide, by decide +kernel⟩
theorem lk_L_45 : gx_LV RL 45 yX4_slots cX4_slots 3 (some .int) 1 := ⟨⟨kw_617, kw_618, kw_619, kw_5, kw_620⟩, by decide, by decide, by decide +kernel⟩
theorem lk_L_49 : gx_LV RL 49 yX4_slot cX4_slot 2 (some .int) 1 := ⟨⟨kw_621, kw_622, kw_623, kw_5, kw_624⟩, by decide, by decide, by decide +kernel⟩
theorem lk_L_53 : gx_LV RL 53 yX4_load cX4_load 3 (some .int) 1 := ⟨⟨kw_625, kw_626, kw_627, kw_5, kw_628⟩, by decide, by decide, by decide +kernel⟩
theorem lk_X4_122 : gx_LV RX4 122 yX4_loads cX4_loads 5 (some .int) 1 := ⟨⟨kw_629, kw_631, ks_29, kw_5, kw_632⟩, by decide, by decide, by decide +kernel⟩
theorem lk_X4_114 : gx_LV RX4 114 yX4_freeSlot cX4_freeSlot 2 (some .int) 0 := ⟨⟨kw_633, kw_635, ks_30, kw_5, kw_636⟩, by decide, by decide, by decide +kernel⟩
theorem lk_X4_118 : gx_LV RX4 118 yX4_firstToGo cX4_firstToGo 6 (some .int) 2 := ⟨⟨kw_637, kw_639, ks_31, kw_5, kw_640⟩, by decide, by decide, by decide +kernel⟩
theorem lk_L_57 : gx_LV RL 57 yX4_unload cX4_unload 3 (some .int) 1 := ⟨⟨kw_641, kw_642, kw_643, kw_5, kw_644⟩, by decide, by decide, by decide +kernel⟩
theorem lk_L_61 : gx_LV RL 61 yX4_play cX4_play 3 (some .int) 1 := ⟨⟨kw_645, kw_646, kw_647, kw_5, kw_648⟩, by decide, by decide, by decide +kernel⟩
theorem lk_L_65 : gx_LV RL 65 yX4_stop cX4_stop 3 (some .int) 1 := ⟨⟨kw_649, kw_650, kw_651, kw_5, kw_652⟩, by decide, by decide, by decide +kernel⟩
theorem lk_L_69 : gx_LV RL 69 yX4_press cX4_press 5 (some .int) 1 := ⟨⟨kw_653, kw_654, kw_655, kw_5, kw_656⟩, by decide, by decide, by decide +kernel⟩
theorem lk_L_73 : gx_LV RL 73 yX4_free cX4_free 3 (some .int) 1 := ⟨⟨kw_657, kw_658, kw_659, kw_5, kw_660⟩, by decide, by decide, by decide +kernel⟩
theorem lk_X4_129 : gx_LV RX4 129 yX4_comesUp cX4_comesUp 3 none 1 := ⟨⟨kw_661, kw_663, ks_32, kw_5, kw_664⟩, by decide, by decide, by decide +kernel⟩
theorem lk_L_77 : gx_LV RL 77 yX4_pass cX4_pass 4 (some .int) 1 := ⟨⟨kw_665, kw_666, kw_667, kw_5, kw_668⟩, by decide, by decide, by decide +kernel⟩
theorem lk_X4_143 : gx_LV RX4 143 yX4_isLostBy cX4_isLostBy 2 (some .boolean) 1 := ⟨⟨kw_670, kw_672, ks_33, kw_5, kw_673⟩, by decide, by decide, by decide +kernel⟩
theorem lk_X4_146 : gx_LV RX4 146 yX4_getsLost cX4_getsLost 3 none 1 := ⟨⟨kw_674, kw_676, ks_34, kw_5, kw_677⟩, by decide, by decide, by decide +kernel⟩
theorem lk_X4_138 : gx_LV RX4 138 yX4_startAt cX4_startAt 8 (some .int) 3 := ⟨⟨kw_678, kw_680, ks_35, kw_5, kw_681⟩, by decide, by decide, by decide +kernel⟩
theorem lk_X4_149 : gx_LV RX4 149 yX4_manyPlay cX4_manyPlay 3 (some .int) 0 := ⟨⟨kw_682, kw_684, ks_36, kw_5, kw_685⟩, by decide, by decide, by decide +kernel⟩
theorem lk_L_81 : gx_LV RL 81 yX4_hello cX4_hello 2 (some .int) 0 := ⟨⟨kw_686, kw_687, kw_688, kw_5, kw_689⟩, by decide, by decide, by decide +kernel⟩
theorem lk_L_85 : gx_LV RL 85 yX4_watch cX4_watch 3 (some .int) 1 := ⟨⟨kw_690, kw_691, kw_692, kw_5, kw_693⟩, by decide, by decide, by decide +kernel⟩
theorem lk_L_89 : gx_LV RL 89 yX4_master cX4_master 3 (some .int) 1 := ⟨⟨kw_694, kw_695, kw_696, kw_5, kw_697⟩, by decide, by decide, by decide +kernel⟩
theorem lk_L_93 : gx_LV RL 93 yX4_part cX4_part 3 (some .int) 2 := ⟨⟨kw_698, kw_699, kw_700, kw_5, kw_701⟩, by decide, by decide, by decide +kernel⟩
theorem lk_X4_173 : gx_LV RX4 173 yX4_partAt cX4_partAt 7 (some .int) 4 := ⟨⟨kw_702, kw_704, ks_37, kw_5, kw_705⟩, by decide, by decide, by decide +kernel⟩
theorem lk_X4_164 : gx_LV RX4 164 yX4_waveAt cX4_waveAt 8 (some .int) 2 := ⟨⟨kw_706, kw_708, ks_38, kw_5, kw_709⟩, by decide, by decide, by decide +kernel⟩
theorem lk_X4_167 : gx_LV RX4 167 yX4_envelopeAt cX4_envelopeAt 9 (some .int) 2 := ⟨⟨kw_710, kw_712, ks_39, kw_5, kw_713⟩, by decide, by decide, by decide +kernel⟩
theorem lk_X4_152 : gx_LS RX4 152 yX4_levelBy cX4_levelBy 3 (some .int) 3 := ⟨⟨kw_714, kw_715, kw_5, kw_716⟩, by decide, by decide, by decide +kernel⟩
theorem lk_X4_170 : gx_LV RX4 170 yX4_byHand cX4_byHand 6 (some .int) 2 := ⟨⟨kw_717, kw_719, ks_40, kw_5, kw_720⟩, by decide, by decide, by decide +kernel⟩
theorem lk_X4_158 : gx_LS RX4 158 yX4_beyond cX4_beyond 2 (some .int) 2 := ⟨⟨kw_721, kw_722, kw_5, kw_723⟩, by decide, by decide, by decide +kernel⟩
theorem lk_X4_155 : gx_LS RX4 155 yX4_size cX4_size 1 (some .int) 1 := ⟨⟨kw_724, kw_725, kw_5, kw_726⟩, by decide, by decide, by decide +kernel⟩
theorem lk_X4_161 : gx_LS RX4 161 yX4_held cX4_held 2 (some .int) 2 := ⟨⟨kw_727, kw_728, kw_5, kw_729⟩, by decide, by decide, by decide +kernel⟩
theorem lk_L_97 : gx_LV RL 97 yX4_envelope cX4_envelope 3 (some .int) 1 := ⟨⟨kw_730, kw_731, kw_732, kw_5, kw_733⟩, by decide, by decide, by decide +kernel⟩
theorem lk_L_101 : gx_LV RL 101 yX4_force cX4_force 4 (some .int) 2 := ⟨⟨kw_734, kw_735, kw_736, kw_5, kw_737⟩, by decide, by decide, by decide +kernel⟩
theorem lk_X4_177 : gx_LV RX4 177 yX4_rawAt cX4_rawAt 7 (some .int) 3 := ⟨⟨kw_738, kw_740, ks_41, kw_5, kw_741⟩, by decide, by decide, by decide +kernel⟩
theorem lk_L_105 : gx_LV RL 105 yX4_rate cX4_rate 3 (some .int) 1 := ⟨⟨kw_742, kw_743, kw_744, kw_5, kw_745⟩, by decide, by decide, by decide +kernel⟩
theorem lk_L_109 : gx_LV RL 109 yX4_frame cX4_frame 2 (some .int) 1 := ⟨⟨kw_746, kw_747, kw_748, kw_5, kw_749⟩, by decide, by decide, by decide +kernel⟩
theorem lk_L_113 : gx_LV RL 113 yX4_frames cX4_frames 1 (some .int) 0 := ⟨⟨kw_751, kw_752, kw_753, kw_5, kw_754⟩, by decide, by decide, by decide +kernel⟩
theorem lk_L_117 : gx_LV RL 117 yX4_peak cX4_peak 8 (some .int) 3 := ⟨⟨kw_756, kw_757, kw_758, kw_5, kw_759⟩, by decide, by decide, by decide +kernel⟩
theorem lk_L_121 : gx_LV RL 121 yX4_soLong cX4_soLong 4 (some .int) 1 := ⟨⟨kw_760, kw_761, kw_762, kw_5, kw_763⟩, by decide, by decide, by decide +kernel⟩
theorem lk_X4_183 : gx_LV RX4 183 yX4_isHeldBack cX4_isHeldBack 3 (some .boolean) 2 := ⟨⟨kw_764, kw_766, ks_42, kw_5, kw_767⟩, by decide, by decide, by decide +kernel⟩
theorem lk_L_125 : gx_LV RL 125 yX4_quiet cX4_quiet 6 (some .int) 1 := ⟨⟨kw_768, kw_769, kw_770, kw_5, kw_771⟩, by decide, by decide, by decide +kernel⟩
theorem lk_X4_186 : gx_LS RX4 186 yX4_manyOf cX4_manyOf 3 (some .int) 1 := ⟨⟨kw_772, kw_773, kw_5, kw_774⟩, by decide, by decide, by decide +kernel⟩
theorem lk_X4_189 : gx_LV RX4 189 yX4_isQuiet cX4_isQuiet 4 (some .boolean) 2 := ⟨⟨kw_775, kw_777, ks_43, kw_5, kw_778⟩, by decide, by decide, by decide +kernel⟩
theorem lk_L_129 : gx_LV RL 129 yX4_many cX4_many 2 (some .int) 1 := ⟨⟨kw_779, kw_780, kw_781, kw_5, kw_782⟩, by decide, by decide, by decide +kernel⟩
theorem lk_X4_192 : gx_LV RX4 192 yX4_manyLoaded cX4_manyLoaded 3 (some .int) 0 := ⟨⟨kw_783, kw_785, ks_44, kw_5, kw_786⟩, by decide, by decide, by decide +kernel⟩
theorem lk_X4_195 : gx_LV RX4 195 yX4_manyOn cX4_manyOn 3 (some .int) 0 := ⟨⟨kw_787, kw_789, ks_45, kw_5, kw_790⟩, by decide, by decide, by decide +kernel⟩
theorem lk_X4_198 : gx_LV RX4 198 yX4_manyHeld cX4_manyHeld 3 (some .int) 0 := ⟨⟨kw_791, kw_793, ks_46, kw_5, kw_794⟩, by decide, by decide, by decide +kernel⟩
