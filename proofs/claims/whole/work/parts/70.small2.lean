/-! the small constructors -/
def zL (U : State) : Prop := (Cond.arrayOver (.array .long)).before #[] U = true
theorem zL_w : hw_Zw zL := fun s U hW h => (show (Cond.arrayOver (.array .long)).before #[] (s.setVm U.vm) = true from by rw [Cond.arrayOver_setVmC hW.alike]; exact h)
theorem mo_X0 : Cond.methodLink RX0 3 Lib.objectInit ∈ hw_TB := hw_in 86 (by decide +kernel) rfl
theorem ff_X0_9 : hw_FL RX0 9 0 6 (.array .int) true := ⟨_, _, _, rfl, by decide, hw_in 95 (by decide +kernel) rfl, by decide +kernel, rfl, fun _ => rfl⟩
theorem ff_X0_15 : hw_FL RX0 15 0 7 (.array .boolean) true := ⟨_, _, _, rfl, by decide, hw_in 97 (by decide +kernel) rfl, by decide +kernel, rfl, fun _ => rfl⟩
theorem wi_X0 : hw_WI yX0_init (Cond.code yX0_init cX0_init 1 none) 0 := ⟨⟨hw_in 85 (by decide +kernel) rfl, hw_in 84 (by decide +kernel) rfl, hw_in 59 (by decide +kernel) rfl⟩, by decide +kernel⟩
theorem df_X0 (ty : Nat → FieldType) (h : ∀ k, k < 8 → parseFieldDescriptor (TX0 k).2.2.1 = some (ty k)) : ∀ j, j < 8 → defaultValue (ty j) = cdv 2 j := by
  intro j hj
  have e : ty j = tyX0 j := Option.some.inj ((h j hj).symm.trans (tyX0_ok j hj))
  rw [e]
  rcases (show j = 0 ∨ j = 1 ∨ j = 2 ∨ j = 3 ∨ j = 4 ∨ j = 5 ∨ j = 6 ∨ j = 7 by omega) with rfl | rfl | rfl | rfl | rfl | rfl | rfl | rfl <;> rfl
theorem mo_X1 : Cond.methodLink RX1 1 Lib.objectInit ∈ hw_TB := hw_in 168 (by decide +kernel) rfl
theorem wi_X1 : hw_WI yX1_init (Cond.code yX1_init cX1_init 1 none) 0 := ⟨⟨hw_in 167 (by decide +kernel) rfl, hw_in 166 (by decide +kernel) rfl, hw_in 61 (by decide +kernel) rfl⟩, by decide +kernel⟩
theorem df_X1 (ty : Nat → FieldType) (h : ∀ k, k < 6 → parseFieldDescriptor (TX1 k).2.2.1 = some (ty k)) : ∀ j, j < 6 → defaultValue (ty j) = cdv 10 j := by
  intro j hj
  have e : ty j = tyX1 j := Option.some.inj ((h j hj).symm.trans (tyX1_ok j hj))
  rw [e]
  rcases (show j = 0 ∨ j = 1 ∨ j = 2 ∨ j = 3 ∨ j = 4 ∨ j = 5 by omega) with rfl | rfl | rfl | rfl | rfl | rfl <;> rfl
theorem mo_X2 : Cond.methodLink RX2 3 Lib.objectInit ∈ hw_TB := hw_in 193 (by decide +kernel) rfl
theorem ff_X2_11 : hw_FL RX2 11 2 0 (.array (.array .long)) true := ⟨_, _, _, rfl, by decide, hw_in 196 (by decide +kernel) rfl, by decide +kernel, rfl, fun _ => rfl⟩
theorem ff_X2_16 : hw_FL RX2 16 2 1 (.array (.array .long)) true := ⟨_, _, _, rfl, by decide, hw_in 199 (by decide +kernel) rfl, by decide +kernel, rfl, fun _ => rfl⟩
theorem wi_X2 : hw_WI yX2_init (Cond.code yX2_init cX2_init 1 none) 0 := ⟨⟨hw_in 192 (by decide +kernel) rfl, hw_in 191 (by decide +kernel) rfl, hw_in 62 (by decide +kernel) rfl⟩, by decide +kernel⟩
theorem df_X2 (ty : Nat → FieldType) (h : ∀ k, k < 2 → parseFieldDescriptor (TX2 k).2.2.1 = some (ty k)) : ∀ j, j < 2 → defaultValue (ty j) = cdv 11 j := by
  intro j hj
  have e : ty j = tyX2 j := Option.some.inj ((h j hj).symm.trans (tyX2_ok j hj))
  rw [e]
  rcases (show j = 0 ∨ j = 1 by omega) with rfl | rfl <;> rfl
theorem mo_X3 : Cond.methodLink RX3 3 Lib.objectInit ∈ hw_TB := hw_in 124 (by decide +kernel) rfl
theorem ff_X3_9 : hw_FL RX3 9 3 8 (.array .int) true := ⟨_, _, _, rfl, by decide, hw_in 137 (by decide +kernel) rfl, by decide +kernel, rfl, fun _ => rfl⟩
theorem ff_X3_15 : hw_FL RX3 15 3 9 (.array .int) true := ⟨_, _, _, rfl, by decide, hw_in 139 (by decide +kernel) rfl, by decide +kernel, rfl, fun _ => rfl⟩
theorem wi_X3 : hw_WI yX3_init (Cond.code yX3_init cX3_init 1 none) 0 := ⟨⟨hw_in 123 (by decide +kernel) rfl, hw_in 122 (by decide +kernel) rfl, hw_in 60 (by decide +kernel) rfl⟩, by decide +kernel⟩
theorem df_X3 (ty : Nat → FieldType) (h : ∀ k, k < 10 → parseFieldDescriptor (TX3 k).2.2.1 = some (ty k)) : ∀ j, j < 10 → defaultValue (ty j) = cdv 6 j := by
  intro j hj
  have e : ty j = tyX3 j := Option.some.inj ((h j hj).symm.trans (tyX3_ok j hj))
  rw [e]
  rcases (show j = 0 ∨ j = 1 ∨ j = 2 ∨ j = 3 ∨ j = 4 ∨ j = 5 ∨ j = 6 ∨ j = 7 ∨ j = 8 ∨ j = 9 by omega) with rfl | rfl | rfl | rfl | rfl | rfl | rfl | rfl | rfl | rfl <;> rfl
theorem mo_X4 : Cond.methodLink RX4 3 Lib.objectInit ∈ hw_TB := hw_in 212 (by decide +kernel) rfl
theorem ff_X4_9 : hw_FL RX4 9 4 2 (.array .boolean) true := ⟨_, _, _, rfl, by decide, hw_in 215 (by decide +kernel) rfl, by decide +kernel, rfl, fun _ => rfl⟩
theorem ff_X4_15 : hw_FL RX4 15 4 3 (.array .boolean) true := ⟨_, _, _, rfl, by decide, hw_in 216 (by decide +kernel) rfl, by decide +kernel, rfl, fun _ => rfl⟩
theorem ff_X4_18 : hw_FL RX4 18 4 4 (.array .boolean) true := ⟨_, _, _, rfl, by decide, hw_in 217 (by decide +kernel) rfl, by decide +kernel, rfl, fun _ => rfl⟩
theorem ff_X4_21 : hw_FL RX4 21 4 5 (.array .int) true := ⟨_, _, _, rfl, by decide, hw_in 218 (by decide +kernel) rfl, by decide +kernel, rfl, fun _ => rfl⟩
theorem ff_X4_25 : hw_FL RX4 25 4 6 (.array .int) true := ⟨_, _, _, rfl, by decide, hw_in 220 (by decide +kernel) rfl, by decide +kernel, rfl, fun _ => rfl⟩
theorem ff_X4_28 : hw_FL RX4 28 4 7 (.array .int) true := ⟨_, _, _, rfl, by decide, hw_in 221 (by decide +kernel) rfl, by decide +kernel, rfl, fun _ => rfl⟩
theorem ff_X4_31 : hw_FL RX4 31 4 0 (.array (.object "HundiHall$Broker")) true := ⟨_, _, _, rfl, by decide, hw_in 213 (by decide +kernel) rfl, by decide +kernel, rfl, fun _ => rfl⟩
theorem ff_X4_35 : hw_FL RX4 35 4 1 (.object "HundiHall$Ledger") true := ⟨_, _, _, rfl, by decide, hw_in 214 (by decide +kernel) rfl, by decide +kernel, rfl, fun _ => rfl⟩
theorem wi_X4 : hw_WI yX4_init (Cond.code yX4_init cX4_init 3 none) 2 := ⟨⟨hw_in 211 (by decide +kernel) rfl, hw_in 210 (by decide +kernel) rfl, hw_in 63 (by decide +kernel) rfl⟩, by decide +kernel⟩
theorem df_X4 (ty : Nat → FieldType) (h : ∀ k, k < 11 → parseFieldDescriptor (TX4 k).2.2.1 = some (ty k)) : ∀ j, j < 11 → defaultValue (ty j) = cdv 16 j := by
  intro j hj
  have e : ty j = tyX4 j := Option.some.inj ((h j hj).symm.trans (tyX4_ok j hj))
  rw [e]
  rcases (show j = 0 ∨ j = 1 ∨ j = 2 ∨ j = 3 ∨ j = 4 ∨ j = 5 ∨ j = 6 ∨ j = 7 ∨ j = 8 ∨ j = 9 ∨ j = 10 by omega) with rfl | rfl | rfl | rfl | rfl | rfl | rfl | rfl | rfl | rfl | rfl <;> rfl
theorem mo_X5 : Cond.methodLink RX5 1 Lib.objectInit ∈ hw_TB := hw_in 77 (by decide +kernel) rfl
theorem ff_X5_11 : hw_FL RX5 11 5 0 (.array (.object "HundiHall$Broker")) true := ⟨_, _, _, rfl, by decide, hw_in 253 (by decide +kernel) rfl, by decide +kernel, rfl, fun _ => rfl⟩
theorem ff_X5_18 : hw_FL RX5 18 5 1 (.array (.object "HundiHall$Order")) true := ⟨_, _, _, rfl, by decide, hw_in 254 (by decide +kernel) rfl, by decide +kernel, rfl, fun _ => rfl⟩
theorem ff_X5_25 : hw_FL RX5 25 5 2 (.array (.object "HundiHall$Courier")) true := ⟨_, _, _, rfl, by decide, hw_in 255 (by decide +kernel) rfl, by decide +kernel, rfl, fun _ => rfl⟩
theorem ff_X5_33 : hw_FL RX5 33 5 3 (.object "HundiHall$Ledger") true := ⟨_, _, _, rfl, by decide, hw_in 256 (by decide +kernel) rfl, by decide +kernel, rfl, fun _ => rfl⟩
theorem ff_X5_42 : hw_FL RX5 42 5 4 (.object "HundiHall$WayFinder") true := ⟨_, _, _, rfl, by decide, hw_in 257 (by decide +kernel) rfl, by decide +kernel, rfl, fun _ => rfl⟩
theorem ff_X5_46 : hw_FL RX5 46 5 5 (.array .int) true := ⟨_, _, _, rfl, by decide, hw_in 258 (by decide +kernel) rfl, by decide +kernel, rfl, fun _ => rfl⟩
theorem ff_X5_51 : hw_FL RX5 51 5 6 (.array .int) true := ⟨_, _, _, rfl, by decide, hw_in 259 (by decide +kernel) rfl, by decide +kernel, rfl, fun _ => rfl⟩
theorem ff_X5_54 : hw_FL RX5 54 5 7 (.array .boolean) true := ⟨_, _, _, rfl, by decide, hw_in 260 (by decide +kernel) rfl, by decide +kernel, rfl, fun _ => rfl⟩
theorem wi_X5 : hw_WI yX5_init (Cond.code yX5_init cX5_init 2 none) 0 := ⟨⟨hw_in 76 (by decide +kernel) rfl, hw_in 75 (by decide +kernel) rfl, hw_in 58 (by decide +kernel) rfl⟩, by decide +kernel⟩
theorem df_X5 (ty : Nat → FieldType) (h : ∀ k, k < 14 → parseFieldDescriptor (TX5 k).2.2.1 = some (ty k)) : ∀ j, j < 14 → defaultValue (ty j) = cdv 0 j := by
  intro j hj
  have e : ty j = tyX5 j := Option.some.inj ((h j hj).symm.trans (tyX5_ok j hj))
  rw [e]
  rcases (show j = 0 ∨ j = 1 ∨ j = 2 ∨ j = 3 ∨ j = 4 ∨ j = 5 ∨ j = 6 ∨ j = 7 ∨ j = 8 ∨ j = 9 ∨ j = 10 ∨ j = 11 ∨ j = 12 ∨ j = 13 by omega) with rfl | rfl | rfl | rfl | rfl | rfl | rfl | rfl | rfl | rfl | rfl | rfl | rfl | rfl <;> rfl
theorem mo_X6 : Cond.methodLink RX6 1 Lib.objectInit ∈ hw_TB := hw_in 779 (by decide +kernel) rfl
theorem ff_X6_7 : hw_FL RX6 7 6 4 (.array .int) true := ⟨_, _, _, rfl, by decide, hw_in 785 (by decide +kernel) rfl, by decide +kernel, rfl, fun _ => rfl⟩
theorem ff_X6_13 : hw_FL RX6 13 6 5 (.array .long) true := ⟨_, _, _, rfl, by decide, hw_in 786 (by decide +kernel) rfl, by decide +kernel, rfl, fun _ => rfl⟩
theorem ff_X6_17 : hw_FL RX6 17 6 6 (.array .int) true := ⟨_, _, _, rfl, by decide, hw_in 787 (by decide +kernel) rfl, by decide +kernel, rfl, fun _ => rfl⟩
theorem ff_X6_20 : hw_FL RX6 20 6 7 (.array .int) true := ⟨_, _, _, rfl, by decide, hw_in 788 (by decide +kernel) rfl, by decide +kernel, rfl, fun _ => rfl⟩
theorem ff_X6_23 : hw_FL RX6 23 6 8 (.array .int) true := ⟨_, _, _, rfl, by decide, hw_in 789 (by decide +kernel) rfl, by decide +kernel, rfl, fun _ => rfl⟩
theorem ff_X6_26 : hw_FL RX6 26 6 9 (.array .boolean) true := ⟨_, _, _, rfl, by decide, hw_in 790 (by decide +kernel) rfl, by decide +kernel, rfl, fun _ => rfl⟩
theorem ff_X6_30 : hw_FL RX6 30 6 10 (.array .int) true := ⟨_, _, _, rfl, by decide, hw_in 791 (by decide +kernel) rfl, by decide +kernel, rfl, fun _ => rfl⟩
theorem ff_X6_33 : hw_FL RX6 33 6 11 (.array .boolean) true := ⟨_, _, _, rfl, by decide, hw_in 792 (by decide +kernel) rfl, by decide +kernel, rfl, fun _ => rfl⟩
theorem ff_X6_36 : hw_FL RX6 36 6 12 (.array .long) true := ⟨_, _, _, rfl, by decide, hw_in 793 (by decide +kernel) rfl, by decide +kernel, rfl, fun _ => rfl⟩
theorem ff_X6_39 : hw_FL RX6 39 6 13 (.array .long) true := ⟨_, _, _, rfl, by decide, hw_in 794 (by decide +kernel) rfl, by decide +kernel, rfl, fun _ => rfl⟩
theorem ff_X6_42 : hw_FL RX6 42 6 15 (.array .int) true := ⟨_, _, _, rfl, by decide, hw_in 796 (by decide +kernel) rfl, by decide +kernel, rfl, fun _ => rfl⟩
theorem ff_X6_45 : hw_FL RX6 45 6 16 (.array .int) true := ⟨_, _, _, rfl, by decide, hw_in 797 (by decide +kernel) rfl, by decide +kernel, rfl, fun _ => rfl⟩
theorem ff_X6_48 : hw_FL RX6 48 6 17 (.array .int) true := ⟨_, _, _, rfl, by decide, hw_in 798 (by decide +kernel) rfl, by decide +kernel, rfl, fun _ => rfl⟩
theorem ff_X6_51 : hw_FL RX6 51 6 18 (.array .int) true := ⟨_, _, _, rfl, by decide, hw_in 799 (by decide +kernel) rfl, by decide +kernel, rfl, fun _ => rfl⟩
theorem ff_X6_54 : hw_FL RX6 54 6 19 (.array .int) true := ⟨_, _, _, rfl, by decide, hw_in 800 (by decide +kernel) rfl, by decide +kernel, rfl, fun _ => rfl⟩
theorem ff_X6_57 : hw_FL RX6 57 6 20 (.array .int) true := ⟨_, _, _, rfl, by decide, hw_in 801 (by decide +kernel) rfl, by decide +kernel, rfl, fun _ => rfl⟩
theorem ff_X6_60 : hw_FL RX6 60 6 21 (.array .int) true := ⟨_, _, _, rfl, by decide, hw_in 802 (by decide +kernel) rfl, by decide +kernel, rfl, fun _ => rfl⟩
theorem ff_X6_63 : hw_FL RX6 63 6 22 (.array .int) true := ⟨_, _, _, rfl, by decide, hw_in 803 (by decide +kernel) rfl, by decide +kernel, rfl, fun _ => rfl⟩
theorem ff_X6_66 : hw_FL RX6 66 6 23 (.array .int) true := ⟨_, _, _, rfl, by decide, hw_in 804 (by decide +kernel) rfl, by decide +kernel, rfl, fun _ => rfl⟩
theorem ff_X6_69 : hw_FL RX6 69 6 24 (.array .int) true := ⟨_, _, _, rfl, by decide, hw_in 805 (by decide +kernel) rfl, by decide +kernel, rfl, fun _ => rfl⟩
theorem ff_X6_72 : hw_FL RX6 72 6 26 (.array .int) true := ⟨_, _, _, rfl, by decide, hw_in 807 (by decide +kernel) rfl, by decide +kernel, rfl, fun _ => rfl⟩
theorem ff_X6_75 : hw_FL RX6 75 6 27 (.array .int) true := ⟨_, _, _, rfl, by decide, hw_in 808 (by decide +kernel) rfl, by decide +kernel, rfl, fun _ => rfl⟩
theorem ff_X6_78 : hw_FL RX6 78 6 28 (.array .int) true := ⟨_, _, _, rfl, by decide, hw_in 809 (by decide +kernel) rfl, by decide +kernel, rfl, fun _ => rfl⟩
theorem ff_X6_81 : hw_FL RX6 81 6 29 (.array .int) true := ⟨_, _, _, rfl, by decide, hw_in 810 (by decide +kernel) rfl, by decide +kernel, rfl, fun _ => rfl⟩
theorem ff_X6_84 : hw_FL RX6 84 6 30 (.array .boolean) true := ⟨_, _, _, rfl, by decide, hw_in 811 (by decide +kernel) rfl, by decide +kernel, rfl, fun _ => rfl⟩
theorem ff_X6_88 : hw_FL RX6 88 6 31 (.array .int) true := ⟨_, _, _, rfl, by decide, hw_in 812 (by decide +kernel) rfl, by decide +kernel, rfl, fun _ => rfl⟩
theorem ff_X6_91 : hw_FL RX6 91 6 32 (.array .int) true := ⟨_, _, _, rfl, by decide, hw_in 813 (by decide +kernel) rfl, by decide +kernel, rfl, fun _ => rfl⟩
theorem ff_X6_94 : hw_FL RX6 94 6 33 (.array .boolean) true := ⟨_, _, _, rfl, by decide, hw_in 814 (by decide +kernel) rfl, by decide +kernel, rfl, fun _ => rfl⟩
theorem ff_X6_97 : hw_FL RX6 97 6 34 (.array .long) true := ⟨_, _, _, rfl, by decide, hw_in 815 (by decide +kernel) rfl, by decide +kernel, rfl, fun _ => rfl⟩
theorem ff_X6_100 : hw_FL RX6 100 6 35 (.array .long) true := ⟨_, _, _, rfl, by decide, hw_in 816 (by decide +kernel) rfl, by decide +kernel, rfl, fun _ => rfl⟩
theorem ff_X6_103 : hw_FL RX6 103 6 36 (.array .int) true := ⟨_, _, _, rfl, by decide, hw_in 817 (by decide +kernel) rfl, by decide +kernel, rfl, fun _ => rfl⟩
theorem ff_X6_106 : hw_FL RX6 106 6 37 (.array .int) true := ⟨_, _, _, rfl, by decide, hw_in 818 (by decide +kernel) rfl, by decide +kernel, rfl, fun _ => rfl⟩
theorem wi_X6 : hw_WI yX6_init (Cond.code yX6_init cX6_init 1 none) 0 := ⟨⟨hw_in 778 (by decide +kernel) rfl, hw_in 777 (by decide +kernel) rfl, hw_in 64 (by decide +kernel) rfl⟩, by decide +kernel⟩
theorem df_X6 (ty : Nat → FieldType) (h : ∀ k, k < 38 → parseFieldDescriptor (TX6 k).2.2.1 = some (ty k)) : ∀ j, j < 38 → defaultValue (ty j) = cdv 26 j := by
  intro j hj
  have e : ty j = tyX6 j := Option.some.inj ((h j hj).symm.trans (tyX6_ok j hj))
  rw [e]
  rcases (show j = 0 ∨ j = 1 ∨ j = 2 ∨ j = 3 ∨ j = 4 ∨ j = 5 ∨ j = 6 ∨ j = 7 ∨ j = 8 ∨ j = 9 ∨ j = 10 ∨ j = 11 ∨ j = 12 ∨ j = 13 ∨ j = 14 ∨ j = 15 ∨ j = 16 ∨ j = 17 ∨ j = 18 ∨ j = 19 ∨ j = 20 ∨ j = 21 ∨ j = 22 ∨ j = 23 ∨ j = 24 ∨ j = 25 ∨ j = 26 ∨ j = 27 ∨ j = 28 ∨ j = 29 ∨ j = 30 ∨ j = 31 ∨ j = 32 ∨ j = 33 ∨ j = 34 ∨ j = 35 ∨ j = 36 ∨ j = 37 by omega) with rfl | rfl | rfl | rfl | rfl | rfl | rfl | rfl | rfl | rfl | rfl | rfl | rfl | rfl | rfl | rfl | rfl | rfl | rfl | rfl | rfl | rfl | rfl | rfl | rfl | rfl | rfl | rfl | rfl | rfl | rfl | rfl | rfl | rfl | rfl | rfl | rfl | rfl <;> rfl
theorem ac_I : Cond.arrayClass .int ∈ hw_TB := hw_in 116 (by decide +kernel) rfl
theorem ac_J : Cond.arrayClass .long ∈ hw_TB := hw_in 206 (by decide +kernel) rfl
theorem ac_Z : Cond.arrayClass .boolean ∈ hw_TB := hw_in 117 (by decide +kernel) rfl
theorem cl_X2_9 : Cond.classLink RX2 9 "[[J" ∈ hw_TB := hw_in 194 (by decide +kernel) rfl
abbrev rN_X0 : Room := { frames := 1, cells := 2, slots := 24, locals := 20 }
set_option maxHeartbeats 4000000 in
set_option maxRecDepth 100000 in
theorem mN_X0 {l : Launch} {D : va_G} {b0 : Nat} {i : Nat} (hi9 : i < 12) : hw_M l yX0_init cX0_init 1 none rN_X0 D b0 true (2 + 3 * i + 1) [.ref (hw_ad b0 2 i)] (cv b0 (2 + 3 * i)) true (2 + 3 * i + 1 + 1 + 1) none (cv b0 (2 + 3 * i + 1 + 1)) 2 24 := by
  refine hw_Mof (by decide) [(0, .ref _)] rfl (Nat.le_of_ble_eq_true rfl) ?_
  intro p e s m args below meth c C hr hlk hnm
  have hin : meth.name = "<init>" := hnm
  refine hq_aload_n (q := 0) C dX0_init_0 rfl rfl ?_
  refine hq_objInit C mo_X0 dX0_init_1 (Nat.le_of_ble_eq_true rfl) (Nat.le_of_ble_eq_true rfl) ?_
  refine hq_aload_n (q := 0) C dX0_init_4 rfl rfl ?_
  refine hq_bipush (y := 12) C dX0_init_5 (by decide) ?_
  refine hq_newa (f := 3) (i := i) (N := 12) (atype := .int) C 0 rfl ac_I rfl rfl (by show 3 + 3 * i = 2 + 3 * i + 1; omega) hi9 rfl (by decide) (by decide) dX0_init_7 (fun j hj => Eq.trans (show defaultValue (newarray.typeOf .int) = cdv 3 j from rfl) (cv_d (b0 := b0) (t := 2 + 3 * i) (f := 3) (i := i) (j := j) ⟨by decide, by decide⟩ hi9 hj (Or.inl rfl)).symm) (Nat.le_of_ble_eq_true rfl) (Nat.le_of_ble_eq_true rfl) ?_
  refine hq_putF (f := 2) (i := i) (j := 6) (v' := cv b0 (2 + 3 * i + 1)) C ff_X0_9 hin dX0_init_9 rfl rfl (by decide) hi9 (by show 2 + 3 * i < 2 + 3 * i + 1 + 1; omega) rfl rfl (cv_U hi9 (by decide) (by show 2 + 3 * i = 2 + 3 * i; omega) (by omega) rfl) ?_
  refine hq_aload_n (q := 0) C dX0_init_12 rfl rfl ?_
  refine hq_bipush (y := 12) C dX0_init_13 (by decide) ?_
  refine hq_newa (f := 4) (i := i) (N := 12) (atype := .boolean) C 2 rfl ac_Z rfl rfl (by show 4 + 3 * i = 2 + 3 * i + 1 + 1; omega) hi9 rfl (by decide) (by decide) dX0_init_15 (fun j hj => Eq.trans (show defaultValue (newarray.typeOf .boolean) = cdv 4 j from rfl) (cv_d (b0 := b0) (t := 2 + 3 * i + 1) (f := 4) (i := i) (j := j) ⟨by decide, by decide⟩ hi9 hj (Or.inl rfl)).symm) (Nat.le_of_ble_eq_true rfl) (Nat.le_of_ble_eq_true rfl) ?_
  refine hq_putF (f := 2) (i := i) (j := 7) (v' := cv b0 (2 + 3 * i + 1 + 1)) C ff_X0_15 hin dX0_init_17 rfl rfl (by decide) hi9 (by show 2 + 3 * i < 2 + 3 * i + 1 + 1 + 1; omega) rfl rfl (cv_U hi9 (by decide) (by show 3 + 3 * i = 2 + 3 * i + 1; omega) (by omega) rfl) ?_
  exact hq_vret C hr hlk dX0_init_20 rfl
abbrev rN_X3 : Room := { frames := 1, cells := 2, slots := 24, locals := 20 }
set_option maxHeartbeats 4000000 in
set_option maxRecDepth 100000 in
theorem mN_X3 {l : Launch} {D : va_G} {b0 : Nat} {i : Nat} (hi9 : i < 40) : hw_M l yX3_init cX3_init 1 none rN_X3 D b0 true (39 + 3 * i + 1) [.ref (hw_ad b0 6 i)] (cv b0 (39 + 3 * i)) true (39 + 3 * i + 1 + 1 + 1) none (cv b0 (39 + 3 * i + 1 + 1)) 2 24 := by
  refine hw_Mof (by decide) [(0, .ref _)] rfl (Nat.le_of_ble_eq_true rfl) ?_
  intro p e s m args below meth c C hr hlk hnm
  have hin : meth.name = "<init>" := hnm
  refine hq_aload_n (q := 0) C dX3_init_0 rfl rfl ?_
  refine hq_objInit C mo_X3 dX3_init_1 (Nat.le_of_ble_eq_true rfl) (Nat.le_of_ble_eq_true rfl) ?_
  refine hq_aload_n (q := 0) C dX3_init_4 rfl rfl ?_
  refine hq_bipush (y := 12) C dX3_init_5 (by decide) ?_
  refine hq_newa (f := 7) (i := i) (N := 12) (atype := .int) C 0 rfl ac_I rfl rfl (by show 40 + 3 * i = 39 + 3 * i + 1; omega) hi9 rfl (by decide) (by decide) dX3_init_7 (fun j hj => Eq.trans (show defaultValue (newarray.typeOf .int) = cdv 7 j from rfl) (cv_d (b0 := b0) (t := 39 + 3 * i) (f := 7) (i := i) (j := j) ⟨by decide, by decide⟩ hi9 hj (Or.inl rfl)).symm) (Nat.le_of_ble_eq_true rfl) (Nat.le_of_ble_eq_true rfl) ?_
  refine hq_putF (f := 6) (i := i) (j := 8) (v' := cv b0 (39 + 3 * i + 1)) C ff_X3_9 hin dX3_init_9 rfl rfl (by decide) hi9 (by show 39 + 3 * i < 39 + 3 * i + 1 + 1; omega) rfl rfl (cv_U hi9 (by decide) (by show 39 + 3 * i = 39 + 3 * i; omega) (by omega) rfl) ?_
  refine hq_aload_n (q := 0) C dX3_init_12 rfl rfl ?_
  refine hq_bipush (y := 12) C dX3_init_13 (by decide) ?_
  refine hq_newa (f := 8) (i := i) (N := 12) (atype := .int) C 0 rfl ac_I rfl rfl (by show 41 + 3 * i = 39 + 3 * i + 1 + 1; omega) hi9 rfl (by decide) (by decide) dX3_init_15 (fun j hj => Eq.trans (show defaultValue (newarray.typeOf .int) = cdv 8 j from rfl) (cv_d (b0 := b0) (t := 39 + 3 * i + 1) (f := 8) (i := i) (j := j) ⟨by decide, by decide⟩ hi9 hj (Or.inl rfl)).symm) (Nat.le_of_ble_eq_true rfl) (Nat.le_of_ble_eq_true rfl) ?_
  refine hq_putF (f := 6) (i := i) (j := 9) (v' := cv b0 (39 + 3 * i + 1 + 1)) C ff_X3_15 hin dX3_init_17 rfl rfl (by decide) hi9 (by show 39 + 3 * i < 39 + 3 * i + 1 + 1 + 1; omega) rfl rfl (cv_U hi9 (by decide) (by show 40 + 3 * i = 39 + 3 * i + 1; omega) (by omega) rfl) ?_
  exact hq_vret C hr hlk dX3_init_20 rfl
abbrev rN_X1 : Room := { frames := 1, cells := 0, slots := 0, locals := 20 }
set_option maxHeartbeats 4000000 in
set_option maxRecDepth 100000 in
theorem mN_X1 {l : Launch} {D : va_G} {b0 : Nat} {i : Nat} (hi9 : i < 40) : hw_M l yX1_init cX1_init 1 none rN_X1 D b0 true (160 + 1 * i + 1) [.ref (hw_ad b0 10 i)] (cv b0 (160 + 1 * i)) true (160 + 1 * i + 1) none (cv b0 (160 + 1 * i)) 0 0 := by
  refine hw_Mof (by decide) [(0, .ref _)] rfl (Nat.le_of_ble_eq_true rfl) ?_
  intro p e s m args below meth c C hr hlk hnm
  have hin : meth.name = "<init>" := hnm
  refine hq_aload_n (q := 0) C dX1_init_0 rfl rfl ?_
  refine hq_objInit C mo_X1 dX1_init_1 (Nat.le_of_ble_eq_true rfl) (Nat.le_of_ble_eq_true rfl) ?_
  exact hq_vret C hr hlk dX1_init_4 rfl
abbrev rN_X4 : Room := { frames := 1, cells := 6, slots := 72, locals := 20 }
set_option maxHeartbeats 4000000 in
set_option maxRecDepth 100000 in
theorem mN_X4 {l : Launch} {D : va_G} {b0 : Nat}  : hw_M l yX4_init cX4_init 3 none rN_X4 D b0 true (228) [.ref (hw_ad b0 16 0), .ref (hw_ad b0 1 0), .ref (hw_ad b0 11 0)] (cv b0 (203)) true (228 + 1 + 1 + 1 + 1 + 1 + 1) none (cv b0 (203 + 1 + 1 + 1 + 1 + 1 + 1 + 1 + 1)) 6 72 := by
  refine hw_Mof (by decide) [(0, .ref _), (1, .ref _), (2, .ref _)] rfl (Nat.le_of_ble_eq_true rfl) ?_
  intro p e s m args below meth c C hr hlk hnm
  have hin : meth.name = "<init>" := hnm
  refine hq_aload_n (q := 0) C dX4_init_0 rfl rfl ?_
  refine hq_objInit C mo_X4 dX4_init_1 (Nat.le_of_ble_eq_true rfl) (Nat.le_of_ble_eq_true rfl) ?_
  refine hq_aload_n (q := 0) C dX4_init_4 rfl rfl ?_
  refine hq_bipush (y := 12) C dX4_init_5 (by decide) ?_
  refine hq_newa (f := 17) (i := 0) (N := 12) (atype := .boolean) C 2 rfl ac_Z rfl rfl rfl (by decide) rfl (by decide) (by decide) dX4_init_7 (fun j hj => Eq.trans (show defaultValue (newarray.typeOf .boolean) = cdv 17 j from rfl) (cv_d (b0 := b0) (t := 203) (f := 17) (i := 0) (j := j) ⟨by decide, by decide⟩ (by decide) hj (Or.inl rfl)).symm) (Nat.le_of_ble_eq_true rfl) (Nat.le_of_ble_eq_true rfl) ?_
  refine hq_putF (f := 16) (i := 0) (j := 2) (v' := cv b0 (203 + 1)) C ff_X4_9 hin dX4_init_9 rfl rfl (by decide) (by decide) (by decide) rfl rfl (cv_U (by decide) (by decide) rfl (by omega) rfl) ?_
  refine hq_aload_n (q := 0) C dX4_init_12 rfl rfl ?_
  refine hq_bipush (y := 12) C dX4_init_13 (by decide) ?_
  refine hq_newa (f := 18) (i := 0) (N := 12) (atype := .boolean) C 2 rfl ac_Z rfl rfl rfl (by decide) rfl (by decide) (by decide) dX4_init_15 (fun j hj => Eq.trans (show defaultValue (newarray.typeOf .boolean) = cdv 18 j from rfl) (cv_d (b0 := b0) (t := 203 + 1) (f := 18) (i := 0) (j := j) ⟨by decide, by decide⟩ (by decide) hj (Or.inl rfl)).symm) (Nat.le_of_ble_eq_true rfl) (Nat.le_of_ble_eq_true rfl) ?_
  refine hq_putF (f := 16) (i := 0) (j := 3) (v' := cv b0 (203 + 1 + 1)) C ff_X4_15 hin dX4_init_17 rfl rfl (by decide) (by decide) (by decide) rfl rfl (cv_U (by decide) (by decide) rfl (by omega) rfl) ?_
  refine hq_aload_n (q := 0) C dX4_init_20 rfl rfl ?_
  refine hq_bipush (y := 12) C dX4_init_21 (by decide) ?_
  refine hq_newa (f := 19) (i := 0) (N := 12) (atype := .boolean) C 2 rfl ac_Z rfl rfl rfl (by decide) rfl (by decide) (by decide) dX4_init_23 (fun j hj => Eq.trans (show defaultValue (newarray.typeOf .boolean) = cdv 19 j from rfl) (cv_d (b0 := b0) (t := 203 + 1 + 1) (f := 19) (i := 0) (j := j) ⟨by decide, by decide⟩ (by decide) hj (Or.inl rfl)).symm) (Nat.le_of_ble_eq_true rfl) (Nat.le_of_ble_eq_true rfl) ?_
  refine hq_putF (f := 16) (i := 0) (j := 4) (v' := cv b0 (203 + 1 + 1 + 1)) C ff_X4_18 hin dX4_init_25 rfl rfl (by decide) (by decide) (by decide) rfl rfl (cv_U (by decide) (by decide) rfl (by omega) rfl) ?_
  refine hq_aload_n (q := 0) C dX4_init_28 rfl rfl ?_
  refine hq_bipush (y := 12) C dX4_init_29 (by decide) ?_
  refine hq_newa (f := 20) (i := 0) (N := 12) (atype := .int) C 0 rfl ac_I rfl rfl rfl (by decide) rfl (by decide) (by decide) dX4_init_31 (fun j hj => Eq.trans (show defaultValue (newarray.typeOf .int) = cdv 20 j from rfl) (cv_d (b0 := b0) (t := 203 + 1 + 1 + 1) (f := 20) (i := 0) (j := j) ⟨by decide, by decide⟩ (by decide) hj (Or.inl rfl)).symm) (Nat.le_of_ble_eq_true rfl) (Nat.le_of_ble_eq_true rfl) ?_
  refine hq_putF (f := 16) (i := 0) (j := 5) (v' := cv b0 (203 + 1 + 1 + 1 + 1)) C ff_X4_21 hin dX4_init_33 rfl rfl (by decide) (by decide) (by decide) rfl rfl (cv_U (by decide) (by decide) rfl (by omega) rfl) ?_
  refine hq_aload_n (q := 0) C dX4_init_36 rfl rfl ?_
  refine hq_bipush (y := 12) C dX4_init_37 (by decide) ?_
  refine hq_newa (f := 21) (i := 0) (N := 12) (atype := .int) C 0 rfl ac_I rfl rfl rfl (by decide) rfl (by decide) (by decide) dX4_init_39 (fun j hj => Eq.trans (show defaultValue (newarray.typeOf .int) = cdv 21 j from rfl) (cv_d (b0 := b0) (t := 203 + 1 + 1 + 1 + 1) (f := 21) (i := 0) (j := j) ⟨by decide, by decide⟩ (by decide) hj (Or.inl rfl)).symm) (Nat.le_of_ble_eq_true rfl) (Nat.le_of_ble_eq_true rfl) ?_
  refine hq_putF (f := 16) (i := 0) (j := 6) (v' := cv b0 (203 + 1 + 1 + 1 + 1 + 1)) C ff_X4_25 hin dX4_init_41 rfl rfl (by decide) (by decide) (by decide) rfl rfl (cv_U (by decide) (by decide) rfl (by omega) rfl) ?_
  refine hq_aload_n (q := 0) C dX4_init_44 rfl rfl ?_
  refine hq_bipush (y := 12) C dX4_init_45 (by decide) ?_
  refine hq_newa (f := 22) (i := 0) (N := 12) (atype := .int) C 0 rfl ac_I rfl rfl rfl (by decide) rfl (by decide) (by decide) dX4_init_47 (fun j hj => Eq.trans (show defaultValue (newarray.typeOf .int) = cdv 22 j from rfl) (cv_d (b0 := b0) (t := 203 + 1 + 1 + 1 + 1 + 1) (f := 22) (i := 0) (j := j) ⟨by decide, by decide⟩ (by decide) hj (Or.inl rfl)).symm) (Nat.le_of_ble_eq_true rfl) (Nat.le_of_ble_eq_true rfl) ?_
  refine hq_putF (f := 16) (i := 0) (j := 7) (v' := cv b0 (203 + 1 + 1 + 1 + 1 + 1 + 1)) C ff_X4_28 hin dX4_init_49 rfl rfl (by decide) (by decide) (by decide) rfl rfl (cv_U (by decide) (by decide) rfl (by omega) rfl) ?_
  refine hq_aload_n (q := 0) C dX4_init_52 rfl rfl ?_
  refine hq_aload_n (q := 1) C dX4_init_53 rfl rfl ?_
  refine hq_putF (f := 16) (i := 0) (j := 0) (v' := cv b0 (203 + 1 + 1 + 1 + 1 + 1 + 1 + 1)) C ff_X4_31 hin dX4_init_54 rfl rfl (by decide) (by decide) (by decide) rfl rfl (cv_U (by decide) (by decide) rfl (by omega) rfl) ?_
  refine hq_aload_n (q := 0) C dX4_init_57 rfl rfl ?_
  refine hq_aload_n (q := 2) C dX4_init_58 rfl rfl ?_
  refine hq_putF (f := 16) (i := 0) (j := 1) (v' := cv b0 (203 + 1 + 1 + 1 + 1 + 1 + 1 + 1 + 1)) C ff_X4_35 hin dX4_init_59 rfl rfl (by decide) (by decide) (by decide) rfl rfl (cv_U (by decide) (by decide) rfl (by omega) rfl) ?_
  exact hq_vret C hr hlk dX4_init_62 rfl
abbrev rN_X6 : Room := { frames := 1, cells := 32, slots := 2210, locals := 20 }
set_option maxHeartbeats 4000000 in
set_option maxRecDepth 100000 in
theorem mN_X6 {l : Launch} {D : va_G} {b0 : Nat}  : hw_M l yX6_init cX6_init 1 none rN_X6 D b0 true (238) [.ref (hw_ad b0 26 0)] (cv b0 (223)) true (238 + 1 + 1 + 1 + 1 + 1 + 1 + 1 + 1 + 1 + 1 + 1 + 1 + 1 + 1 + 1 + 1 + 1 + 1 + 1 + 1 + 1 + 1 + 1 + 1 + 1 + 1 + 1 + 1 + 1 + 1 + 1 + 1) none (cv b0 (223 + 1 + 1 + 1 + 1 + 1 + 1 + 1 + 1 + 1 + 1 + 1 + 1 + 1 + 1 + 1 + 1 + 1 + 1 + 1 + 1 + 1 + 1 + 1 + 1 + 1 + 1 + 1 + 1 + 1 + 1 + 1 + 1 + 1 + 1 + 1 + 1 + 1 + 1 + 1 + 1)) 32 2210 := by
  refine hw_Mof (by decide) [(0, .ref _)] rfl (Nat.le_of_ble_eq_true rfl) ?_
  intro p e s m args below meth c C hr hlk hnm
  have hin : meth.name = "<init>" := hnm
  refine hq_aload_n (q := 0) C dX6_init_0 rfl rfl ?_
  refine hq_objInit C mo_X6 dX6_init_1 (Nat.le_of_ble_eq_true rfl) (Nat.le_of_ble_eq_true rfl) ?_
  refine hq_aload_n (q := 0) C dX6_init_4 rfl rfl ?_
  refine hq_bipush (y := 12) C dX6_init_5 (by decide) ?_
  refine hq_newa (f := 27) (i := 0) (N := 12) (atype := .int) C 0 rfl ac_I rfl rfl rfl (by decide) rfl (by decide) (by decide) dX6_init_7 (fun j hj => Eq.trans (show defaultValue (newarray.typeOf .int) = cdv 27 j from rfl) (cv_d (b0 := b0) (t := 223) (f := 27) (i := 0) (j := j) ⟨by decide, by decide⟩ (by decide) hj (Or.inl rfl)).symm) (Nat.le_of_ble_eq_true rfl) (Nat.le_of_ble_eq_true rfl) ?_
  refine hq_putF (f := 26) (i := 0) (j := 4) (v' := cv b0 (223 + 1)) C ff_X6_7 hin dX6_init_9 rfl rfl (by decide) (by decide) (by decide) rfl rfl (cv_U (by decide) (by decide) rfl (by omega) rfl) ?_
  refine hq_aload_n (q := 0) C dX6_init_12 rfl rfl ?_
  refine hq_bipush (y := 12) C dX6_init_13 (by decide) ?_
  refine hq_newa (f := 28) (i := 0) (N := 12) (atype := .long) C 1 rfl ac_J rfl rfl rfl (by decide) rfl (by decide) (by decide) dX6_init_15 (fun j hj => Eq.trans (show defaultValue (newarray.typeOf .long) = cdv 28 j from rfl) (cv_d (b0 := b0) (t := 223 + 1) (f := 28) (i := 0) (j := j) ⟨by decide, by decide⟩ (by decide) hj (Or.inl rfl)).symm) (Nat.le_of_ble_eq_true rfl) (Nat.le_of_ble_eq_true rfl) ?_
  refine hq_putF (f := 26) (i := 0) (j := 5) (v' := cv b0 (223 + 1 + 1)) C ff_X6_13 hin dX6_init_17 rfl rfl (by decide) (by decide) (by decide) rfl rfl (cv_U (by decide) (by decide) rfl (by omega) rfl) ?_
  refine hq_aload_n (q := 0) C dX6_init_20 rfl rfl ?_
  refine hq_bipush (y := 12) C dX6_init_21 (by decide) ?_
  refine hq_newa (f := 29) (i := 0) (N := 12) (atype := .int) C 0 rfl ac_I rfl rfl rfl (by decide) rfl (by decide) (by decide) dX6_init_23 (fun j hj => Eq.trans (show defaultValue (newarray.typeOf .int) = cdv 29 j from rfl) (cv_d (b0 := b0) (t := 223 + 1 + 1) (f := 29) (i := 0) (j := j) ⟨by decide, by decide⟩ (by decide) hj (Or.inl rfl)).symm) (Nat.le_of_ble_eq_true rfl) (Nat.le_of_ble_eq_true rfl) ?_
  refine hq_putF (f := 26) (i := 0) (j := 6) (v' := cv b0 (223 + 1 + 1 + 1)) C ff_X6_17 hin dX6_init_25 rfl rfl (by decide) (by decide) (by decide) rfl rfl (cv_U (by decide) (by decide) rfl (by omega) rfl) ?_
  refine hq_aload_n (q := 0) C dX6_init_28 rfl rfl ?_
  refine hq_bipush (y := 12) C dX6_init_29 (by decide) ?_
  refine hq_newa (f := 30) (i := 0) (N := 12) (atype := .int) C 0 rfl ac_I rfl rfl rfl (by decide) rfl (by decide) (by decide) dX6_init_31 (fun j hj => Eq.trans (show defaultValue (newarray.typeOf .int) = cdv 30 j from rfl) (cv_d (b0 := b0) (t := 223 + 1 + 1 + 1) (f := 30) (i := 0) (j := j) ⟨by decide, by decide⟩ (by decide) hj (Or.inl rfl)).symm) (Nat.le_of_ble_eq_true rfl) (Nat.le_of_ble_eq_true rfl) ?_
  refine hq_putF (f := 26) (i := 0) (j := 7) (v' := cv b0 (223 + 1 + 1 + 1 + 1)) C ff_X6_20 hin dX6_init_33 rfl rfl (by decide) (by decide) (by decide) rfl rfl (cv_U (by decide) (by decide) rfl (by omega) rfl) ?_
  refine hq_aload_n (q := 0) C dX6_init_36 rfl rfl ?_
  refine hq_bipush (y := 12) C dX6_init_37 (by decide) ?_
  refine hq_newa (f := 31) (i := 0) (N := 12) (atype := .int) C 0 rfl ac_I rfl rfl rfl (by decide) rfl (by decide) (by decide) dX6_init_39 (fun j hj => Eq.trans (show defaultValue (newarray.typeOf .int) = cdv 31 j from rfl) (cv_d (b0 := b0) (t := 223 + 1 + 1 + 1 + 1) (f := 31) (i := 0) (j := j) ⟨by decide, by decide⟩ (by decide) hj (Or.inl rfl)).symm) (Nat.le_of_ble_eq_true rfl) (Nat.le_of_ble_eq_true rfl) ?_
  refine hq_putF (f := 26) (i := 0) (j := 8) (v' := cv b0 (223 + 1 + 1 + 1 + 1 + 1)) C ff_X6_23 hin dX6_init_41 rfl rfl (by decide) (by decide) (by decide) rfl rfl (cv_U (by decide) (by decide) rfl (by omega) rfl) ?_
  refine hq_aload_n (q := 0) C dX6_init_44 rfl rfl ?_
  refine hq_bipush (y := 12) C dX6_init_45 (by decide) ?_
  refine hq_newa (f := 32) (i := 0) (N := 12) (atype := .boolean) C 2 rfl ac_Z rfl rfl rfl (by decide) rfl (by decide) (by decide) dX6_init_47 (fun j hj => Eq.trans (show defaultValue (newarray.typeOf .boolean) = cdv 32 j from rfl) (cv_d (b0 := b0) (t := 223 + 1 + 1 + 1 + 1 + 1) (f := 32) (i := 0) (j := j) ⟨by decide, by decide⟩ (by decide) hj (Or.inl rfl)).symm) (Nat.le_of_ble_eq_true rfl) (Nat.le_of_ble_eq_true rfl) ?_
  refine hq_putF (f := 26) (i := 0) (j := 9) (v' := cv b0 (223 + 1 + 1 + 1 + 1 + 1 + 1)) C ff_X6_26 hin dX6_init_49 rfl rfl (by decide) (by decide) (by decide) rfl rfl (cv_U (by decide) (by decide) rfl (by omega) rfl) ?_
  refine hq_aload_n (q := 0) C dX6_init_52 rfl rfl ?_
  refine hq_sipush (y := 144) C dX6_init_53 (by decide) ?_
  refine hq_newa (f := 33) (i := 0) (N := 144) (atype := .int) C 0 rfl ac_I rfl rfl rfl (by decide) rfl (by decide) (by decide) dX6_init_56 (fun j hj => Eq.trans (show defaultValue (newarray.typeOf .int) = cdv 33 j from rfl) (cv_d (b0 := b0) (t := 223 + 1 + 1 + 1 + 1 + 1 + 1) (f := 33) (i := 0) (j := j) ⟨by decide, by decide⟩ (by decide) hj (Or.inl rfl)).symm) (Nat.le_of_ble_eq_true rfl) (Nat.le_of_ble_eq_true rfl) ?_
  refine hq_putF (f := 26) (i := 0) (j := 10) (v' := cv b0 (223 + 1 + 1 + 1 + 1 + 1 + 1 + 1)) C ff_X6_30 hin dX6_init_58 rfl rfl (by decide) (by decide) (by decide) rfl rfl (cv_U (by decide) (by decide) rfl (by omega) rfl) ?_
  refine hq_aload_n (q := 0) C dX6_init_61 rfl rfl ?_
  refine hq_sipush (y := 144) C dX6_init_62 (by decide) ?_
  refine hq_newa (f := 34) (i := 0) (N := 144) (atype := .boolean) C 2 rfl ac_Z rfl rfl rfl (by decide) rfl (by decide) (by decide) dX6_init_65 (fun j hj => Eq.trans (show defaultValue (newarray.typeOf .boolean) = cdv 34 j from rfl) (cv_d (b0 := b0) (t := 223 + 1 + 1 + 1 + 1 + 1 + 1 + 1) (f := 34) (i := 0) (j := j) ⟨by decide, by decide⟩ (by decide) hj (Or.inl rfl)).symm) (Nat.le_of_ble_eq_true rfl) (Nat.le_of_ble_eq_true rfl) ?_
  refine hq_putF (f := 26) (i := 0) (j := 11) (v' := cv b0 (223 + 1 + 1 + 1 + 1 + 1 + 1 + 1 + 1)) C ff_X6_33 hin dX6_init_67 rfl rfl (by decide) (by decide) (by decide) rfl rfl (cv_U (by decide) (by decide) rfl (by omega) rfl) ?_
  refine hq_aload_n (q := 0) C dX6_init_70 rfl rfl ?_
  refine hq_sipush (y := 144) C dX6_init_71 (by decide) ?_
  refine hq_newa (f := 35) (i := 0) (N := 144) (atype := .long) C 1 rfl ac_J rfl rfl rfl (by decide) rfl (by decide) (by decide) dX6_init_74 (fun j hj => Eq.trans (show defaultValue (newarray.typeOf .long) = cdv 35 j from rfl) (cv_d (b0 := b0) (t := 223 + 1 + 1 + 1 + 1 + 1 + 1 + 1 + 1) (f := 35) (i := 0) (j := j) ⟨by decide, by decide⟩ (by decide) hj (Or.inl rfl)).symm) (Nat.le_of_ble_eq_true rfl) (Nat.le_of_ble_eq_true rfl) ?_
  refine hq_putF (f := 26) (i := 0) (j := 12) (v' := cv b0 (223 + 1 + 1 + 1 + 1 + 1 + 1 + 1 + 1 + 1)) C ff_X6_36 hin dX6_init_76 rfl rfl (by decide) (by decide) (by decide) rfl rfl (cv_U (by decide) (by decide) rfl (by omega) rfl) ?_
  refine hq_aload_n (q := 0) C dX6_init_79 rfl rfl ?_
  refine hq_sipush (y := 144) C dX6_init_80 (by decide) ?_
  refine hq_newa (f := 36) (i := 0) (N := 144) (atype := .long) C 1 rfl ac_J rfl rfl rfl (by decide) rfl (by decide) (by decide) dX6_init_83 (fun j hj => Eq.trans (show defaultValue (newarray.typeOf .long) = cdv 36 j from rfl) (cv_d (b0 := b0) (t := 223 + 1 + 1 + 1 + 1 + 1 + 1 + 1 + 1 + 1) (f := 36) (i := 0) (j := j) ⟨by decide, by decide⟩ (by decide) hj (Or.inl rfl)).symm) (Nat.le_of_ble_eq_true rfl) (Nat.le_of_ble_eq_true rfl) ?_
  refine hq_putF (f := 26) (i := 0) (j := 13) (v' := cv b0 (223 + 1 + 1 + 1 + 1 + 1 + 1 + 1 + 1 + 1 + 1)) C ff_X6_39 hin dX6_init_85 rfl rfl (by decide) (by decide) (by decide) rfl rfl (cv_U (by decide) (by decide) rfl (by omega) rfl) ?_
  refine hq_aload_n (q := 0) C dX6_init_88 rfl rfl ?_
  refine hq_bipush (y := 40) C dX6_init_89 (by decide) ?_
  refine hq_newa (f := 37) (i := 0) (N := 40) (atype := .int) C 0 rfl ac_I rfl rfl rfl (by decide) rfl (by decide) (by decide) dX6_init_91 (fun j hj => Eq.trans (show defaultValue (newarray.typeOf .int) = cdv 37 j from rfl) (cv_d (b0 := b0) (t := 223 + 1 + 1 + 1 + 1 + 1 + 1 + 1 + 1 + 1 + 1) (f := 37) (i := 0) (j := j) ⟨by decide, by decide⟩ (by decide) hj (Or.inl rfl)).symm) (Nat.le_of_ble_eq_true rfl) (Nat.le_of_ble_eq_true rfl) ?_
  refine hq_putF (f := 26) (i := 0) (j := 15) (v' := cv b0 (223 + 1 + 1 + 1 + 1 + 1 + 1 + 1 + 1 + 1 + 1 + 1)) C ff_X6_42 hin dX6_init_93 rfl rfl (by decide) (by decide) (by decide) rfl rfl (cv_U (by decide) (by decide) rfl (by omega) rfl) ?_
  refine hq_aload_n (q := 0) C dX6_init_96 rfl rfl ?_
  refine hq_bipush (y := 40) C dX6_init_97 (by decide) ?_
  refine hq_newa (f := 38) (i := 0) (N := 40) (atype := .int) C 0 rfl ac_I rfl rfl rfl (by decide) rfl (by decide) (by decide) dX6_init_99 (fun j hj => Eq.trans (show defaultValue (newarray.typeOf .int) = cdv 38 j from rfl) (cv_d (b0 := b0) (t := 223 + 1 + 1 + 1 + 1 + 1 + 1 + 1 + 1 + 1 + 1 + 1) (f := 38) (i := 0) (j := j) ⟨by decide, by decide⟩ (by decide) hj (Or.inl rfl)).symm) (Nat.le_of_ble_eq_true rfl) (Nat.le_of_ble_eq_true rfl) ?_
  refine hq_putF (f := 26) (i := 0) (j := 16) (v' := cv b0 (223 + 1 + 1 + 1 + 1 + 1 + 1 + 1 + 1 + 1 + 1 + 1 + 1)) C ff_X6_45 hin dX6_init_101 rfl rfl (by decide) (by decide) (by decide) rfl rfl (cv_U (by decide) (by decide) rfl (by omega) rfl) ?_
  refine hq_aload_n (q := 0) C dX6_init_104 rfl rfl ?_
  refine hq_bipush (y := 40) C dX6_init_105 (by decide) ?_
  refine hq_newa (f := 39) (i := 0) (N := 40) (atype := .int) C 0 rfl ac_I rfl rfl rfl (by decide) rfl (by decide) (by decide) dX6_init_107 (fun j hj => Eq.trans (show defaultValue (newarray.typeOf .int) = cdv 39 j from rfl) (cv_d (b0 := b0) (t := 223 + 1 + 1 + 1 + 1 + 1 + 1 + 1 + 1 + 1 + 1 + 1 + 1) (f := 39) (i := 0) (j := j) ⟨by decide, by decide⟩ (by decide) hj (Or.inl rfl)).symm) (Nat.le_of_ble_eq_true rfl) (Nat.le_of_ble_eq_true rfl) ?_
  refine hq_putF (f := 26) (i := 0) (j := 17) (v' := cv b0 (223 + 1 + 1 + 1 + 1 + 1 + 1 + 1 + 1 + 1 + 1 + 1 + 1 + 1)) C ff_X6_48 hin dX6_init_109 rfl rfl (by decide) (by decide) (by decide) rfl rfl (cv_U (by decide) (by decide) rfl (by omega) rfl) ?_
  refine hq_aload_n (q := 0) C dX6_init_112 rfl rfl ?_
  refine hq_bipush (y := 40) C dX6_init_113 (by decide) ?_
  refine hq_newa (f := 40) (i := 0) (N := 40) (atype := .int) C 0 rfl ac_I rfl rfl rfl (by decide) rfl (by decide) (by decide) dX6_init_115 (fun j hj => Eq.trans (show defaultValue (newarray.typeOf .int) = cdv 40 j from rfl) (cv_d (b0 := b0) (t := 223 + 1 + 1 + 1 + 1 + 1 + 1 + 1 + 1 + 1 + 1 + 1 + 1 + 1) (f := 40) (i := 0) (j := j) ⟨by decide, by decide⟩ (by decide) hj (Or.inl rfl)).symm) (Nat.le_of_ble_eq_true rfl) (Nat.le_of_ble_eq_true rfl) ?_
  refine hq_putF (f := 26) (i := 0) (j := 18) (v' := cv b0 (223 + 1 + 1 + 1 + 1 + 1 + 1 + 1 + 1 + 1 + 1 + 1 + 1 + 1 + 1)) C ff_X6_51 hin dX6_init_117 rfl rfl (by decide) (by decide) (by decide) rfl rfl (cv_U (by decide) (by decide) rfl (by omega) rfl) ?_
  refine hq_aload_n (q := 0) C dX6_init_120 rfl rfl ?_
  refine hq_bipush (y := 40) C dX6_init_121 (by decide) ?_
  refine hq_newa (f := 41) (i := 0) (N := 40) (atype := .int) C 0 rfl ac_I rfl rfl rfl (by decide) rfl (by decide) (by decide) dX6_init_123 (fun j hj => Eq.trans (show defaultValue (newarray.typeOf .int) = cdv 41 j from rfl) (cv_d (b0 := b0) (t := 223 + 1 + 1 + 1 + 1 + 1 + 1 + 1 + 1 + 1 + 1 + 1 + 1 + 1 + 1) (f := 41) (i := 0) (j := j) ⟨by decide, by decide⟩ (by decide) hj (Or.inl rfl)).symm) (Nat.le_of_ble_eq_true rfl) (Nat.le_of_ble_eq_true rfl) ?_
  refine hq_putF (f := 26) (i := 0) (j := 19) (v' := cv b0 (223 + 1 + 1 + 1 + 1 + 1 + 1 + 1 + 1 + 1 + 1 + 1 + 1 + 1 + 1 + 1)) C ff_X6_54 hin dX6_init_125 rfl rfl (by decide) (by decide) (by decide) rfl rfl (cv_U (by decide) (by decide) rfl (by omega) rfl) ?_
  refine hq_aload_n (q := 0) C dX6_init_128 rfl rfl ?_
  refine hq_bipush (y := 40) C dX6_init_129 (by decide) ?_
  refine hq_newa (f := 42) (i := 0) (N := 40) (atype := .int) C 0 rfl ac_I rfl rfl rfl (by decide) rfl (by decide) (by decide) dX6_init_131 (fun j hj => Eq.trans (show defaultValue (newarray.typeOf .int) = cdv 42 j from rfl) (cv_d (b0 := b0) (t := 223 + 1 + 1 + 1 + 1 + 1 + 1 + 1 + 1 + 1 + 1 + 1 + 1 + 1 + 1 + 1) (f := 42) (i := 0) (j := j) ⟨by decide, by decide⟩ (by decide) hj (Or.inl rfl)).symm) (Nat.le_of_ble_eq_true rfl) (Nat.le_of_ble_eq_true rfl) ?_
  refine hq_putF (f := 26) (i := 0) (j := 20) (v' := cv b0 (223 + 1 + 1 + 1 + 1 + 1 + 1 + 1 + 1 + 1 + 1 + 1 + 1 + 1 + 1 + 1 + 1)) C ff_X6_57 hin dX6_init_133 rfl rfl (by decide) (by decide) (by decide) rfl rfl (cv_U (by decide) (by decide) rfl (by omega) rfl) ?_
  refine hq_aload_n (q := 0) C dX6_init_136 rfl rfl ?_
  refine hq_bipush (y := 40) C dX6_init_137 (by decide) ?_
  refine hq_newa (f := 43) (i := 0) (N := 40) (atype := .int) C 0 rfl ac_I rfl rfl rfl (by decide) rfl (by decide) (by decide) dX6_init_139 (fun j hj => Eq.trans (show defaultValue (newarray.typeOf .int) = cdv 43 j from rfl) (cv_d (b0 := b0) (t := 223 + 1 + 1 + 1 + 1 + 1 + 1 + 1 + 1 + 1 + 1 + 1 + 1 + 1 + 1 + 1 + 1) (f := 43) (i := 0) (j := j) ⟨by decide, by decide⟩ (by decide) hj (Or.inl rfl)).symm) (Nat.le_of_ble_eq_true rfl) (Nat.le_of_ble_eq_true rfl) ?_
  refine hq_putF (f := 26) (i := 0) (j := 21) (v' := cv b0 (223 + 1 + 1 + 1 + 1 + 1 + 1 + 1 + 1 + 1 + 1 + 1 + 1 + 1 + 1 + 1 + 1 + 1)) C ff_X6_60 hin dX6_init_141 rfl rfl (by decide) (by decide) (by decide) rfl rfl (cv_U (by decide) (by decide) rfl (by omega) rfl) ?_
  refine hq_aload_n (q := 0) C dX6_init_144 rfl rfl ?_
  refine hq_bipush (y := 40) C dX6_init_145 (by decide) ?_
  refine hq_newa (f := 44) (i := 0) (N := 40) (atype := .int) C 0 rfl ac_I rfl rfl rfl (by decide) rfl (by decide) (by decide) dX6_init_147 (fun j hj => Eq.trans (show defaultValue (newarray.typeOf .int) = cdv 44 j from rfl) (cv_d (b0 := b0) (t := 223 + 1 + 1 + 1 + 1 + 1 + 1 + 1 + 1 + 1 + 1 + 1 + 1 + 1 + 1 + 1 + 1 + 1) (f := 44) (i := 0) (j := j) ⟨by decide, by decide⟩ (by decide) hj (Or.inl rfl)).symm) (Nat.le_of_ble_eq_true rfl) (Nat.le_of_ble_eq_true rfl) ?_
  refine hq_putF (f := 26) (i := 0) (j := 22) (v' := cv b0 (223 + 1 + 1 + 1 + 1 + 1 + 1 + 1 + 1 + 1 + 1 + 1 + 1 + 1 + 1 + 1 + 1 + 1 + 1)) C ff_X6_63 hin dX6_init_149 rfl rfl (by decide) (by decide) (by decide) rfl rfl (cv_U (by decide) (by decide) rfl (by omega) rfl) ?_
  refine hq_aload_n (q := 0) C dX6_init_152 rfl rfl ?_
  refine hq_sipush (y := 480) C dX6_init_153 (by decide) ?_
  refine hq_newa (f := 45) (i := 0) (N := 480) (atype := .int) C 0 rfl ac_I rfl rfl rfl (by decide) rfl (by decide) (by decide) dX6_init_156 (fun j hj => Eq.trans (show defaultValue (newarray.typeOf .int) = cdv 45 j from rfl) (cv_d (b0 := b0) (t := 223 + 1 + 1 + 1 + 1 + 1 + 1 + 1 + 1 + 1 + 1 + 1 + 1 + 1 + 1 + 1 + 1 + 1 + 1) (f := 45) (i := 0) (j := j) ⟨by decide, by decide⟩ (by decide) hj (Or.inl rfl)).symm) (Nat.le_of_ble_eq_true rfl) (Nat.le_of_ble_eq_true rfl) ?_
  refine hq_putF (f := 26) (i := 0) (j := 23) (v' := cv b0 (223 + 1 + 1 + 1 + 1 + 1 + 1 + 1 + 1 + 1 + 1 + 1 + 1 + 1 + 1 + 1 + 1 + 1 + 1 + 1)) C ff_X6_66 hin dX6_init_158 rfl rfl (by decide) (by decide) (by decide) rfl rfl (cv_U (by decide) (by decide) rfl (by omega) rfl) ?_
  refine hq_aload_n (q := 0) C dX6_init_161 rfl rfl ?_
  refine hq_sipush (y := 480) C dX6_init_162 (by decide) ?_
  refine hq_newa (f := 46) (i := 0) (N := 480) (atype := .int) C 0 rfl ac_I rfl rfl rfl (by decide) rfl (by decide) (by decide) dX6_init_165 (fun j hj => Eq.trans (show defaultValue (newarray.typeOf .int) = cdv 46 j from rfl) (cv_d (b0 := b0) (t := 223 + 1 + 1 + 1 + 1 + 1 + 1 + 1 + 1 + 1 + 1 + 1 + 1 + 1 + 1 + 1 + 1 + 1 + 1 + 1) (f := 46) (i := 0) (j := j) ⟨by decide, by decide⟩ (by decide) hj (Or.inl rfl)).symm) (Nat.le_of_ble_eq_true rfl) (Nat.le_of_ble_eq_true rfl) ?_
  refine hq_putF (f := 26) (i := 0) (j := 24) (v' := cv b0 (223 + 1 + 1 + 1 + 1 + 1 + 1 + 1 + 1 + 1 + 1 + 1 + 1 + 1 + 1 + 1 + 1 + 1 + 1 + 1 + 1)) C ff_X6_69 hin dX6_init_167 rfl rfl (by decide) (by decide) (by decide) rfl rfl (cv_U (by decide) (by decide) rfl (by omega) rfl) ?_
  refine hq_aload_n (q := 0) C dX6_init_170 rfl rfl ?_
  refine hq_bipush (y := 41) C dX6_init_171 (by decide) ?_
  refine hq_newa (f := 47) (i := 0) (N := 41) (atype := .int) C 0 rfl ac_I rfl rfl rfl (by decide) rfl (by decide) (by decide) dX6_init_173 (fun j hj => Eq.trans (show defaultValue (newarray.typeOf .int) = cdv 47 j from rfl) (cv_d (b0 := b0) (t := 223 + 1 + 1 + 1 + 1 + 1 + 1 + 1 + 1 + 1 + 1 + 1 + 1 + 1 + 1 + 1 + 1 + 1 + 1 + 1 + 1) (f := 47) (i := 0) (j := j) ⟨by decide, by decide⟩ (by decide) hj (Or.inl rfl)).symm) (Nat.le_of_ble_eq_true rfl) (Nat.le_of_ble_eq_true rfl) ?_
  refine hq_putF (f := 26) (i := 0) (j := 26) (v' := cv b0 (223 + 1 + 1 + 1 + 1 + 1 + 1 + 1 + 1 + 1 + 1 + 1 + 1 + 1 + 1 + 1 + 1 + 1 + 1 + 1 + 1 + 1)) C ff_X6_72 hin dX6_init_175 rfl rfl (by decide) (by decide) (by decide) rfl rfl (cv_U (by decide) (by decide) rfl (by omega) rfl) ?_
  refine hq_aload_n (q := 0) C dX6_init_178 rfl rfl ?_
  refine hq_bipush (y := 41) C dX6_init_179 (by decide) ?_
  refine hq_newa (f := 48) (i := 0) (N := 41) (atype := .int) C 0 rfl ac_I rfl rfl rfl (by decide) rfl (by decide) (by decide) dX6_init_181 (fun j hj => Eq.trans (show defaultValue (newarray.typeOf .int) = cdv 48 j from rfl) (cv_d (b0 := b0) (t := 223 + 1 + 1 + 1 + 1 + 1 + 1 + 1 + 1 + 1 + 1 + 1 + 1 + 1 + 1 + 1 + 1 + 1 + 1 + 1 + 1 + 1) (f := 48) (i := 0) (j := j) ⟨by decide, by decide⟩ (by decide) hj (Or.inl rfl)).symm) (Nat.le_of_ble_eq_true rfl) (Nat.le_of_ble_eq_true rfl) ?_
  refine hq_putF (f := 26) (i := 0) (j := 27) (v' := cv b0 (223 + 1 + 1 + 1 + 1 + 1 + 1 + 1 + 1 + 1 + 1 + 1 + 1 + 1 + 1 + 1 + 1 + 1 + 1 + 1 + 1 + 1 + 1)) C ff_X6_75 hin dX6_init_183 rfl rfl (by decide) (by decide) (by decide) rfl rfl (cv_U (by decide) (by decide) rfl (by omega) rfl) ?_
  refine hq_aload_n (q := 0) C dX6_init_186 rfl rfl ?_
  refine hq_bipush (y := 41) C dX6_init_187 (by decide) ?_
  refine hq_newa (f := 49) (i := 0) (N := 41) (atype := .int) C 0 rfl ac_I rfl rfl rfl (by decide) rfl (by decide) (by decide) dX6_init_189 (fun j hj => Eq.trans (show defaultValue (newarray.typeOf .int) = cdv 49 j from rfl) (cv_d (b0 := b0) (t := 223 + 1 + 1 + 1 + 1 + 1 + 1 + 1 + 1 + 1 + 1 + 1 + 1 + 1 + 1 + 1 + 1 + 1 + 1 + 1 + 1 + 1 + 1) (f := 49) (i := 0) (j := j) ⟨by decide, by decide⟩ (by decide) hj (Or.inl rfl)).symm) (Nat.le_of_ble_eq_true rfl) (Nat.le_of_ble_eq_true rfl) ?_
  refine hq_putF (f := 26) (i := 0) (j := 28) (v' := cv b0 (223 + 1 + 1 + 1 + 1 + 1 + 1 + 1 + 1 + 1 + 1 + 1 + 1 + 1 + 1 + 1 + 1 + 1 + 1 + 1 + 1 + 1 + 1 + 1)) C ff_X6_78 hin dX6_init_191 rfl rfl (by decide) (by decide) (by decide) rfl rfl (cv_U (by decide) (by decide) rfl (by omega) rfl) ?_
  refine hq_aload_n (q := 0) C dX6_init_194 rfl rfl ?_
  refine hq_bipush (y := 41) C dX6_init_195 (by decide) ?_
  refine hq_newa (f := 50) (i := 0) (N := 41) (atype := .int) C 0 rfl ac_I rfl rfl rfl (by decide) rfl (by decide) (by decide) dX6_init_197 (fun j hj => Eq.trans (show defaultValue (newarray.typeOf .int) = cdv 50 j from rfl) (cv_d (b0 := b0) (t := 223 + 1 + 1 + 1 + 1 + 1 + 1 + 1 + 1 + 1 + 1 + 1 + 1 + 1 + 1 + 1 + 1 + 1 + 1 + 1 + 1 + 1 + 1 + 1) (f := 50) (i := 0) (j := j) ⟨by decide, by decide⟩ (by decide) hj (Or.inl rfl)).symm) (Nat.le_of_ble_eq_true rfl) (Nat.le_of_ble_eq_true rfl) ?_
  refine hq_putF (f := 26) (i := 0) (j := 29) (v' := cv b0 (223 + 1 + 1 + 1 + 1 + 1 + 1 + 1 + 1 + 1 + 1 + 1 + 1 + 1 + 1 + 1 + 1 + 1 + 1 + 1 + 1 + 1 + 1 + 1 + 1)) C ff_X6_81 hin dX6_init_199 rfl rfl (by decide) (by decide) (by decide) rfl rfl (cv_U (by decide) (by decide) rfl (by omega) rfl) ?_
  refine hq_aload_n (q := 0) C dX6_init_202 rfl rfl ?_
  refine hq_bipush (y := 41) C dX6_init_203 (by decide) ?_
  refine hq_newa (f := 51) (i := 0) (N := 41) (atype := .boolean) C 2 rfl ac_Z rfl rfl rfl (by decide) rfl (by decide) (by decide) dX6_init_205 (fun j hj => Eq.trans (show defaultValue (newarray.typeOf .boolean) = cdv 51 j from rfl) (cv_d (b0 := b0) (t := 223 + 1 + 1 + 1 + 1 + 1 + 1 + 1 + 1 + 1 + 1 + 1 + 1 + 1 + 1 + 1 + 1 + 1 + 1 + 1 + 1 + 1 + 1 + 1 + 1) (f := 51) (i := 0) (j := j) ⟨by decide, by decide⟩ (by decide) hj (Or.inl rfl)).symm) (Nat.le_of_ble_eq_true rfl) (Nat.le_of_ble_eq_true rfl) ?_
  refine hq_putF (f := 26) (i := 0) (j := 30) (v' := cv b0 (223 + 1 + 1 + 1 + 1 + 1 + 1 + 1 + 1 + 1 + 1 + 1 + 1 + 1 + 1 + 1 + 1 + 1 + 1 + 1 + 1 + 1 + 1 + 1 + 1 + 1)) C ff_X6_84 hin dX6_init_207 rfl rfl (by decide) (by decide) (by decide) rfl rfl (cv_U (by decide) (by decide) rfl (by omega) rfl) ?_
  refine hq_aload_n (q := 0) C dX6_init_210 rfl rfl ?_
  refine hq_bipush (y := 8) C dX6_init_211 (by decide) ?_
  refine hq_newa (f := 52) (i := 0) (N := 8) (atype := .int) C 0 rfl ac_I rfl rfl rfl (by decide) rfl (by decide) (by decide) dX6_init_213 (fun j hj => Eq.trans (show defaultValue (newarray.typeOf .int) = cdv 52 j from rfl) (cv_d (b0 := b0) (t := 223 + 1 + 1 + 1 + 1 + 1 + 1 + 1 + 1 + 1 + 1 + 1 + 1 + 1 + 1 + 1 + 1 + 1 + 1 + 1 + 1 + 1 + 1 + 1 + 1 + 1) (f := 52) (i := 0) (j := j) ⟨by decide, by decide⟩ (by decide) hj (Or.inr (by show 223 + 1 + 1 + 1 + 1 + 1 + 1 + 1 + 1 + 1 + 1 + 1 + 1 + 1 + 1 + 1 + 1 + 1 + 1 + 1 + 1 + 1 + 1 + 1 + 1 + 1 ≤ 248 + 1 * j; omega))).symm) (Nat.le_of_ble_eq_true rfl) (Nat.le_of_ble_eq_true rfl) ?_
  refine hq_dup C dX6_init_215 rfl ?_
  refine hq_iconst (y := 0) C dX6_init_216 (by decide) ?_
  refine hq_ldc C wc_X6_87 dX6_init_217 ?_
  refine hq_iast (f := 52) (i := 0) (a := 0) (v' := cv b0 (223 + 1 + 1 + 1 + 1 + 1 + 1 + 1 + 1 + 1 + 1 + 1 + 1 + 1 + 1 + 1 + 1 + 1 + 1 + 1 + 1 + 1 + 1 + 1 + 1 + 1 + 1)) C dX6_init_219 rfl rfl rfl (by decide) (by decide) (by decide) (cv_U (by decide) (by decide) rfl (by omega) rfl) ?_
  refine hq_dup C dX6_init_220 rfl ?_
  refine hq_iconst (y := 1) C dX6_init_221 (by decide) ?_
  refine hq_ldc C wc_X6_87 dX6_init_222 ?_
  refine hq_iast (f := 52) (i := 0) (a := 1) (v' := cv b0 (223 + 1 + 1 + 1 + 1 + 1 + 1 + 1 + 1 + 1 + 1 + 1 + 1 + 1 + 1 + 1 + 1 + 1 + 1 + 1 + 1 + 1 + 1 + 1 + 1 + 1 + 1 + 1)) C dX6_init_224 rfl rfl rfl (by decide) (by decide) (by decide) (cv_U (by decide) (by decide) rfl (by omega) rfl) ?_
  refine hq_dup C dX6_init_225 rfl ?_
  refine hq_iconst (y := 2) C dX6_init_226 (by decide) ?_
  refine hq_ldc C wc_X6_87 dX6_init_227 ?_
  refine hq_iast (f := 52) (i := 0) (a := 2) (v' := cv b0 (223 + 1 + 1 + 1 + 1 + 1 + 1 + 1 + 1 + 1 + 1 + 1 + 1 + 1 + 1 + 1 + 1 + 1 + 1 + 1 + 1 + 1 + 1 + 1 + 1 + 1 + 1 + 1 + 1)) C dX6_init_229 rfl rfl rfl (by decide) (by decide) (by decide) (cv_U (by decide) (by decide) rfl (by omega) rfl) ?_
  refine hq_dup C dX6_init_230 rfl ?_
  refine hq_iconst (y := 3) C dX6_init_231 (by decide) ?_
  refine hq_ldc C wc_X6_87 dX6_init_232 ?_
  refine hq_iast (f := 52) (i := 0) (a := 3) (v' := cv b0 (223 + 1 + 1 + 1 + 1 + 1 + 1 + 1 + 1 + 1 + 1 + 1 + 1 + 1 + 1 + 1 + 1 + 1 + 1 + 1 + 1 + 1 + 1 + 1 + 1 + 1 + 1 + 1 + 1 + 1)) C dX6_init_234 rfl rfl rfl (by decide) (by decide) (by decide) (cv_U (by decide) (by decide) rfl (by omega) rfl) ?_
  refine hq_dup C dX6_init_235 rfl ?_
  refine hq_iconst (y := 4) C dX6_init_236 (by decide) ?_
  refine hq_ldc C wc_X6_87 dX6_init_237 ?_
  refine hq_iast (f := 52) (i := 0) (a := 4) (v' := cv b0 (223 + 1 + 1 + 1 + 1 + 1 + 1 + 1 + 1 + 1 + 1 + 1 + 1 + 1 + 1 + 1 + 1 + 1 + 1 + 1 + 1 + 1 + 1 + 1 + 1 + 1 + 1 + 1 + 1 + 1 + 1)) C dX6_init_239 rfl rfl rfl (by decide) (by decide) (by decide) (cv_U (by decide) (by decide) rfl (by omega) rfl) ?_
  refine hq_dup C dX6_init_240 rfl ?_
  refine hq_iconst (y := 5) C dX6_init_241 (by decide) ?_
  refine hq_ldc C wc_X6_87 dX6_init_242 ?_
  refine hq_iast (f := 52) (i := 0) (a := 5) (v' := cv b0 (223 + 1 + 1 + 1 + 1 + 1 + 1 + 1 + 1 + 1 + 1 + 1 + 1 + 1 + 1 + 1 + 1 + 1 + 1 + 1 + 1 + 1 + 1 + 1 + 1 + 1 + 1 + 1 + 1 + 1 + 1 + 1)) C dX6_init_244 rfl rfl rfl (by decide) (by decide) (by decide) (cv_U (by decide) (by decide) rfl (by omega) rfl) ?_
  refine hq_dup C dX6_init_245 rfl ?_
  refine hq_bipush (y := 6) C dX6_init_246 (by decide) ?_
  refine hq_ldc C wc_X6_87 dX6_init_248 ?_
  refine hq_iast (f := 52) (i := 0) (a := 6) (v' := cv b0 (223 + 1 + 1 + 1 + 1 + 1 + 1 + 1 + 1 + 1 + 1 + 1 + 1 + 1 + 1 + 1 + 1 + 1 + 1 + 1 + 1 + 1 + 1 + 1 + 1 + 1 + 1 + 1 + 1 + 1 + 1 + 1 + 1)) C dX6_init_250 rfl rfl rfl (by decide) (by decide) (by decide) (cv_U (by decide) (by decide) rfl (by omega) rfl) ?_
  refine hq_dup C dX6_init_251 rfl ?_
  refine hq_bipush (y := 7) C dX6_init_252 (by decide) ?_
  refine hq_ldc C wc_X6_87 dX6_init_254 ?_
  refine hq_iast (f := 52) (i := 0) (a := 7) (v' := cv b0 (223 + 1 + 1 + 1 + 1 + 1 + 1 + 1 + 1 + 1 + 1 + 1 + 1 + 1 + 1 + 1 + 1 + 1 + 1 + 1 + 1 + 1 + 1 + 1 + 1 + 1 + 1 + 1 + 1 + 1 + 1 + 1 + 1 + 1)) C dX6_init_256 rfl rfl rfl (by decide) (by decide) (by decide) (cv_U (by decide) (by decide) rfl (by omega) rfl) ?_
  refine hq_putF (f := 26) (i := 0) (j := 31) (v' := cv b0 (223 + 1 + 1 + 1 + 1 + 1 + 1 + 1 + 1 + 1 + 1 + 1 + 1 + 1 + 1 + 1 + 1 + 1 + 1 + 1 + 1 + 1 + 1 + 1 + 1 + 1 + 1 + 1 + 1 + 1 + 1 + 1 + 1 + 1 + 1)) C ff_X6_88 hin dX6_init_257 rfl rfl (by decide) (by decide) (by decide) rfl rfl (cv_U (by decide) (by decide) rfl (by omega) rfl) ?_
  refine hq_aload_n (q := 0) C dX6_init_260 rfl rfl ?_
  refine hq_bipush (y := 8) C dX6_init_261 (by decide) ?_
  refine hq_newa (f := 53) (i := 0) (N := 8) (atype := .int) C 0 rfl ac_I rfl rfl rfl (by decide) rfl (by decide) (by decide) dX6_init_263 (fun j hj => Eq.trans (show defaultValue (newarray.typeOf .int) = cdv 53 j from rfl) (cv_d (b0 := b0) (t := 223 + 1 + 1 + 1 + 1 + 1 + 1 + 1 + 1 + 1 + 1 + 1 + 1 + 1 + 1 + 1 + 1 + 1 + 1 + 1 + 1 + 1 + 1 + 1 + 1 + 1 + 1 + 1 + 1 + 1 + 1 + 1 + 1 + 1 + 1) (f := 53) (i := 0) (j := j) ⟨by decide, by decide⟩ (by decide) hj (Or.inl rfl)).symm) (Nat.le_of_ble_eq_true rfl) (Nat.le_of_ble_eq_true rfl) ?_
  refine hq_putF (f := 26) (i := 0) (j := 32) (v' := cv b0 (223 + 1 + 1 + 1 + 1 + 1 + 1 + 1 + 1 + 1 + 1 + 1 + 1 + 1 + 1 + 1 + 1 + 1 + 1 + 1 + 1 + 1 + 1 + 1 + 1 + 1 + 1 + 1 + 1 + 1 + 1 + 1 + 1 + 1 + 1 + 1)) C ff_X6_91 hin dX6_init_265 rfl rfl (by decide) (by decide) (by decide) rfl rfl (cv_U (by decide) (by decide) rfl (by omega) rfl) ?_
  refine hq_aload_n (q := 0) C dX6_init_268 rfl rfl ?_
  refine hq_bipush (y := 20) C dX6_init_269 (by decide) ?_
  refine hq_newa (f := 54) (i := 0) (N := 20) (atype := .boolean) C 2 rfl ac_Z rfl rfl rfl (by decide) rfl (by decide) (by decide) dX6_init_271 (fun j hj => Eq.trans (show defaultValue (newarray.typeOf .boolean) = cdv 54 j from rfl) (cv_d (b0 := b0) (t := 223 + 1 + 1 + 1 + 1 + 1 + 1 + 1 + 1 + 1 + 1 + 1 + 1 + 1 + 1 + 1 + 1 + 1 + 1 + 1 + 1 + 1 + 1 + 1 + 1 + 1 + 1 + 1 + 1 + 1 + 1 + 1 + 1 + 1 + 1 + 1) (f := 54) (i := 0) (j := j) ⟨by decide, by decide⟩ (by decide) hj (Or.inl rfl)).symm) (Nat.le_of_ble_eq_true rfl) (Nat.le_of_ble_eq_true rfl) ?_
  refine hq_putF (f := 26) (i := 0) (j := 33) (v' := cv b0 (223 + 1 + 1 + 1 + 1 + 1 + 1 + 1 + 1 + 1 + 1 + 1 + 1 + 1 + 1 + 1 + 1 + 1 + 1 + 1 + 1 + 1 + 1 + 1 + 1 + 1 + 1 + 1 + 1 + 1 + 1 + 1 + 1 + 1 + 1 + 1 + 1)) C ff_X6_94 hin dX6_init_273 rfl rfl (by decide) (by decide) (by decide) rfl rfl (cv_U (by decide) (by decide) rfl (by omega) rfl) ?_
  refine hq_aload_n (q := 0) C dX6_init_276 rfl rfl ?_
  refine hq_iconst (y := 5) C dX6_init_277 (by decide) ?_
  refine hq_newa (f := 55) (i := 0) (N := 5) (atype := .long) C 1 rfl ac_J rfl rfl rfl (by decide) rfl (by decide) (by decide) dX6_init_278 (fun j hj => Eq.trans (show defaultValue (newarray.typeOf .long) = cdv 55 j from rfl) (cv_d (b0 := b0) (t := 223 + 1 + 1 + 1 + 1 + 1 + 1 + 1 + 1 + 1 + 1 + 1 + 1 + 1 + 1 + 1 + 1 + 1 + 1 + 1 + 1 + 1 + 1 + 1 + 1 + 1 + 1 + 1 + 1 + 1 + 1 + 1 + 1 + 1 + 1 + 1 + 1) (f := 55) (i := 0) (j := j) ⟨by decide, by decide⟩ (by decide) hj (Or.inl rfl)).symm) (Nat.le_of_ble_eq_true rfl) (Nat.le_of_ble_eq_true rfl) ?_
  refine hq_putF (f := 26) (i := 0) (j := 34) (v' := cv b0 (223 + 1 + 1 + 1 + 1 + 1 + 1 + 1 + 1 + 1 + 1 + 1 + 1 + 1 + 1 + 1 + 1 + 1 + 1 + 1 + 1 + 1 + 1 + 1 + 1 + 1 + 1 + 1 + 1 + 1 + 1 + 1 + 1 + 1 + 1 + 1 + 1 + 1)) C ff_X6_97 hin dX6_init_280 rfl rfl (by decide) (by decide) (by decide) rfl rfl (cv_U (by decide) (by decide) rfl (by omega) rfl) ?_
  refine hq_aload_n (q := 0) C dX6_init_283 rfl rfl ?_
  refine hq_bipush (y := 12) C dX6_init_284 (by decide) ?_
  refine hq_newa (f := 56) (i := 0) (N := 12) (atype := .long) C 1 rfl ac_J rfl rfl rfl (by decide) rfl (by decide) (by decide) dX6_init_286 (fun j hj => Eq.trans (show defaultValue (newarray.typeOf .long) = cdv 56 j from rfl) (cv_d (b0 := b0) (t := 223 + 1 + 1 + 1 + 1 + 1 + 1 + 1 + 1 + 1 + 1 + 1 + 1 + 1 + 1 + 1 + 1 + 1 + 1 + 1 + 1 + 1 + 1 + 1 + 1 + 1 + 1 + 1 + 1 + 1 + 1 + 1 + 1 + 1 + 1 + 1 + 1 + 1) (f := 56) (i := 0) (j := j) ⟨by decide, by decide⟩ (by decide) hj (Or.inl rfl)).symm) (Nat.le_of_ble_eq_true rfl) (Nat.le_of_ble_eq_true rfl) ?_
  refine hq_putF (f := 26) (i := 0) (j := 35) (v' := cv b0 (223 + 1 + 1 + 1 + 1 + 1 + 1 + 1 + 1 + 1 + 1 + 1 + 1 + 1 + 1 + 1 + 1 + 1 + 1 + 1 + 1 + 1 + 1 + 1 + 1 + 1 + 1 + 1 + 1 + 1 + 1 + 1 + 1 + 1 + 1 + 1 + 1 + 1 + 1)) C ff_X6_100 hin dX6_init_288 rfl rfl (by decide) (by decide) (by decide) rfl rfl (cv_U (by decide) (by decide) rfl (by omega) rfl) ?_
  refine hq_aload_n (q := 0) C dX6_init_291 rfl rfl ?_
  refine hq_bipush (y := 12) C dX6_init_292 (by decide) ?_
  refine hq_newa (f := 57) (i := 0) (N := 12) (atype := .int) C 0 rfl ac_I rfl rfl rfl (by decide) rfl (by decide) (by decide) dX6_init_294 (fun j hj => Eq.trans (show defaultValue (newarray.typeOf .int) = cdv 57 j from rfl) (cv_d (b0 := b0) (t := 223 + 1 + 1 + 1 + 1 + 1 + 1 + 1 + 1 + 1 + 1 + 1 + 1 + 1 + 1 + 1 + 1 + 1 + 1 + 1 + 1 + 1 + 1 + 1 + 1 + 1 + 1 + 1 + 1 + 1 + 1 + 1 + 1 + 1 + 1 + 1 + 1 + 1 + 1) (f := 57) (i := 0) (j := j) ⟨by decide, by decide⟩ (by decide) hj (Or.inl rfl)).symm) (Nat.le_of_ble_eq_true rfl) (Nat.le_of_ble_eq_true rfl) ?_
  refine hq_putF (f := 26) (i := 0) (j := 36) (v' := cv b0 (223 + 1 + 1 + 1 + 1 + 1 + 1 + 1 + 1 + 1 + 1 + 1 + 1 + 1 + 1 + 1 + 1 + 1 + 1 + 1 + 1 + 1 + 1 + 1 + 1 + 1 + 1 + 1 + 1 + 1 + 1 + 1 + 1 + 1 + 1 + 1 + 1 + 1 + 1 + 1)) C ff_X6_103 hin dX6_init_296 rfl rfl (by decide) (by decide) (by decide) rfl rfl (cv_U (by decide) (by decide) rfl (by omega) rfl) ?_
  refine hq_aload_n (q := 0) C dX6_init_299 rfl rfl ?_
  refine hq_bipush (y := 12) C dX6_init_300 (by decide) ?_
  refine hq_newa (f := 58) (i := 0) (N := 12) (atype := .int) C 0 rfl ac_I rfl rfl rfl (by decide) rfl (by decide) (by decide) dX6_init_302 (fun j hj => Eq.trans (show defaultValue (newarray.typeOf .int) = cdv 58 j from rfl) (cv_d (b0 := b0) (t := 223 + 1 + 1 + 1 + 1 + 1 + 1 + 1 + 1 + 1 + 1 + 1 + 1 + 1 + 1 + 1 + 1 + 1 + 1 + 1 + 1 + 1 + 1 + 1 + 1 + 1 + 1 + 1 + 1 + 1 + 1 + 1 + 1 + 1 + 1 + 1 + 1 + 1 + 1 + 1) (f := 58) (i := 0) (j := j) ⟨by decide, by decide⟩ (by decide) hj (Or.inl rfl)).symm) (Nat.le_of_ble_eq_true rfl) (Nat.le_of_ble_eq_true rfl) ?_
  refine hq_putF (f := 26) (i := 0) (j := 37) (v' := cv b0 (223 + 1 + 1 + 1 + 1 + 1 + 1 + 1 + 1 + 1 + 1 + 1 + 1 + 1 + 1 + 1 + 1 + 1 + 1 + 1 + 1 + 1 + 1 + 1 + 1 + 1 + 1 + 1 + 1 + 1 + 1 + 1 + 1 + 1 + 1 + 1 + 1 + 1 + 1 + 1 + 1)) C ff_X6_106 hin dX6_init_304 rfl rfl (by decide) (by decide) (by decide) rfl rfl (cv_U (by decide) (by decide) rfl (by omega) rfl) ?_
  exact hq_vret C hr hlk dX6_init_307 rfl
abbrev rN_X2 : Room := { frames := 1, cells := 26, slots := 312, locals := 20 }
set_option maxHeartbeats 4000000 in
set_option maxRecDepth 100000 in
theorem mN_X2 {l : Launch} {D : va_G} {b0 : Nat}  : hw_Mz zL l yX2_init cX2_init 1 rN_X2 D b0 (201) [.ref (hw_ad b0 11 0)] (cv b0 (200)) (201 + 13 + 13) (cv b0 (200 + 1 + 1)) 26 312 := by
  refine hw_Mzof (by decide) [(0, .ref _)] rfl (Nat.le_of_ble_eq_true rfl) ?_
  intro p e s m args below meth c C hr hlk hnm hz
  have hin : meth.name = "<init>" := hnm
  refine hq_aload_n (q := 0) C dX2_init_0 rfl rfl ?_
  refine hq_objInit C mo_X2 dX2_init_1 (Nat.le_of_ble_eq_true rfl) (Nat.le_of_ble_eq_true rfl) ?_
  refine hq_aload_n (q := 0) C dX2_init_4 rfl rfl ?_
  refine hq_bipush (y := 12) C dX2_init_5 (by decide) ?_
  refine hq_bipush (y := 12) C dX2_init_7 (by decide) ?_
  refine hq_mna (f := 12) (g := 13) C rfl rfl cl_X2_9 hz ac_J rfl rfl rfl rfl (by decide) rfl rfl (fun i hi => by show 202 + 1 * i = _; omega) dX2_init_9 (fun j hj => Eq.trans (cv_at (b0 := b0) (t := 200) (f := 12) (i := 0) (j := j) (show 0 < 200 by omega)) rfl) (fun i j hi hj => Eq.trans (cv_d (b0 := b0) (t := 200) (f := 13) (i := i) (j := j) ⟨by decide, by decide⟩ hi hj (Or.inl rfl)) rfl) (Nat.le_of_ble_eq_true rfl) (Nat.le_of_ble_eq_true rfl) ?_
  refine hq_putF (f := 11) (i := 0) (j := 0) (v' := cv b0 (200 + 1)) C ff_X2_11 hin dX2_init_13 rfl rfl (by decide) (by decide) (by decide) rfl rfl (cv_U (by decide) (by decide) rfl (by omega) rfl) ?_
  refine hq_aload_n (q := 0) C dX2_init_16 rfl rfl ?_
  refine hq_bipush (y := 12) C dX2_init_17 (by decide) ?_
  refine hq_bipush (y := 12) C dX2_init_19 (by decide) ?_
  refine hq_mna (f := 14) (g := 15) C rfl rfl cl_X2_9 hz ac_J rfl rfl rfl rfl (by decide) rfl rfl (fun i hi => by show 215 + 1 * i = _; omega) dX2_init_21 (fun j hj => Eq.trans (cv_at (b0 := b0) (t := 200 + 1) (f := 14) (i := 0) (j := j) (show 0 < 200 + 1 by omega)) rfl) (fun i j hi hj => Eq.trans (cv_d (b0 := b0) (t := 200 + 1) (f := 15) (i := i) (j := j) ⟨by decide, by decide⟩ hi hj (Or.inl rfl)) rfl) (Nat.le_of_ble_eq_true rfl) (Nat.le_of_ble_eq_true rfl) ?_
  refine hq_putF (f := 11) (i := 0) (j := 1) (v' := cv b0 (200 + 1 + 1)) C ff_X2_16 hin dX2_init_25 rfl rfl (by decide) (by decide) (by decide) rfl rfl (cv_U (by decide) (by decide) rfl (by omega) rfl) ?_
  exact hq_vret C hr hlk dX2_init_28 rfl
