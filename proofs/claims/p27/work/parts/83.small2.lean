/-! the small constructors -/
def zL (U : State) : Prop := (Cond.arrayOver (.array .long)).before #[] U = true
theorem zL_w : hw_Zw zL := fun s U hW h => (show (Cond.arrayOver (.array .long)).before #[] (s.setVm U.vm) = true from by rw [Cond.arrayOver_setVmC hW.alike]; exact h)
theorem mo_X0 : Cond.methodLink RX0 3 Lib.objectInit ∈ hw_TB := hw_in 62 (by decide +kernel) rfl
theorem ff_X0_9 : hw_FL RX0 9 0 6 (.array .int) true := ⟨_, _, _, rfl, by decide, hw_in 71 (by decide +kernel) rfl, by decide +kernel, rfl, fun _ => rfl⟩
theorem ff_X0_15 : hw_FL RX0 15 0 7 (.array .boolean) true := ⟨_, _, _, rfl, by decide, hw_in 73 (by decide +kernel) rfl, by decide +kernel, rfl, fun _ => rfl⟩
theorem wi_X0 : hw_WI yX0_init (Cond.code yX0_init cX0_init 1 none) 0 := ⟨⟨hw_in 61 (by decide +kernel) rfl, hw_in 60 (by decide +kernel) rfl, hw_in 36 (by decide +kernel) rfl⟩, by decide +kernel⟩
theorem df_X0 (ty : Nat → FieldType) (h : ∀ k, k < 8 → parseFieldDescriptor (TX0 k).2.2.1 = some (ty k)) : ∀ j, j < 8 → defaultValue (ty j) = cdv 2 j := by
  intro j hj
  have e : ty j = tyX0 j := Option.some.inj ((h j hj).symm.trans (tyX0_ok j hj))
  rw [e]
  rcases (show j = 0 ∨ j = 1 ∨ j = 2 ∨ j = 3 ∨ j = 4 ∨ j = 5 ∨ j = 6 ∨ j = 7 by omega) with rfl | rfl | rfl | rfl | rfl | rfl | rfl | rfl <;> rfl
theorem mo_X1 : Cond.methodLink RX1 1 Lib.objectInit ∈ hw_TB := hw_in 144 (by decide +kernel) rfl
theorem wi_X1 : hw_WI yX1_init (Cond.code yX1_init cX1_init 1 none) 0 := ⟨⟨hw_in 143 (by decide +kernel) rfl, hw_in 142 (by decide +kernel) rfl, hw_in 38 (by decide +kernel) rfl⟩, by decide +kernel⟩
theorem df_X1 (ty : Nat → FieldType) (h : ∀ k, k < 6 → parseFieldDescriptor (TX1 k).2.2.1 = some (ty k)) : ∀ j, j < 6 → defaultValue (ty j) = cdv 10 j := by
  intro j hj
  have e : ty j = tyX1 j := Option.some.inj ((h j hj).symm.trans (tyX1_ok j hj))
  rw [e]
  rcases (show j = 0 ∨ j = 1 ∨ j = 2 ∨ j = 3 ∨ j = 4 ∨ j = 5 by omega) with rfl | rfl | rfl | rfl | rfl | rfl <;> rfl
theorem mo_X2 : Cond.methodLink RX2 3 Lib.objectInit ∈ hw_TB := hw_in 169 (by decide +kernel) rfl
theorem ff_X2_11 : hw_FL RX2 11 2 0 (.array (.array .long)) true := ⟨_, _, _, rfl, by decide, hw_in 172 (by decide +kernel) rfl, by decide +kernel, rfl, fun _ => rfl⟩
theorem ff_X2_16 : hw_FL RX2 16 2 1 (.array (.array .long)) true := ⟨_, _, _, rfl, by decide, hw_in 175 (by decide +kernel) rfl, by decide +kernel, rfl, fun _ => rfl⟩
theorem wi_X2 : hw_WI yX2_init (Cond.code yX2_init cX2_init 1 none) 0 := ⟨⟨hw_in 168 (by decide +kernel) rfl, hw_in 167 (by decide +kernel) rfl, hw_in 39 (by decide +kernel) rfl⟩, by decide +kernel⟩
theorem df_X2 (ty : Nat → FieldType) (h : ∀ k, k < 2 → parseFieldDescriptor (TX2 k).2.2.1 = some (ty k)) : ∀ j, j < 2 → defaultValue (ty j) = cdv 11 j := by
  intro j hj
  have e : ty j = tyX2 j := Option.some.inj ((h j hj).symm.trans (tyX2_ok j hj))
  rw [e]
  rcases (show j = 0 ∨ j = 1 by omega) with rfl | rfl <;> rfl
theorem mo_X3 : Cond.methodLink RX3 3 Lib.objectInit ∈ hw_TB := hw_in 100 (by decide +kernel) rfl
theorem ff_X3_9 : hw_FL RX3 9 3 8 (.array .int) true := ⟨_, _, _, rfl, by decide, hw_in 113 (by decide +kernel) rfl, by decide +kernel, rfl, fun _ => rfl⟩
theorem ff_X3_15 : hw_FL RX3 15 3 9 (.array .int) true := ⟨_, _, _, rfl, by decide, hw_in 115 (by decide +kernel) rfl, by decide +kernel, rfl, fun _ => rfl⟩
theorem wi_X3 : hw_WI yX3_init (Cond.code yX3_init cX3_init 1 none) 0 := ⟨⟨hw_in 99 (by decide +kernel) rfl, hw_in 98 (by decide +kernel) rfl, hw_in 37 (by decide +kernel) rfl⟩, by decide +kernel⟩
theorem df_X3 (ty : Nat → FieldType) (h : ∀ k, k < 10 → parseFieldDescriptor (TX3 k).2.2.1 = some (ty k)) : ∀ j, j < 10 → defaultValue (ty j) = cdv 6 j := by
  intro j hj
  have e : ty j = tyX3 j := Option.some.inj ((h j hj).symm.trans (tyX3_ok j hj))
  rw [e]
  rcases (show j = 0 ∨ j = 1 ∨ j = 2 ∨ j = 3 ∨ j = 4 ∨ j = 5 ∨ j = 6 ∨ j = 7 ∨ j = 8 ∨ j = 9 by omega) with rfl | rfl | rfl | rfl | rfl | rfl | rfl | rfl | rfl | rfl <;> rfl
theorem mo_X4 : Cond.methodLink RX4 3 Lib.objectInit ∈ hw_TB := hw_in 188 (by decide +kernel) rfl
theorem ff_X4_9 : hw_FL RX4 9 4 2 (.array .boolean) true := ⟨_, _, _, rfl, by decide, hw_in 191 (by decide +kernel) rfl, by decide +kernel, rfl, fun _ => rfl⟩
theorem ff_X4_15 : hw_FL RX4 15 4 3 (.array .boolean) true := ⟨_, _, _, rfl, by decide, hw_in 192 (by decide +kernel) rfl, by decide +kernel, rfl, fun _ => rfl⟩
theorem ff_X4_18 : hw_FL RX4 18 4 4 (.array .boolean) true := ⟨_, _, _, rfl, by decide, hw_in 193 (by decide +kernel) rfl, by decide +kernel, rfl, fun _ => rfl⟩
theorem ff_X4_21 : hw_FL RX4 21 4 5 (.array .int) true := ⟨_, _, _, rfl, by decide, hw_in 194 (by decide +kernel) rfl, by decide +kernel, rfl, fun _ => rfl⟩
theorem ff_X4_25 : hw_FL RX4 25 4 6 (.array .int) true := ⟨_, _, _, rfl, by decide, hw_in 196 (by decide +kernel) rfl, by decide +kernel, rfl, fun _ => rfl⟩
theorem ff_X4_28 : hw_FL RX4 28 4 7 (.array .int) true := ⟨_, _, _, rfl, by decide, hw_in 197 (by decide +kernel) rfl, by decide +kernel, rfl, fun _ => rfl⟩
theorem ff_X4_31 : hw_FL RX4 31 4 0 (.array (.object "HundiHall$Broker")) true := ⟨_, _, _, rfl, by decide, hw_in 189 (by decide +kernel) rfl, by decide +kernel, rfl, fun _ => rfl⟩
theorem ff_X4_35 : hw_FL RX4 35 4 1 (.object "HundiHall$Ledger") true := ⟨_, _, _, rfl, by decide, hw_in 190 (by decide +kernel) rfl, by decide +kernel, rfl, fun _ => rfl⟩
theorem wi_X4 : hw_WI yX4_init (Cond.code yX4_init cX4_init 3 none) 2 := ⟨⟨hw_in 187 (by decide +kernel) rfl, hw_in 186 (by decide +kernel) rfl, hw_in 40 (by decide +kernel) rfl⟩, by decide +kernel⟩
theorem df_X4 (ty : Nat → FieldType) (h : ∀ k, k < 11 → parseFieldDescriptor (TX4 k).2.2.1 = some (ty k)) : ∀ j, j < 11 → defaultValue (ty j) = cdv 16 j := by
  intro j hj
  have e : ty j = tyX4 j := Option.some.inj ((h j hj).symm.trans (tyX4_ok j hj))
  rw [e]
  rcases (show j = 0 ∨ j = 1 ∨ j = 2 ∨ j = 3 ∨ j = 4 ∨ j = 5 ∨ j = 6 ∨ j = 7 ∨ j = 8 ∨ j = 9 ∨ j = 10 by omega) with rfl | rfl | rfl | rfl | rfl | rfl | rfl | rfl | rfl | rfl | rfl <;> rfl
theorem mo_X5 : Cond.methodLink RX5 1 Lib.objectInit ∈ hw_TB := hw_in 53 (by decide +kernel) rfl
theorem ff_X5_11 : hw_FL RX5 11 5 0 (.array (.object "HundiHall$Broker")) true := ⟨_, _, _, rfl, by decide, hw_in 229 (by decide +kernel) rfl, by decide +kernel, rfl, fun _ => rfl⟩
theorem ff_X5_18 : hw_FL RX5 18 5 1 (.array (.object "HundiHall$Order")) true := ⟨_, _, _, rfl, by decide, hw_in 230 (by decide +kernel) rfl, by decide +kernel, rfl, fun _ => rfl⟩
theorem ff_X5_25 : hw_FL RX5 25 5 2 (.array (.object "HundiHall$Courier")) true := ⟨_, _, _, rfl, by decide, hw_in 231 (by decide +kernel) rfl, by decide +kernel, rfl, fun _ => rfl⟩
theorem ff_X5_33 : hw_FL RX5 33 5 3 (.object "HundiHall$Ledger") true := ⟨_, _, _, rfl, by decide, hw_in 232 (by decide +kernel) rfl, by decide +kernel, rfl, fun _ => rfl⟩
theorem ff_X5_42 : hw_FL RX5 42 5 4 (.object "HundiHall$WayFinder") true := ⟨_, _, _, rfl, by decide, hw_in 233 (by decide +kernel) rfl, by decide +kernel, rfl, fun _ => rfl⟩
theorem ff_X5_46 : hw_FL RX5 46 5 5 (.array .int) true := ⟨_, _, _, rfl, by decide, hw_in 234 (by decide +kernel) rfl, by decide +kernel, rfl, fun _ => rfl⟩
theorem ff_X5_51 : hw_FL RX5 51 5 6 (.array .int) true := ⟨_, _, _, rfl, by decide, hw_in 235 (by decide +kernel) rfl, by decide +kernel, rfl, fun _ => rfl⟩
theorem ff_X5_54 : hw_FL RX5 54 5 7 (.array .boolean) true := ⟨_, _, _, rfl, by decide, hw_in 236 (by decide +kernel) rfl, by decide +kernel, rfl, fun _ => rfl⟩
theorem wi_X5 : hw_WI yX5_init (Cond.code yX5_init cX5_init 2 none) 0 := ⟨⟨hw_in 52 (by decide +kernel) rfl, hw_in 51 (by decide +kernel) rfl, hw_in 35 (by decide +kernel) rfl⟩, by decide +kernel⟩
theorem df_X5 (ty : Nat → FieldType) (h : ∀ k, k < 14 → parseFieldDescriptor (TX5 k).2.2.1 = some (ty k)) : ∀ j, j < 14 → defaultValue (ty j) = cdv 0 j := by
  intro j hj
  have e : ty j = tyX5 j := Option.some.inj ((h j hj).symm.trans (tyX5_ok j hj))
  rw [e]
  rcases (show j = 0 ∨ j = 1 ∨ j = 2 ∨ j = 3 ∨ j = 4 ∨ j = 5 ∨ j = 6 ∨ j = 7 ∨ j = 8 ∨ j = 9 ∨ j = 10 ∨ j = 11 ∨ j = 12 ∨ j = 13 by omega) with rfl | rfl | rfl | rfl | rfl | rfl | rfl | rfl | rfl | rfl | rfl | rfl | rfl | rfl <;> rfl
theorem ac_I : Cond.arrayClass .int ∈ hw_TB := hw_in 92 (by decide +kernel) rfl
theorem ac_J : Cond.arrayClass .long ∈ hw_TB := hw_in 182 (by decide +kernel) rfl
theorem ac_Z : Cond.arrayClass .boolean ∈ hw_TB := hw_in 93 (by decide +kernel) rfl
theorem cl_X2_9 : Cond.classLink RX2 9 "[[J" ∈ hw_TB := hw_in 170 (by decide +kernel) rfl
abbrev rN_X0 : Room := { frames := 1, cells := 2, slots := 24, locals := 20 }
set_option maxHeartbeats 4000000 in
set_option maxRecDepth 100000 in
theorem mN_X0 {l : Launch} {D : va_G} {b0 : Nat} {i : Nat} (hi9 : i < 12) : hw_M l yX0_init cX0_init 1 none rN_X0 D b0 true (2 + 3 * i + 1) [.ref (hw_ad b0 2 i)] (cv b0 (2 + 3 * i)) true (2 + 3 * i + 1 + 1 + 1) none (cv b0 (2 + 3 * i + 1 + 1)) 2 24 := by
  refine hw_Mof (by decide) [(0, .ref _)] rfl (Nat.le_of_ble_eq_true rfl) ?_
  intro p e s m args below meth c C hr hlk hnm
  have hin : meth.name = "<init>" := hnm
  refine hq_aload_n (q := 0) C dX0_init_0 rfl rfl ?_
  refine hq_objInit C mo_X0 dX0_init_1 (Nat.le_of_ble_eq_true rfl) (Nat.le_of_ble_eq_true rfl) ?_
  refine hq_aload_n (q := 0) C dX0_init_4 rfl rfl ?_
  refine hq_bipush (y := 12) C dX0_init_5 (by decide) ?_
  refine hq_newa (f := 3) (i := i) (N := 12) (atype := .int) C 0 rfl ac_I rfl rfl (by show 3 + 3 * i = 2 + 3 * i + 1; omega) hi9 rfl (by decide) (by decide) dX0_init_7 (fun j hj => Eq.trans (show defaultValue (newarray.typeOf .int) = cdv 3 j from rfl) (cv_d (b0 := b0) (t := 2 + 3 * i) (f := 3) (i := i) (j := j) ⟨by decide, by decide⟩ hi9 hj (Or.inl rfl)).symm) (Nat.le_of_ble_eq_true rfl) (Nat.le_of_ble_eq_true rfl) ?_
  refine hq_putF (f := 2) (i := i) (j := 6) (v' := cv b0 (2 + 3 * i + 1)) C ff_X0_9 hin dX0_init_9 rfl rfl (by decide) hi9 (by show 2 + 3 * i < 2 + 3 * i + 1 + 1; omega) rfl rfl (cv_U hi9 (by decide) (by show 2 + 3 * i = 2 + 3 * i; omega) (by omega) rfl) ?_
  refine hq_aload_n (q := 0) C dX0_init_12 rfl rfl ?_
  refine hq_bipush (y := 12) C dX0_init_13 (by decide) ?_
  refine hq_newa (f := 4) (i := i) (N := 12) (atype := .boolean) C 2 rfl ac_Z rfl rfl (by show 4 + 3 * i = 2 + 3 * i + 1 + 1; omega) hi9 rfl (by decide) (by decide) dX0_init_15 (fun j hj => Eq.trans (show defaultValue (newarray.typeOf .boolean) = cdv 4 j from rfl) (cv_d (b0 := b0) (t := 2 + 3 * i + 1) (f := 4) (i := i) (j := j) ⟨by decide, by decide⟩ hi9 hj (Or.inl rfl)).symm) (Nat.le_of_ble_eq_true rfl) (Nat.le_of_ble_eq_true rfl) ?_
  refine hq_putF (f := 2) (i := i) (j := 7) (v' := cv b0 (2 + 3 * i + 1 + 1)) C ff_X0_15 hin dX0_init_17 rfl rfl (by decide) hi9 (by show 2 + 3 * i < 2 + 3 * i + 1 + 1 + 1; omega) rfl rfl (cv_U hi9 (by decide) (by show 3 + 3 * i = 2 + 3 * i + 1; omega) (by omega) rfl) ?_
  exact hq_vret C hr hlk dX0_init_20 rfl
abbrev rN_X3 : Room := { frames := 1, cells := 2, slots := 24, locals := 20 }
set_option maxHeartbeats 4000000 in
set_option maxRecDepth 100000 in
theorem mN_X3 {l : Launch} {D : va_G} {b0 : Nat} {i : Nat} (hi9 : i < 40) : hw_M l yX3_init cX3_init 1 none rN_X3 D b0 true (39 + 3 * i + 1) [.ref (hw_ad b0 6 i)] (cv b0 (39 + 3 * i)) true (39 + 3 * i + 1 + 1 + 1) none (cv b0 (39 + 3 * i + 1 + 1)) 2 24 := by
  refine hw_Mof (by decide) [(0, .ref _)] rfl (Nat.le_of_ble_eq_true rfl) ?_
  intro p e s m args below meth c C hr hlk hnm
  have hin : meth.name = "<init>" := hnm
  refine hq_aload_n (q := 0) C dX3_init_0 rfl rfl ?_
  refine hq_objInit C mo_X3 dX3_init_1 (Nat.le_of_ble_eq_true rfl) (Nat.le_of_ble_eq_true rfl) ?_
  refine hq_aload_n (q := 0) C dX3_init_4 rfl rfl ?_
  refine hq_bipush (y := 12) C dX3_init_5 (by decide) ?_
  refine hq_newa (f := 7) (i := i) (N := 12) (atype := .int) C 0 rfl ac_I rfl rfl (by show 40 + 3 * i = 39 + 3 * i + 1; omega) hi9 rfl (by decide) (by decide) dX3_init_7 (fun j hj => Eq.trans (show defaultValue (newarray.typeOf .int) = cdv 7 j from rfl) (cv_d (b0 := b0) (t := 39 + 3 * i) (f := 7) (i := i) (j := j) ⟨by decide, by decide⟩ hi9 hj (Or.inl rfl)).symm) (Nat.le_of_ble_eq_true rfl) (Nat.le_of_ble_eq_true rfl) ?_
  refine hq_putF (f := 6) (i := i) (j := 8) (v' := cv b0 (39 + 3 * i + 1)) C ff_X3_9 hin dX3_init_9 rfl rfl (by decide) hi9 (by show 39 + 3 * i < 39 + 3 * i + 1 + 1; omega) rfl rfl (cv_U hi9 (by decide) (by show 39 + 3 * i = 39 + 3 * i; omega) (by omega) rfl) ?_
  refine hq_aload_n (q := 0) C dX3_init_12 rfl rfl ?_
  refine hq_bipush (y := 12) C dX3_init_13 (by decide) ?_
  refine hq_newa (f := 8) (i := i) (N := 12) (atype := .int) C 0 rfl ac_I rfl rfl (by show 41 + 3 * i = 39 + 3 * i + 1 + 1; omega) hi9 rfl (by decide) (by decide) dX3_init_15 (fun j hj => Eq.trans (show defaultValue (newarray.typeOf .int) = cdv 8 j from rfl) (cv_d (b0 := b0) (t := 39 + 3 * i + 1) (f := 8) (i := i) (j := j) ⟨by decide, by decide⟩ hi9 hj (Or.inl rfl)).symm) (Nat.le_of_ble_eq_true rfl) (Nat.le_of_ble_eq_true rfl) ?_
  refine hq_putF (f := 6) (i := i) (j := 9) (v' := cv b0 (39 + 3 * i + 1 + 1)) C ff_X3_15 hin dX3_init_17 rfl rfl (by decide) hi9 (by show 39 + 3 * i < 39 + 3 * i + 1 + 1 + 1; omega) rfl rfl (cv_U hi9 (by decide) (by show 40 + 3 * i = 39 + 3 * i + 1; omega) (by omega) rfl) ?_
  exact hq_vret C hr hlk dX3_init_20 rfl
abbrev rN_X1 : Room := { frames := 1, cells := 0, slots := 0, locals := 20 }
set_option maxHeartbeats 4000000 in
set_option maxRecDepth 100000 in
theorem mN_X1 {l : Launch} {D : va_G} {b0 : Nat} {i : Nat} (hi9 : i < 40) : hw_M l yX1_init cX1_init 1 none rN_X1 D b0 true (160 + 1 * i + 1) [.ref (hw_ad b0 10 i)] (cv b0 (160 + 1 * i)) true (160 + 1 * i + 1) none (cv b0 (160 + 1 * i)) 0 0 := by
  refine hw_Mof (by decide) [(0, .ref _)] rfl (Nat.le_of_ble_eq_true rfl) ?_
  intro p e s m args below meth c C hr hlk hnm
  have hin : meth.name = "<init>" := hnm
  refine hq_aload_n (q := 0) C dX1_init_0 rfl rfl ?_
  refine hq_objInit C mo_X1 dX1_init_1 (Nat.le_of_ble_eq_true rfl) (Nat.le_of_ble_eq_true rfl) ?_
  exact hq_vret C hr hlk dX1_init_4 rfl
abbrev rN_X4 : Room := { frames := 1, cells := 6, slots := 72, locals := 20 }
set_option maxHeartbeats 4000000 in
set_option maxRecDepth 100000 in
theorem mN_X4 {l : Launch} {D : va_G} {b0 : Nat}  : hw_M l yX4_init cX4_init 3 none rN_X4 D b0 true (228) [.ref (hw_ad b0 16 0), .ref (hw_ad b0 1 0), .ref (hw_ad b0 11 0)] (cv b0 (203)) true (228 + 1 + 1 + 1 + 1 + 1 + 1) none (cv b0 (203 + 1 + 1 + 1 + 1 + 1 + 1 + 1 + 1)) 6 72 := by
  refine hw_Mof (by decide) [(0, .ref _), (1, .ref _), (2, .ref _)] rfl (Nat.le_of_ble_eq_true rfl) ?_
  intro p e s m args below meth c C hr hlk hnm
  have hin : meth.name = "<init>" := hnm
  refine hq_aload_n (q := 0) C dX4_init_0 rfl rfl ?_
  refine hq_objInit C mo_X4 dX4_init_1 (Nat.le_of_ble_eq_true rfl) (Nat.le_of_ble_eq_true rfl) ?_
  refine hq_aload_n (q := 0) C dX4_init_4 rfl rfl ?_
  refine hq_bipush (y := 12) C dX4_init_5 (by decide) ?_
  refine hq_newa (f := 17) (i := 0) (N := 12) (atype := .boolean) C 2 rfl ac_Z rfl rfl rfl (by decide) rfl (by decide) (by decide) dX4_init_7 (fun j hj => Eq.trans (show defaultValue (newarray.typeOf .boolean) = cdv 17 j from rfl) (cv_d (b0 := b0) (t := 203) (f := 17) (i := 0) (j := j) ⟨by decide, by decide⟩ (by decide) hj (Or.inl rfl)).symm) (Nat.le_of_ble_eq_true rfl) (Nat.le_of_ble_eq_true rfl) ?_
  refine hq_putF (f := 16) (i := 0) (j := 2) (v' := cv b0 (203 + 1)) C ff_X4_9 hin dX4_init_9 rfl rfl (by decide) (by decide) (by decide) rfl rfl (cv_U (by decide) (by decide) rfl (by omega) rfl) ?_
  refine hq_aload_n (q := 0) C dX4_init_12 rfl rfl ?_
  refine hq_bipush (y := 12) C dX4_init_13 (by decide) ?_
  refine hq_newa (f := 18) (i := 0) (N := 12) (atype := .boolean) C 2 rfl ac_Z rfl rfl rfl (by decide) rfl (by decide) (by decide) dX4_init_15 (fun j hj => Eq.trans (show defaultValue (newarray.typeOf .boolean) = cdv 18 j from rfl) (cv_d (b0 := b0) (t := 203 + 1) (f := 18) (i := 0) (j := j) ⟨by decide, by decide⟩ (by decide) hj (Or.inl rfl)).symm) (Nat.le_of_ble_eq_true rfl) (Nat.le_of_ble_eq_true rfl) ?_
  refine hq_putF (f := 16) (i := 0) (j := 3) (v' := cv b0 (203 + 1 + 1)) C ff_X4_15 hin dX4_init_17 rfl rfl (by decide) (by decide) (by decide) rfl rfl (cv_U (by decide) (by decide) rfl (by omega) rfl) ?_
  refine hq_aload_n (q := 0) C dX4_init_20 rfl rfl ?_
  refine hq_bipush (y := 12) C dX4_init_21 (by decide) ?_
  refine hq_newa (f := 19) (i := 0) (N := 12) (atype := .boolean) C 2 rfl ac_Z rfl rfl rfl (by decide) rfl (by decide) (by decide) dX4_init_23 (fun j hj => Eq.trans (show defaultValue (newarray.typeOf .boolean) = cdv 19 j from rfl) (cv_d (b0 := b0) (t := 203 + 1 + 1) (f := 19) (i := 0) (j := j) ⟨by decide, by decide⟩ (by decide) hj (Or.inl rfl)).symm) (Nat.le_of_ble_eq_true rfl) (Nat.le_of_ble_eq_true rfl) ?_
  refine hq_putF (f := 16) (i := 0) (j := 4) (v' := cv b0 (203 + 1 + 1 + 1)) C ff_X4_18 hin dX4_init_25 rfl rfl (by decide) (by decide) (by decide) rfl rfl (cv_U (by decide) (by decide) rfl (by omega) rfl) ?_
  refine hq_aload_n (q := 0) C dX4_init_28 rfl rfl ?_
  refine hq_bipush (y := 12) C dX4_init_29 (by decide) ?_
  refine hq_newa (f := 20) (i := 0) (N := 12) (atype := .int) C 0 rfl ac_I rfl rfl rfl (by decide) rfl (by decide) (by decide) dX4_init_31 (fun j hj => Eq.trans (show defaultValue (newarray.typeOf .int) = cdv 20 j from rfl) (cv_d (b0 := b0) (t := 203 + 1 + 1 + 1) (f := 20) (i := 0) (j := j) ⟨by decide, by decide⟩ (by decide) hj (Or.inl rfl)).symm) (Nat.le_of_ble_eq_true rfl) (Nat.le_of_ble_eq_true rfl) ?_
  refine hq_putF (f := 16) (i := 0) (j := 5) (v' := cv b0 (203 + 1 + 1 + 1 + 1)) C ff_X4_21 hin dX4_init_33 rfl rfl (by decide) (by decide) (by decide) rfl rfl (cv_U (by decide) (by decide) rfl (by omega) rfl) ?_
  refine hq_aload_n (q := 0) C dX4_init_36 rfl rfl ?_
  refine hq_bipush (y := 12) C dX4_init_37 (by decide) ?_
  refine hq_newa (f := 21) (i := 0) (N := 12) (atype := .int) C 0 rfl ac_I rfl rfl rfl (by decide) rfl (by decide) (by decide) dX4_init_39 (fun j hj => Eq.trans (show defaultValue (newarray.typeOf .int) = cdv 21 j from rfl) (cv_d (b0 := b0) (t := 203 + 1 + 1 + 1 + 1) (f := 21) (i := 0) (j := j) ⟨by decide, by decide⟩ (by decide) hj (Or.inl rfl)).symm) (Nat.le_of_ble_eq_true rfl) (Nat.le_of_ble_eq_true rfl) ?_
  refine hq_putF (f := 16) (i := 0) (j := 6) (v' := cv b0 (203 + 1 + 1 + 1 + 1 + 1)) C ff_X4_25 hin dX4_init_41 rfl rfl (by decide) (by decide) (by decide) rfl rfl (cv_U (by decide) (by decide) rfl (by omega) rfl) ?_
  refine hq_aload_n (q := 0) C dX4_init_44 rfl rfl ?_
  refine hq_bipush (y := 12) C dX4_init_45 (by decide) ?_
  refine hq_newa (f := 22) (i := 0) (N := 12) (atype := .int) C 0 rfl ac_I rfl rfl rfl (by decide) rfl (by decide) (by decide) dX4_init_47 (fun j hj => Eq.trans (show defaultValue (newarray.typeOf .int) = cdv 22 j from rfl) (cv_d (b0 := b0) (t := 203 + 1 + 1 + 1 + 1 + 1) (f := 22) (i := 0) (j := j) ⟨by decide, by decide⟩ (by decide) hj (Or.inl rfl)).symm) (Nat.le_of_ble_eq_true rfl) (Nat.le_of_ble_eq_true rfl) ?_
  refine hq_putF (f := 16) (i := 0) (j := 7) (v' := cv b0 (203 + 1 + 1 + 1 + 1 + 1 + 1)) C ff_X4_28 hin dX4_init_49 rfl rfl (by decide) (by decide) (by decide) rfl rfl (cv_U (by decide) (by decide) rfl (by omega) rfl) ?_
  refine hq_aload_n (q := 0) C dX4_init_52 rfl rfl ?_
  refine hq_aload_n (q := 1) C dX4_init_53 rfl rfl ?_
  refine hq_putF (f := 16) (i := 0) (j := 0) (v' := cv b0 (203 + 1 + 1 + 1 + 1 + 1 + 1 + 1)) C ff_X4_31 hin dX4_init_54 rfl rfl (by decide) (by decide) (by decide) rfl rfl (cv_U (by decide) (by decide) rfl (by omega) rfl) ?_
  refine hq_aload_n (q := 0) C dX4_init_57 rfl rfl ?_
  refine hq_aload_n (q := 2) C dX4_init_58 rfl rfl ?_
  refine hq_putF (f := 16) (i := 0) (j := 1) (v' := cv b0 (203 + 1 + 1 + 1 + 1 + 1 + 1 + 1 + 1)) C ff_X4_35 hin dX4_init_59 rfl rfl (by decide) (by decide) (by decide) rfl rfl (cv_U (by decide) (by decide) rfl (by omega) rfl) ?_
  exact hq_vret C hr hlk dX4_init_62 rfl
abbrev rN_X2 : Room := { frames := 1, cells := 26, slots := 312, locals := 20 }
set_option maxHeartbeats 4000000 in
set_option maxRecDepth 100000 in
theorem mN_X2 {l : Launch} {D : va_G} {b0 : Nat}  : hw_Mz zL l yX2_init cX2_init 1 rN_X2 D b0 (201) [.ref (hw_ad b0 11 0)] (cv b0 (200)) (201 + 13 + 13) (cv b0 (200 + 1 + 1)) 26 312 := by
  refine hw_Mzof (by decide) [(0, .ref _)] rfl (Nat.le_of_ble_eq_true rfl) ?_
  intro p e s m args below meth c C hr hlk hnm hz
  have hin : meth.name = "<init>" := hnm
  refine hq_aload_n (q := 0) C dX2_init_0 rfl rfl ?_
  refine hq_objInit C mo_X2 dX2_init_1 (Nat.le_of_ble_eq_true rfl) (Nat.le_of_ble_eq_true rfl) ?_
  refine hq_aload_n (q := 0) C dX2_init_4 rfl rfl ?_
  refine hq_bipush (y := 12) C dX2_init_5 (by decide) ?_
  refine hq_bipush (y := 12) C dX2_init_7 (by decide) ?_
  refine hq_mna (f := 12) (g := 13) C rfl rfl cl_X2_9 hz ac_J rfl rfl rfl rfl (by decide) rfl rfl (fun i hi => by show 202 + 1 * i = _; omega) dX2_init_9 (fun j hj => Eq.trans (cv_at (b0 := b0) (t := 200) (f := 12) (i := 0) (j := j) (show 0 < 200 by omega)) rfl) (fun i j hi hj => Eq.trans (cv_d (b0 := b0) (t := 200) (f := 13) (i := i) (j := j) ⟨by decide, by decide⟩ hi hj (Or.inl rfl)) rfl) (Nat.le_of_ble_eq_true rfl) (Nat.le_of_ble_eq_true rfl) ?_
  refine hq_putF (f := 11) (i := 0) (j := 0) (v' := cv b0 (200 + 1)) C ff_X2_11 hin dX2_init_13 rfl rfl (by decide) (by decide) (by decide) rfl rfl (cv_U (by decide) (by decide) rfl (by omega) rfl) ?_
  refine hq_aload_n (q := 0) C dX2_init_16 rfl rfl ?_
  refine hq_bipush (y := 12) C dX2_init_17 (by decide) ?_
  refine hq_bipush (y := 12) C dX2_init_19 (by decide) ?_
  refine hq_mna (f := 14) (g := 15) C rfl rfl cl_X2_9 hz ac_J rfl rfl rfl rfl (by decide) rfl rfl (fun i hi => by show 215 + 1 * i = _; omega) dX2_init_21 (fun j hj => Eq.trans (cv_at (b0 := b0) (t := 200 + 1) (f := 14) (i := 0) (j := j) (show 0 < 200 + 1 by omega)) rfl) (fun i j hi hj => Eq.trans (cv_d (b0 := b0) (t := 200 + 1) (f := 15) (i := i) (j := j) ⟨by decide, by decide⟩ hi hj (Or.inl rfl)) rfl) (Nat.le_of_ble_eq_true rfl) (Nat.le_of_ble_eq_true rfl) ?_
  refine hq_putF (f := 11) (i := 0) (j := 1) (v' := cv b0 (200 + 1 + 1)) C ff_X2_16 hin dX2_init_25 rfl rfl (by decide) (by decide) (by decide) rfl rfl (cv_U (by decide) (by decide) rfl (by omega) rfl) ?_
  exact hq_vret C hr hlk dX2_init_28 rfl
