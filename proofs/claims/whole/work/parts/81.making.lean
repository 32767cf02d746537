/-! the law makes its three objects -/
theorem dlaw_0 : decode code 0 = .ok (.new 8, 3) := by decide +kernel
theorem dlaw_3 : decode code 3 = .ok (.dup, 1) := by decide +kernel
theorem dlaw_4 : decode code 4 = .ok (.invokespecial 89, 3) := by decide +kernel
theorem dlaw_7 : decode code 7 = .ok (.astore_n 1, 1) := by decide +kernel
theorem dlaw_8 : decode code 8 = .ok (.new 90, 3) := by decide +kernel
theorem dlaw_11 : decode code 11 = .ok (.dup, 1) := by decide +kernel
theorem dlaw_12 : decode code 12 = .ok (.invokespecial 92, 3) := by decide +kernel
theorem dlaw_15 : decode code 15 = .ok (.astore_n 2, 1) := by decide +kernel
theorem dlaw_16 : decode code 16 = .ok (.iconst 1, 1) := by decide +kernel
theorem dlaw_17 : decode code 17 = .ok (.newarray .long, 2) := by decide +kernel
theorem dlaw_19 : decode code 19 = .ok (.astore_n 3, 1) := by decide +kernel
theorem dlaw_20 : decode code 20 = .ok (.iconst 0, 1) := by decide +kernel
theorem dlaw_21 : decode code 21 = .ok (.istore 4, 2) := by decide +kernel
theorem cl_L_8 : Cond.classLink RL 8 "HundiHall" ∈ hw_TB := hw_in 72 (by decide +kernel) rfl
theorem in_X5 : Cond.instantiable "HundiHall" 14 ∈ hw_TB := hw_in 73 (by decide +kernel) rfl
theorem ii_X5 : Cond.initialized "HundiHall" ∈ hw_TB := hw_in 58 (by decide +kernel) rfl
theorem cl_L_90 : Cond.classLink RL 90 "HundiHallModel" ∈ hw_TB := hw_in 774 (by decide +kernel) rfl
theorem in_X6 : Cond.instantiable "HundiHallModel" 38 ∈ hw_TB := hw_in 775 (by decide +kernel) rfl
theorem ii_X6 : Cond.initialized "HundiHallModel" ∈ hw_TB := hw_in 64 (by decide +kernel) rfl
section LS
variable {p : Program} {l : Launch} {e : Env} {s : State} {m : MethodId} {args : Array Value} {below : List Frame} {meth : Method} {c : Code} {Q : State → Prop} {D : va_G} {b0 b L9 : Nat} {xs : Nat → Int32}
/-- the constructors are through: numbers from here on -/
theorem hq_made {ka kb pc : Nat} {L : List (Nat × Value)} {st : List Value} (k : hw_V p l e room_1 s m args below meth c Q D b0 8 false ka kb 271 pc L st (hw_vl b0 i_0 j_0 i_0 j_0 0)) : hw_V p l e room_1 s m args below meth c Q D b0 8 true ka kb 271 pc L st (cv b0 263) := fun H locs ls hH hZ hS hl =>
  k H locs ls (hH.to fun f i j hi hj _ => cv_at (hs_end f (hw_lt hi) i hi j hj)) ⟨hZ.1, fun z => by cases z⟩ hS hl
set_option maxRecDepth 100000 in
theorem law_make (C : hw_C p s m args c D b0 code RL 8) (hz : zH s) (k : hw_V p l e room_1 s m args below meth c Q D b0 8 false 300 5000 271 23 (lL b0 b 0) [] (hw_vl b0 i_0 j_0 i_0 j_0 0)) : hw_V p l e room_1 s m args below meth c Q D b0 8 true 0 0 0 0 [(0, .ref b)] [] (cv b0 1) := by
  refine hq_new (f := 0) (i := 0) C 5 rfl (by decide) rfl rfl rfl (by decide) cl_L_8 in_X5 ii_X5 dlaw_0 (fun ty hty j hj => (df_X5 ty hty j hj).trans (cv_d (b0 := b0) (t := 1) (f := 0) (i := 0) (j := j) ⟨by decide, by decide⟩ (by decide) hj (by
    rcases (show j = 0 ∨ j = 1 ∨ j = 2 ∨ j = 3 ∨ j = 4 ∨ j = 5 ∨ j = 6 ∨ j = 7 ∨ j = 8 ∨ j = 9 ∨ j = 10 ∨ j = 11 ∨ j = 12 ∨ j = 13 by have : j < 14 := hj; omega) with rfl | rfl | rfl | rfl | rfl | rfl | rfl | rfl | rfl | rfl | rfl | rfl | rfl | rfl
    · exact Or.inr (by show 1 ≤ 1 + 0 * 0; omega)
    · exact Or.inr (by show 1 ≤ 38 + 0 * 0; omega)
    · exact Or.inr (by show 1 ≤ 159 + 0 * 0; omega)
    · exact Or.inr (by show 1 ≤ 202 + 0 * 0; omega)
    · exact Or.inr (by show 1 ≤ 211 + 0 * 0; omega)
    · exact Or.inr (by show 1 ≤ 212 + 0 * 0; omega)
    · exact Or.inr (by show 1 ≤ 221 + 0 * 0; omega)
    · exact Or.inr (by show 1 ≤ 222 + 0 * 0; omega)
    · exact Or.inl rfl
    · exact Or.inl rfl
    · exact Or.inl rfl
    · exact Or.inl rfl
    · exact Or.inl rfl
    · exact Or.inl rfl)).symm) (Nat.le_of_ble_eq_true rfl) (Nat.le_of_ble_eq_true rfl) ?_
  refine hq_dup C dlaw_3 rfl ?_
  refine hq_callIz (As := []) (rm := rN_X5) C zH_w hz mN_X5 wi_X5 ml_L_89 rfl rfl rfl rfl ⟨Nat.le_of_ble_eq_true rfl, Nat.le_of_ble_eq_true rfl⟩ (Nat.le_of_ble_eq_true rfl) ⟨Nat.le_of_ble_eq_true rfl, Nat.le_of_ble_eq_true rfl⟩ dlaw_4 ?_
  refine hq_astore_n (L' := [(1, .ref (hw_ad b0 0 0)), (0, .ref b)]) C dlaw_7 rfl (by decide) rfl ?_
  refine hq_new (f := 26) (i := 0) C 6 rfl (by decide) rfl rfl rfl (by decide) cl_L_90 in_X6 ii_X6 dlaw_8 (fun ty hty j hj => (df_X6 ty hty j hj).trans (cv_d (b0 := b0) (t := 223) (f := 26) (i := 0) (j := j) ⟨by decide, by decide⟩ (by decide) hj (by
    rcases (show j = 0 ∨ j = 1 ∨ j = 2 ∨ j = 3 ∨ j = 4 ∨ j = 5 ∨ j = 6 ∨ j = 7 ∨ j = 8 ∨ j = 9 ∨ j = 10 ∨ j = 11 ∨ j = 12 ∨ j = 13 ∨ j = 14 ∨ j = 15 ∨ j = 16 ∨ j = 17 ∨ j = 18 ∨ j = 19 ∨ j = 20 ∨ j = 21 ∨ j = 22 ∨ j = 23 ∨ j = 24 ∨ j = 25 ∨ j = 26 ∨ j = 27 ∨ j = 28 ∨ j = 29 ∨ j = 30 ∨ j = 31 ∨ j = 32 ∨ j = 33 ∨ j = 34 ∨ j = 35 ∨ j = 36 ∨ j = 37 by have : j < 38 := hj; omega) with rfl | rfl | rfl | rfl | rfl | rfl | rfl | rfl | rfl | rfl | rfl | rfl | rfl | rfl | rfl | rfl | rfl | rfl | rfl | rfl | rfl | rfl | rfl | rfl | rfl | rfl | rfl | rfl | rfl | rfl | rfl | rfl | rfl | rfl | rfl | rfl | rfl | rfl
    · exact Or.inl rfl
    · exact Or.inl rfl
    · exact Or.inl rfl
    · exact Or.inl rfl
    · exact Or.inr (by show 223 ≤ 223 + 0 * 0; omega)
    · exact Or.inr (by show 223 ≤ 224 + 0 * 0; omega)
    · exact Or.inr (by show 223 ≤ 225 + 0 * 0; omega)
    · exact Or.inr (by show 223 ≤ 226 + 0 * 0; omega)
    · exact Or.inr (by show 223 ≤ 227 + 0 * 0; omega)
    · exact Or.inr (by show 223 ≤ 228 + 0 * 0; omega)
    · exact Or.inr (by show 223 ≤ 229 + 0 * 0; omega)
    · exact Or.inr (by show 223 ≤ 230 + 0 * 0; omega)
    · exact Or.inr (by show 223 ≤ 231 + 0 * 0; omega)
    · exact Or.inr (by show 223 ≤ 232 + 0 * 0; omega)
    · exact Or.inl rfl
    · exact Or.inr (by show 223 ≤ 233 + 0 * 0; omega)
    · exact Or.inr (by show 223 ≤ 234 + 0 * 0; omega)
    · exact Or.inr (by show 223 ≤ 235 + 0 * 0; omega)
    · exact Or.inr (by show 223 ≤ 236 + 0 * 0; omega)
    · exact Or.inr (by show 223 ≤ 237 + 0 * 0; omega)
    · exact Or.inr (by show 223 ≤ 238 + 0 * 0; omega)
    · exact Or.inr (by show 223 ≤ 239 + 0 * 0; omega)
    · exact Or.inr (by show 223 ≤ 240 + 0 * 0; omega)
    · exact Or.inr (by show 223 ≤ 241 + 0 * 0; omega)
    · exact Or.inr (by show 223 ≤ 242 + 0 * 0; omega)
    · exact Or.inl rfl
    · exact Or.inr (by show 223 ≤ 243 + 0 * 0; omega)
    · exact Or.inr (by show 223 ≤ 244 + 0 * 0; omega)
    · exact Or.inr (by show 223 ≤ 245 + 0 * 0; omega)
    · exact Or.inr (by show 223 ≤ 246 + 0 * 0; omega)
    · exact Or.inr (by show 223 ≤ 247 + 0 * 0; omega)
    · exact Or.inr (by show 223 ≤ 256 + 0 * 0; omega)
    · exact Or.inr (by show 223 ≤ 257 + 0 * 0; omega)
    · exact Or.inr (by show 223 ≤ 258 + 0 * 0; omega)
    · exact Or.inr (by show 223 ≤ 259 + 0 * 0; omega)
    · exact Or.inr (by show 223 ≤ 260 + 0 * 0; omega)
    · exact Or.inr (by show 223 ≤ 261 + 0 * 0; omega)
    · exact Or.inr (by show 223 ≤ 262 + 0 * 0; omega))).symm) (Nat.le_of_ble_eq_true rfl) (Nat.le_of_ble_eq_true rfl) ?_
  refine hq_dup C dlaw_11 rfl ?_
  refine hq_callI (As := []) (rm := rN_X6) C mN_X6 wi_X6 ml_L_92 rfl rfl rfl rfl ⟨Nat.le_of_ble_eq_true rfl, Nat.le_of_ble_eq_true rfl⟩ (Nat.le_of_ble_eq_true rfl) ⟨Nat.le_of_ble_eq_true rfl, Nat.le_of_ble_eq_true rfl⟩ dlaw_12 ?_
  refine hq_cast (ka' := 270) (kb' := 4771) (n' := 270) (v' := cv b0 263) rfl rfl rfl rfl ?_
  refine hq_astore_n (L' := [(2, .ref (hw_ad b0 26 0)), (1, .ref (hw_ad b0 0 0)), (0, .ref b)]) C dlaw_15 rfl (by decide) rfl ?_
  refine hq_iconst (y := nI 1) C dlaw_16 (by decide) ?_
  refine hq_newa (f := 59) (i := 0) (N := 1) (atype := .long) C 1 rfl ac_J (by decide) rfl rfl (by decide) rfl (by decide) (by decide) dlaw_17 (fun j hj => by
    rcases (show j = 0 by omega) with rfl
    exact (cv_at (b0 := b0) (t := 263) (f := 59) (i := 0) (j := 0) (by decide)).symm) (Nat.le_of_ble_eq_true rfl) (Nat.le_of_ble_eq_true rfl) ?_
  refine hq_made ?_
  refine hq_widen (ka' := 300) (kb' := 5000) (Nat.le_of_ble_eq_true rfl) (Nat.le_of_ble_eq_true rfl) ?_
  refine hq_astore_n (L' := [(3, .ref (hw_ad b0 59 0)), (2, .ref (hw_ad b0 26 0)), (1, .ref (hw_ad b0 0 0)), (0, .ref b)]) C dlaw_19 rfl (by decide) rfl ?_
  refine hq_iconst (y := nI 0) C dlaw_20 (by decide) ?_
  refine hq_istore (L' := [(4, .int (nI 0)), (3, .ref (hw_ad b0 59 0)), (2, .ref (hw_ad b0 26 0)), (1, .ref (hw_ad b0 0 0)), (0, .ref b)]) C dlaw_21 (by decide) rfl ?_
  exact hq_perm [4, 3, 2, 1, 0] (L' := lL b0 b 0) rfl k
end LS
