/-! the hall's constructor -/
def zH (U : State) : Prop := (va_AO "HundiHall$Broker" U ∧ va_AO "HundiHall$Order" U ∧ va_AO "HundiHall$Courier" U) ∧ zL U ∧ (va_Nw (.methodLinkNest RX5 15 yX0_init RX5) U ∧ va_Nw (.methodLinkNest RX5 22 yX3_init RX5) U ∧ va_Nw (.methodLinkNest RX5 29 yX1_init RX5) U ∧ va_Nw (.methodLinkNest RX5 32 yX2_init RX5) U)
theorem zH_w : hw_Zw zH := fun s U hW ⟨⟨h1, h2, h3⟩, h4, h5, h6, h7, h8⟩ => ⟨⟨h1.moved hW.alike, h2.moved hW.alike, h3.moved hW.alike⟩, zL_w s U hW h4, va_Nw.warmM hW h5, va_Nw.warmM hW h6, va_Nw.warmM hW h7, va_Nw.warmM hW h8⟩
section HQC
variable {p : Program} {l : Launch} {e : Env} {R : Room} {s : State} {m : MethodId} {args : Array Value} {below : List Frame} {meth : Method} {c : Code} {Q : State → Prop} {D : va_G} {b0 nL : Nat} {xb : Bool} {ka kb n ka' kb' n' : Nat} {pc : Nat} {L L' : List (Nat × Value)} {st : List Value} {v v' : VF}
theorem hq_cast (h1 : ka = ka') (h2 : kb = kb') (h3 : n = n') (h4 : v = v') (k : hw_V p l e R s m args below meth c Q D b0 nL xb ka' kb' n' pc L st v') : hw_V p l e R s m args below meth c Q D b0 nL xb ka kb n pc L st v := by
  subst h1 h2 h3 h4
  exact k
end HQC
theorem cl_X5_9 : Cond.classLink RX5 9 "HundiHall$Broker" ∈ hw_TB := hw_in 56 (by decide +kernel) rfl
theorem in_X0 : Cond.instantiable "HundiHall$Broker" 8 ∈ hw_TB := hw_in 58 (by decide +kernel) rfl
theorem ii_X0 : Cond.initialized "HundiHall$Broker" ∈ hw_TB := hw_in 36 (by decide +kernel) rfl
theorem cl_X5_16 : Cond.classLink RX5 16 "HundiHall$Order" ∈ hw_TB := hw_in 94 (by decide +kernel) rfl
theorem in_X3 : Cond.instantiable "HundiHall$Order" 10 ∈ hw_TB := hw_in 96 (by decide +kernel) rfl
theorem ii_X3 : Cond.initialized "HundiHall$Order" ∈ hw_TB := hw_in 37 (by decide +kernel) rfl
theorem cl_X5_23 : Cond.classLink RX5 23 "HundiHall$Courier" ∈ hw_TB := hw_in 138 (by decide +kernel) rfl
theorem in_X1 : Cond.instantiable "HundiHall$Courier" 6 ∈ hw_TB := hw_in 140 (by decide +kernel) rfl
theorem ii_X1 : Cond.initialized "HundiHall$Courier" ∈ hw_TB := hw_in 38 (by decide +kernel) rfl
theorem cl_X5_30 : Cond.classLink RX5 30 "HundiHall$Ledger" ∈ hw_TB := hw_in 164 (by decide +kernel) rfl
theorem in_X2 : Cond.instantiable "HundiHall$Ledger" 2 ∈ hw_TB := hw_in 165 (by decide +kernel) rfl
theorem ii_X2 : Cond.initialized "HundiHall$Ledger" ∈ hw_TB := hw_in 39 (by decide +kernel) rfl
theorem cl_X5_37 : Cond.classLink RX5 37 "HundiHall$WayFinder" ∈ hw_TB := hw_in 183 (by decide +kernel) rfl
theorem in_X4 : Cond.instantiable "HundiHall$WayFinder" 11 ∈ hw_TB := hw_in 184 (by decide +kernel) rfl
theorem ii_X4 : Cond.initialized "HundiHall$WayFinder" ∈ hw_TB := hw_in 40 (by decide +kernel) rfl
theorem fz_X5_11 : hw_FR RX5 11 5 0 := ⟨_, _, _, rfl, by decide, hw_in 229 (by decide +kernel) rfl⟩
theorem fz_X5_18 : hw_FR RX5 18 5 1 := ⟨_, _, _, rfl, by decide, hw_in 230 (by decide +kernel) rfl⟩
theorem fz_X5_25 : hw_FR RX5 25 5 2 := ⟨_, _, _, rfl, by decide, hw_in 231 (by decide +kernel) rfl⟩
theorem fz_X5_33 : hw_FR RX5 33 5 3 := ⟨_, _, _, rfl, by decide, hw_in 232 (by decide +kernel) rfl⟩
theorem fz_X5_46 : hw_FR RX5 46 5 5 := ⟨_, _, _, rfl, by decide, hw_in 234 (by decide +kernel) rfl⟩
abbrev rN_X5 : Room := { frames := 2, cells := 236, slots := 2509, locals := 60 }
set_option maxHeartbeats 4000000 in
set_option maxRecDepth 100000 in
theorem mN_X5 {l : Launch} {D : va_G} {b0 : Nat} : hw_Mz zH l yX5_init cX5_init 2 rN_X5 D b0 1 [.ref (hw_ad b0 0 0)] (cv b0 1) 237 (cv b0 223) 236 2509 := by
  refine hw_Mzof (by decide) [(0, .ref _)] rfl (Nat.le_of_ble_eq_true rfl) ?_
  intro p e s m args below meth c C hr hlk hnm hz
  have hin : meth.name = "<init>" := hnm
  have k172 : hw_V p l e rN_X5 s m args below meth c (MQ below (hw_Q D b0 true 237 none (cv b0 223)) args s 236 2509 (fun q => b0 ≤ q)) D b0 2 true 234 2481 235 172 [(1, .int (nI 8)), (0, .ref (hw_ad b0 0 0))] [] (cv b0 221) := by
    refine hq_aload_n (q := 1) C dX5_init_172 rfl rfl ?_
    refine hq_bipush (y := 8) C dX5_init_173 (by decide) ?_
    refine hq_newa (f := 24) (i := 0) (N := 8) (atype := .int) C 0 rfl ac_I rfl rfl rfl (by decide) rfl (by decide) (by decide) dX5_init_175 (fun j hj => Eq.trans (show defaultValue (newarray.typeOf .int) = cdv 24 j from rfl) (cv_d (b0 := b0) (t := 221) (f := 24) (i := 0) (j := j) ⟨by decide, by decide⟩ (by decide) hj (Or.inl rfl)).symm) (Nat.le_of_ble_eq_true rfl) (Nat.le_of_ble_eq_true rfl) ?_
    refine hq_putF (f := 0) (i := 0) (j := 6) (v' := cv b0 (221 + 1)) C ff_X5_51 hin dX5_init_177 rfl rfl (by decide) (by decide) (by decide) rfl rfl (cv_U (by decide) (by decide) rfl (by omega) rfl) ?_
    refine hq_aload_n (q := 1) C dX5_init_180 rfl rfl ?_
    refine hq_bipush (y := 20) C dX5_init_181 (by decide) ?_
    refine hq_newa (f := 25) (i := 0) (N := 20) (atype := .boolean) C 2 rfl ac_Z rfl rfl rfl (by decide) rfl (by decide) (by decide) dX5_init_183 (fun j hj => Eq.trans (show defaultValue (newarray.typeOf .boolean) = cdv 25 j from rfl) (cv_d (b0 := b0) (t := 221 + 1) (f := 25) (i := 0) (j := j) ⟨by decide, by decide⟩ (by decide) hj (Or.inl rfl)).symm) (Nat.le_of_ble_eq_true rfl) (Nat.le_of_ble_eq_true rfl) ?_
    refine hq_putF (f := 0) (i := 0) (j := 7) (v' := cv b0 (221 + 1 + 1)) C ff_X5_54 hin dX5_init_185 rfl rfl (by decide) (by decide) (by decide) rfl rfl (cv_U (by decide) (by decide) rfl (by omega) rfl) ?_
    exact hq_vret C hr hlk dX5_init_188 rfl
  have l152 : ∀ r i : Nat, i + r = 8 → hw_V p l e rN_X5 s m args below meth c (MQ below (hw_Q D b0 true 237 none (cv b0 223)) args s 236 2509 (fun q => b0 ≤ q)) D b0 2 true 234 2481 235 152 [(1, .int (nI i)), (0, .ref (hw_ad b0 0 0))] [] (cv b0 (213 + 1 * i)) := by
    intro r
    induction r with
    | zero =>
      intro i hi0
      obtain rfl : i = 8 := by omega
      refine hq_iload_n (q := 0) C dX5_init_152 rfl rfl ?_
      refine hq_bipush (y := 8) C dX5_init_153 (by decide) ?_
      refine hq_icmp_ge (tgt := 172) C dX5_init_155 (by decide) (fun _ => ?_) (fun c_9 => absurd (show (8 : Int32) ≤ nI 8 by decide) c_9)
      exact k172
    | succ r ih =>
      intro i hi0
      have hi9 : i < 8 := by omega
      refine hq_iload_n (q := 0) C dX5_init_152 rfl rfl ?_
      refine hq_bipush (y := 8) C dX5_init_153 (by decide) ?_
      refine hq_icmp_ge (tgt := 172) C dX5_init_155 (by decide) (fun c_9 => absurd c_9 (nI_ge (b := 8) (by omega) (by omega))) (fun _ => ?_)
      refine hq_aload_n (q := 1) C dX5_init_158 rfl rfl ?_
      refine hq_get (f := 0) (i := 0) (j := 5) (y := .ref (hw_ad b0 23 0)) C fz_X5_46 dX5_init_159 rfl rfl (by decide) (by decide) (by decide) (Eq.trans (cv_at (b0 := b0) (t := 213 + 1 * i) (f := 0) (i := 0) (j := 5) (show 212 < 213 + 1 * i by omega)) rfl) ?_
      refine hq_iload_n (q := 0) C dX5_init_162 rfl rfl ?_
      refine hq_ldc C wc_X5_50 dX5_init_163 ?_
      refine hq_iast (f := 23) (i := 0) (a := i) (v' := cv b0 (213 + 1 * i + 1)) C dX5_init_165 rfl rfl rfl hi9 (by decide) (by decide) (cv_U (f := 23) (i := 0) (j := i) (by decide) hi9 rfl (by omega) rfl) ?_
      refine hq_iinc (q := 0) (y := nI (i + 1)) (L' := [(1, .int (nI (i + 1))), (0, .ref (hw_ad b0 0 0))]) C dX5_init_166 rfl (nI_1 i) (by decide) rfl ?_
      refine hq_goto (tgt := 152) C dX5_init_169 (by decide) ?_
      exact hq_cast rfl rfl rfl (congrArg (cv b0) (by omega)) (ih (i + 1) (by omega))
  have k112 : hw_V p l e rN_X5 s m args below meth c (MQ below (hw_Q D b0 true 237 none (cv b0 223)) args s 236 2509 (fun q => b0 ≤ q)) D b0 2 true 199 2076 200 112 [(1, .int (nI 40)), (0, .ref (hw_ad b0 0 0))] [] (cv b0 200) := by
    refine hq_aload_n (q := 1) C dX5_init_112 rfl rfl ?_
    refine hq_new (f := 11) (i := 0) C 2 rfl (by decide) rfl rfl rfl (by decide) cl_X5_30 in_X2 ii_X2 dX5_init_113 (fun ty hty j hj => (df_X2 ty hty j hj).trans (cv_d (b0 := b0) (t := 200) (f := 11) (i := 0) (j := j) ⟨by decide, by decide⟩ (by decide) hj (by
        rcases (show j = 0 ∨ j = 1 by have : j < 2 := hj; omega) with rfl | rfl
        · exact Or.inr (by show 200 ≤ 200 + 0 * 0; omega)
        · exact Or.inr (by show 200 ≤ 201 + 0 * 0; omega))).symm) (by show _ ≤ 236; omega) (by show _ ≤ 2509; omega) ?_
    refine hq_dup C dX5_init_116 rfl ?_
    refine hq_callINz (As := []) (rm := rN_X2) C zL_w hz.2.1 mN_X2 wi_X2 hz.2.2.2.2.2 rfl rfl rfl rfl ⟨Nat.le_of_ble_eq_true rfl, Nat.le_of_ble_eq_true rfl⟩ (Nat.le_of_ble_eq_true rfl) ⟨Nat.le_of_ble_eq_true rfl, Nat.le_of_ble_eq_true rfl⟩ dX5_init_117 ?_
    refine hq_putF (f := 0) (i := 0) (j := 3) (v' := cv b0 203) C ff_X5_33 hin dX5_init_120 rfl rfl (by decide) (by decide) (by decide) rfl rfl (cv_U (t := 202) (by decide) (by decide) rfl (by decide) rfl) ?_
    refine hq_aload_n (q := 1) C dX5_init_123 rfl rfl ?_
    refine hq_new (f := 16) (i := 0) C 4 rfl (by decide) rfl rfl rfl (by decide) cl_X5_37 in_X4 ii_X4 dX5_init_124 (fun ty hty j hj => (df_X4 ty hty j hj).trans (cv_d (b0 := b0) (t := 203) (f := 16) (i := 0) (j := j) ⟨by decide, by decide⟩ (by decide) hj (by
        rcases (show j = 0 ∨ j = 1 ∨ j = 2 ∨ j = 3 ∨ j = 4 ∨ j = 5 ∨ j = 6 ∨ j = 7 ∨ j = 8 ∨ j = 9 ∨ j = 10 by have : j < 11 := hj; omega) with rfl | rfl | rfl | rfl | rfl | rfl | rfl | rfl | rfl | rfl | rfl
        · exact Or.inr (by show 203 ≤ 209 + 0 * 0; omega)
        · exact Or.inr (by show 203 ≤ 210 + 0 * 0; omega)
        · exact Or.inr (by show 203 ≤ 203 + 0 * 0; omega)
        · exact Or.inr (by show 203 ≤ 204 + 0 * 0; omega)
        · exact Or.inr (by show 203 ≤ 205 + 0 * 0; omega)
        · exact Or.inr (by show 203 ≤ 206 + 0 * 0; omega)
        · exact Or.inr (by show 203 ≤ 207 + 0 * 0; omega)
        · exact Or.inr (by show 203 ≤ 208 + 0 * 0; omega)
        · exact Or.inl rfl
        · exact Or.inl rfl
        · exact Or.inl rfl)).symm) (by show _ ≤ 236; omega) (by show _ ≤ 2509; omega) ?_
    refine hq_dup C dX5_init_127 rfl ?_
    refine hq_aload_n (q := 1) C dX5_init_128 rfl rfl ?_
    refine hq_get (f := 0) (i := 0) (j := 0) (y := .ref (hw_ad b0 1 0)) C fz_X5_11 dX5_init_129 rfl rfl (by decide) (by decide) (by decide) (Eq.trans (cv_at (b0 := b0) (t := 203) (f := 0) (i := 0) (j := 0) (by decide)) rfl) ?_
    refine hq_aload_n (q := 1) C dX5_init_132 rfl rfl ?_
    refine hq_get (f := 0) (i := 0) (j := 3) (y := .ref (hw_ad b0 11 0)) C fz_X5_33 dX5_init_133 rfl rfl (by decide) (by decide) (by decide) (Eq.trans (cv_at (b0 := b0) (t := 203) (f := 0) (i := 0) (j := 3) (by decide)) rfl) ?_
    refine hq_callI (As := [.ref _, .ref _]) (rm := rN_X4) C mN_X4 wi_X4 ml_X5_39 rfl rfl rfl rfl ⟨Nat.le_of_ble_eq_true rfl, Nat.le_of_ble_eq_true rfl⟩ (Nat.le_of_ble_eq_true rfl) ⟨Nat.le_of_ble_eq_true rfl, Nat.le_of_ble_eq_true rfl⟩ dX5_init_136 ?_
    refine hq_putF (f := 0) (i := 0) (j := 4) (v' := cv b0 212) C ff_X5_42 hin dX5_init_139 rfl rfl (by decide) (by decide) (by decide) rfl rfl (cv_U (t := 211) (by decide) (by decide) rfl (by decide) rfl) ?_
    refine hq_aload_n (q := 1) C dX5_init_142 rfl rfl ?_
    refine hq_bipush (y := 8) C dX5_init_143 (by decide) ?_
    refine hq_newa (f := 23) (i := 0) (N := 8) (atype := .int) C 0 rfl ac_I rfl rfl rfl (by decide) rfl (by decide) (by decide) dX5_init_145 (fun j hj => Eq.trans (show defaultValue (newarray.typeOf .int) = cdv 23 j from rfl) (cv_d (b0 := b0) (t := 212) (f := 23) (i := 0) (j := j) ⟨by decide, by decide⟩ (by decide) hj (Or.inr (by show 212 ≤ 213 + 1 * j; omega))).symm) (Nat.le_of_ble_eq_true rfl) (Nat.le_of_ble_eq_true rfl) ?_
    refine hq_putF (f := 0) (i := 0) (j := 5) (v' := cv b0 (212 + 1)) C ff_X5_46 hin dX5_init_147 rfl rfl (by decide) (by decide) (by decide) rfl rfl (cv_U (by decide) (by decide) rfl (by omega) rfl) ?_
    refine hq_iconst (y := 0) C dX5_init_150 (by decide) ?_
    refine hq_istore_n (L' := [(1, .int (nI 0)), (0, .ref (hw_ad b0 0 0))]) C dX5_init_151 rfl (by decide) rfl ?_
    exact l152 8 0 rfl
  have l87 : ∀ r i : Nat, i + r = 40 → hw_V p l e rN_X5 s m args below meth c (MQ below (hw_Q D b0 true 237 none (cv b0 223)) args s 236 2509 (fun q => b0 ≤ q)) D b0 2 true (159 + 1 * i) (1836 + 6 * i) (160 + 1 * i) 87 [(1, .int (nI i)), (0, .ref (hw_ad b0 0 0))] [] (cv b0 (160 + 1 * i)) := by
    intro r
    induction r with
    | zero =>
      intro i hi0
      obtain rfl : i = 40 := by omega
      refine hq_iload_n (q := 0) C dX5_init_87 rfl rfl ?_
      refine hq_bipush (y := 40) C dX5_init_88 (by decide) ?_
      refine hq_icmp_ge (tgt := 112) C dX5_init_90 (by decide) (fun _ => ?_) (fun c_9 => absurd (show (40 : Int32) ≤ nI 40 by decide) c_9)
      exact k112
    | succ r ih =>
      intro i hi0
      have hi9 : i < 40 := by omega
      refine hq_iload_n (q := 0) C dX5_init_87 rfl rfl ?_
      refine hq_bipush (y := 40) C dX5_init_88 (by decide) ?_
      refine hq_icmp_ge (tgt := 112) C dX5_init_90 (by decide) (fun c_9 => absurd c_9 (nI_ge (b := 40) (by omega) (by omega))) (fun _ => ?_)
      refine hq_aload_n (q := 1) C dX5_init_93 rfl rfl ?_
      refine hq_get (f := 0) (i := 0) (j := 2) (y := .ref (hw_ad b0 9 0)) C fz_X5_25 dX5_init_94 rfl rfl (by decide) (by decide) (by show 0 < _; omega) (Eq.trans (cv_at (b0 := b0) (t := 160 + 1 * i) (f := 0) (i := 0) (j := 2) (show 159 < 160 + 1 * i by omega)) rfl) ?_
      refine hq_iload_n (q := 0) C dX5_init_97 rfl rfl ?_
      refine hq_new (f := 10) (i := i) C 1 rfl (by decide) rfl rfl (by show 160 + 1 * i = 160 + 1 * i; omega) hi9 cl_X5_23 in_X1 ii_X1 dX5_init_98 (fun ty hty j hj => (df_X1 ty hty j hj).trans (cv_d (b0 := b0) (t := 160 + 1 * i) (f := 10) (i := i) (j := j) ⟨by decide, by decide⟩ hi9 hj (by
          rcases (show j = 0 ∨ j = 1 ∨ j = 2 ∨ j = 3 ∨ j = 4 ∨ j = 5 by have : j < 6 := hj; omega) with rfl | rfl | rfl | rfl | rfl | rfl
          · exact Or.inl rfl
          · exact Or.inl rfl
          · exact Or.inl rfl
          · exact Or.inl rfl
          · exact Or.inl rfl
          · exact Or.inl rfl)).symm) (by show _ ≤ 236; omega) (by show _ ≤ 2509; omega) ?_
      refine hq_dup C dX5_init_101 rfl ?_
      refine hq_callIN (As := []) (rm := rN_X1) C (mN_X1 hi9) wi_X1 hz.2.2.2.2.1 rfl rfl rfl rfl ⟨Nat.le_of_ble_eq_true rfl, Nat.le_of_ble_eq_true rfl⟩ (Nat.le_of_ble_eq_true rfl) ⟨by show _ ≤ 236; omega, by show _ ≤ 2509; omega⟩ dX5_init_102 ?_
      refine hq_aast (f := 9) (i := 0) (a := i) (f2 := 10) (i2 := i) (ci := 1) (v' := cv b0 (160 + 1 * i + 1)) C 5 rfl rfl dX5_init_105 rfl rfl hi9 (by omega) (by decide) (by show 159 < _; omega) rfl rfl hi9 (by show 160 + 1 * i < _; omega) (cv_U (f := 9) (i := 0) (j := i) (by decide) hi9 (by show 160 + 1 * i = 160 + 1 * i; omega) (by omega) rfl) ?_
      refine hq_iinc (q := 0) (y := nI (i + 1)) (L' := [(1, .int (nI (i + 1))), (0, .ref (hw_ad b0 0 0))]) C dX5_init_106 rfl (nI_1 i) (by decide) rfl ?_
      refine hq_goto (tgt := 87) C dX5_init_109 (by decide) ?_
      exact hq_cast (by omega) (by omega) (by omega) (congrArg (cv b0) (by omega)) (ih (i + 1) (by omega))
  have k76 : hw_V p l e rN_X5 s m args below meth c (MQ below (hw_Q D b0 true 237 none (cv b0 223)) args s 236 2509 (fun q => b0 ≤ q)) D b0 2 true 158 1796 159 76 [(1, .int (nI 40)), (0, .ref (hw_ad b0 0 0))] [] (cv b0 159) := by
    refine hq_aload_n (q := 1) C dX5_init_76 rfl rfl ?_
    refine hq_bipush (y := 40) C dX5_init_77 (by decide) ?_
    refine hq_anew (f := 9) (i := 0) (N := 40) (Cn := "HundiHall$Courier") C 5 rfl cl_X5_23 hz.1.2.2 rfl rfl rfl (by decide) rfl (by decide) dX5_init_79 (fun j hj => Eq.trans (show Value.null = cdv 9 j from rfl) (cv_d (b0 := b0) (t := 159) (f := 9) (i := 0) (j := j) ⟨by decide, by decide⟩ (by decide) hj (Or.inr (by show 159 ≤ 160 + 1 * j; omega))).symm) (Nat.le_of_ble_eq_true rfl) (Nat.le_of_ble_eq_true rfl) ?_
    refine hq_putF (f := 0) (i := 0) (j := 2) (v' := cv b0 160) C ff_X5_25 hin dX5_init_82 rfl rfl (by decide) (by decide) (by decide) rfl rfl (cv_U (t := 159) (by decide) (by decide) rfl (by decide) rfl) ?_
    refine hq_iconst (y := 0) C dX5_init_85 (by decide) ?_
    refine hq_istore_n (L' := [(1, .int (nI 0)), (0, .ref (hw_ad b0 0 0))]) C dX5_init_86 rfl (by decide) rfl ?_
    exact l87 40 0 rfl
  have l51 : ∀ r i : Nat, i + r = 40 → hw_V p l e rN_X5 s m args below meth c (MQ below (hw_Q D b0 true 237 none (cv b0 223)) args s 236 2509 (fun q => b0 ≤ q)) D b0 2 true (38 + 3 * i) (436 + 34 * i) (39 + 3 * i) 51 [(1, .int (nI i)), (0, .ref (hw_ad b0 0 0))] [] (cv b0 (39 + 3 * i)) := by
    intro r
    induction r with
    | zero =>
      intro i hi0
      obtain rfl : i = 40 := by omega
      refine hq_iload_n (q := 0) C dX5_init_51 rfl rfl ?_
      refine hq_bipush (y := 40) C dX5_init_52 (by decide) ?_
      refine hq_icmp_ge (tgt := 76) C dX5_init_54 (by decide) (fun _ => ?_) (fun c_9 => absurd (show (40 : Int32) ≤ nI 40 by decide) c_9)
      exact k76
    | succ r ih =>
      intro i hi0
      have hi9 : i < 40 := by omega
      refine hq_iload_n (q := 0) C dX5_init_51 rfl rfl ?_
      refine hq_bipush (y := 40) C dX5_init_52 (by decide) ?_
      refine hq_icmp_ge (tgt := 76) C dX5_init_54 (by decide) (fun c_9 => absurd c_9 (nI_ge (b := 40) (by omega) (by omega))) (fun _ => ?_)
      refine hq_aload_n (q := 1) C dX5_init_57 rfl rfl ?_
      refine hq_get (f := 0) (i := 0) (j := 1) (y := .ref (hw_ad b0 5 0)) C fz_X5_18 dX5_init_58 rfl rfl (by decide) (by decide) (by show 0 < _; omega) (Eq.trans (cv_at (b0 := b0) (t := 39 + 3 * i) (f := 0) (i := 0) (j := 1) (show 38 < 39 + 3 * i by omega)) rfl) ?_
      refine hq_iload_n (q := 0) C dX5_init_61 rfl rfl ?_
      refine hq_new (f := 6) (i := i) C 3 rfl (by decide) rfl rfl (by show 39 + 3 * i = 39 + 3 * i; omega) hi9 cl_X5_16 in_X3 ii_X3 dX5_init_62 (fun ty hty j hj => (df_X3 ty hty j hj).trans (cv_d (b0 := b0) (t := 39 + 3 * i) (f := 6) (i := i) (j := j) ⟨by decide, by decide⟩ hi9 hj (by
          rcases (show j = 0 ∨ j = 1 ∨ j = 2 ∨ j = 3 ∨ j = 4 ∨ j = 5 ∨ j = 6 ∨ j = 7 ∨ j = 8 ∨ j = 9 by have : j < 10 := hj; omega) with rfl | rfl | rfl | rfl | rfl | rfl | rfl | rfl | rfl | rfl
          · exact Or.inl rfl
          · exact Or.inl rfl
          · exact Or.inl rfl
          · exact Or.inl rfl
          · exact Or.inl rfl
          · exact Or.inl rfl
          · exact Or.inl rfl
          · exact Or.inl rfl
          · exact Or.inr (by show 39 + 3 * i ≤ 39 + 3 * i; omega)
          · exact Or.inr (by show 39 + 3 * i ≤ 40 + 3 * i; omega))).symm) (by show _ ≤ 236; omega) (by show _ ≤ 2509; omega) ?_
      refine hq_dup C dX5_init_65 rfl ?_
      refine hq_callIN (As := []) (rm := rN_X3) C (mN_X3 hi9) wi_X3 hz.2.2.2.1 rfl rfl rfl rfl ⟨Nat.le_of_ble_eq_true rfl, Nat.le_of_ble_eq_true rfl⟩ (Nat.le_of_ble_eq_true rfl) ⟨by show _ ≤ 236; omega, by show _ ≤ 2509; omega⟩ dX5_init_66 ?_
      refine hq_aast (f := 5) (i := 0) (a := i) (f2 := 6) (i2 := i) (ci := 3) (v' := cv b0 (39 + 3 * i + 1 + 1 + 1)) C 4 rfl rfl dX5_init_69 rfl rfl hi9 (by omega) (by decide) (by show 38 < _; omega) rfl rfl hi9 (by show 39 + 3 * i < _; omega) (cv_U (f := 5) (i := 0) (j := i) (by decide) hi9 (by show 41 + 3 * i = 39 + 3 * i + 1 + 1; omega) (by omega) rfl) ?_
      refine hq_iinc (q := 0) (y := nI (i + 1)) (L' := [(1, .int (nI (i + 1))), (0, .ref (hw_ad b0 0 0))]) C dX5_init_70 rfl (nI_1 i) (by decide) rfl ?_
      refine hq_goto (tgt := 51) C dX5_init_73 (by decide) ?_
      exact hq_cast (by omega) (by omega) (by omega) (congrArg (cv b0) (by omega)) (ih (i + 1) (by omega))
  have k40 : hw_V p l e rN_X5 s m args below meth c (MQ below (hw_Q D b0 true 237 none (cv b0 223)) args s 236 2509 (fun q => b0 ≤ q)) D b0 2 true 37 396 38 40 [(1, .int (nI 12)), (0, .ref (hw_ad b0 0 0))] [] (cv b0 38) := by
    refine hq_aload_n (q := 1) C dX5_init_40 rfl rfl ?_
    refine hq_bipush (y := 40) C dX5_init_41 (by decide) ?_
    refine hq_anew (f := 5) (i := 0) (N := 40) (Cn := "HundiHall$Order") C 4 rfl cl_X5_16 hz.1.2.1 rfl rfl rfl (by decide) rfl (by decide) dX5_init_43 (fun j hj => Eq.trans (show Value.null = cdv 5 j from rfl) (cv_d (b0 := b0) (t := 38) (f := 5) (i := 0) (j := j) ⟨by decide, by decide⟩ (by decide) hj (Or.inr (by show 38 ≤ 41 + 3 * j; omega))).symm) (Nat.le_of_ble_eq_true rfl) (Nat.le_of_ble_eq_true rfl) ?_
    refine hq_putF (f := 0) (i := 0) (j := 1) (v' := cv b0 39) C ff_X5_18 hin dX5_init_46 rfl rfl (by decide) (by decide) (by decide) rfl rfl (cv_U (t := 38) (by decide) (by decide) rfl (by decide) rfl) ?_
    refine hq_iconst (y := 0) C dX5_init_49 (by decide) ?_
    refine hq_istore_n (L' := [(1, .int (nI 0)), (0, .ref (hw_ad b0 0 0))]) C dX5_init_50 rfl (by decide) rfl ?_
    exact l51 40 0 rfl
  have l15 : ∀ r i : Nat, i + r = 12 → hw_V p l e rN_X5 s m args below meth c (MQ below (hw_Q D b0 true 237 none (cv b0 223)) args s 236 2509 (fun q => b0 ≤ q)) D b0 2 true (1 + 3 * i) (12 + 32 * i) (2 + 3 * i) 15 [(1, .int (nI i)), (0, .ref (hw_ad b0 0 0))] [] (cv b0 (2 + 3 * i)) := by
    intro r
    induction r with
    | zero =>
      intro i hi0
      obtain rfl : i = 12 := by omega
      refine hq_iload_n (q := 0) C dX5_init_15 rfl rfl ?_
      refine hq_bipush (y := 12) C dX5_init_16 (by decide) ?_
      refine hq_icmp_ge (tgt := 40) C dX5_init_18 (by decide) (fun _ => ?_) (fun c_9 => absurd (show (12 : Int32) ≤ nI 12 by decide) c_9)
      exact k40
    | succ r ih =>
      intro i hi0
      have hi9 : i < 12 := by omega
      refine hq_iload_n (q := 0) C dX5_init_15 rfl rfl ?_
      refine hq_bipush (y := 12) C dX5_init_16 (by decide) ?_
      refine hq_icmp_ge (tgt := 40) C dX5_init_18 (by decide) (fun c_9 => absurd c_9 (nI_ge (b := 12) (by omega) (by omega))) (fun _ => ?_)
      refine hq_aload_n (q := 1) C dX5_init_21 rfl rfl ?_
      refine hq_get (f := 0) (i := 0) (j := 0) (y := .ref (hw_ad b0 1 0)) C fz_X5_11 dX5_init_22 rfl rfl (by decide) (by decide) (by show 0 < _; omega) (Eq.trans (cv_at (b0 := b0) (t := 2 + 3 * i) (f := 0) (i := 0) (j := 0) (show 1 < 2 + 3 * i by omega)) rfl) ?_
      refine hq_iload_n (q := 0) C dX5_init_25 rfl rfl ?_
      refine hq_new (f := 2) (i := i) C 0 rfl (by decide) rfl rfl (by show 2 + 3 * i = 2 + 3 * i; omega) hi9 cl_X5_9 in_X0 ii_X0 dX5_init_26 (fun ty hty j hj => (df_X0 ty hty j hj).trans (cv_d (b0 := b0) (t := 2 + 3 * i) (f := 2) (i := i) (j := j) ⟨by decide, by decide⟩ hi9 hj (by
          rcases (show j = 0 ∨ j = 1 ∨ j = 2 ∨ j = 3 ∨ j = 4 ∨ j = 5 ∨ j = 6 ∨ j = 7 by have : j < 8 := hj; omega) with rfl | rfl | rfl | rfl | rfl | rfl | rfl | rfl
          · exact Or.inl rfl
          · exact Or.inl rfl
          · exact Or.inl rfl
          · exact Or.inl rfl
          · exact Or.inl rfl
          · exact Or.inl rfl
          · exact Or.inr (by show 2 + 3 * i ≤ 2 + 3 * i; omega)
          · exact Or.inr (by show 2 + 3 * i ≤ 3 + 3 * i; omega))).symm) (by show _ ≤ 236; omega) (by show _ ≤ 2509; omega) ?_
      refine hq_dup C dX5_init_29 rfl ?_
      refine hq_callIN (As := []) (rm := rN_X0) C (mN_X0 hi9) wi_X0 hz.2.2.1 rfl rfl rfl rfl ⟨Nat.le_of_ble_eq_true rfl, Nat.le_of_ble_eq_true rfl⟩ (Nat.le_of_ble_eq_true rfl) ⟨by show _ ≤ 236; omega, by show _ ≤ 2509; omega⟩ dX5_init_30 ?_
      refine hq_aast (f := 1) (i := 0) (a := i) (f2 := 2) (i2 := i) (ci := 0) (v' := cv b0 (2 + 3 * i + 1 + 1 + 1)) C 3 rfl rfl dX5_init_33 rfl rfl hi9 (by omega) (by decide) (by show 1 < _; omega) rfl rfl hi9 (by show 2 + 3 * i < _; omega) (cv_U (f := 1) (i := 0) (j := i) (by decide) hi9 (by show 4 + 3 * i = 2 + 3 * i + 1 + 1; omega) (by omega) rfl) ?_
      refine hq_iinc (q := 0) (y := nI (i + 1)) (L' := [(1, .int (nI (i + 1))), (0, .ref (hw_ad b0 0 0))]) C dX5_init_34 rfl (nI_1 i) (by decide) rfl ?_
      refine hq_goto (tgt := 15) C dX5_init_37 (by decide) ?_
      exact hq_cast (by omega) (by omega) (by omega) (congrArg (cv b0) (by omega)) (ih (i + 1) (by omega))
  refine hq_aload_n (q := 0) C dX5_init_0 rfl rfl ?_
  refine hq_objInit C mo_X5 dX5_init_1 (Nat.le_of_ble_eq_true rfl) (Nat.le_of_ble_eq_true rfl) ?_
  refine hq_aload_n (q := 0) C dX5_init_4 rfl rfl ?_
  refine hq_bipush (y := 12) C dX5_init_5 (by decide) ?_
  refine hq_anew (f := 1) (i := 0) (N := 12) (Cn := "HundiHall$Broker") C 3 rfl cl_X5_9 hz.1.1 rfl rfl rfl (by decide) rfl (by decide) dX5_init_7 (fun j hj => Eq.trans (show Value.null = cdv 1 j from rfl) (cv_d (b0 := b0) (t := 1) (f := 1) (i := 0) (j := j) ⟨by decide, by decide⟩ (by decide) hj (Or.inr (by show 1 ≤ 4 + 3 * j; omega))).symm) (Nat.le_of_ble_eq_true rfl) (Nat.le_of_ble_eq_true rfl) ?_
  refine hq_putF (f := 0) (i := 0) (j := 0) (v' := cv b0 2) C ff_X5_11 hin dX5_init_10 rfl rfl (by decide) (by decide) (by decide) rfl rfl (cv_U (t := 1) (by decide) (by decide) rfl (by decide) rfl) ?_
  refine hq_iconst (y := 0) C dX5_init_13 (by decide) ?_
  refine hq_istore_n (L' := [(1, .int (nI 0)), (0, .ref (hw_ad b0 0 0))]) C dX5_init_14 rfl (by decide) rfl ?_
  exact l15 12 0 rfl
