/-! the model: small methods -/
theorem ix12 {x y : Int32} {a b : Nat} (hx : x = nI a) (hy : y = nI b) : 12 * x + y = nI (12 * a + b) := by
  rw [hx, hy, show (12 : Int32) = nI 12 from rfl, pk_mul, nI_add]
theorem ix12b {x y : Int32} {a b : Nat} (hx : x = nI a) (hy : y = nI b) : 12 * x + y + 1 = nI (12 * a + (b + 1)) := by
  rw [ix12 hx hy, nI_1]; rfl
theorem ix12k {x y : Int32} {a b c : Nat} (hx : x = nI a) (hy : y = nI b) : 12 * x + y + nI c = nI (12 * a + (b + c)) := by
  rw [ix12 hx hy, nI_add, Nat.add_assoc]
def sx_in (x a b : Int32) : Int32 := if x < a then 0 else if b < x then 0 else 1
def pf_owe (N : MJ) (g a b : Nat) (x : Int64) : MJ := uJ N g (12 * a + b) (N g (12 * a + b) + x)
def ps_on (P : MI) (N : MJ) (i k : Nat) (z : Int32) : MJ :=
  let a := tn (P 20 (12 * i + k)); let b := tn (P 20 (12 * i + (k + 1))); let x := z.toInt64 * (P 21 (12 * i + k)).toInt64
  if P 17 i ≤ nI k then pf_owe (pf_owe (pf_owe N 1 a b x) 1 b a (-x)) 2 a b x else pf_owe (pf_owe (pf_owe (pf_owe N 1 a b x) 1 b a (-x)) 2 a b x) 2 b a (-x)
def ps_fee (P : MI) (b : Nat) (x : Int32) : Int64 := x.toInt64 * (P 6 b).toInt64 / 1000
def ps_lim (P : MI) (i j : Nat) : Int64 := if P 4 0 = 0 then (P 10 (12 * i + j)).toInt64 else if P 11 (12 * i + j) = 0 then (P 10 (12 * i + j)).toInt64 else 2 * (P 10 (12 * i + j)).toInt64
def ps_can (P : MI) (N : MJ) (a c : Nat) (x : Int32) : Int32 := if nI a = nI c then 0 else if 0 ≤ lg_cmp (N 5 c) 1000000000000 then 0 else if 0 < lg_cmp (N 1 (12 * a + c) + x.toInt64 + N 5 c) (ps_lim P c a) then 0 else 1
set_option maxHeartbeats 4000000 in
set_option maxRecDepth 100000 in
theorem m_X6_thrown {l : Launch} {D : va_G} {b0 : Nat} {I : MI} {J : MJ} {P : MI} {N : MJ} {o : Int64}  : hM l yX6_thrown cX6_thrown 1 (some .int) rX6_thrown D b0 [.ref (hw_ad b0 26 0)] I J P N o (some (.int (P 40 0))) I J P N o := by
  refine hw_Mof (by decide) [(0, .ref _)] rfl (Nat.le_of_ble_eq_true rfl) ?_
  intro p e s m args below meth c C hr hlk hnm
  refine hq_aload_n (q := 0) C dX6_thrown_0 rfl rfl ?_
  refine hq_getP (f := 26) (g := 40) (Nc := 1) (Ns := 38) C fr_X6_109 dX6_thrown_1 rfl rfl rfl rfl rfl (by decide) Nat.one_pos ?_
  exact hq_iret C hr hlk dX6_thrown_4 rfl rfl
set_option maxHeartbeats 4000000 in
set_option maxRecDepth 100000 in
theorem m_X6_goesWell {l : Launch} {D : va_G} {b0 : Nat} {I : MI} {J : MJ} {P : MI} {N : MJ} {o : Int64} {x : Int32} : hM l yX6_goesWell cX6_goesWell 2 (some .boolean) rX6_goesWell D b0 [.ref (hw_ad b0 26 0), .int x] I J P N o (some (.int (hb (x = 0)))) I J (uI P 40 0 x) N o := by
  refine hw_Mof (by decide) [(0, .ref _), (1, .int _)] rfl (Nat.le_of_ble_eq_true rfl) ?_
  intro p e s m args below meth c C hr hlk hnm
  refine hq_aload_n (q := 0) C dX6_goesWell_0 rfl rfl ?_
  refine hq_iload_n (q := 1) C dX6_goesWell_1 rfl rfl ?_
  refine hq_putP (f := 26) (g := 40) (Nc := 1) (Ns := 38) C fl_X6_109 dX6_goesWell_2 rfl rfl rfl rfl rfl (by decide) Nat.one_pos rfl rfl ?_
  refine hq_iload_n (q := 1) C dX6_goesWell_5 rfl rfl ?_
  refine hq_if_ne (tgt := 13) C dX6_goesWell_6 (by decide) (fun c_6 => ?_) (fun c_6 => ?_)
  · refine hq_iconst (y := 0) C dX6_goesWell_13 (by decide) ?_
    exact hq_zret C hr hlk dX6_goesWell_14 (by decide) (by simp [hb, c_6]) rfl
  · refine hq_iconst (y := 1) C dX6_goesWell_9 (by decide) ?_
    refine hq_goto (tgt := 14) C dX6_goesWell_10 (by decide) ?_
    exact hq_zret C hr hlk dX6_goesWell_14 (by decide) (by simp [hb, c_6]) rfl
set_option maxHeartbeats 4000000 in
set_option maxRecDepth 100000 in
theorem m_X6_in {l : Launch} {D : va_G} {b0 : Nat} {I : MI} {J : MJ} {P : MI} {N : MJ} {o : Int64} {x a b : Int32} : hM l yX6_in cX6_in 3 (some .boolean) rX6_in D b0 [.int x, .int a, .int b] I J P N o (some (.int (sx_in x a b))) I J P N o := by
  refine hw_Mof (by decide) [(0, .int _), (1, .int _), (2, .int _)] rfl (Nat.le_of_ble_eq_true rfl) ?_
  intro p e s m args below meth c C hr hlk hnm
  refine hq_iload_n (q := 0) C dX6_in_0 rfl rfl ?_
  refine hq_iload_n (q := 1) C dX6_in_1 rfl rfl ?_
  refine hq_icmp_lt (tgt := 14) C dX6_in_2 (by decide) (fun c_2 => ?_) (fun c_2 => ?_)
  · refine hq_iconst (y := 0) C dX6_in_14 (by decide) ?_
    exact hq_zret C hr hlk dX6_in_15 (by decide) (by simp [sx_in, c_2]) rfl
  · refine hq_iload_n (q := 0) C dX6_in_5 rfl rfl ?_
    refine hq_iload_n (q := 2) C dX6_in_6 rfl rfl ?_
    refine hq_icmp_gt (tgt := 14) C dX6_in_7 (by decide) (fun c_7 => ?_) (fun c_7 => ?_)
    · refine hq_iconst (y := 0) C dX6_in_14 (by decide) ?_
      exact hq_zret C hr hlk dX6_in_15 (by decide) (by simp [sx_in, c_2, c_7]) rfl
    · refine hq_iconst (y := 1) C dX6_in_10 (by decide) ?_
      refine hq_goto (tgt := 15) C dX6_in_11 (by decide) ?_
      exact hq_zret C hr hlk dX6_in_15 (by decide) (by simp [sx_in, c_2, c_7]) rfl
theorem sx_in_bo (x a b : Int32) : hw_bo (sx_in x a b) := by
  unfold sx_in
  repeat' split
  all_goals first | exact Or.inl rfl | exact Or.inr rfl
set_option maxHeartbeats 4000000 in
set_option maxRecDepth 100000 in
theorem m_X6_isBroker {l : Launch} {D : va_G} {b0 : Nat} {I : MI} {J : MJ} {P : MI} {N : MJ} {o : Int64} {x : Int32} : hM l yX6_isBroker cX6_isBroker 2 (some .boolean) rX6_isBroker D b0 [.ref (hw_ad b0 26 0), .int x] I J P N o (some (.int (sx_in x 0 (P 0 0 - 1)))) I J P N o := by
  refine hw_Mof (by decide) [(0, .ref _), (1, .int _)] rfl (Nat.le_of_ble_eq_true rfl) ?_
  intro p e s m args below meth c C hr hlk hnm
  refine hq_iload_n (q := 1) C dX6_isBroker_0 rfl rfl ?_
  refine hq_iconst (y := 0) C dX6_isBroker_1 (by decide) ?_
  refine hq_aload_n (q := 0) C dX6_isBroker_2 rfl rfl ?_
  refine hq_getP (f := 26) (g := 0) (Nc := 1) (Ns := 38) C fr_X6_113 dX6_isBroker_3 rfl rfl rfl rfl rfl (by decide) Nat.one_pos ?_
  refine hq_iconst (y := 1) C dX6_isBroker_6 (by decide) ?_
  refine hq_isub C dX6_isBroker_7 ?_
  refine hq_cSr (As := [.int _, .int _, .int _]) (rm := rX6_in) (Cn := "") C (m_X6_in) ws_X6_in ml_X6_116 rfl rfl rfl rfl ⟨Nat.le_of_ble_eq_true rfl, Nat.le_of_ble_eq_true rfl⟩ (Nat.le_of_ble_eq_true rfl) ⟨Nat.le_of_ble_eq_true rfl, Nat.le_of_ble_eq_true rfl⟩ dX6_isBroker_8 ?_
  exact hq_zret C hr hlk dX6_isBroker_11 (hw_bon (sx_in_bo _ _ _)) rfl rfl
set_option maxHeartbeats 4000000 in
set_option maxRecDepth 100000 in
theorem m_X6_isOrder {l : Launch} {D : va_G} {b0 : Nat} {I : MI} {J : MJ} {P : MI} {N : MJ} {o : Int64} {x : Int32} : hM l yX6_isOrder cX6_isOrder 2 (some .boolean) rX6_isOrder D b0 [.ref (hw_ad b0 26 0), .int x] I J P N o (some (.int (sx_in x 0 (P 1 0 - 1)))) I J P N o := by
  refine hw_Mof (by decide) [(0, .ref _), (1, .int _)] rfl (Nat.le_of_ble_eq_true rfl) ?_
  intro p e s m args below meth c C hr hlk hnm
  refine hq_iload_n (q := 1) C dX6_isOrder_0 rfl rfl ?_
  refine hq_iconst (y := 0) C dX6_isOrder_1 (by decide) ?_
  refine hq_aload_n (q := 0) C dX6_isOrder_2 rfl rfl ?_
  refine hq_getP (f := 26) (g := 1) (Nc := 1) (Ns := 38) C fr_X6_181 dX6_isOrder_3 rfl rfl rfl rfl rfl (by decide) Nat.one_pos ?_
  refine hq_iconst (y := 1) C dX6_isOrder_6 (by decide) ?_
  refine hq_isub C dX6_isOrder_7 ?_
  refine hq_cSr (As := [.int _, .int _, .int _]) (rm := rX6_in) (Cn := "") C (m_X6_in) ws_X6_in ml_X6_116 rfl rfl rfl rfl ⟨Nat.le_of_ble_eq_true rfl, Nat.le_of_ble_eq_true rfl⟩ (Nat.le_of_ble_eq_true rfl) ⟨Nat.le_of_ble_eq_true rfl, Nat.le_of_ble_eq_true rfl⟩ dX6_isOrder_8 ?_
  exact hq_zret C hr hlk dX6_isOrder_11 (hw_bon (sx_in_bo _ _ _)) rfl rfl
def sx_br2 (P : MI) (x y : Int32) : Int32 := if sx_in x 0 (P 0 0 - 1) = 0 then 0 else if sx_in y 0 (P 0 0 - 1) = 0 then 0 else 1
set_option maxHeartbeats 4000000 in
set_option maxRecDepth 100000 in
theorem m_X6_areBrokers {l : Launch} {D : va_G} {b0 : Nat} {I : MI} {J : MJ} {P : MI} {N : MJ} {o : Int64} {x y : Int32} : hM l yX6_areBrokers cX6_areBrokers 3 (some .boolean) rX6_areBrokers D b0 [.ref (hw_ad b0 26 0), .int x, .int y] I J P N o (some (.int (sx_br2 P x y))) I J P N o := by
  refine hw_Mof (by decide) [(0, .ref _), (1, .int _), (2, .int _)] rfl (Nat.le_of_ble_eq_true rfl) ?_
  intro p e s m args below meth c C hr hlk hnm
  refine hq_aload_n (q := 0) C dX6_areBrokers_0 rfl rfl ?_
  refine hq_iload_n (q := 1) C dX6_areBrokers_1 rfl rfl ?_
  refine hq_cVr (As := [.int _]) (rm := rX6_isBroker) (f := 26) (Nc := 1) C (m_X6_isBroker) wv_X6_isBroker ml_X6_120 rfl rfl rfl Nat.one_pos rfl rfl rfl rfl ⟨Nat.le_of_ble_eq_true rfl, Nat.le_of_ble_eq_true rfl⟩ (Nat.le_of_ble_eq_true rfl) ⟨Nat.le_of_ble_eq_true rfl, Nat.le_of_ble_eq_true rfl⟩ dX6_areBrokers_2 ?_
  refine hq_if_eq (tgt := 20) C dX6_areBrokers_5 (by decide) (fun c_5 => ?_) (fun c_5 => ?_)
  · refine hq_iconst (y := 0) C dX6_areBrokers_20 (by decide) ?_
    exact hq_zret C hr hlk dX6_areBrokers_21 (by decide) (by simp [sx_br2, c_5]) rfl
  · refine hq_aload_n (q := 0) C dX6_areBrokers_8 rfl rfl ?_
    refine hq_iload_n (q := 2) C dX6_areBrokers_9 rfl rfl ?_
    refine hq_cVr (As := [.int _]) (rm := rX6_isBroker) (f := 26) (Nc := 1) C (m_X6_isBroker) wv_X6_isBroker ml_X6_120 rfl rfl rfl Nat.one_pos rfl rfl rfl rfl ⟨Nat.le_of_ble_eq_true rfl, Nat.le_of_ble_eq_true rfl⟩ (Nat.le_of_ble_eq_true rfl) ⟨Nat.le_of_ble_eq_true rfl, Nat.le_of_ble_eq_true rfl⟩ dX6_areBrokers_10 ?_
    refine hq_if_eq (tgt := 20) C dX6_areBrokers_13 (by decide) (fun c_13 => ?_) (fun c_13 => ?_)
    · refine hq_iconst (y := 0) C dX6_areBrokers_20 (by decide) ?_
      exact hq_zret C hr hlk dX6_areBrokers_21 (by decide) (by simp [sx_br2, c_5, c_13]) rfl
    · refine hq_iconst (y := 1) C dX6_areBrokers_16 (by decide) ?_
      refine hq_goto (tgt := 21) C dX6_areBrokers_17 (by decide) ?_
      exact hq_zret C hr hlk dX6_areBrokers_21 (by decide) (by simp [sx_br2, c_5, c_13]) rfl
set_option maxHeartbeats 4000000 in
set_option maxRecDepth 100000 in
theorem m_X6_owe1 {l : Launch} {D : va_G} {b0 : Nat} {I : MI} {J : MJ} {P : MI} {N : MJ} {o : Int64} {a b : Nat} {x y : Int32} {z : Int64} (hx : x = nI a) (ha : a < 12) (hy : y = nI b) (hb9 : b < 12) : hM l yX6_owe cX6_owe 6 none rX6_owe D b0 [.ref (hw_ad b0 26 0), .ref (hw_ad b0 35 0), .int x, .int y, .long z] I J P N o none I J P (pf_owe N 1 a b z) o := by
  refine hw_Mof (by decide) [(0, .ref _), (1, .ref _), (2, .int _), (3, .int _), (4, .long _)] rfl (Nat.le_of_ble_eq_true rfl) ?_
  intro p e s m args below meth c C hr hlk hnm
  refine hq_aload_n (q := 1) C dX6_owe_0 rfl rfl ?_
  refine hq_bipush (y := 12) C dX6_owe_1 (by decide) ?_
  refine hq_iload_n (q := 2) C dX6_owe_3 rfl rfl ?_
  refine hq_imul C dX6_owe_4 ?_
  refine hq_iload_n (q := 3) C dX6_owe_5 rfl rfl ?_
  refine hq_iadd C dX6_owe_6 ?_
  refine hq_dup2 C dX6_owe_7 rfl rfl ?_
  refine hq_laldN0 (f := 35) (a := 12 * a + b) (g := 1) (Nc := 1) (Ns := 144) C dX6_owe_8 rfl rfl rfl rfl rfl rfl (ix12 hx hy) (by omega) Nat.one_pos ?_
  refine hq_lload (q := 4) C dX6_owe_9 rfl ?_
  refine hq_ladd C dX6_owe_11 ?_
  refine hq_lastN0 (f := 35) (a := 12 * a + b) (g := 1) (Nc := 1) (Ns := 144) C dX6_owe_12 rfl rfl rfl rfl rfl rfl (ix12 hx hy) (by omega) Nat.one_pos ?_
  exact hq_vret C hr hlk dX6_owe_13 rfl
set_option maxHeartbeats 4000000 in
set_option maxRecDepth 100000 in
theorem m_X6_owe2 {l : Launch} {D : va_G} {b0 : Nat} {I : MI} {J : MJ} {P : MI} {N : MJ} {o : Int64} {a b : Nat} {x y : Int32} {z : Int64} (hx : x = nI a) (ha : a < 12) (hy : y = nI b) (hb9 : b < 12) : hM l yX6_owe cX6_owe 6 none rX6_owe D b0 [.ref (hw_ad b0 26 0), .ref (hw_ad b0 36 0), .int x, .int y, .long z] I J P N o none I J P (pf_owe N 2 a b z) o := by
  refine hw_Mof (by decide) [(0, .ref _), (1, .ref _), (2, .int _), (3, .int _), (4, .long _)] rfl (Nat.le_of_ble_eq_true rfl) ?_
  intro p e s m args below meth c C hr hlk hnm
  refine hq_aload_n (q := 1) C dX6_owe_0 rfl rfl ?_
  refine hq_bipush (y := 12) C dX6_owe_1 (by decide) ?_
  refine hq_iload_n (q := 2) C dX6_owe_3 rfl rfl ?_
  refine hq_imul C dX6_owe_4 ?_
  refine hq_iload_n (q := 3) C dX6_owe_5 rfl rfl ?_
  refine hq_iadd C dX6_owe_6 ?_
  refine hq_dup2 C dX6_owe_7 rfl rfl ?_
  refine hq_laldN0 (f := 36) (a := 12 * a + b) (g := 2) (Nc := 1) (Ns := 144) C dX6_owe_8 rfl rfl rfl rfl rfl rfl (ix12 hx hy) (by omega) Nat.one_pos ?_
  refine hq_lload (q := 4) C dX6_owe_9 rfl ?_
  refine hq_ladd C dX6_owe_11 ?_
  refine hq_lastN0 (f := 36) (a := 12 * a + b) (g := 2) (Nc := 1) (Ns := 144) C dX6_owe_12 rfl rfl rfl rfl rfl rfl (ix12 hx hy) (by omega) Nat.one_pos ?_
  exact hq_vret C hr hlk dX6_owe_13 rfl
set_option maxHeartbeats 4000000 in
set_option maxRecDepth 100000 in
theorem m_X6_oweBoth {l : Launch} {D : va_G} {b0 : Nat} {I : MI} {J : MJ} {P : MI} {N : MJ} {o : Int64} {a b : Nat} {x y : Int32} {z : Int64} (hx : x = nI a) (ha : a < 12) (hy : y = nI b) (hb9 : b < 12) : hM l yX6_oweBoth cX6_oweBoth 5 none rX6_oweBoth D b0 [.ref (hw_ad b0 26 0), .int x, .int y, .long z] I J P N o none I J P (pf_owe (pf_owe (pf_owe (pf_owe N 1 a b z) 1 b a (-z)) 2 a b z) 2 b a (-z)) o := by
  refine hw_Mof (by decide) [(0, .ref _), (1, .int _), (2, .int _), (3, .long _)] rfl (Nat.le_of_ble_eq_true rfl) ?_
  intro p e s m args below meth c C hr hlk hnm
  refine hq_aload_n (q := 0) C dX6_oweBoth_0 rfl rfl ?_
  refine hq_aload_n (q := 0) C dX6_oweBoth_1 rfl rfl ?_
  refine hq_getR (f := 26) (g := 35) (Nc := 1) (Ns := 38) C fr_X6_36 dX6_oweBoth_2 rfl rfl rfl rfl rfl (by decide) Nat.one_pos ?_
  refine hq_iload_n (q := 1) C dX6_oweBoth_5 rfl rfl ?_
  refine hq_iload_n (q := 2) C dX6_oweBoth_6 rfl rfl ?_
  refine hq_lload_n (q := 3) C dX6_oweBoth_7 rfl rfl ?_
  refine hq_cVv (As := [.ref _, .int _, .int _, .long _]) (rm := rX6_owe) (f := 26) (Nc := 1) C (m_X6_owe1 hx (by omega) hy (by omega)) wv_X6_owe ml_X6_135 rfl rfl rfl Nat.one_pos rfl rfl rfl rfl ⟨Nat.le_of_ble_eq_true rfl, Nat.le_of_ble_eq_true rfl⟩ (Nat.le_of_ble_eq_true rfl) ⟨Nat.le_of_ble_eq_true rfl, Nat.le_of_ble_eq_true rfl⟩ dX6_oweBoth_8 ?_
  refine hq_aload_n (q := 0) C dX6_oweBoth_11 rfl rfl ?_
  refine hq_aload_n (q := 0) C dX6_oweBoth_12 rfl rfl ?_
  refine hq_getR (f := 26) (g := 35) (Nc := 1) (Ns := 38) C fr_X6_36 dX6_oweBoth_13 rfl rfl rfl rfl rfl (by decide) Nat.one_pos ?_
  refine hq_iload_n (q := 2) C dX6_oweBoth_16 rfl rfl ?_
  refine hq_iload_n (q := 1) C dX6_oweBoth_17 rfl rfl ?_
  refine hq_lload_n (q := 3) C dX6_oweBoth_18 rfl rfl ?_
  refine hq_lneg C dX6_oweBoth_19 ?_
  refine hq_cVv (As := [.ref _, .int _, .int _, .long _]) (rm := rX6_owe) (f := 26) (Nc := 1) C (m_X6_owe1 hy (by omega) hx (by omega)) wv_X6_owe ml_X6_135 rfl rfl rfl Nat.one_pos rfl rfl rfl rfl ⟨Nat.le_of_ble_eq_true rfl, Nat.le_of_ble_eq_true rfl⟩ (Nat.le_of_ble_eq_true rfl) ⟨Nat.le_of_ble_eq_true rfl, Nat.le_of_ble_eq_true rfl⟩ dX6_oweBoth_20 ?_
  refine hq_aload_n (q := 0) C dX6_oweBoth_23 rfl rfl ?_
  refine hq_aload_n (q := 0) C dX6_oweBoth_24 rfl rfl ?_
  refine hq_getR (f := 26) (g := 36) (Nc := 1) (Ns := 38) C fr_X6_39 dX6_oweBoth_25 rfl rfl rfl rfl rfl (by decide) Nat.one_pos ?_
  refine hq_iload_n (q := 1) C dX6_oweBoth_28 rfl rfl ?_
  refine hq_iload_n (q := 2) C dX6_oweBoth_29 rfl rfl ?_
  refine hq_lload_n (q := 3) C dX6_oweBoth_30 rfl rfl ?_
  refine hq_cVv (As := [.ref _, .int _, .int _, .long _]) (rm := rX6_owe) (f := 26) (Nc := 1) C (m_X6_owe2 hx (by omega) hy (by omega)) wv_X6_owe ml_X6_135 rfl rfl rfl Nat.one_pos rfl rfl rfl rfl ⟨Nat.le_of_ble_eq_true rfl, Nat.le_of_ble_eq_true rfl⟩ (Nat.le_of_ble_eq_true rfl) ⟨Nat.le_of_ble_eq_true rfl, Nat.le_of_ble_eq_true rfl⟩ dX6_oweBoth_31 ?_
  refine hq_aload_n (q := 0) C dX6_oweBoth_34 rfl rfl ?_
  refine hq_aload_n (q := 0) C dX6_oweBoth_35 rfl rfl ?_
  refine hq_getR (f := 26) (g := 36) (Nc := 1) (Ns := 38) C fr_X6_39 dX6_oweBoth_36 rfl rfl rfl rfl rfl (by decide) Nat.one_pos ?_
  refine hq_iload_n (q := 2) C dX6_oweBoth_39 rfl rfl ?_
  refine hq_iload_n (q := 1) C dX6_oweBoth_40 rfl rfl ?_
  refine hq_lload_n (q := 3) C dX6_oweBoth_41 rfl rfl ?_
  refine hq_lneg C dX6_oweBoth_42 ?_
  refine hq_cVv (As := [.ref _, .int _, .int _, .long _]) (rm := rX6_owe) (f := 26) (Nc := 1) C (m_X6_owe2 hy (by omega) hx (by omega)) wv_X6_owe ml_X6_135 rfl rfl rfl Nat.one_pos rfl rfl rfl rfl ⟨Nat.le_of_ble_eq_true rfl, Nat.le_of_ble_eq_true rfl⟩ (Nat.le_of_ble_eq_true rfl) ⟨Nat.le_of_ble_eq_true rfl, Nat.le_of_ble_eq_true rfl⟩ dX6_oweBoth_43 ?_
  exact hq_vret C hr hlk dX6_oweBoth_46 rfl
set_option maxHeartbeats 4000000 in
set_option maxRecDepth 100000 in
theorem m_X6_oweOn {l : Launch} {D : va_G} {b0 : Nat} {I : MI} {J : MJ} {P : MI} {N : MJ} {o : Int64} {i k n : Nat} {x y z : Int32} (hi : i < 40) (hw : hw_wy P i n) (hx : x = nI i) (hy : y = nI k) (hk : k < n) : hM l yX6_oweOn cX6_oweOn 8 none rX6_oweOn D b0 [.ref (hw_ad b0 26 0), .int x, .int y, .int z] I J P N o none I J P (ps_on P N i k z) o := by
  have ha := hw.2.2 k (by omega)
  have hb0 := hw.2.2 (k + 1) (by omega)
  have ha2 := ha.b
  have hb2 := hb0.b
  have hn12 := hw.1
  refine hw_Mof (by decide) [(0, .ref _), (1, .int _), (2, .int _), (3, .int _)] rfl (Nat.le_of_ble_eq_true rfl) ?_
  intro p e s m args below meth c C hr hlk hnm
  refine hq_aload_n (q := 0) C dX6_oweOn_0 rfl rfl ?_
  refine hq_getR (f := 26) (g := 45) (Nc := 1) (Ns := 38) C fr_X6_66 dX6_oweOn_1 rfl rfl rfl rfl rfl (by decide) Nat.one_pos ?_
  refine hq_bipush (y := 12) C dX6_oweOn_4 (by decide) ?_
  refine hq_iload_n (q := 1) C dX6_oweOn_6 rfl rfl ?_
  refine hq_imul C dX6_oweOn_7 ?_
  refine hq_iload_n (q := 2) C dX6_oweOn_8 rfl rfl ?_
  refine hq_iadd C dX6_oweOn_9 ?_
  refine hq_ialdP0 (f := 45) (a := 12 * i + k) (g := 20) (Nc := 1) (Ns := 480) C dX6_oweOn_10 rfl rfl rfl rfl rfl rfl (ix12 hx hy) (by omega) Nat.one_pos ?_
  refine hq_istore (L' := [(4, .int _), (0, .ref _), (1, .int _), (2, .int _), (3, .int _)]) C dX6_oweOn_11 (by decide) rfl ?_
  refine hq_aload_n (q := 1) C dX6_oweOn_13 rfl rfl ?_
  refine hq_getR (f := 26) (g := 45) (Nc := 1) (Ns := 38) C fr_X6_66 dX6_oweOn_14 rfl rfl rfl rfl rfl (by decide) Nat.one_pos ?_
  refine hq_bipush (y := 12) C dX6_oweOn_17 (by decide) ?_
  refine hq_iload_n (q := 2) C dX6_oweOn_19 rfl rfl ?_
  refine hq_imul C dX6_oweOn_20 ?_
  refine hq_iload_n (q := 3) C dX6_oweOn_21 rfl rfl ?_
  refine hq_iadd C dX6_oweOn_22 ?_
  refine hq_iconst (y := 1) C dX6_oweOn_23 (by decide) ?_
  refine hq_iadd C dX6_oweOn_24 ?_
  refine hq_ialdP0 (f := 45) (a := 12 * i + (k + 1)) (g := 20) (Nc := 1) (Ns := 480) C dX6_oweOn_25 rfl rfl rfl rfl rfl rfl (ix12b hx hy) (by omega) Nat.one_pos ?_
  refine hq_istore (L' := [(5, .int _), (4, .int _), (0, .ref _), (1, .int _), (2, .int _), (3, .int _)]) C dX6_oweOn_26 (by decide) rfl ?_
  refine hq_iload_n (q := 5) C dX6_oweOn_28 rfl rfl ?_
  refine hq_i2l C dX6_oweOn_29 ?_
  refine hq_aload_n (q := 2) C dX6_oweOn_30 rfl rfl ?_
  refine hq_getR (f := 26) (g := 46) (Nc := 1) (Ns := 38) C fr_X6_69 dX6_oweOn_31 rfl rfl rfl rfl rfl (by decide) Nat.one_pos ?_
  refine hq_bipush (y := 12) C dX6_oweOn_34 (by decide) ?_
  refine hq_iload_n (q := 3) C dX6_oweOn_36 rfl rfl ?_
  refine hq_imul C dX6_oweOn_37 ?_
  refine hq_iload_n (q := 4) C dX6_oweOn_38 rfl rfl ?_
  refine hq_iadd C dX6_oweOn_39 ?_
  refine hq_ialdP0 (f := 46) (a := 12 * i + k) (g := 21) (Nc := 1) (Ns := 480) C dX6_oweOn_40 rfl rfl rfl rfl rfl rfl (ix12 hx hy) (by omega) Nat.one_pos ?_
  refine hq_i2l C dX6_oweOn_41 ?_
  refine hq_lmul C dX6_oweOn_42 ?_
  refine hq_lstore (L' := [(6, .long _), (5, .int _), (4, .int _), (0, .ref _), (1, .int _), (2, .int _), (3, .int _)]) C dX6_oweOn_43 (by decide) rfl ?_
  refine hq_aload_n (q := 3) C dX6_oweOn_45 rfl rfl ?_
  refine hq_aload_n (q := 3) C dX6_oweOn_46 rfl rfl ?_
  refine hq_getR (f := 26) (g := 35) (Nc := 1) (Ns := 38) C fr_X6_36 dX6_oweOn_47 rfl rfl rfl rfl rfl (by decide) Nat.one_pos ?_
  refine hq_iload (q := 2) C dX6_oweOn_50 rfl ?_
  refine hq_iload (q := 1) C dX6_oweOn_52 rfl ?_
  refine hq_lload (q := 0) C dX6_oweOn_54 rfl ?_
  refine hq_cVv (As := [.ref _, .int _, .int _, .long _]) (rm := rX6_owe) (f := 26) (Nc := 1) C (m_X6_owe1 ha.x (by omega) hb0.x (by omega)) wv_X6_owe ml_X6_135 rfl rfl rfl Nat.one_pos rfl rfl rfl rfl ⟨Nat.le_of_ble_eq_true rfl, Nat.le_of_ble_eq_true rfl⟩ (Nat.le_of_ble_eq_true rfl) ⟨Nat.le_of_ble_eq_true rfl, Nat.le_of_ble_eq_true rfl⟩ dX6_oweOn_56 ?_
  refine hq_aload_n (q := 3) C dX6_oweOn_59 rfl rfl ?_
  refine hq_aload_n (q := 3) C dX6_oweOn_60 rfl rfl ?_
  refine hq_getR (f := 26) (g := 35) (Nc := 1) (Ns := 38) C fr_X6_36 dX6_oweOn_61 rfl rfl rfl rfl rfl (by decide) Nat.one_pos ?_
  refine hq_iload (q := 1) C dX6_oweOn_64 rfl ?_
  refine hq_iload (q := 2) C dX6_oweOn_66 rfl ?_
  refine hq_lload (q := 0) C dX6_oweOn_68 rfl ?_
  refine hq_lneg C dX6_oweOn_70 ?_
  refine hq_cVv (As := [.ref _, .int _, .int _, .long _]) (rm := rX6_owe) (f := 26) (Nc := 1) C (m_X6_owe1 hb0.x (by omega) ha.x (by omega)) wv_X6_owe ml_X6_135 rfl rfl rfl Nat.one_pos rfl rfl rfl rfl ⟨Nat.le_of_ble_eq_true rfl, Nat.le_of_ble_eq_true rfl⟩ (Nat.le_of_ble_eq_true rfl) ⟨Nat.le_of_ble_eq_true rfl, Nat.le_of_ble_eq_true rfl⟩ dX6_oweOn_71 ?_
  refine hq_aload_n (q := 3) C dX6_oweOn_74 rfl rfl ?_
  refine hq_aload_n (q := 3) C dX6_oweOn_75 rfl rfl ?_
  refine hq_getR (f := 26) (g := 36) (Nc := 1) (Ns := 38) C fr_X6_39 dX6_oweOn_76 rfl rfl rfl rfl rfl (by decide) Nat.one_pos ?_
  refine hq_iload (q := 2) C dX6_oweOn_79 rfl ?_
  refine hq_iload (q := 1) C dX6_oweOn_81 rfl ?_
  refine hq_lload (q := 0) C dX6_oweOn_83 rfl ?_
  refine hq_cVv (As := [.ref _, .int _, .int _, .long _]) (rm := rX6_owe) (f := 26) (Nc := 1) C (m_X6_owe2 ha.x (by omega) hb0.x (by omega)) wv_X6_owe ml_X6_135 rfl rfl rfl Nat.one_pos rfl rfl rfl rfl ⟨Nat.le_of_ble_eq_true rfl, Nat.le_of_ble_eq_true rfl⟩ (Nat.le_of_ble_eq_true rfl) ⟨Nat.le_of_ble_eq_true rfl, Nat.le_of_ble_eq_true rfl⟩ dX6_oweOn_85 ?_
  refine hq_aload_n (q := 3) C dX6_oweOn_88 rfl rfl ?_
  refine hq_getR (f := 26) (g := 43) (Nc := 1) (Ns := 38) C fr_X6_60 dX6_oweOn_89 rfl rfl rfl rfl rfl (by decide) Nat.one_pos ?_
  refine hq_iload_n (q := 4) C dX6_oweOn_92 rfl rfl ?_
  refine hq_ialdP0 (f := 43) (g := 17) (Nc := 1) (Ns := 40) C dX6_oweOn_93 rfl rfl rfl rfl rfl rfl (by first | rfl | assumption) (by first | assumption | omega) Nat.one_pos ?_
  refine hq_iload_n (q := 5) C dX6_oweOn_94 rfl rfl ?_
  refine hq_icmp_le (tgt := 113) C dX6_oweOn_95 (by decide) (fun c_95 => ?_) (fun c_95 => ?_)
  · exact hq_vret C hr hlk dX6_oweOn_113 (by unfold ps_on; simp only [← hy]; rw [if_pos c_95])
  · refine hq_aload_n (q := 3) C dX6_oweOn_98 rfl rfl ?_
    refine hq_aload_n (q := 3) C dX6_oweOn_99 rfl rfl ?_
    refine hq_getR (f := 26) (g := 36) (Nc := 1) (Ns := 38) C fr_X6_39 dX6_oweOn_100 rfl rfl rfl rfl rfl (by decide) Nat.one_pos ?_
    refine hq_iload (q := 1) C dX6_oweOn_103 rfl ?_
    refine hq_iload (q := 2) C dX6_oweOn_105 rfl ?_
    refine hq_lload (q := 0) C dX6_oweOn_107 rfl ?_
    refine hq_lneg C dX6_oweOn_109 ?_
    refine hq_cVv (As := [.ref _, .int _, .int _, .long _]) (rm := rX6_owe) (f := 26) (Nc := 1) C (m_X6_owe2 hb0.x (by omega) ha.x (by omega)) wv_X6_owe ml_X6_135 rfl rfl rfl Nat.one_pos rfl rfl rfl rfl ⟨Nat.le_of_ble_eq_true rfl, Nat.le_of_ble_eq_true rfl⟩ (Nat.le_of_ble_eq_true rfl) ⟨Nat.le_of_ble_eq_true rfl, Nat.le_of_ble_eq_true rfl⟩ dX6_oweOn_110 ?_
    exact hq_vret C hr hlk dX6_oweOn_113 (by unfold ps_on; simp only [← hy]; rw [if_neg c_95])
set_option maxHeartbeats 4000000 in
set_option maxRecDepth 100000 in
theorem m_X6_feeOf {l : Launch} {D : va_G} {b0 : Nat} {I : MI} {J : MJ} {P : MI} {N : MJ} {o : Int64} {b : Nat} {x z : Int32} (hx : x = nI b) (hb9 : b < 12) : hM l yX6_feeOf cX6_feeOf 3 (some .long) rX6_feeOf D b0 [.ref (hw_ad b0 26 0), .int x, .int z] I J P N o (some (.long (ps_fee P b z))) I J P N o := by
  refine hw_Mof (by decide) [(0, .ref _), (1, .int _), (2, .int _)] rfl (Nat.le_of_ble_eq_true rfl) ?_
  intro p e s m args below meth c C hr hlk hnm
  refine hq_iload_n (q := 2) C dX6_feeOf_0 rfl rfl ?_
  refine hq_i2l C dX6_feeOf_1 ?_
  refine hq_aload_n (q := 0) C dX6_feeOf_2 rfl rfl ?_
  refine hq_getR (f := 26) (g := 29) (Nc := 1) (Ns := 38) C fr_X6_17 dX6_feeOf_3 rfl rfl rfl rfl rfl (by decide) Nat.one_pos ?_
  refine hq_iload_n (q := 1) C dX6_feeOf_6 rfl rfl ?_
  refine hq_ialdP0 (f := 29) (a := b) (g := 6) (Nc := 1) (Ns := 12) C dX6_feeOf_7 rfl rfl rfl rfl rfl rfl hx hb9 Nat.one_pos ?_
  refine hq_i2l C dX6_feeOf_8 ?_
  refine hq_lmul C dX6_feeOf_9 ?_
  refine hq_ldc2 C wc_X6_143 dX6_feeOf_10 ?_
  refine hq_ldiv C dX6_feeOf_13 (by decide) ?_
  exact hq_lret C hr hlk dX6_feeOf_14 rfl rfl
set_option maxHeartbeats 4000000 in
set_option maxRecDepth 100000 in
theorem m_X6_limitOf {l : Launch} {D : va_G} {b0 : Nat} {I : MI} {J : MJ} {P : MI} {N : MJ} {o : Int64} {a b : Nat} {x y : Int32} (hx : x = nI a) (ha : a < 12) (hy : y = nI b) (hb9 : b < 12) : hM l yX6_limitOf cX6_limitOf 4 (some .long) rX6_limitOf D b0 [.ref (hw_ad b0 26 0), .int x, .int y] I J P N o (some (.long (ps_lim P a b))) I J P N o := by
  refine hw_Mof (by decide) [(0, .ref _), (1, .int _), (2, .int _)] rfl (Nat.le_of_ble_eq_true rfl) ?_
  intro p e s m args below meth c C hr hlk hnm
  refine hq_bipush (y := 12) C dX6_limitOf_0 (by decide) ?_
  refine hq_iload_n (q := 1) C dX6_limitOf_2 rfl rfl ?_
  refine hq_imul C dX6_limitOf_3 ?_
  refine hq_iload_n (q := 2) C dX6_limitOf_4 rfl rfl ?_
  refine hq_iadd C dX6_limitOf_5 ?_
  refine hq_istore_n (L' := [(3, .int _), (0, .ref _), (1, .int _), (2, .int _)]) C dX6_limitOf_6 rfl (by decide) rfl ?_
  refine hq_aload_n (q := 1) C dX6_limitOf_7 rfl rfl ?_
  refine hq_getP (f := 26) (g := 4) (Nc := 1) (Ns := 38) C fr_X6_131 dX6_limitOf_8 rfl rfl rfl rfl rfl (by decide) Nat.one_pos ?_
  refine hq_if_eq (tgt := 37) C dX6_limitOf_11 (by decide) (fun c_11 => ?_) (fun c_11 => ?_)
  · refine hq_aload_n (q := 1) C dX6_limitOf_37 rfl rfl ?_
    refine hq_getR (f := 26) (g := 33) (Nc := 1) (Ns := 38) C fr_X6_30 dX6_limitOf_38 rfl rfl rfl rfl rfl (by decide) Nat.one_pos ?_
    refine hq_iload_n (q := 0) C dX6_limitOf_41 rfl rfl ?_
    refine hq_ialdP0 (f := 33) (a := 12 * a + b) (g := 10) (Nc := 1) (Ns := 144) C dX6_limitOf_42 rfl rfl rfl rfl rfl rfl (ix12 hx hy) (by omega) Nat.one_pos ?_
    refine hq_i2l C dX6_limitOf_43 ?_
    exact hq_lret C hr hlk dX6_limitOf_44 (by simp [ps_lim, c_11]) rfl
  · refine hq_aload_n (q := 1) C dX6_limitOf_14 rfl rfl ?_
    refine hq_getR (f := 26) (g := 34) (Nc := 1) (Ns := 38) C fr_X6_33 dX6_limitOf_15 rfl rfl rfl rfl rfl (by decide) Nat.one_pos ?_
    refine hq_iload_n (q := 0) C dX6_limitOf_18 rfl rfl ?_
    refine hq_zaldP0 (f := 34) (a := 12 * a + b) (g := 11) (Nc := 1) (Ns := 144) C dX6_limitOf_19 rfl rfl rfl rfl rfl rfl (ix12 hx hy) (by omega) Nat.one_pos ?_
    refine hq_if_eq (tgt := 37) C dX6_limitOf_20 (by decide) (fun c_20 => ?_) (fun c_20 => ?_)
    · refine hq_aload_n (q := 1) C dX6_limitOf_37 rfl rfl ?_
      refine hq_getR (f := 26) (g := 33) (Nc := 1) (Ns := 38) C fr_X6_30 dX6_limitOf_38 rfl rfl rfl rfl rfl (by decide) Nat.one_pos ?_
      refine hq_iload_n (q := 0) C dX6_limitOf_41 rfl rfl ?_
      refine hq_ialdP0 (f := 33) (a := 12 * a + b) (g := 10) (Nc := 1) (Ns := 144) C dX6_limitOf_42 rfl rfl rfl rfl rfl rfl (ix12 hx hy) (by omega) Nat.one_pos ?_
      refine hq_i2l C dX6_limitOf_43 ?_
      exact hq_lret C hr hlk dX6_limitOf_44 (by simp [ps_lim, c_11, c_20]) rfl
    · refine hq_ldc2 C wc_X6_145 dX6_limitOf_23 ?_
      refine hq_aload_n (q := 1) C dX6_limitOf_26 rfl rfl ?_
      refine hq_getR (f := 26) (g := 33) (Nc := 1) (Ns := 38) C fr_X6_30 dX6_limitOf_27 rfl rfl rfl rfl rfl (by decide) Nat.one_pos ?_
      refine hq_iload_n (q := 0) C dX6_limitOf_30 rfl rfl ?_
      refine hq_ialdP0 (f := 33) (a := 12 * a + b) (g := 10) (Nc := 1) (Ns := 144) C dX6_limitOf_31 rfl rfl rfl rfl rfl rfl (ix12 hx hy) (by omega) Nat.one_pos ?_
      refine hq_i2l C dX6_limitOf_32 ?_
      refine hq_lmul C dX6_limitOf_33 ?_
      refine hq_goto (tgt := 44) C dX6_limitOf_34 (by decide) ?_
      exact hq_lret C hr hlk dX6_limitOf_44 (by simp [ps_lim, c_11, c_20]) rfl
set_option maxHeartbeats 4000000 in
set_option maxRecDepth 100000 in
theorem m_X6_canOwe {l : Launch} {D : va_G} {b0 : Nat} {I : MI} {J : MJ} {P : MI} {N : MJ} {o : Int64} {a c9 : Nat} {x y z : Int32} (hx : x = nI a) (ha : a < 12) (hy : y = nI c9) (hc : c9 < 12) : hM l yX6_canOwe cX6_canOwe 4 (some .boolean) rX6_canOwe D b0 [.ref (hw_ad b0 26 0), .int x, .int y, .int z] I J P N o (some (.int (ps_can P N a c9 z))) I J P N o := by
  refine hw_Mof (by decide) [(0, .ref _), (1, .int _), (2, .int _), (3, .int _)] rfl (Nat.le_of_ble_eq_true rfl) ?_
  intro p e s m args below meth c C hr hlk hnm
  refine hq_iload_n (q := 1) C dX6_canOwe_0 rfl rfl ?_
  refine hq_iload_n (q := 2) C dX6_canOwe_1 rfl rfl ?_
  refine hq_icmp_eq (tgt := 53) C dX6_canOwe_2 (by decide) (fun c_2 => ?_) (fun c_2 => ?_)
  · refine hq_iconst (y := 0) C dX6_canOwe_53 (by decide) ?_
    exact hq_zret C hr hlk dX6_canOwe_54 (by decide) (by unfold ps_can; rw [← hx, ← hy]; simp [c_2]) rfl
  · refine hq_aload_n (q := 0) C dX6_canOwe_5 rfl rfl ?_
    refine hq_getR (f := 26) (g := 56) (Nc := 1) (Ns := 38) C fr_X6_100 dX6_canOwe_6 rfl rfl rfl rfl rfl (by decide) Nat.one_pos ?_
    refine hq_iload_n (q := 2) C dX6_canOwe_9 rfl rfl ?_
    refine hq_laldN0 (f := 56) (a := c9) (g := 5) (Nc := 1) (Ns := 12) C dX6_canOwe_10 rfl rfl rfl rfl rfl rfl hy hc Nat.one_pos ?_
    refine hq_ldc2 C wc_X6_147 dX6_canOwe_11 ?_
    refine hq_lcmp C dX6_canOwe_14 ?_
    refine hq_if_ge (tgt := 53) C dX6_canOwe_15 (by decide) (fun c_15 => ?_) (fun c_15 => ?_)
    · refine hq_iconst (y := 0) C dX6_canOwe_53 (by decide) ?_
      exact hq_zret C hr hlk dX6_canOwe_54 (by decide) (by unfold ps_can; rw [← hx, ← hy]; simp [c_2, c_15]) rfl
    · refine hq_aload_n (q := 0) C dX6_canOwe_18 rfl rfl ?_
      refine hq_getR (f := 26) (g := 35) (Nc := 1) (Ns := 38) C fr_X6_36 dX6_canOwe_19 rfl rfl rfl rfl rfl (by decide) Nat.one_pos ?_
      refine hq_bipush (y := 12) C dX6_canOwe_22 (by decide) ?_
      refine hq_iload_n (q := 1) C dX6_canOwe_24 rfl rfl ?_
      refine hq_imul C dX6_canOwe_25 ?_
      refine hq_iload_n (q := 2) C dX6_canOwe_26 rfl rfl ?_
      refine hq_iadd C dX6_canOwe_27 ?_
      refine hq_laldN0 (f := 35) (a := 12 * a + c9) (g := 1) (Nc := 1) (Ns := 144) C dX6_canOwe_28 rfl rfl rfl rfl rfl rfl (ix12 hx hy) (by omega) Nat.one_pos ?_
      refine hq_iload_n (q := 3) C dX6_canOwe_29 rfl rfl ?_
      refine hq_i2l C dX6_canOwe_30 ?_
      refine hq_ladd C dX6_canOwe_31 ?_
      refine hq_aload_n (q := 0) C dX6_canOwe_32 rfl rfl ?_
      refine hq_getR (f := 26) (g := 56) (Nc := 1) (Ns := 38) C fr_X6_100 dX6_canOwe_33 rfl rfl rfl rfl rfl (by decide) Nat.one_pos ?_
      refine hq_iload_n (q := 2) C dX6_canOwe_36 rfl rfl ?_
      refine hq_laldN0 (f := 56) (a := c9) (g := 5) (Nc := 1) (Ns := 12) C dX6_canOwe_37 rfl rfl rfl rfl rfl rfl hy hc Nat.one_pos ?_
      refine hq_ladd C dX6_canOwe_38 ?_
      refine hq_aload_n (q := 0) C dX6_canOwe_39 rfl rfl ?_
      refine hq_iload_n (q := 2) C dX6_canOwe_40 rfl rfl ?_
      refine hq_iload_n (q := 1) C dX6_canOwe_41 rfl rfl ?_
      refine hq_cVr (As := [.int _, .int _]) (rm := rX6_limitOf) (f := 26) (Nc := 1) C (m_X6_limitOf hy hc hx ha) wv_X6_limitOf ml_X6_149 rfl rfl rfl Nat.one_pos rfl rfl rfl rfl ⟨Nat.le_of_ble_eq_true rfl, Nat.le_of_ble_eq_true rfl⟩ (Nat.le_of_ble_eq_true rfl) ⟨Nat.le_of_ble_eq_true rfl, Nat.le_of_ble_eq_true rfl⟩ dX6_canOwe_42 ?_
      refine hq_lcmp C dX6_canOwe_45 ?_
      refine hq_if_gt (tgt := 53) C dX6_canOwe_46 (by decide) (fun c_46 => ?_) (fun c_46 => ?_)
      · refine hq_iconst (y := 0) C dX6_canOwe_53 (by decide) ?_
        exact hq_zret C hr hlk dX6_canOwe_54 (by decide) (by unfold ps_can; rw [← hx, ← hy]; simp [c_2, c_15, c_46]) rfl
      · refine hq_iconst (y := 1) C dX6_canOwe_49 (by decide) ?_
        refine hq_goto (tgt := 54) C dX6_canOwe_50 (by decide) ?_
        exact hq_zret C hr hlk dX6_canOwe_54 (by decide) (by unfold ps_can; rw [← hx, ← hy]; simp [c_2, c_15, c_46]) rfl
set_option maxHeartbeats 4000000 in
set_option maxRecDepth 100000 in
theorem m_X6_firstOf {l : Launch} {D : va_G} {b0 : Nat} {I : MI} {J : MJ} {P : MI} {N : MJ} {o : Int64} {i : Nat} {x : Int32} (hx : x = nI i) (hi : i < 40) : hM l yX6_firstOf cX6_firstOf 2 (some .int) rX6_firstOf D b0 [.ref (hw_ad b0 26 0), .int x] I J P N o (some (.int (P 20 (12 * i + 0)))) I J P N o := by
  refine hw_Mof (by decide) [(0, .ref _), (1, .int _)] rfl (Nat.le_of_ble_eq_true rfl) ?_
  intro p e s m args below meth c C hr hlk hnm
  refine hq_aload_n (q := 0) C dX6_firstOf_0 rfl rfl ?_
  refine hq_getR (f := 26) (g := 45) (Nc := 1) (Ns := 38) C fr_X6_66 dX6_firstOf_1 rfl rfl rfl rfl rfl (by decide) Nat.one_pos ?_
  refine hq_bipush (y := 12) C dX6_firstOf_4 (by decide) ?_
  refine hq_iload_n (q := 1) C dX6_firstOf_6 rfl rfl ?_
  refine hq_imul C dX6_firstOf_7 ?_
  refine hq_ialdP0 (f := 45) (a := 12 * i + 0) (g := 20) (Nc := 1) (Ns := 480) C dX6_firstOf_8 rfl rfl rfl rfl rfl rfl (by rw [hx]; exact (show (12 : Int32) * nI i = nI (12 * i) from by rw [show (12 : Int32) = nI 12 from rfl, pk_mul])) (by omega) Nat.one_pos ?_
  exact hq_iret C hr hlk dX6_firstOf_9 rfl rfl
