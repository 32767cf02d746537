/-! the law: is a hall so: the two loops over brokers -/
abbrev rS : Room := { frames := 9, cells := 2720, slots := 16320, locals := 150 }
theorem w_debt {k nb no nc : Nat} {I P : MI} {J N : MJ} (h : IV k nb no nc I J P N) {x y z : Int32} {r : Int64} (he : e_debt I x y = none) (hv : r_debt J x y z = r) : kL_debt x y z I J r I J := by rw [← hv]; exact n_L_debt h.ci he
theorem w_debt_no {k nb no nc : Nat} {I P : MI} {J N : MJ} (h : IV k nb no nc I J P N) {x y z : Int32} (he : e_debt I x y = some eI) : kL_debt x y z I J NO I J := t_L_debt_eI h.ci he
theorem w_brokerOf {k nb no nc : Nat} {I P : MI} {J N : MJ} (h : IV k nb no nc I J P N) {x y : Int32} {r : Int64} (he : e_brokerOf I x y = none) (hv : r_brokerOf I J x y nb = r) : kL_brokerOf x y I J r I J := by rw [← hv]; exact n_L_brokerOf h.ci he
theorem w_brokerOf_no {k nb no nc : Nat} {I P : MI} {J N : MJ} (h : IV k nb no nc I J P N) {x y : Int32} (he : e_brokerOf I x y = some eI) : kL_brokerOf x y I J NO I J := t_L_brokerOf_eI h.ci he
theorem w_orderOf {k nb no nc : Nat} {I P : MI} {J N : MJ} (h : IV k nb no nc I J P N) {x y : Int32} {r : Int32} (he : e_orderOf I x y = none) (hv : r_orderOf I x y = r) : kL_orderOf x y I J r.toInt64 I J := by rw [← hv]; exact n_L_orderOf h.ci he
theorem w_orderOf_no {k nb no nc : Nat} {I P : MI} {J N : MJ} (h : IV k nb no nc I J P N) {x y : Int32} (he : e_orderOf I x y = some eI) : kL_orderOf x y I J NO I J := t_L_orderOf_eI h.ci he
theorem w_sum_no {k nb no nc : Nat} {I P : MI} {J N : MJ} (h : IV k nb no nc I J P N) {x : Int32} (he : e_sum x = some eA) : kL_sum x I J NO I J := t_L_sum_eA h.ci he
set_option maxHeartbeats 4000000 in
set_option maxRecDepth 100000 in
theorem so_in_no {p : Program} {l : Launch} {e : Env} {s : State} {m : MethodId} {args : Array Value} {below : List Frame} {meth : Method} {c : Code} {Q : State → Prop} {D : va_G} {b0 ka kb k nb no nc : Nat} {I P X : MI} {J N Y : MJ} {o told W : Int64} (hlt : l.stackTraces = false) (C : hw_C p s m args c D b0 cL_isSo RL 12) (h : IV k nb no nc I J P N) {a b : Nat} (ha : a < 12) (hb9 : b < 12) (hf : ka + 14 ≤ 2720 ∧ kb + 84 ≤ 16320) (he : e_debt I (nI a) (nI b) = some eI) (kk : hw_V p l e rS s m args below meth c Q D b0 12 false (ka + 14) (kb + 84) (hw_n o) 53 [(9, .int (nI (b + 1))), (8, .int (nI a)), (3, .int 1), (4, .long W), (6, .long 0), (0, .ref (hw_ad b0 0 0)), (1, .long told)] [] (hw_vl b0 I J X Y o)) : hw_V p l e rS s m args below meth c Q D b0 12 false ka kb (hw_n o) 53 [(9, .int (nI b)), (8, .int (nI a)), (3, .int 1), (4, .long W), (6, .long 0), (0, .ref (hw_ad b0 0 0)), (1, .long told)] [] (hw_vl b0 I J X Y o) := by
  obtain ⟨hf1, hf2⟩ := hf
  refine hq_iload (q := 0) C dL_isSo_53 rfl ?_
  refine hq_bipush (y := 12) C dL_isSo_55 (by decide) ?_
  refine hq_icmp_ge (tgt := 184) C dL_isSo_57 (by decide) (fun c_57 => absurd c_57 (nI_ge (b := 12) (by omega) (by omega))) (fun c_57 => ?_)
  refine hq_iload_n (q := 2) C dL_isSo_60 rfl rfl ?_
  refine hq_if_eq (tgt := 184) C dL_isSo_61 (by decide) (fun c_61 => absurd c_61 (by decide)) (fun _ => ?_)
  refine hq_aload_n (q := 5) C dL_isSo_64 rfl rfl ?_
  refine hq_iload (q := 1) C dL_isSo_65 rfl ?_
  refine hq_iload (q := 0) C dL_isSo_67 rfl ?_
  refine hq_iconst (y := 0) C dL_isSo_69 (by decide) ?_
  refine hq_cSLr (As := [.ref _, .int _, .int _, .int _]) (rm := rL_debt) (Cn := "") C ((w_debt_no h he) l D b0 X Y o hlt) ws_L_debt ml_L_148 rfl rfl rfl rfl ⟨Nat.le_of_ble_eq_true rfl, Nat.le_of_ble_eq_true rfl⟩ (Nat.le_of_ble_eq_true rfl) ⟨by show ka + 2 ≤ 2720; omega, by show kb + 12 ≤ 16320; omega⟩ dL_isSo_70 ?_
  refine hq_lstore (L' := [(10, .long _), (9, .int _), (8, .int _), (3, .int _), (4, .long _), (6, .long _), (0, .ref _), (1, .long _)]) C dL_isSo_73 (by decide) rfl ?_
  refine hq_lload (q := 0) C dL_isSo_75 rfl ?_
  refine hq_ldc2 C wc_L_16 dL_isSo_77 ?_
  refine hq_lcmp C dL_isSo_80 ?_
  refine hq_if_eq (tgt := 172) C dL_isSo_81 (by decide) (fun c_81 => ?_) (fun c_81 => absurd ((lg_cmp_eq _ _).mpr rfl) c_81)
  refine hq_iconst (y := 1) C dL_isSo_172 (by decide) ?_
  refine hq_goto (tgt := 177) C dL_isSo_173 (by decide) ?_
  refine hq_istore_n (L' := [(3, .int _), (10, .long _), (9, .int _), (8, .int _), (4, .long _), (6, .long _), (0, .ref _), (1, .long _)]) C dL_isSo_177 rfl (by decide) rfl ?_
  refine hq_iinc (q := 2) (y := nI (_ + 1)) (L' := [(9, .int _), (3, .int _), (10, .long _), (8, .int _), (4, .long _), (6, .long _), (0, .ref _), (1, .long _)]) C dL_isSo_178 rfl (hw_inc _) (by decide) rfl ?_
  refine hq_goto (tgt := 53) C dL_isSo_181 (by decide) ?_
  refine hq_perm [0, 3, 1, 4, 5, 6, 7] (L' := [(9, .int (nI (b + 1))), (8, .int (nI a)), (3, .int 1), (4, .long W), (6, .long 0), (0, .ref (hw_ad b0 0 0)), (1, .long told)]) rfl ?_
  exact hq_widen (by show ka + 2 ≤ ka + 14; omega) (by show kb + 12 ≤ kb + 84; omega) kk
set_option maxHeartbeats 4000000 in
set_option maxRecDepth 100000 in
theorem so_in_co {p : Program} {l : Launch} {e : Env} {s : State} {m : MethodId} {args : Array Value} {below : List Frame} {meth : Method} {c : Code} {Q : State → Prop} {D : va_G} {b0 ka kb k nb no nc : Nat} {I P X : MI} {J N Y : MJ} {o told W : Int64} (hlt : l.stackTraces = false) (C : hw_C p s m args c D b0 cL_isSo RL 12) (h : IV k nb no nc I J P N) {a b : Nat} (ha : a < 12) (hb9 : b < 12) (hf : ka + 14 ≤ 2720 ∧ kb + 84 ≤ 16320) (he : e_debt I (nI a) (nI b) = none) (hq : r_debt J (nI a) (nI b) 0 = NO) (kk : hw_V p l e rS s m args below meth c Q D b0 12 false (ka + 14) (kb + 84) (hw_n o) 53 [(9, .int (nI (b + 1))), (8, .int (nI a)), (3, .int 1), (4, .long W), (6, .long 0), (0, .ref (hw_ad b0 0 0)), (1, .long told)] [] (hw_vl b0 I J X Y o)) : hw_V p l e rS s m args below meth c Q D b0 12 false ka kb (hw_n o) 53 [(9, .int (nI b)), (8, .int (nI a)), (3, .int 1), (4, .long W), (6, .long 0), (0, .ref (hw_ad b0 0 0)), (1, .long told)] [] (hw_vl b0 I J X Y o) := by
  obtain ⟨hf1, hf2⟩ := hf
  refine hq_iload (q := 0) C dL_isSo_53 rfl ?_
  refine hq_bipush (y := 12) C dL_isSo_55 (by decide) ?_
  refine hq_icmp_ge (tgt := 184) C dL_isSo_57 (by decide) (fun c_57 => absurd c_57 (nI_ge (b := 12) (by omega) (by omega))) (fun c_57 => ?_)
  refine hq_iload_n (q := 2) C dL_isSo_60 rfl rfl ?_
  refine hq_if_eq (tgt := 184) C dL_isSo_61 (by decide) (fun c_61 => absurd c_61 (by decide)) (fun _ => ?_)
  refine hq_aload_n (q := 5) C dL_isSo_64 rfl rfl ?_
  refine hq_iload (q := 1) C dL_isSo_65 rfl ?_
  refine hq_iload (q := 0) C dL_isSo_67 rfl ?_
  refine hq_iconst (y := 0) C dL_isSo_69 (by decide) ?_
  refine hq_cSLr (As := [.ref _, .int _, .int _, .int _]) (rm := rL_debt) (Cn := "") C ((w_debt h he rfl) l D b0 X Y o hlt) ws_L_debt ml_L_148 rfl rfl rfl rfl ⟨Nat.le_of_ble_eq_true rfl, Nat.le_of_ble_eq_true rfl⟩ (Nat.le_of_ble_eq_true rfl) ⟨by show ka + 2 ≤ 2720; omega, by show kb + 12 ≤ 16320; omega⟩ dL_isSo_70 ?_
  refine hq_lstore (L' := [(10, .long _), (9, .int _), (8, .int _), (3, .int _), (4, .long _), (6, .long _), (0, .ref _), (1, .long _)]) C dL_isSo_73 (by decide) rfl ?_
  refine hq_lload (q := 0) C dL_isSo_75 rfl ?_
  refine hq_ldc2 C wc_L_16 dL_isSo_77 ?_
  refine hq_lcmp C dL_isSo_80 ?_
  refine hq_if_eq (tgt := 172) C dL_isSo_81 (by decide) (fun c_81 => ?_) (fun c_81 => absurd ((lg_cmp_eq _ _).mpr hq) c_81)
  refine hq_iconst (y := 1) C dL_isSo_172 (by decide) ?_
  refine hq_goto (tgt := 177) C dL_isSo_173 (by decide) ?_
  refine hq_istore_n (L' := [(3, .int _), (10, .long _), (9, .int _), (8, .int _), (4, .long _), (6, .long _), (0, .ref _), (1, .long _)]) C dL_isSo_177 rfl (by decide) rfl ?_
  refine hq_iinc (q := 2) (y := nI (_ + 1)) (L' := [(9, .int _), (3, .int _), (10, .long _), (8, .int _), (4, .long _), (6, .long _), (0, .ref _), (1, .long _)]) C dL_isSo_178 rfl (hw_inc _) (by decide) rfl ?_
  refine hq_goto (tgt := 53) C dL_isSo_181 (by decide) ?_
  refine hq_perm [0, 3, 1, 4, 5, 6, 7] (L' := [(9, .int (nI (b + 1))), (8, .int (nI a)), (3, .int 1), (4, .long W), (6, .long 0), (0, .ref (hw_ad b0 0 0)), (1, .long told)]) rfl ?_
  exact hq_widen (by show ka + 2 ≤ ka + 14; omega) (by show kb + 12 ≤ kb + 84; omega) kk
set_option maxHeartbeats 4000000 in
set_option maxRecDepth 100000 in
theorem so_in_11 {p : Program} {l : Launch} {e : Env} {s : State} {m : MethodId} {args : Array Value} {below : List Frame} {meth : Method} {c : Code} {Q : State → Prop} {D : va_G} {b0 ka kb k nb no nc : Nat} {I P X : MI} {J N Y : MJ} {o told W : Int64} (hlt : l.stackTraces = false) (C : hw_C p s m args c D b0 cL_isSo RL 12) (h : IV k nb no nc I J P N) {a b : Nat} (ha : a < 12) (hb9 : b < 12) (hf : ka + 14 ≤ 2720 ∧ kb + 84 ≤ 16320) (he : e_debt I (nI a) (nI b) = none) (he2 : e_debt I (nI b) (nI a) = none) (hq : ¬ r_debt J (nI a) (nI b) 0 = NO) (q1 : r_debt J (nI a) (nI b) 0 = -r_debt J (nI b) (nI a) 0) (q0 : r_debt J (nI a) (nI b) 0 = 0) (hs : nI a = nI b) (hc : lg_cmp (r_debt J (nI a) (nI b) 1) (-r_debt J (nI b) (nI a) 1) = 0) (g1 : r_agree J (nI a) (nI b) = 1) (g2 : r_agree J (nI b) (nI a) = 1) (kk : hw_V p l e rS s m args below meth c Q D b0 12 false (ka + 14) (kb + 84) (hw_n o) 53 [(9, .int (nI (b + 1))), (8, .int (nI a)), (3, .int 1), (4, .long W), (6, .long 0), (0, .ref (hw_ad b0 0 0)), (1, .long told)] [] (hw_vl b0 I J X Y o)) : hw_V p l e rS s m args below meth c Q D b0 12 false ka kb (hw_n o) 53 [(9, .int (nI b)), (8, .int (nI a)), (3, .int 1), (4, .long W), (6, .long 0), (0, .ref (hw_ad b0 0 0)), (1, .long told)] [] (hw_vl b0 I J X Y o) := by
  obtain ⟨hf1, hf2⟩ := hf
  refine hq_iload (q := 0) C dL_isSo_53 rfl ?_
  refine hq_bipush (y := 12) C dL_isSo_55 (by decide) ?_
  refine hq_icmp_ge (tgt := 184) C dL_isSo_57 (by decide) (fun c_57 => absurd c_57 (nI_ge (b := 12) (by omega) (by omega))) (fun c_57 => ?_)
  refine hq_iload_n (q := 2) C dL_isSo_60 rfl rfl ?_
  refine hq_if_eq (tgt := 184) C dL_isSo_61 (by decide) (fun c_61 => absurd c_61 (by decide)) (fun _ => ?_)
  refine hq_aload_n (q := 5) C dL_isSo_64 rfl rfl ?_
  refine hq_iload (q := 1) C dL_isSo_65 rfl ?_
  refine hq_iload (q := 0) C dL_isSo_67 rfl ?_
  refine hq_iconst (y := 0) C dL_isSo_69 (by decide) ?_
  refine hq_cSLr (As := [.ref _, .int _, .int _, .int _]) (rm := rL_debt) (Cn := "") C ((w_debt h he rfl) l D b0 X Y o hlt) ws_L_debt ml_L_148 rfl rfl rfl rfl ⟨Nat.le_of_ble_eq_true rfl, Nat.le_of_ble_eq_true rfl⟩ (Nat.le_of_ble_eq_true rfl) ⟨by show ka + 2 ≤ 2720; omega, by show kb + 12 ≤ 16320; omega⟩ dL_isSo_70 ?_
  refine hq_lstore (L' := [(10, .long _), (9, .int _), (8, .int _), (3, .int _), (4, .long _), (6, .long _), (0, .ref _), (1, .long _)]) C dL_isSo_73 (by decide) rfl ?_
  refine hq_lload (q := 0) C dL_isSo_75 rfl ?_
  refine hq_ldc2 C wc_L_16 dL_isSo_77 ?_
  refine hq_lcmp C dL_isSo_80 ?_
  refine hq_if_eq (tgt := 172) C dL_isSo_81 (by decide) (fun c_81 => absurd c_81 (fun z9 => hq ((lg_cmp_eq _ _).mp z9))) (fun c_81 => ?_)
  refine hq_lload (q := 0) C dL_isSo_84 rfl ?_
  refine hq_aload_n (q := 6) C dL_isSo_86 rfl rfl ?_
  refine hq_iload (q := 1) C dL_isSo_87 rfl ?_
  refine hq_iload (q := 2) C dL_isSo_89 rfl ?_
  refine hq_iconst (y := 0) C dL_isSo_91 (by decide) ?_
  refine hq_cVXr (As := [.int _, .int _, .int _]) (rm := rX5_debt) (f := 0) (Nc := 1) C (d_debt hlt h he2 rfl) wv_X5_debt ml_L_71 rfl rfl rfl Nat.one_pos rfl rfl rfl rfl ⟨Nat.le_of_ble_eq_true rfl, Nat.le_of_ble_eq_true rfl⟩ (Nat.le_of_ble_eq_true rfl) ⟨by show ka + 2 + 2 ≤ 2720; omega, by show kb + 12 + 12 ≤ 16320; omega⟩ dL_isSo_92 (fun _ => ?_) (fun E9 x9 => by cases x9)
  refine hq_lneg C dL_isSo_95 ?_
  refine hq_lcmp C dL_isSo_96 ?_
  refine hq_if_ne (tgt := 176) C dL_isSo_97 (by decide) (fun c_97 => absurd ((lg_cmp_eq _ _).mpr q1) c_97) (fun c_97 => ?_)
  refine hq_iload (q := 2) C dL_isSo_100 rfl ?_
  refine hq_iload (q := 1) C dL_isSo_102 rfl ?_
  refine hq_icmp_ne (tgt := 114) C dL_isSo_104 (by decide) (fun c_104 => absurd hs c_104) (fun c_104 => ?_)
  refine hq_lload (q := 0) C dL_isSo_107 rfl ?_
  refine hq_lconst (y := 0) C dL_isSo_109 rfl ?_
  refine hq_lcmp C dL_isSo_110 ?_
  refine hq_if_ne (tgt := 176) C dL_isSo_111 (by decide) (fun c_111 => absurd ((lg_cmp_eq _ _).mpr q0) c_111) (fun c_111 => ?_)
  refine hq_aload_n (q := 6) C dL_isSo_114 rfl rfl ?_
  refine hq_iload (q := 2) C dL_isSo_115 rfl ?_
  refine hq_iload (q := 1) C dL_isSo_117 rfl ?_
  refine hq_cVXr (As := [.int _, .int _]) (rm := rX5_agree) (f := 0) (Nc := 1) C (d_agree hlt h he g1) wv_X5_agree ml_L_75 rfl rfl rfl Nat.one_pos rfl rfl rfl rfl ⟨Nat.le_of_ble_eq_true rfl, Nat.le_of_ble_eq_true rfl⟩ (Nat.le_of_ble_eq_true rfl) ⟨by show ka + 2 + 2 + 2 ≤ 2720; omega, by show kb + 12 + 12 + 12 ≤ 16320; omega⟩ dL_isSo_119 (fun _ => ?_) (fun E9 x9 => by cases x9)
  refine hq_aload_n (q := 6) C dL_isSo_122 rfl rfl ?_
  refine hq_iload (q := 2) C dL_isSo_123 rfl ?_
  refine hq_iload (q := 1) C dL_isSo_125 rfl ?_
  refine hq_iconst (y := 1) C dL_isSo_127 (by decide) ?_
  refine hq_cVXr (As := [.int _, .int _, .int _]) (rm := rX5_debt) (f := 0) (Nc := 1) C (d_debt hlt h he rfl) wv_X5_debt ml_L_71 rfl rfl rfl Nat.one_pos rfl rfl rfl rfl ⟨Nat.le_of_ble_eq_true rfl, Nat.le_of_ble_eq_true rfl⟩ (Nat.le_of_ble_eq_true rfl) ⟨by show ka + 2 + 2 + 2 + 2 ≤ 2720; omega, by show kb + 12 + 12 + 12 + 12 ≤ 16320; omega⟩ dL_isSo_128 (fun _ => ?_) (fun E9 x9 => by cases x9)
  refine hq_aload_n (q := 6) C dL_isSo_131 rfl rfl ?_
  refine hq_iload (q := 1) C dL_isSo_132 rfl ?_
  refine hq_iload (q := 2) C dL_isSo_134 rfl ?_
  refine hq_iconst (y := 1) C dL_isSo_136 (by decide) ?_
  refine hq_cVXr (As := [.int _, .int _, .int _]) (rm := rX5_debt) (f := 0) (Nc := 1) C (d_debt hlt h he2 rfl) wv_X5_debt ml_L_71 rfl rfl rfl Nat.one_pos rfl rfl rfl rfl ⟨Nat.le_of_ble_eq_true rfl, Nat.le_of_ble_eq_true rfl⟩ (Nat.le_of_ble_eq_true rfl) ⟨by show ka + 2 + 2 + 2 + 2 + 2 ≤ 2720; omega, by show kb + 12 + 12 + 12 + 12 + 12 ≤ 16320; omega⟩ dL_isSo_137 (fun _ => ?_) (fun E9 x9 => by cases x9)
  refine hq_lneg C dL_isSo_140 ?_
  refine hq_lcmp C dL_isSo_141 ?_
  refine hq_if_ne (tgt := 149) C dL_isSo_142 (by decide) (fun c_142 => absurd hc c_142) (fun c_142 => ?_)
  refine hq_iconst (y := 1) C dL_isSo_145 (by decide) ?_
  refine hq_goto (tgt := 150) C dL_isSo_146 (by decide) ?_
  refine hq_icmp_ne (tgt := 176) C dL_isSo_150 (by decide) (fun c_150 => absurd rfl c_150) (fun c_150 => ?_)
  refine hq_aload_n (q := 6) C dL_isSo_153 rfl rfl ?_
  refine hq_iload (q := 2) C dL_isSo_154 rfl ?_
  refine hq_iload (q := 1) C dL_isSo_156 rfl ?_
  refine hq_cVXr (As := [.int _, .int _]) (rm := rX5_agree) (f := 0) (Nc := 1) C (d_agree hlt h he g1) wv_X5_agree ml_L_75 rfl rfl rfl Nat.one_pos rfl rfl rfl rfl ⟨Nat.le_of_ble_eq_true rfl, Nat.le_of_ble_eq_true rfl⟩ (Nat.le_of_ble_eq_true rfl) ⟨by show ka + 2 + 2 + 2 + 2 + 2 + 2 ≤ 2720; omega, by show kb + 12 + 12 + 12 + 12 + 12 + 12 ≤ 16320; omega⟩ dL_isSo_158 (fun _ => ?_) (fun E9 x9 => by cases x9)
  refine hq_aload_n (q := 6) C dL_isSo_161 rfl rfl ?_
  refine hq_iload (q := 1) C dL_isSo_162 rfl ?_
  refine hq_iload (q := 2) C dL_isSo_164 rfl ?_
  refine hq_cVXr (As := [.int _, .int _]) (rm := rX5_agree) (f := 0) (Nc := 1) C (d_agree hlt h he2 g2) wv_X5_agree ml_L_75 rfl rfl rfl Nat.one_pos rfl rfl rfl rfl ⟨Nat.le_of_ble_eq_true rfl, Nat.le_of_ble_eq_true rfl⟩ (Nat.le_of_ble_eq_true rfl) ⟨by show ka + 2 + 2 + 2 + 2 + 2 + 2 + 2 ≤ 2720; omega, by show kb + 12 + 12 + 12 + 12 + 12 + 12 + 12 ≤ 16320; omega⟩ dL_isSo_166 (fun _ => ?_) (fun E9 x9 => by cases x9)
  refine hq_icmp_ne (tgt := 176) C dL_isSo_169 (by decide) (fun c_169 => absurd rfl c_169) (fun c_169 => ?_)
  refine hq_iconst (y := 1) C dL_isSo_172 (by decide) ?_
  refine hq_goto (tgt := 177) C dL_isSo_173 (by decide) ?_
  refine hq_istore_n (L' := [(3, .int _), (10, .long _), (9, .int _), (8, .int _), (4, .long _), (6, .long _), (0, .ref _), (1, .long _)]) C dL_isSo_177 rfl (by decide) rfl ?_
  refine hq_iinc (q := 2) (y := nI (_ + 1)) (L' := [(9, .int _), (3, .int _), (10, .long _), (8, .int _), (4, .long _), (6, .long _), (0, .ref _), (1, .long _)]) C dL_isSo_178 rfl (hw_inc _) (by decide) rfl ?_
  refine hq_goto (tgt := 53) C dL_isSo_181 (by decide) ?_
  refine hq_perm [0, 3, 1, 4, 5, 6, 7] (L' := [(9, .int (nI (b + 1))), (8, .int (nI a)), (3, .int 1), (4, .long W), (6, .long 0), (0, .ref (hw_ad b0 0 0)), (1, .long told)]) rfl ?_
  exact hq_widen (by show ka + 2 + 2 + 2 + 2 + 2 + 2 + 2 ≤ ka + 14; omega) (by show kb + 12 + 12 + 12 + 12 + 12 + 12 + 12 ≤ kb + 84; omega) kk
set_option maxHeartbeats 4000000 in
set_option maxRecDepth 100000 in
theorem so_in_10 {p : Program} {l : Launch} {e : Env} {s : State} {m : MethodId} {args : Array Value} {below : List Frame} {meth : Method} {c : Code} {Q : State → Prop} {D : va_G} {b0 ka kb k nb no nc : Nat} {I P X : MI} {J N Y : MJ} {o told W : Int64} (hlt : l.stackTraces = false) (C : hw_C p s m args c D b0 cL_isSo RL 12) (h : IV k nb no nc I J P N) {a b : Nat} (ha : a < 12) (hb9 : b < 12) (hf : ka + 14 ≤ 2720 ∧ kb + 84 ≤ 16320) (he : e_debt I (nI a) (nI b) = none) (he2 : e_debt I (nI b) (nI a) = none) (hq : ¬ r_debt J (nI a) (nI b) 0 = NO) (q1 : r_debt J (nI a) (nI b) 0 = -r_debt J (nI b) (nI a) 0) (q0 : r_debt J (nI a) (nI b) 0 = 0) (hs : nI a = nI b) (hc : ¬ lg_cmp (r_debt J (nI a) (nI b) 1) (-r_debt J (nI b) (nI a) 1) = 0) (g1 : r_agree J (nI a) (nI b) = 0) (g2 : r_agree J (nI b) (nI a) = 0) (kk : hw_V p l e rS s m args below meth c Q D b0 12 false (ka + 14) (kb + 84) (hw_n o) 53 [(9, .int (nI (b + 1))), (8, .int (nI a)), (3, .int 1), (4, .long W), (6, .long 0), (0, .ref (hw_ad b0 0 0)), (1, .long told)] [] (hw_vl b0 I J X Y o)) : hw_V p l e rS s m args below meth c Q D b0 12 false ka kb (hw_n o) 53 [(9, .int (nI b)), (8, .int (nI a)), (3, .int 1), (4, .long W), (6, .long 0), (0, .ref (hw_ad b0 0 0)), (1, .long told)] [] (hw_vl b0 I J X Y o) := by
  obtain ⟨hf1, hf2⟩ := hf
  refine hq_iload (q := 0) C dL_isSo_53 rfl ?_
  refine hq_bipush (y := 12) C dL_isSo_55 (by decide) ?_
  refine hq_icmp_ge (tgt := 184) C dL_isSo_57 (by decide) (fun c_57 => absurd c_57 (nI_ge (b := 12) (by omega) (by omega))) (fun c_57 => ?_)
  refine hq_iload_n (q := 2) C dL_isSo_60 rfl rfl ?_
  refine hq_if_eq (tgt := 184) C dL_isSo_61 (by decide) (fun c_61 => absurd c_61 (by decide)) (fun _ => ?_)
  refine hq_aload_n (q := 5) C dL_isSo_64 rfl rfl ?_
  refine hq_iload (q := 1) C dL_isSo_65 rfl ?_
  refine hq_iload (q := 0) C dL_isSo_67 rfl ?_
  refine hq_iconst (y := 0) C dL_isSo_69 (by decide) ?_
  refine hq_cSLr (As := [.ref _, .int _, .int _, .int _]) (rm := rL_debt) (Cn := "") C ((w_debt h he rfl) l D b0 X Y o hlt) ws_L_debt ml_L_148 rfl rfl rfl rfl ⟨Nat.le_of_ble_eq_true rfl, Nat.le_of_ble_eq_true rfl⟩ (Nat.le_of_ble_eq_true rfl) ⟨by show ka + 2 ≤ 2720; omega, by show kb + 12 ≤ 16320; omega⟩ dL_isSo_70 ?_
  refine hq_lstore (L' := [(10, .long _), (9, .int _), (8, .int _), (3, .int _), (4, .long _), (6, .long _), (0, .ref _), (1, .long _)]) C dL_isSo_73 (by decide) rfl ?_
  refine hq_lload (q := 0) C dL_isSo_75 rfl ?_
  refine hq_ldc2 C wc_L_16 dL_isSo_77 ?_
  refine hq_lcmp C dL_isSo_80 ?_
  refine hq_if_eq (tgt := 172) C dL_isSo_81 (by decide) (fun c_81 => absurd c_81 (fun z9 => hq ((lg_cmp_eq _ _).mp z9))) (fun c_81 => ?_)
  refine hq_lload (q := 0) C dL_isSo_84 rfl ?_
  refine hq_aload_n (q := 6) C dL_isSo_86 rfl rfl ?_
  refine hq_iload (q := 1) C dL_isSo_87 rfl ?_
  refine hq_iload (q := 2) C dL_isSo_89 rfl ?_
  refine hq_iconst (y := 0) C dL_isSo_91 (by decide) ?_
  refine hq_cVXr (As := [.int _, .int _, .int _]) (rm := rX5_debt) (f := 0) (Nc := 1) C (d_debt hlt h he2 rfl) wv_X5_debt ml_L_71 rfl rfl rfl Nat.one_pos rfl rfl rfl rfl ⟨Nat.le_of_ble_eq_true rfl, Nat.le_of_ble_eq_true rfl⟩ (Nat.le_of_ble_eq_true rfl) ⟨by show ka + 2 + 2 ≤ 2720; omega, by show kb + 12 + 12 ≤ 16320; omega⟩ dL_isSo_92 (fun _ => ?_) (fun E9 x9 => by cases x9)
  refine hq_lneg C dL_isSo_95 ?_
  refine hq_lcmp C dL_isSo_96 ?_
  refine hq_if_ne (tgt := 176) C dL_isSo_97 (by decide) (fun c_97 => absurd ((lg_cmp_eq _ _).mpr q1) c_97) (fun c_97 => ?_)
  refine hq_iload (q := 2) C dL_isSo_100 rfl ?_
  refine hq_iload (q := 1) C dL_isSo_102 rfl ?_
  refine hq_icmp_ne (tgt := 114) C dL_isSo_104 (by decide) (fun c_104 => absurd hs c_104) (fun c_104 => ?_)
  refine hq_lload (q := 0) C dL_isSo_107 rfl ?_
  refine hq_lconst (y := 0) C dL_isSo_109 rfl ?_
  refine hq_lcmp C dL_isSo_110 ?_
  refine hq_if_ne (tgt := 176) C dL_isSo_111 (by decide) (fun c_111 => absurd ((lg_cmp_eq _ _).mpr q0) c_111) (fun c_111 => ?_)
  refine hq_aload_n (q := 6) C dL_isSo_114 rfl rfl ?_
  refine hq_iload (q := 2) C dL_isSo_115 rfl ?_
  refine hq_iload (q := 1) C dL_isSo_117 rfl ?_
  refine hq_cVXr (As := [.int _, .int _]) (rm := rX5_agree) (f := 0) (Nc := 1) C (d_agree hlt h he g1) wv_X5_agree ml_L_75 rfl rfl rfl Nat.one_pos rfl rfl rfl rfl ⟨Nat.le_of_ble_eq_true rfl, Nat.le_of_ble_eq_true rfl⟩ (Nat.le_of_ble_eq_true rfl) ⟨by show ka + 2 + 2 + 2 ≤ 2720; omega, by show kb + 12 + 12 + 12 ≤ 16320; omega⟩ dL_isSo_119 (fun _ => ?_) (fun E9 x9 => by cases x9)
  refine hq_aload_n (q := 6) C dL_isSo_122 rfl rfl ?_
  refine hq_iload (q := 2) C dL_isSo_123 rfl ?_
  refine hq_iload (q := 1) C dL_isSo_125 rfl ?_
  refine hq_iconst (y := 1) C dL_isSo_127 (by decide) ?_
  refine hq_cVXr (As := [.int _, .int _, .int _]) (rm := rX5_debt) (f := 0) (Nc := 1) C (d_debt hlt h he rfl) wv_X5_debt ml_L_71 rfl rfl rfl Nat.one_pos rfl rfl rfl rfl ⟨Nat.le_of_ble_eq_true rfl, Nat.le_of_ble_eq_true rfl⟩ (Nat.le_of_ble_eq_true rfl) ⟨by show ka + 2 + 2 + 2 + 2 ≤ 2720; omega, by show kb + 12 + 12 + 12 + 12 ≤ 16320; omega⟩ dL_isSo_128 (fun _ => ?_) (fun E9 x9 => by cases x9)
  refine hq_aload_n (q := 6) C dL_isSo_131 rfl rfl ?_
  refine hq_iload (q := 1) C dL_isSo_132 rfl ?_
  refine hq_iload (q := 2) C dL_isSo_134 rfl ?_
  refine hq_iconst (y := 1) C dL_isSo_136 (by decide) ?_
  refine hq_cVXr (As := [.int _, .int _, .int _]) (rm := rX5_debt) (f := 0) (Nc := 1) C (d_debt hlt h he2 rfl) wv_X5_debt ml_L_71 rfl rfl rfl Nat.one_pos rfl rfl rfl rfl ⟨Nat.le_of_ble_eq_true rfl, Nat.le_of_ble_eq_true rfl⟩ (Nat.le_of_ble_eq_true rfl) ⟨by show ka + 2 + 2 + 2 + 2 + 2 ≤ 2720; omega, by show kb + 12 + 12 + 12 + 12 + 12 ≤ 16320; omega⟩ dL_isSo_137 (fun _ => ?_) (fun E9 x9 => by cases x9)
  refine hq_lneg C dL_isSo_140 ?_
  refine hq_lcmp C dL_isSo_141 ?_
  refine hq_if_ne (tgt := 149) C dL_isSo_142 (by decide) (fun c_142 => ?_) (fun c_142 => absurd c_142 hc)
  refine hq_iconst (y := 0) C dL_isSo_149 (by decide) ?_
  refine hq_icmp_ne (tgt := 176) C dL_isSo_150 (by decide) (fun c_150 => absurd rfl c_150) (fun c_150 => ?_)
  refine hq_aload_n (q := 6) C dL_isSo_153 rfl rfl ?_
  refine hq_iload (q := 2) C dL_isSo_154 rfl ?_
  refine hq_iload (q := 1) C dL_isSo_156 rfl ?_
  refine hq_cVXr (As := [.int _, .int _]) (rm := rX5_agree) (f := 0) (Nc := 1) C (d_agree hlt h he g1) wv_X5_agree ml_L_75 rfl rfl rfl Nat.one_pos rfl rfl rfl rfl ⟨Nat.le_of_ble_eq_true rfl, Nat.le_of_ble_eq_true rfl⟩ (Nat.le_of_ble_eq_true rfl) ⟨by show ka + 2 + 2 + 2 + 2 + 2 + 2 ≤ 2720; omega, by show kb + 12 + 12 + 12 + 12 + 12 + 12 ≤ 16320; omega⟩ dL_isSo_158 (fun _ => ?_) (fun E9 x9 => by cases x9)
  refine hq_aload_n (q := 6) C dL_isSo_161 rfl rfl ?_
  refine hq_iload (q := 1) C dL_isSo_162 rfl ?_
  refine hq_iload (q := 2) C dL_isSo_164 rfl ?_
  refine hq_cVXr (As := [.int _, .int _]) (rm := rX5_agree) (f := 0) (Nc := 1) C (d_agree hlt h he2 g2) wv_X5_agree ml_L_75 rfl rfl rfl Nat.one_pos rfl rfl rfl rfl ⟨Nat.le_of_ble_eq_true rfl, Nat.le_of_ble_eq_true rfl⟩ (Nat.le_of_ble_eq_true rfl) ⟨by show ka + 2 + 2 + 2 + 2 + 2 + 2 + 2 ≤ 2720; omega, by show kb + 12 + 12 + 12 + 12 + 12 + 12 + 12 ≤ 16320; omega⟩ dL_isSo_166 (fun _ => ?_) (fun E9 x9 => by cases x9)
  refine hq_icmp_ne (tgt := 176) C dL_isSo_169 (by decide) (fun c_169 => absurd rfl c_169) (fun c_169 => ?_)
  refine hq_iconst (y := 1) C dL_isSo_172 (by decide) ?_
  refine hq_goto (tgt := 177) C dL_isSo_173 (by decide) ?_
  refine hq_istore_n (L' := [(3, .int _), (10, .long _), (9, .int _), (8, .int _), (4, .long _), (6, .long _), (0, .ref _), (1, .long _)]) C dL_isSo_177 rfl (by decide) rfl ?_
  refine hq_iinc (q := 2) (y := nI (_ + 1)) (L' := [(9, .int _), (3, .int _), (10, .long _), (8, .int _), (4, .long _), (6, .long _), (0, .ref _), (1, .long _)]) C dL_isSo_178 rfl (hw_inc _) (by decide) rfl ?_
  refine hq_goto (tgt := 53) C dL_isSo_181 (by decide) ?_
  refine hq_perm [0, 3, 1, 4, 5, 6, 7] (L' := [(9, .int (nI (b + 1))), (8, .int (nI a)), (3, .int 1), (4, .long W), (6, .long 0), (0, .ref (hw_ad b0 0 0)), (1, .long told)]) rfl ?_
  exact hq_widen (by show ka + 2 + 2 + 2 + 2 + 2 + 2 + 2 ≤ ka + 14; omega) (by show kb + 12 + 12 + 12 + 12 + 12 + 12 + 12 ≤ kb + 84; omega) kk
set_option maxHeartbeats 4000000 in
set_option maxRecDepth 100000 in
theorem so_in_01 {p : Program} {l : Launch} {e : Env} {s : State} {m : MethodId} {args : Array Value} {below : List Frame} {meth : Method} {c : Code} {Q : State → Prop} {D : va_G} {b0 ka kb k nb no nc : Nat} {I P X : MI} {J N Y : MJ} {o told W : Int64} (hlt : l.stackTraces = false) (C : hw_C p s m args c D b0 cL_isSo RL 12) (h : IV k nb no nc I J P N) {a b : Nat} (ha : a < 12) (hb9 : b < 12) (hf : ka + 14 ≤ 2720 ∧ kb + 84 ≤ 16320) (he : e_debt I (nI a) (nI b) = none) (he2 : e_debt I (nI b) (nI a) = none) (hq : ¬ r_debt J (nI a) (nI b) 0 = NO) (q1 : r_debt J (nI a) (nI b) 0 = -r_debt J (nI b) (nI a) 0) (hs : ¬ nI a = nI b) (hc : lg_cmp (r_debt J (nI a) (nI b) 1) (-r_debt J (nI b) (nI a) 1) = 0) (g1 : r_agree J (nI a) (nI b) = 1) (g2 : r_agree J (nI b) (nI a) = 1) (kk : hw_V p l e rS s m args below meth c Q D b0 12 false (ka + 14) (kb + 84) (hw_n o) 53 [(9, .int (nI (b + 1))), (8, .int (nI a)), (3, .int 1), (4, .long W), (6, .long 0), (0, .ref (hw_ad b0 0 0)), (1, .long told)] [] (hw_vl b0 I J X Y o)) : hw_V p l e rS s m args below meth c Q D b0 12 false ka kb (hw_n o) 53 [(9, .int (nI b)), (8, .int (nI a)), (3, .int 1), (4, .long W), (6, .long 0), (0, .ref (hw_ad b0 0 0)), (1, .long told)] [] (hw_vl b0 I J X Y o) := by
  obtain ⟨hf1, hf2⟩ := hf
  refine hq_iload (q := 0) C dL_isSo_53 rfl ?_
  refine hq_bipush (y := 12) C dL_isSo_55 (by decide) ?_
  refine hq_icmp_ge (tgt := 184) C dL_isSo_57 (by decide) (fun c_57 => absurd c_57 (nI_ge (b := 12) (by omega) (by omega))) (fun c_57 => ?_)
  refine hq_iload_n (q := 2) C dL_isSo_60 rfl rfl ?_
  refine hq_if_eq (tgt := 184) C dL_isSo_61 (by decide) (fun c_61 => absurd c_61 (by decide)) (fun _ => ?_)
  refine hq_aload_n (q := 5) C dL_isSo_64 rfl rfl ?_
  refine hq_iload (q := 1) C dL_isSo_65 rfl ?_
  refine hq_iload (q := 0) C dL_isSo_67 rfl ?_
  refine hq_iconst (y := 0) C dL_isSo_69 (by decide) ?_
  refine hq_cSLr (As := [.ref _, .int _, .int _, .int _]) (rm := rL_debt) (Cn := "") C ((w_debt h he rfl) l D b0 X Y o hlt) ws_L_debt ml_L_148 rfl rfl rfl rfl ⟨Nat.le_of_ble_eq_true rfl, Nat.le_of_ble_eq_true rfl⟩ (Nat.le_of_ble_eq_true rfl) ⟨by show ka + 2 ≤ 2720; omega, by show kb + 12 ≤ 16320; omega⟩ dL_isSo_70 ?_
  refine hq_lstore (L' := [(10, .long _), (9, .int _), (8, .int _), (3, .int _), (4, .long _), (6, .long _), (0, .ref _), (1, .long _)]) C dL_isSo_73 (by decide) rfl ?_
  refine hq_lload (q := 0) C dL_isSo_75 rfl ?_
  refine hq_ldc2 C wc_L_16 dL_isSo_77 ?_
  refine hq_lcmp C dL_isSo_80 ?_
  refine hq_if_eq (tgt := 172) C dL_isSo_81 (by decide) (fun c_81 => absurd c_81 (fun z9 => hq ((lg_cmp_eq _ _).mp z9))) (fun c_81 => ?_)
  refine hq_lload (q := 0) C dL_isSo_84 rfl ?_
  refine hq_aload_n (q := 6) C dL_isSo_86 rfl rfl ?_
  refine hq_iload (q := 1) C dL_isSo_87 rfl ?_
  refine hq_iload (q := 2) C dL_isSo_89 rfl ?_
  refine hq_iconst (y := 0) C dL_isSo_91 (by decide) ?_
  refine hq_cVXr (As := [.int _, .int _, .int _]) (rm := rX5_debt) (f := 0) (Nc := 1) C (d_debt hlt h he2 rfl) wv_X5_debt ml_L_71 rfl rfl rfl Nat.one_pos rfl rfl rfl rfl ⟨Nat.le_of_ble_eq_true rfl, Nat.le_of_ble_eq_true rfl⟩ (Nat.le_of_ble_eq_true rfl) ⟨by show ka + 2 + 2 ≤ 2720; omega, by show kb + 12 + 12 ≤ 16320; omega⟩ dL_isSo_92 (fun _ => ?_) (fun E9 x9 => by cases x9)
  refine hq_lneg C dL_isSo_95 ?_
  refine hq_lcmp C dL_isSo_96 ?_
  refine hq_if_ne (tgt := 176) C dL_isSo_97 (by decide) (fun c_97 => absurd ((lg_cmp_eq _ _).mpr q1) c_97) (fun c_97 => ?_)
  refine hq_iload (q := 2) C dL_isSo_100 rfl ?_
  refine hq_iload (q := 1) C dL_isSo_102 rfl ?_
  refine hq_icmp_ne (tgt := 114) C dL_isSo_104 (by decide) (fun c_104 => ?_) (fun c_104 => absurd c_104 hs)
  refine hq_aload_n (q := 6) C dL_isSo_114 rfl rfl ?_
  refine hq_iload (q := 2) C dL_isSo_115 rfl ?_
  refine hq_iload (q := 1) C dL_isSo_117 rfl ?_
  refine hq_cVXr (As := [.int _, .int _]) (rm := rX5_agree) (f := 0) (Nc := 1) C (d_agree hlt h he g1) wv_X5_agree ml_L_75 rfl rfl rfl Nat.one_pos rfl rfl rfl rfl ⟨Nat.le_of_ble_eq_true rfl, Nat.le_of_ble_eq_true rfl⟩ (Nat.le_of_ble_eq_true rfl) ⟨by show ka + 2 + 2 + 2 ≤ 2720; omega, by show kb + 12 + 12 + 12 ≤ 16320; omega⟩ dL_isSo_119 (fun _ => ?_) (fun E9 x9 => by cases x9)
  refine hq_aload_n (q := 6) C dL_isSo_122 rfl rfl ?_
  refine hq_iload (q := 2) C dL_isSo_123 rfl ?_
  refine hq_iload (q := 1) C dL_isSo_125 rfl ?_
  refine hq_iconst (y := 1) C dL_isSo_127 (by decide) ?_
  refine hq_cVXr (As := [.int _, .int _, .int _]) (rm := rX5_debt) (f := 0) (Nc := 1) C (d_debt hlt h he rfl) wv_X5_debt ml_L_71 rfl rfl rfl Nat.one_pos rfl rfl rfl rfl ⟨Nat.le_of_ble_eq_true rfl, Nat.le_of_ble_eq_true rfl⟩ (Nat.le_of_ble_eq_true rfl) ⟨by show ka + 2 + 2 + 2 + 2 ≤ 2720; omega, by show kb + 12 + 12 + 12 + 12 ≤ 16320; omega⟩ dL_isSo_128 (fun _ => ?_) (fun E9 x9 => by cases x9)
  refine hq_aload_n (q := 6) C dL_isSo_131 rfl rfl ?_
  refine hq_iload (q := 1) C dL_isSo_132 rfl ?_
  refine hq_iload (q := 2) C dL_isSo_134 rfl ?_
  refine hq_iconst (y := 1) C dL_isSo_136 (by decide) ?_
  refine hq_cVXr (As := [.int _, .int _, .int _]) (rm := rX5_debt) (f := 0) (Nc := 1) C (d_debt hlt h he2 rfl) wv_X5_debt ml_L_71 rfl rfl rfl Nat.one_pos rfl rfl rfl rfl ⟨Nat.le_of_ble_eq_true rfl, Nat.le_of_ble_eq_true rfl⟩ (Nat.le_of_ble_eq_true rfl) ⟨by show ka + 2 + 2 + 2 + 2 + 2 ≤ 2720; omega, by show kb + 12 + 12 + 12 + 12 + 12 ≤ 16320; omega⟩ dL_isSo_137 (fun _ => ?_) (fun E9 x9 => by cases x9)
  refine hq_lneg C dL_isSo_140 ?_
  refine hq_lcmp C dL_isSo_141 ?_
  refine hq_if_ne (tgt := 149) C dL_isSo_142 (by decide) (fun c_142 => absurd hc c_142) (fun c_142 => ?_)
  refine hq_iconst (y := 1) C dL_isSo_145 (by decide) ?_
  refine hq_goto (tgt := 150) C dL_isSo_146 (by decide) ?_
  refine hq_icmp_ne (tgt := 176) C dL_isSo_150 (by decide) (fun c_150 => absurd rfl c_150) (fun c_150 => ?_)
  refine hq_aload_n (q := 6) C dL_isSo_153 rfl rfl ?_
  refine hq_iload (q := 2) C dL_isSo_154 rfl ?_
  refine hq_iload (q := 1) C dL_isSo_156 rfl ?_
  refine hq_cVXr (As := [.int _, .int _]) (rm := rX5_agree) (f := 0) (Nc := 1) C (d_agree hlt h he g1) wv_X5_agree ml_L_75 rfl rfl rfl Nat.one_pos rfl rfl rfl rfl ⟨Nat.le_of_ble_eq_true rfl, Nat.le_of_ble_eq_true rfl⟩ (Nat.le_of_ble_eq_true rfl) ⟨by show ka + 2 + 2 + 2 + 2 + 2 + 2 ≤ 2720; omega, by show kb + 12 + 12 + 12 + 12 + 12 + 12 ≤ 16320; omega⟩ dL_isSo_158 (fun _ => ?_) (fun E9 x9 => by cases x9)
  refine hq_aload_n (q := 6) C dL_isSo_161 rfl rfl ?_
  refine hq_iload (q := 1) C dL_isSo_162 rfl ?_
  refine hq_iload (q := 2) C dL_isSo_164 rfl ?_
  refine hq_cVXr (As := [.int _, .int _]) (rm := rX5_agree) (f := 0) (Nc := 1) C (d_agree hlt h he2 g2) wv_X5_agree ml_L_75 rfl rfl rfl Nat.one_pos rfl rfl rfl rfl ⟨Nat.le_of_ble_eq_true rfl, Nat.le_of_ble_eq_true rfl⟩ (Nat.le_of_ble_eq_true rfl) ⟨by show ka + 2 + 2 + 2 + 2 + 2 + 2 + 2 ≤ 2720; omega, by show kb + 12 + 12 + 12 + 12 + 12 + 12 + 12 ≤ 16320; omega⟩ dL_isSo_166 (fun _ => ?_) (fun E9 x9 => by cases x9)
  refine hq_icmp_ne (tgt := 176) C dL_isSo_169 (by decide) (fun c_169 => absurd rfl c_169) (fun c_169 => ?_)
  refine hq_iconst (y := 1) C dL_isSo_172 (by decide) ?_
  refine hq_goto (tgt := 177) C dL_isSo_173 (by decide) ?_
  refine hq_istore_n (L' := [(3, .int _), (10, .long _), (9, .int _), (8, .int _), (4, .long _), (6, .long _), (0, .ref _), (1, .long _)]) C dL_isSo_177 rfl (by decide) rfl ?_
  refine hq_iinc (q := 2) (y := nI (_ + 1)) (L' := [(9, .int _), (3, .int _), (10, .long _), (8, .int _), (4, .long _), (6, .long _), (0, .ref _), (1, .long _)]) C dL_isSo_178 rfl (hw_inc _) (by decide) rfl ?_
  refine hq_goto (tgt := 53) C dL_isSo_181 (by decide) ?_
  refine hq_perm [0, 3, 1, 4, 5, 6, 7] (L' := [(9, .int (nI (b + 1))), (8, .int (nI a)), (3, .int 1), (4, .long W), (6, .long 0), (0, .ref (hw_ad b0 0 0)), (1, .long told)]) rfl ?_
  exact hq_widen (by show ka + 2 + 2 + 2 + 2 + 2 + 2 + 2 ≤ ka + 14; omega) (by show kb + 12 + 12 + 12 + 12 + 12 + 12 + 12 ≤ kb + 84; omega) kk
set_option maxHeartbeats 4000000 in
set_option maxRecDepth 100000 in
theorem so_in_00 {p : Program} {l : Launch} {e : Env} {s : State} {m : MethodId} {args : Array Value} {below : List Frame} {meth : Method} {c : Code} {Q : State → Prop} {D : va_G} {b0 ka kb k nb no nc : Nat} {I P X : MI} {J N Y : MJ} {o told W : Int64} (hlt : l.stackTraces = false) (C : hw_C p s m args c D b0 cL_isSo RL 12) (h : IV k nb no nc I J P N) {a b : Nat} (ha : a < 12) (hb9 : b < 12) (hf : ka + 14 ≤ 2720 ∧ kb + 84 ≤ 16320) (he : e_debt I (nI a) (nI b) = none) (he2 : e_debt I (nI b) (nI a) = none) (hq : ¬ r_debt J (nI a) (nI b) 0 = NO) (q1 : r_debt J (nI a) (nI b) 0 = -r_debt J (nI b) (nI a) 0) (hs : ¬ nI a = nI b) (hc : ¬ lg_cmp (r_debt J (nI a) (nI b) 1) (-r_debt J (nI b) (nI a) 1) = 0) (g1 : r_agree J (nI a) (nI b) = 0) (g2 : r_agree J (nI b) (nI a) = 0) (kk : hw_V p l e rS s m args below meth c Q D b0 12 false (ka + 14) (kb + 84) (hw_n o) 53 [(9, .int (nI (b + 1))), (8, .int (nI a)), (3, .int 1), (4, .long W), (6, .long 0), (0, .ref (hw_ad b0 0 0)), (1, .long told)] [] (hw_vl b0 I J X Y o)) : hw_V p l e rS s m args below meth c Q D b0 12 false ka kb (hw_n o) 53 [(9, .int (nI b)), (8, .int (nI a)), (3, .int 1), (4, .long W), (6, .long 0), (0, .ref (hw_ad b0 0 0)), (1, .long told)] [] (hw_vl b0 I J X Y o) := by
  obtain ⟨hf1, hf2⟩ := hf
  refine hq_iload (q := 0) C dL_isSo_53 rfl ?_
  refine hq_bipush (y := 12) C dL_isSo_55 (by decide) ?_
  refine hq_icmp_ge (tgt := 184) C dL_isSo_57 (by decide) (fun c_57 => absurd c_57 (nI_ge (b := 12) (by omega) (by omega))) (fun c_57 => ?_)
  refine hq_iload_n (q := 2) C dL_isSo_60 rfl rfl ?_
  refine hq_if_eq (tgt := 184) C dL_isSo_61 (by decide) (fun c_61 => absurd c_61 (by decide)) (fun _ => ?_)
  refine hq_aload_n (q := 5) C dL_isSo_64 rfl rfl ?_
  refine hq_iload (q := 1) C dL_isSo_65 rfl ?_
  refine hq_iload (q := 0) C dL_isSo_67 rfl ?_
  refine hq_iconst (y := 0) C dL_isSo_69 (by decide) ?_
  refine hq_cSLr (As := [.ref _, .int _, .int _, .int _]) (rm := rL_debt) (Cn := "") C ((w_debt h he rfl) l D b0 X Y o hlt) ws_L_debt ml_L_148 rfl rfl rfl rfl ⟨Nat.le_of_ble_eq_true rfl, Nat.le_of_ble_eq_true rfl⟩ (Nat.le_of_ble_eq_true rfl) ⟨by show ka + 2 ≤ 2720; omega, by show kb + 12 ≤ 16320; omega⟩ dL_isSo_70 ?_
  refine hq_lstore (L' := [(10, .long _), (9, .int _), (8, .int _), (3, .int _), (4, .long _), (6, .long _), (0, .ref _), (1, .long _)]) C dL_isSo_73 (by decide) rfl ?_
  refine hq_lload (q := 0) C dL_isSo_75 rfl ?_
  refine hq_ldc2 C wc_L_16 dL_isSo_77 ?_
  refine hq_lcmp C dL_isSo_80 ?_
  refine hq_if_eq (tgt := 172) C dL_isSo_81 (by decide) (fun c_81 => absurd c_81 (fun z9 => hq ((lg_cmp_eq _ _).mp z9))) (fun c_81 => ?_)
  refine hq_lload (q := 0) C dL_isSo_84 rfl ?_
  refine hq_aload_n (q := 6) C dL_isSo_86 rfl rfl ?_
  refine hq_iload (q := 1) C dL_isSo_87 rfl ?_
  refine hq_iload (q := 2) C dL_isSo_89 rfl ?_
  refine hq_iconst (y := 0) C dL_isSo_91 (by decide) ?_
  refine hq_cVXr (As := [.int _, .int _, .int _]) (rm := rX5_debt) (f := 0) (Nc := 1) C (d_debt hlt h he2 rfl) wv_X5_debt ml_L_71 rfl rfl rfl Nat.one_pos rfl rfl rfl rfl ⟨Nat.le_of_ble_eq_true rfl, Nat.le_of_ble_eq_true rfl⟩ (Nat.le_of_ble_eq_true rfl) ⟨by show ka + 2 + 2 ≤ 2720; omega, by show kb + 12 + 12 ≤ 16320; omega⟩ dL_isSo_92 (fun _ => ?_) (fun E9 x9 => by cases x9)
  refine hq_lneg C dL_isSo_95 ?_
  refine hq_lcmp C dL_isSo_96 ?_
  refine hq_if_ne (tgt := 176) C dL_isSo_97 (by decide) (fun c_97 => absurd ((lg_cmp_eq _ _).mpr q1) c_97) (fun c_97 => ?_)
  refine hq_iload (q := 2) C dL_isSo_100 rfl ?_
  refine hq_iload (q := 1) C dL_isSo_102 rfl ?_
  refine hq_icmp_ne (tgt := 114) C dL_isSo_104 (by decide) (fun c_104 => ?_) (fun c_104 => absurd c_104 hs)
  refine hq_aload_n (q := 6) C dL_isSo_114 rfl rfl ?_
  refine hq_iload (q := 2) C dL_isSo_115 rfl ?_
  refine hq_iload (q := 1) C dL_isSo_117 rfl ?_
  refine hq_cVXr (As := [.int _, .int _]) (rm := rX5_agree) (f := 0) (Nc := 1) C (d_agree hlt h he g1) wv_X5_agree ml_L_75 rfl rfl rfl Nat.one_pos rfl rfl rfl rfl ⟨Nat.le_of_ble_eq_true rfl, Nat.le_of_ble_eq_true rfl⟩ (Nat.le_of_ble_eq_true rfl) ⟨by show ka + 2 + 2 + 2 ≤ 2720; omega, by show kb + 12 + 12 + 12 ≤ 16320; omega⟩ dL_isSo_119 (fun _ => ?_) (fun E9 x9 => by cases x9)
  refine hq_aload_n (q := 6) C dL_isSo_122 rfl rfl ?_
  refine hq_iload (q := 2) C dL_isSo_123 rfl ?_
  refine hq_iload (q := 1) C dL_isSo_125 rfl ?_
  refine hq_iconst (y := 1) C dL_isSo_127 (by decide) ?_
  refine hq_cVXr (As := [.int _, .int _, .int _]) (rm := rX5_debt) (f := 0) (Nc := 1) C (d_debt hlt h he rfl) wv_X5_debt ml_L_71 rfl rfl rfl Nat.one_pos rfl rfl rfl rfl ⟨Nat.le_of_ble_eq_true rfl, Nat.le_of_ble_eq_true rfl⟩ (Nat.le_of_ble_eq_true rfl) ⟨by show ka + 2 + 2 + 2 + 2 ≤ 2720; omega, by show kb + 12 + 12 + 12 + 12 ≤ 16320; omega⟩ dL_isSo_128 (fun _ => ?_) (fun E9 x9 => by cases x9)
  refine hq_aload_n (q := 6) C dL_isSo_131 rfl rfl ?_
  refine hq_iload (q := 1) C dL_isSo_132 rfl ?_
  refine hq_iload (q := 2) C dL_isSo_134 rfl ?_
  refine hq_iconst (y := 1) C dL_isSo_136 (by decide) ?_
  refine hq_cVXr (As := [.int _, .int _, .int _]) (rm := rX5_debt) (f := 0) (Nc := 1) C (d_debt hlt h he2 rfl) wv_X5_debt ml_L_71 rfl rfl rfl Nat.one_pos rfl rfl rfl rfl ⟨Nat.le_of_ble_eq_true rfl, Nat.le_of_ble_eq_true rfl⟩ (Nat.le_of_ble_eq_true rfl) ⟨by show ka + 2 + 2 + 2 + 2 + 2 ≤ 2720; omega, by show kb + 12 + 12 + 12 + 12 + 12 ≤ 16320; omega⟩ dL_isSo_137 (fun _ => ?_) (fun E9 x9 => by cases x9)
  refine hq_lneg C dL_isSo_140 ?_
  refine hq_lcmp C dL_isSo_141 ?_
  refine hq_if_ne (tgt := 149) C dL_isSo_142 (by decide) (fun c_142 => ?_) (fun c_142 => absurd c_142 hc)
  refine hq_iconst (y := 0) C dL_isSo_149 (by decide) ?_
  refine hq_icmp_ne (tgt := 176) C dL_isSo_150 (by decide) (fun c_150 => absurd rfl c_150) (fun c_150 => ?_)
  refine hq_aload_n (q := 6) C dL_isSo_153 rfl rfl ?_
  refine hq_iload (q := 2) C dL_isSo_154 rfl ?_
  refine hq_iload (q := 1) C dL_isSo_156 rfl ?_
  refine hq_cVXr (As := [.int _, .int _]) (rm := rX5_agree) (f := 0) (Nc := 1) C (d_agree hlt h he g1) wv_X5_agree ml_L_75 rfl rfl rfl Nat.one_pos rfl rfl rfl rfl ⟨Nat.le_of_ble_eq_true rfl, Nat.le_of_ble_eq_true rfl⟩ (Nat.le_of_ble_eq_true rfl) ⟨by show ka + 2 + 2 + 2 + 2 + 2 + 2 ≤ 2720; omega, by show kb + 12 + 12 + 12 + 12 + 12 + 12 ≤ 16320; omega⟩ dL_isSo_158 (fun _ => ?_) (fun E9 x9 => by cases x9)
  refine hq_aload_n (q := 6) C dL_isSo_161 rfl rfl ?_
  refine hq_iload (q := 1) C dL_isSo_162 rfl ?_
  refine hq_iload (q := 2) C dL_isSo_164 rfl ?_
  refine hq_cVXr (As := [.int _, .int _]) (rm := rX5_agree) (f := 0) (Nc := 1) C (d_agree hlt h he2 g2) wv_X5_agree ml_L_75 rfl rfl rfl Nat.one_pos rfl rfl rfl rfl ⟨Nat.le_of_ble_eq_true rfl, Nat.le_of_ble_eq_true rfl⟩ (Nat.le_of_ble_eq_true rfl) ⟨by show ka + 2 + 2 + 2 + 2 + 2 + 2 + 2 ≤ 2720; omega, by show kb + 12 + 12 + 12 + 12 + 12 + 12 + 12 ≤ 16320; omega⟩ dL_isSo_166 (fun _ => ?_) (fun E9 x9 => by cases x9)
  refine hq_icmp_ne (tgt := 176) C dL_isSo_169 (by decide) (fun c_169 => absurd rfl c_169) (fun c_169 => ?_)
  refine hq_iconst (y := 1) C dL_isSo_172 (by decide) ?_
  refine hq_goto (tgt := 177) C dL_isSo_173 (by decide) ?_
  refine hq_istore_n (L' := [(3, .int _), (10, .long _), (9, .int _), (8, .int _), (4, .long _), (6, .long _), (0, .ref _), (1, .long _)]) C dL_isSo_177 rfl (by decide) rfl ?_
  refine hq_iinc (q := 2) (y := nI (_ + 1)) (L' := [(9, .int _), (3, .int _), (10, .long _), (8, .int _), (4, .long _), (6, .long _), (0, .ref _), (1, .long _)]) C dL_isSo_178 rfl (hw_inc _) (by decide) rfl ?_
  refine hq_goto (tgt := 53) C dL_isSo_181 (by decide) ?_
  refine hq_perm [0, 3, 1, 4, 5, 6, 7] (L' := [(9, .int (nI (b + 1))), (8, .int (nI a)), (3, .int 1), (4, .long W), (6, .long 0), (0, .ref (hw_ad b0 0 0)), (1, .long told)]) rfl ?_
  exact hq_widen (by show ka + 2 + 2 + 2 + 2 + 2 + 2 + 2 ≤ ka + 14; omega) (by show kb + 12 + 12 + 12 + 12 + 12 + 12 + 12 ≤ kb + 84; omega) kk
/-- one pair of brokers -/
theorem so_in {p : Program} {l : Launch} {e : Env} {s : State} {m : MethodId} {args : Array Value} {below : List Frame} {meth : Method} {c : Code} {Q : State → Prop} {D : va_G} {b0 ka kb k nb no nc : Nat} {I P X : MI} {J N Y : MJ} {o told W : Int64} (hlt : l.stackTraces = false) (C : hw_C p s m args c D b0 cL_isSo RL 12) (h : IV k nb no nc I J P N) {a b : Nat} (ha : a < 12) (hb9 : b < 12) (hk9 : k ≤ 150) (hf : ka + 14 ≤ 2720 ∧ kb + 84 ≤ 16320) (kk : hw_V p l e rS s m args below meth c Q D b0 12 false (ka + 14) (kb + 84) (hw_n o) 53 [(9, .int (nI (b + 1))), (8, .int (nI a)), (3, .int 1), (4, .long W), (6, .long 0), (0, .ref (hw_ad b0 0 0)), (1, .long told)] [] (hw_vl b0 I J X Y o)) : hw_V p l e rS s m args below meth c Q D b0 12 false ka kb (hw_n o) 53 [(9, .int (nI b)), (8, .int (nI a)), (3, .int 1), (4, .long W), (6, .long 0), (0, .ref (hw_ad b0 0 0)), (1, .long told)] [] (hw_vl b0 I J X Y o) := by
  have hbc : I 0 0 = nI nb := h.ci.1.1.1
  have hnb : nb ≤ 12 := h.ci.1.1.2
  have ta : tn (nI a) = a := nI_clamp (by omega)
  have tb : tn (nI b) = b := nI_clamp (by omega)
  by_cases c1 : a < nb
  · by_cases c2 : b < nb
    · have he : e_debt I (nI a) (nI b) = none := by simp [e_debt, hx_or, ix_y (g := 0) hbc (by omega) c1, ix_y (g := 0) hbc (by omega) c2]
      have he2 : e_debt I (nI b) (nI a) = none := by simp [e_debt, hx_or, ix_y (g := 0) hbc (by omega) c1, ix_y (g := 0) hbc (by omega) c2]
      by_cases hq : r_debt J (nI a) (nI b) 0 = NO
      · exact so_in_co hlt C h ha hb9 hf he hq kk
      · have hsk := h.2.1.2.2.2.2.2.2.1
        have q1 : r_debt J (nI a) (nI b) 0 = -r_debt J (nI b) (nI a) 0 := by
          show J 1 (12 * tn (nI a) + tn (nI b)) = -J 1 (12 * tn (nI b) + tn (nI a))
          rw [ta, tb]
          exact hsk b a hb9 ha
        have ag : ∀ x y : Int64, (x = -y) ↔ (y = -x) := fun x y => ⟨fun z => by rw [z, Int64.neg_neg], fun z => by rw [z, Int64.neg_neg]⟩
        have g1 : r_agree J (nI a) (nI b) = if lg_cmp (r_debt J (nI a) (nI b) 1) (-r_debt J (nI b) (nI a) 1) = 0 then 1 else 0 := rfl
        have g2 : r_agree J (nI b) (nI a) = if lg_cmp (r_debt J (nI b) (nI a) 1) (-r_debt J (nI a) (nI b) 1) = 0 then 1 else 0 := rfl
        by_cases hc : lg_cmp (r_debt J (nI a) (nI b) 1) (-r_debt J (nI b) (nI a) 1) = 0
        · have hc2 : lg_cmp (r_debt J (nI b) (nI a) 1) (-r_debt J (nI a) (nI b) 1) = 0 := (lg_cmp_eq _ _).mpr ((ag _ _).mp ((lg_cmp_eq _ _).mp hc))
          rw [if_pos hc] at g1
          rw [if_pos hc2] at g2
          by_cases hs : nI a = nI b
          · have q0 : r_debt J (nI a) (nI b) 0 = 0 := by
              have e9 := (nI_eq (by omega) (by omega)).mp hs
              subst e9
              show J 1 (12 * tn (nI a) + tn (nI a)) = 0
              rw [ta]
              exact sk_zero hsk h.ci.2.2.2 (by omega) ha
            exact so_in_11 hlt C h ha hb9 hf he he2 hq q1 q0 hs hc g1 g2 kk
          · exact so_in_01 hlt C h ha hb9 hf he he2 hq q1 hs hc g1 g2 kk
        · have hc2 : ¬ lg_cmp (r_debt J (nI b) (nI a) 1) (-r_debt J (nI a) (nI b) 1) = 0 := fun z => hc ((lg_cmp_eq _ _).mpr ((ag _ _).mpr ((lg_cmp_eq _ _).mp z)))
          rw [if_neg hc] at g1
          rw [if_neg hc2] at g2
          by_cases hs : nI a = nI b
          · have q0 : r_debt J (nI a) (nI b) 0 = 0 := by
              have e9 := (nI_eq (by omega) (by omega)).mp hs
              subst e9
              show J 1 (12 * tn (nI a) + tn (nI a)) = 0
              rw [ta]
              exact sk_zero hsk h.ci.2.2.2 (by omega) ha
            exact so_in_10 hlt C h ha hb9 hf he he2 hq q1 q0 hs hc g1 g2 kk
          · exact so_in_00 hlt C h ha hb9 hf he he2 hq q1 hs hc g1 g2 kk
    · exact so_in_no hlt C h ha hb9 hf (by simp [e_debt, hx_or, ix_y (g := 0) hbc (by omega) c1, ix_n (g := 0) hbc (by omega) (show nb ≤ b by omega) (by omega)]) kk
  · exact so_in_no hlt C h ha hb9 hf (by simp [e_debt, hx_or, ix_n (g := 0) hbc (by omega) (show nb ≤ a by omega) (by omega)]) kk
theorem so_inner {p : Program} {l : Launch} {e : Env} {s : State} {m : MethodId} {args : Array Value} {below : List Frame} {meth : Method} {c : Code} {Q : State → Prop} {D : va_G} {b0 ka kb k nb no nc : Nat} {I P X : MI} {J N Y : MJ} {o told W : Int64} (hlt : l.stackTraces = false) (C : hw_C p s m args c D b0 cL_isSo RL 12) (h : IV k nb no nc I J P N) {a : Nat} (ha : a < 12) (hk9 : k ≤ 150) (hf : ka + 168 ≤ 2720 ∧ kb + 1008 ≤ 16320) (kk : hw_V p l e rS s m args below meth c Q D b0 12 false (ka + 168) (kb + 1008) (hw_n o) 184 [(9, .int (nI 12)), (8, .int (nI a)), (3, .int 1), (4, .long W), (6, .long 0), (0, .ref (hw_ad b0 0 0)), (1, .long told)] [] (hw_vl b0 I J X Y o)) : ∀ r b : Nat, r + b = 12 → hw_V p l e rS s m args below meth c Q D b0 12 false (ka + 14 * b) (kb + 84 * b) (hw_n o) 53 [(9, .int (nI b)), (8, .int (nI a)), (3, .int 1), (4, .long W), (6, .long 0), (0, .ref (hw_ad b0 0 0)), (1, .long told)] [] (hw_vl b0 I J X Y o) := by
  intro r
  induction r with
  | zero =>
    intro b hb9
    obtain rfl : b = 12 := by omega
    refine hq_iload (q := 0) C dL_isSo_53 rfl ?_
    refine hq_bipush (y := 12) C dL_isSo_55 (by decide) ?_
    refine hq_icmp_ge (tgt := 184) C dL_isSo_57 (by decide) (fun _ => ?_) (fun c_9 => absurd (show (12 : Int32) ≤ nI 12 by decide) c_9)
    exact hq_widen (by omega) (by omega) kk
  | succ r ih =>
    intro b hb9
    exact so_in hlt C h ha (by omega) hk9 ⟨by omega, by omega⟩ (hq_widen (by omega) (by omega) (ih (b + 1) (by omega)))
set_option maxHeartbeats 4000000 in
set_option maxRecDepth 100000 in
theorem so_out_y {p : Program} {l : Launch} {e : Env} {s : State} {m : MethodId} {args : Array Value} {below : List Frame} {meth : Method} {c : Code} {Q : State → Prop} {D : va_G} {b0 ka kb k nb no nc : Nat} {I P X : MI} {J N Y : MJ} {o told W : Int64} (hlt : l.stackTraces = false) (C : hw_C p s m args c D b0 cL_isSo RL 12) (h : IV k nb no nc I J P N) {a : Nat} (ha : a < 12) (hf : ka + 4 ≤ 2720 ∧ kb + 24 ≤ 16320) (he : e_brokerOf I (nI a) 1 = none) (he3 : e_brokerOf I (nI a) 3 = none) (hp : 0 ≤ lg_cmp (r_brokerOf I J (nI a) 1 nb) 0) (hv : r_brokerOf I J (nI a) 3 nb = wv J nb a) (kk : hw_V p l e rS s m args below meth c Q D b0 12 false (ka + 4) (kb + 24) (hw_n o) 53 [(9, .int (nI 0)), (8, .int (nI a)), (3, .int 1), (4, .long (W + wv J nb a)), (6, .long 0), (0, .ref (hw_ad b0 0 0)), (1, .long told)] [] (hw_vl b0 I J X Y o)) : hw_V p l e rS s m args below meth c Q D b0 12 false ka kb (hw_n o) 11 [(8, .int (nI a)), (3, .int 1), (4, .long W), (6, .long 0), (0, .ref (hw_ad b0 0 0)), (1, .long told)] [] (hw_vl b0 I J X Y o) := by
  obtain ⟨hf1, hf2⟩ := hf
  refine hq_iload (q := 0) C dL_isSo_11 rfl ?_
  refine hq_bipush (y := 12) C dL_isSo_13 (by decide) ?_
  refine hq_icmp_ge (tgt := 190) C dL_isSo_15 (by decide) (fun c_15 => absurd c_15 (nI_ge (b := 12) (by omega) (by omega))) (fun c_15 => ?_)
  refine hq_iload_n (q := 1) C dL_isSo_18 rfl rfl ?_
  refine hq_if_eq (tgt := 190) C dL_isSo_19 (by decide) (fun c_19 => absurd c_19 (by decide)) (fun _ => ?_)
  refine hq_lload (q := 2) C dL_isSo_22 rfl ?_
  refine hq_aload_n (q := 4) C dL_isSo_24 rfl rfl ?_
  refine hq_iload (q := 0) C dL_isSo_25 rfl ?_
  refine hq_iconst (y := 1) C dL_isSo_27 (by decide) ?_
  refine hq_cSLr (As := [.ref _, .int _, .int _]) (rm := rL_brokerOf) (Cn := "") C ((w_brokerOf h he rfl) l D b0 X Y o hlt) ws_L_brokerOf ml_L_155 rfl rfl rfl rfl ⟨Nat.le_of_ble_eq_true rfl, Nat.le_of_ble_eq_true rfl⟩ (Nat.le_of_ble_eq_true rfl) ⟨by show ka + 2 ≤ 2720; omega, by show kb + 12 ≤ 16320; omega⟩ dL_isSo_28 ?_
  refine hq_lconst (y := 0) C dL_isSo_31 rfl ?_
  refine hq_lcmp C dL_isSo_32 ?_
  refine hq_if_ge (tgt := 40) C dL_isSo_33 (by decide) (fun c_33 => ?_) (fun c_33 => absurd hp c_33)
  refine hq_aload_n (q := 4) C dL_isSo_40 rfl rfl ?_
  refine hq_iload (q := 0) C dL_isSo_41 rfl ?_
  refine hq_iconst (y := 3) C dL_isSo_43 (by decide) ?_
  refine hq_cVXr (As := [.int _, .int _]) (rm := rX5_brokerOf) (f := 0) (Nc := 1) C (d_brokerOf hlt h he3 hv) wv_X5_brokerOf ml_L_67 rfl rfl rfl Nat.one_pos rfl rfl rfl rfl ⟨Nat.le_of_ble_eq_true rfl, Nat.le_of_ble_eq_true rfl⟩ (Nat.le_of_ble_eq_true rfl) ⟨by show ka + 2 + 2 ≤ 2720; omega, by show kb + 12 + 12 ≤ 16320; omega⟩ dL_isSo_44 (fun _ => ?_) (fun E9 x9 => by cases x9)
  refine hq_ladd C dL_isSo_47 ?_
  refine hq_lstore (L' := [(4, .long _), (8, .int _), (3, .int _), (6, .long _), (0, .ref _), (1, .long _)]) C dL_isSo_48 (by decide) rfl ?_
  refine hq_iconst (y := 0) C dL_isSo_50 (by decide) ?_
  refine hq_istore (L' := [(9, .int _), (4, .long _), (8, .int _), (3, .int _), (6, .long _), (0, .ref _), (1, .long _)]) C dL_isSo_51 (by decide) rfl ?_
  refine hq_perm [0, 2, 3, 1, 4, 5, 6] (L' := [(9, .int (nI 0)), (8, .int (nI a)), (3, .int 1), (4, .long (W + wv J nb a)), (6, .long 0), (0, .ref (hw_ad b0 0 0)), (1, .long told)]) rfl ?_
  exact hq_widen (by show ka + 2 + 2 ≤ ka + 4; omega) (by show kb + 12 + 12 ≤ kb + 24; omega) kk
set_option maxHeartbeats 4000000 in
set_option maxRecDepth 100000 in
theorem so_out_n {p : Program} {l : Launch} {e : Env} {s : State} {m : MethodId} {args : Array Value} {below : List Frame} {meth : Method} {c : Code} {Q : State → Prop} {D : va_G} {b0 ka kb k nb no nc : Nat} {I P X : MI} {J N Y : MJ} {o told W : Int64} (hlt : l.stackTraces = false) (C : hw_C p s m args c D b0 cL_isSo RL 12) (h : IV k nb no nc I J P N) {a : Nat} (ha : a < 12) (hf : ka + 4 ≤ 2720 ∧ kb + 24 ≤ 16320) (he : e_brokerOf I (nI a) 1 = some eI) (hv : (0 : Int64) = wv J nb a) (kk : hw_V p l e rS s m args below meth c Q D b0 12 false (ka + 4) (kb + 24) (hw_n o) 53 [(9, .int (nI 0)), (8, .int (nI a)), (3, .int 1), (4, .long (W + wv J nb a)), (6, .long 0), (0, .ref (hw_ad b0 0 0)), (1, .long told)] [] (hw_vl b0 I J X Y o)) : hw_V p l e rS s m args below meth c Q D b0 12 false ka kb (hw_n o) 11 [(8, .int (nI a)), (3, .int 1), (4, .long W), (6, .long 0), (0, .ref (hw_ad b0 0 0)), (1, .long told)] [] (hw_vl b0 I J X Y o) := by
  obtain ⟨hf1, hf2⟩ := hf
  refine hq_iload (q := 0) C dL_isSo_11 rfl ?_
  refine hq_bipush (y := 12) C dL_isSo_13 (by decide) ?_
  refine hq_icmp_ge (tgt := 190) C dL_isSo_15 (by decide) (fun c_15 => absurd c_15 (nI_ge (b := 12) (by omega) (by omega))) (fun c_15 => ?_)
  refine hq_iload_n (q := 1) C dL_isSo_18 rfl rfl ?_
  refine hq_if_eq (tgt := 190) C dL_isSo_19 (by decide) (fun c_19 => absurd c_19 (by decide)) (fun _ => ?_)
  refine hq_lload (q := 2) C dL_isSo_22 rfl ?_
  refine hq_aload_n (q := 4) C dL_isSo_24 rfl rfl ?_
  refine hq_iload (q := 0) C dL_isSo_25 rfl ?_
  refine hq_iconst (y := 1) C dL_isSo_27 (by decide) ?_
  refine hq_cSLr (As := [.ref _, .int _, .int _]) (rm := rL_brokerOf) (Cn := "") C ((w_brokerOf_no h he) l D b0 X Y o hlt) ws_L_brokerOf ml_L_155 rfl rfl rfl rfl ⟨Nat.le_of_ble_eq_true rfl, Nat.le_of_ble_eq_true rfl⟩ (Nat.le_of_ble_eq_true rfl) ⟨by show ka + 2 ≤ 2720; omega, by show kb + 12 ≤ 16320; omega⟩ dL_isSo_28 ?_
  refine hq_lconst (y := 0) C dL_isSo_31 rfl ?_
  refine hq_lcmp C dL_isSo_32 ?_
  refine hq_if_ge (tgt := 40) C dL_isSo_33 (by decide) (fun c_33 => absurd c_33 (by decide)) (fun c_33 => ?_)
  refine hq_lconst (y := 0) C dL_isSo_36 rfl ?_
  refine hq_goto (tgt := 47) C dL_isSo_37 (by decide) ?_
  refine hq_st (st' := [.long (wv J nb a), .long W]) (by rw [← hv]) ?_
  refine hq_ladd C dL_isSo_47 ?_
  refine hq_lstore (L' := [(4, .long _), (8, .int _), (3, .int _), (6, .long _), (0, .ref _), (1, .long _)]) C dL_isSo_48 (by decide) rfl ?_
  refine hq_iconst (y := 0) C dL_isSo_50 (by decide) ?_
  refine hq_istore (L' := [(9, .int _), (4, .long _), (8, .int _), (3, .int _), (6, .long _), (0, .ref _), (1, .long _)]) C dL_isSo_51 (by decide) rfl ?_
  refine hq_perm [0, 2, 3, 1, 4, 5, 6] (L' := [(9, .int (nI 0)), (8, .int (nI a)), (3, .int 1), (4, .long (W + wv J nb a)), (6, .long 0), (0, .ref (hw_ad b0 0 0)), (1, .long told)]) rfl ?_
  exact hq_widen (by show ka + 2 ≤ ka + 4; omega) (by show kb + 12 ≤ kb + 24; omega) kk
theorem so_outer {p : Program} {l : Launch} {e : Env} {s : State} {m : MethodId} {args : Array Value} {below : List Frame} {meth : Method} {c : Code} {Q : State → Prop} {D : va_G} {b0 ka kb k nb no nc : Nat} {I P X : MI} {J N Y : MJ} {o told W : Int64} (hlt : l.stackTraces = false) (C : hw_C p s m args c D b0 cL_isSo RL 12) (h : IV k nb no nc I J P N) (hk9 : k ≤ 150) (hf : ka + 2064 ≤ 2720 ∧ kb + 12384 ≤ 16320) (kk : hw_V p l e rS s m args below meth c Q D b0 12 false (ka + 2064) (kb + 12384) (hw_n o) 190 [(8, .int (nI 12)), (3, .int 1), (4, .long (SM (wv J nb) 12)), (6, .long 0), (0, .ref (hw_ad b0 0 0)), (1, .long told)] [] (hw_vl b0 I J X Y o)) : ∀ r a : Nat, r + a = 12 → hw_V p l e rS s m args below meth c Q D b0 12 false (ka + 172 * a) (kb + 1032 * a) (hw_n o) 11 [(8, .int (nI a)), (3, .int 1), (4, .long (SM (wv J nb) a)), (6, .long 0), (0, .ref (hw_ad b0 0 0)), (1, .long told)] [] (hw_vl b0 I J X Y o) := by
  have hbc : I 0 0 = nI nb := h.ci.1.1.1
  have hnb : nb ≤ 12 := h.ci.1.1.2
  intro r
  induction r with
  | zero =>
    intro a ha
    obtain rfl : a = 12 := by omega
    refine hq_iload (q := 0) C dL_isSo_11 rfl ?_
    refine hq_bipush (y := 12) C dL_isSo_13 (by decide) ?_
    refine hq_icmp_ge (tgt := 190) C dL_isSo_15 (by decide) (fun _ => ?_) (fun c_9 => absurd (show (12 : Int32) ≤ nI 12 by decide) c_9)
    exact hq_widen (by omega) (by omega) kk
  | succ r ih =>
    intro a ha
    have h12 : a < 12 := by omega
    have ta : tn (nI a) = a := nI_clamp (by omega)
    have nx : hw_V p l e rS s m args below meth c Q D b0 12 false (ka + 172 * a + 4 + 168) (kb + 1032 * a + 24 + 1008) (hw_n o) 184 [(9, .int (nI 12)), (8, .int (nI a)), (3, .int 1), (4, .long (SM (wv J nb) a + wv J nb a)), (6, .long 0), (0, .ref (hw_ad b0 0 0)), (1, .long told)] [] (hw_vl b0 I J X Y o) := by
      refine hq_iinc (q := 1) (y := nI (a + 1)) (L' := (8, .int (nI (a + 1))) :: [(9, .int (nI 12)), (3, .int 1), (4, .long (SM (wv J nb) a + wv J nb a)), (6, .long 0), (0, .ref (hw_ad b0 0 0)), (1, .long told)]) C dL_isSo_184 rfl (hw_inc a) (by decide) rfl ?_
      refine hq_goto (tgt := 11) C dL_isSo_187 (by decide) ?_
      refine hq_perm [0, 2, 3, 4, 5, 6] (L' := [(8, .int (nI (a + 1))), (3, .int 1), (4, .long (SM (wv J nb) a + wv J nb a)), (6, .long 0), (0, .ref (hw_ad b0 0 0)), (1, .long told)]) rfl ?_
      have := ih (a + 1) (by omega)
      rw [SM_s] at this
      exact hq_widen (by omega) (by omega) this
    have ins := so_inner (ka := ka + 172 * a + 4) (kb := kb + 1032 * a + 24) (W := SM (wv J nb) a + wv J nb a) hlt C h h12 hk9 ⟨by omega, by omega⟩ nx 12 0 rfl
    by_cases c1 : a < nb
    · have hx := ix_y (g := 0) hbc (by omega) c1
      have hcash : 0 ≤ lg_cmp (r_brokerOf I J (nI a) 1 nb) 0 := by
        show 0 ≤ lg_cmp (J 0 (tn (nI a))) 0
        rw [lg_cmp_ge, Int64.le_iff_toInt_le]
        exact (h.2.1.2.2.2.2.2.2.2 _).1
      exact so_out_y hlt C h h12 ⟨by omega, by omega⟩ (by simp [e_brokerOf, hx_or, hx]; decide) (by simp [e_brokerOf, hx_or, hx]; decide) hcash (by
        unfold wv
        rw [if_pos c1]
        show lp (sf_wo J (tn (nI a))) nb 0 (J 0 (tn (nI a))) = _
        rw [ta]) ins
    · have hx := ix_n (g := 0) hbc (by omega) (show nb ≤ a by omega) (by omega)
      exact so_out_n hlt C h h12 ⟨by omega, by omega⟩ (by simp [e_brokerOf, hx_or, hx]) (if_neg c1).symm ins
