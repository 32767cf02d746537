/-! the law: its script, its loop -/
/-- cell, with the script of L9 ints xs at b -/
def hw_Mc (l : Launch) (D : va_G) (b0 n : Nat) (v : VF) (b L9 : Nat) (xs : Nat → Int32) (k r : Int32) : Prop :=
  Met l yL_cell (wL_cell :: hw_TB) rL_cell (va_Pc [.ref b, .int k] (fun U => hw_PW D b0 false n v U ∧ va_X b L9 xs U U.heap ∧ b < b0)) (hw_Q D b0 false n (some (.int r)) v) 0 0 (fun q => b0 ≤ q)
theorem hw_blindC {D : va_G} {b0 n : Nat} {v : VF} {b L9 : Nat} {xs : Nat → Int32} {av : List Value} : FrameBlind (va_Pc av (fun U => hw_PW D b0 false n v U ∧ va_X b L9 xs U U.heap ∧ b < b0)) := by
  intro a U g mk h
  obtain ⟨h0, h1, h2, h3⟩ := h
  exact ⟨h0, (hw_blind a U g mk ⟨h0, h1⟩).2, va_X.moved (u := U) (U := U.calling g mk a) (Vm.Alike.refl U.vm) h2, h3⟩
theorem m_cell {l : Launch} {D : va_G} {b0 n : Nat} {v : VF} {b L9 e9 : Nat} {xs : Nat → Int32} (hL : L9 ≤ 260) (he : e9 < 120) : hw_Mc l D b0 n v b L9 xs (nI e9) (if nI L9 ≤ nI e9 then 7919 * (nI e9 + 2473) * (nI e9 + 277) else xs (nI e9).toNatClampNeg) := by
  refine Met.ofW (cc := cL_cell) (maxL := 2) (ret := some .int) (by decide) rfl ?_
  intro p e s m args below meth c s₁ B hml9 hv9
  obtain ⟨rfl, ⟨h1, h2, h3, h4, h5, h6⟩, hX, hb0⟩ := hv9
  have hts := atoms_spec (ws := wL_cell :: hw_TB) B.pre
  have C : hw_C p s m ([.ref b, .int (nI e9)] : List Value).toArray c D b0 cL_cell RL 2 := ⟨B.exec, B.bytes, hml9, findClass_of_methodNamed B.named, fun w hw => hts w (List.mem_cons_of_mem _ hw), h1, h2, h3, h4, Nat.le_trans (Nat.le_add_right _ _) h6.1⟩
  have hbl : b < s.heap.size := Nat.lt_of_lt_of_le hb0 C.2.2.2.2.2.2.2.2.2
  have hbA : ¬ b0 ≤ b := by omega
  have hr := B.returns
  have hlk := B.notSynchronized
  rw [lg_entry_eq]
  have hl := lv_entry ([.ref b, .int (nI e9)]) (n := 2) (Nat.le_of_ble_eq_true rfl)
  have body : hw_V p l e rL_cell s m ([.ref b, .int (nI e9)] : List Value).toArray below meth c (MQ below (hw_Q D b0 false n (some (.int (if nI L9 ≤ nI e9 then 7919 * (nI e9 + 2473) * (nI e9 + 277) else xs (nI e9).toNatClampNeg))) v) ([.ref b, .int (nI e9)] : List Value).toArray s 0 0 (fun q => b0 ≤ q)) D b0 2 false 0 0 n 0 [(0, .ref b), (1, .int (nI e9))] [] v := by
    refine hq_iload_n (q := 1) C dL_cell_0 rfl rfl ?_
    refine hq_aload_n (q := 0) C dL_cell_1 rfl rfl ?_
    refine fun H locs ls hH hZ hS hl => va_slen C.1 C.2.1 hX hbl hbA hS dL_cell_2 ((?_ : hw_V p l e rL_cell s m ([.ref b, .int (nI e9)] : List Value).toArray below meth c (MQ below (hw_Q D b0 false n (some (.int (if nI L9 ≤ nI e9 then 7919 * (nI e9 + 2473) * (nI e9 + 277) else xs (nI e9).toNatClampNeg))) v) ([.ref b, .int (nI e9)] : List Value).toArray s 0 0 (fun q => b0 ≤ q)) D b0 2 false 0 0 n 3 [(0, .ref b), (1, .int (nI e9))] [.int (nI L9), .int (nI e9)] v) H locs ls hH hZ hS hl)
    refine hq_icmp_ge (tgt := 12) C dL_cell_3 (by decide) (fun c_3 => ?_) (fun c_3 => ?_)
    · refine hq_sipush (y := 7919) C dL_cell_12 (by decide) ?_
      refine hq_iload_n (q := 1) C dL_cell_15 rfl rfl ?_
      refine hq_sipush (y := 2473) C dL_cell_16 (by decide) ?_
      refine hq_iadd C dL_cell_19 ?_
      refine hq_imul C dL_cell_20 ?_
      refine hq_iload_n (q := 1) C dL_cell_21 rfl rfl ?_
      refine hq_sipush (y := 277) C dL_cell_22 (by decide) ?_
      refine hq_iadd C dL_cell_25 ?_
      refine hq_imul C dL_cell_26 ?_
      exact hq_iret C hr hlk dL_cell_27 (by rw [if_pos c_3]) rfl
    · have hlt9 : e9 < L9 := by
        rcases Nat.lt_or_ge e9 L9 with q | q
        · exact q
        · exact absurd (nI_le q (by omega)) c_3
      refine hq_aload_n (q := 0) C dL_cell_6 rfl rfl ?_
      refine hq_iload_n (q := 1) C dL_cell_7 rfl rfl ?_
      refine fun H locs ls hH hZ hS hl => va_sld C.1 C.2.1 hX hbl hbA hS (vp_in_nI hlt9 (by omega)) dL_cell_8 ((?_ : hw_V p l e rL_cell s m ([.ref b, .int (nI e9)] : List Value).toArray below meth c (MQ below (hw_Q D b0 false n (some (.int (if nI L9 ≤ nI e9 then 7919 * (nI e9 + 2473) * (nI e9 + 277) else xs (nI e9).toNatClampNeg))) v) ([.ref b, .int (nI e9)] : List Value).toArray s 0 0 (fun q => b0 ≤ q)) D b0 2 false 0 0 n 9 [(0, .ref b), (1, .int (nI e9))] [.int (xs (nI e9).toNatClampNeg)] v) H locs ls hH hZ hS hl)
      refine hq_goto (tgt := 27) C dL_cell_9 (by decide) ?_
      exact hq_iret C hr hlk dL_cell_27 (by rw [if_neg c_3]) rfl
  exact body s.heap [] _ h5 h6 va_S.rf hl
section CW
variable {p : Program} {l : Launch} {e : Env} {R : Room} {s : State} {m : MethodId} {args : Array Value} {below : List Frame} {meth : Method} {c : Code} {Q : State → Prop}
variable {D : va_G} {b0 nL : Nat} {ka kb n : Nat} {pc : Nat} {L : List (Nat × Value)} {st st0 : List Value} {v : VF} {cc : ByteArray} {own : String} {b L9 idx : Nat} {xs : Nat → Int32} {k r : Int32}
theorem hq_callC (C : hw_C p s m args c D b0 cc own nL) (hX : va_X b L9 xs s s.heap) (hbl : b < s.heap.size) (hb0 : b < b0) (hM : hw_Mc l D b0 n v b L9 xs k r) (hl9 : Cond.methodLink own idx yL_cell ∈ hw_TB) (hst : st0 = [.int k, .ref b] ++ st) (hR : rL_cell.frames + 1 ≤ R.frames ∧ 8 + (2 + 11) + rL_cell.locals ≤ R.locals) (hroom : (st.map fun v => v.category).sum ≤ 8) (hf : ka + 0 ≤ R.cells ∧ kb + 0 ≤ R.slots) (hdg : decode cc pc = .ok (.invokestatic idx, 3))
    (kk : hw_V p l e R s m args below meth c Q D b0 nL false ka kb n (pc + 3) L (.int r :: st) v) : hw_V p l e R s m args below meth c Q D b0 nL false ka kb n pc L st0 v := by
  intro H locs ls hH hZ hS hl
  exact hw_after (va_runS (Ts := hw_TB) ⟨C.1, C.2.1, C.2.2.1, C.2.2.2.1, C.2.2.2.2.1⟩ hM (va_cwS 2 C.2.2.2.2.1 (hw_goodS ws_L_cell hl9) rfl rfl rfl ws_L_cell.2 hR) ⟨hw_blindC, fun U hU hW => ⟨rfl, hw_next C hU hW hH hZ hS, by rw [hU]; exact va_X.moved hW.alike (hX.kept (hS.2.1 b hbl (by omega))), hb0⟩⟩ rfl rfl hl.1 hst (lv_room hroom) hdg hf) hS hl kk
end CW
theorem sum6 {k nb no nc : Nat} {I P : MI} {J N : MJ} (h : IV k nb no nc I J P N) : r_sum I J 6 nb no nc = SM (N 0) nb := by
  rw [sum_same h]
  rfl
theorem law_tail {p : Program} {l : Launch} {e : Env} {s : State} {m : MethodId} {args : Array Value} {below : List Frame} {meth : Method} {c : Code} {Q : State → Prop} {D : va_G} {b0 b L9 ka kb e9 : Nat} {xs : Nat → Int32} (hlt : l.stackTraces = false) (C : hw_C p s m args c D b0 code RL 12) (hX : va_X b L9 xs s s.heap) (hbl : b < s.heap.size) (hb0 : b < b0) (hL : L9 ≤ 260) (he : e9 < 120) {k nb no nc : Nat} {I1 I2 P : MI} {J1 J2 N : MJ} {v9 j9 : Int32} {r9 s9 : Int64} (h1 : IV k nb no nc I1 J1 P N) (h2 : IV k nb no nc I2 J2 P N) (hk9 : k ≤ 150) (hg : GI nb no nc P) (hf : ka + 2810 ≤ 653974 ∧ kb + 16860 ≤ 7139777) (kk : hw_V p l e room_1 s m args below meth c Q D b0 12 false (ka + 2810) (kb + 16860) (hw_n 0) 21 [(5, .int (nI (e9 + 1))), (3, .long (gm nb nc P N)), (2, .ref (hw_ad (b0 + 237) 0 0)), (1, .ref (hw_ad b0 0 0)), (0, .ref b)] [] (hw_vl b0 I1 J1 I2 J2 0)) : hw_V p l e room_1 s m args below meth c Q D b0 12 false ka kb (hw_n 0) 112 [(3, .long (gm nb nc P N)), (10, .long r9), (9, .int j9), (7, .long s9), (6, .int v9), (5, .int (nI e9)), (2, .ref (hw_ad (b0 + 237) 0 0)), (1, .ref (hw_ad b0 0 0)), (0, .ref b)] [] (hw_vl b0 I1 J1 I2 J2 0) := by
  obtain ⟨hf1, hf2⟩ := hf
  have k154 : ∀ ka' kb' : Nat, ka' ≤ ka + 2810 → kb' ≤ kb + 16860 → hw_V p l e room_1 s m args below meth c Q D b0 12 false ka' kb' (hw_n 0) 154 [(3, .long (gm nb nc P N)), (10, .long r9), (9, .int j9), (7, .long s9), (6, .int v9), (5, .int (nI e9)), (2, .ref (hw_ad (b0 + 237) 0 0)), (1, .ref (hw_ad b0 0 0)), (0, .ref b)] [] (hw_vl b0 I1 J1 I2 J2 0) := by
    intro ka' kb' q1 q2
    refine hq_iinc (q := 5) (y := nI (e9 + 1)) (L' := (5, .int (nI (e9 + 1))) :: [(3, .long (gm nb nc P N)), (10, .long r9), (9, .int j9), (7, .long s9), (6, .int v9), (2, .ref (hw_ad (b0 + 237) 0 0)), (1, .ref (hw_ad b0 0 0)), (0, .ref b)]) C dL_law_154 rfl (hw_inc e9) (by decide) rfl ?_
    refine hq_goto (tgt := 21) C dL_law_157 (by decide) ?_
    refine hq_perm [0, 1, 6, 7, 8] (L' := [(5, .int (nI (e9 + 1))), (3, .long (gm nb nc P N)), (2, .ref (hw_ad (b0 + 237) 0 0)), (1, .ref (hw_ad b0 0 0)), (0, .ref b)]) rfl ?_
    exact hq_widen q1 q2 kk
  have k134 : ∀ ka' kb' : Nat, ka' ≤ ka + 90 → kb' ≤ kb + 540 → hw_V p l e room_1 s m args below meth c Q D b0 12 false ka' kb' (hw_n 0) 134 [(3, .long (gm nb nc P N)), (10, .long r9), (9, .int j9), (7, .long s9), (6, .int v9), (5, .int (nI e9)), (2, .ref (hw_ad (b0 + 237) 0 0)), (1, .ref (hw_ad b0 0 0)), (0, .ref b)] [] (hw_vl b0 I1 J1 I2 J2 0) := by
    intro ka' kb' q1 q2
    refine hq_iload (q := 5) C dL_law_134 rfl ?_
    refine hq_bipush (y := 60) C dL_law_136 (by decide) ?_
    refine hq_irem C dL_law_138 (by decide) ?_
    refine hq_bipush (y := 59) C dL_law_139 (by decide) ?_
    refine hq_icmp_ne (tgt := 154) C dL_law_141 (by decide) (fun _ => k154 ka' kb' (by omega) (by omega)) (fun _ => ?_)
    refine hq_aload_n (q := 7) C dL_law_144 rfl rfl ?_
    refine hq_lload_n (q := 0) C dL_law_145 rfl rfl ?_
    refine hq_cSXr (As := [.ref _, .long _]) (rm := rS) (Cn := "") C (m_L_isSo (o := 0) hlt h1 hk9 hg) ws_L_isSo ml_L_171 rfl rfl rfl rfl ⟨Nat.le_of_ble_eq_true rfl, Nat.le_of_ble_eq_true rfl⟩ (Nat.le_of_ble_eq_true rfl) ⟨by show ka' + 2720 ≤ 653974; omega, by show kb' + 16320 ≤ 7139777; omega⟩ dL_law_146 (fun _ => ?_) (fun E9 x9 => by cases x9)
    exact hq_if_ne (tgt := 154) C dL_law_149 (by decide) (fun _ => k154 _ _ (by show ka' + 2720 ≤ _; omega) (by show kb' + 16320 ≤ _; omega)) (fun c_9 => absurd c_9 (by decide))
  refine hq_iload (q := 5) C dL_law_112 rfl ?_
  refine hq_bipush (y := 24) C dL_law_114 (by decide) ?_
  refine hq_irem C dL_law_116 (by decide) ?_
  refine hq_bipush (y := 23) C dL_law_117 (by decide) ?_
  refine hq_icmp_ne (tgt := 134) C dL_law_119 (by decide) (fun _ => k134 ka kb (by omega) (by omega)) (fun _ => ?_)
  refine hq_aload_n (q := 7) C dL_law_122 rfl rfl ?_
  refine hq_aload_n (q := 6) C dL_law_123 rfl rfl ?_
  refine hq_iload (q := 4) C dL_law_124 rfl ?_
  refine hq_iconst (y := 3) C dL_law_126 (by decide) ?_
  refine hq_ishr C dL_law_127 ?_
  refine hq_cSXr (As := [.ref _, .ref _, .int _]) (rm := rA) (Cn := "") C (m_L_areAlike hlt h1 h2 _) ws_L_areAlike ml_L_167 rfl rfl rfl rfl ⟨Nat.le_of_ble_eq_true rfl, Nat.le_of_ble_eq_true rfl⟩ (Nat.le_of_ble_eq_true rfl) ⟨by show ka + 90 ≤ 653974; omega, by show kb + 540 ≤ 7139777; omega⟩ dL_law_128 (fun _ => ?_) (fun E9 x9 => by cases x9)
  exact hq_if_eq (tgt := 152) C dL_law_131 (by decide) (fun c_9 => absurd c_9 (by decide)) (fun _ => k134 _ _ (Nat.le_refl _) (Nat.le_refl _))
set_option maxHeartbeats 4000000 in
set_option maxRecDepth 100000 in
theorem law_head_11 {p : Program} {l : Launch} {e : Env} {s : State} {m : MethodId} {args : Array Value} {below : List Frame} {meth : Method} {c : Code} {Q : State → Prop} {D : va_G} {b0 b L9 ka kb e9 : Nat} {xs : Nat → Int32} (hlt : l.stackTraces = false) (C : hw_C p s m args c D b0 code RL 12) (hX : va_X b L9 xs s s.heap) (hbl : b < s.heap.size) (hb0 : b < b0) (hL : L9 ≤ 260) (he : e9 < 120) {k nb no nc nb' no' nc' : Nat} {I1 I2 P I1' P' : MI} {J1 J2 N J1' N' : MJ} {v9 : Int32} (h1 : IV k nb no nc I1 J1 P N) (h1' : IV (k + 1) nb' no' nc' I1' J1' P' N') (hcell : hw_Mc l D b0 (hw_n 0) (hw_vl b0 I1 J1 I2 J2 0) b L9 xs (nI e9) v9) (hj : ¬ 2 ≤ sp_low v9 32) (hA1 : kA v9 I1 J1 NO I1' J1') (ht : gm nb' nc' P' N' = gm nb nc P N + (SM (N' 0) nb' - SM (N 0) nb)) (hf : ka + 132 ≤ 653974 ∧ kb + 792 ≤ 7139777) (kk : hw_V p l e room_1 s m args below meth c Q D b0 12 false (ka + 132) (kb + 792) (hw_n 0) 112 [(3, .long (gm nb' nc' P' N')), (10, .long NO), (9, .int 1), (7, .long (r_sum I1 J1 6 nb no nc)), (6, .int v9), (5, .int (nI e9)), (2, .ref (hw_ad (b0 + 237) 0 0)), (1, .ref (hw_ad b0 0 0)), (0, .ref b)] [] (hw_vl b0 I1' J1' I2 J2 0)) : hw_V p l e room_1 s m args below meth c Q D b0 12 false ka kb (hw_n 0) 21 [(5, .int (nI e9)), (3, .long (gm nb nc P N)), (2, .ref (hw_ad (b0 + 237) 0 0)), (1, .ref (hw_ad b0 0 0)), (0, .ref b)] [] (hw_vl b0 I1 J1 I2 J2 0) := by
  obtain ⟨hf1, hf2⟩ := hf
  refine hq_iload (q := 0) C dL_law_21 rfl ?_
  refine hq_bipush (y := 120) C dL_law_23 (by decide) ?_
  refine hq_icmp_ge (tgt := 160) C dL_law_25 (by decide) (fun c_25 => absurd c_25 (nI_ge (b := 120) (by omega) (by omega))) (fun c_25 => ?_)
  refine hq_aload_n (q := 4) C dL_law_28 rfl rfl ?_
  refine hq_iload (q := 0) C dL_law_29 rfl ?_
  refine hq_callC C hX hbl hb0 hcell ml_L_160 rfl ⟨Nat.le_of_ble_eq_true rfl, Nat.le_of_ble_eq_true rfl⟩ (Nat.le_of_ble_eq_true rfl) ⟨by show ka + 0 ≤ 653974; omega, by show kb + 0 ≤ 7139777; omega⟩ dL_law_31 ?_
  refine hq_istore (L' := [(6, .int _), (5, .int _), (3, .long _), (2, .ref _), (1, .ref _), (0, .ref _)]) C dL_law_34 (by decide) rfl ?_
  refine hq_aload_n (q := 4) C dL_law_36 rfl rfl ?_
  refine hq_bipush (y := 6) C dL_law_37 (by decide) ?_
  refine hq_cVXr (As := [.int _]) (rm := rX5_sum) (f := 0) (Nc := 1) C (d_sum hlt h1 (x := 6) (by decide) rfl) wv_X5_sum ml_L_88 rfl rfl rfl Nat.one_pos rfl rfl rfl rfl ⟨Nat.le_of_ble_eq_true rfl, Nat.le_of_ble_eq_true rfl⟩ (Nat.le_of_ble_eq_true rfl) ⟨by show ka + 1 ≤ 653974; omega, by show kb + 6 ≤ 7139777; omega⟩ dL_law_39 (fun _ => ?_) (fun E9 x9 => by cases x9)
  refine hq_lstore (L' := [(7, .long _), (6, .int _), (5, .int _), (3, .long _), (2, .ref _), (1, .ref _), (0, .ref _)]) C dL_law_42 (by decide) rfl ?_
  refine hq_iload (q := 1) C dL_law_44 rfl ?_
  refine hq_bipush (y := 32) C dL_law_46 (by decide) ?_
  refine hq_cSr (As := [.int _, .int _]) (rm := rL_low) (Cn := "") C (m_L_low (by decide)) ws_L_low ml_L_92 rfl rfl rfl rfl ⟨Nat.le_of_ble_eq_true rfl, Nat.le_of_ble_eq_true rfl⟩ (Nat.le_of_ble_eq_true rfl) ⟨by show ka + 1 + 0 ≤ 653974; omega, by show kb + 6 + 0 ≤ 7139777; omega⟩ dL_law_48 ?_
  refine hq_iconst (y := 2) C dL_law_51 (by decide) ?_
  refine hq_icmp_ge (tgt := 59) C dL_law_52 (by decide) (fun c_52 => absurd c_52 hj) (fun c_52 => ?_)
  refine hq_iconst (y := 1) C dL_law_55 (by decide) ?_
  refine hq_goto (tgt := 60) C dL_law_56 (by decide) ?_
  refine hq_istore (L' := [(9, .int _), (7, .long _), (6, .int _), (5, .int _), (3, .long _), (2, .ref _), (1, .ref _), (0, .ref _)]) C dL_law_60 (by decide) rfl ?_
  refine hq_aload_n (q := 6) C dL_law_62 rfl rfl ?_
  refine hq_iload (q := 2) C dL_law_63 rfl ?_
  refine hq_cSAr (As := [.ref _, .int _]) (rm := rL_act) C (hA1 l D b0 I2 J2 0 hlt) ws_L_act ml_L_164 rfl rfl rfl rfl ⟨Nat.le_of_ble_eq_true rfl, Nat.le_of_ble_eq_true rfl⟩ (Nat.le_of_ble_eq_true rfl) ⟨by show ka + 1 + 65 ≤ 653974; omega, by show kb + 6 + 390 ≤ 7139777; omega⟩ dL_law_65 ?_
  refine hq_lstore (L' := [(10, .long _), (9, .int _), (7, .long _), (6, .int _), (5, .int _), (3, .long _), (2, .ref _), (1, .ref _), (0, .ref _)]) C dL_law_68 (by decide) rfl ?_
  refine hq_lload_n (q := 5) C dL_law_70 rfl rfl ?_
  refine hq_iload (q := 1) C dL_law_71 rfl ?_
  refine hq_if_eq (tgt := 88) C dL_law_73 (by decide) (fun c_73 => absurd c_73 (by decide)) (fun _ => ?_)
  refine hq_aload_n (q := 7) C dL_law_76 rfl rfl ?_
  refine hq_bipush (y := 6) C dL_law_77 (by decide) ?_
  refine hq_cVXr (As := [.int _]) (rm := rX5_sum) (f := 0) (Nc := 1) C (d_sum hlt h1' (x := 6) (by decide) rfl) wv_X5_sum ml_L_88 rfl rfl rfl Nat.one_pos rfl rfl rfl rfl ⟨Nat.le_of_ble_eq_true rfl, Nat.le_of_ble_eq_true rfl⟩ (Nat.le_of_ble_eq_true rfl) ⟨by show ka + 1 + 65 + 1 ≤ 653974; omega, by show kb + 6 + 390 + 6 ≤ 7139777; omega⟩ dL_law_79 (fun _ => ?_) (fun E9 x9 => by cases x9)
  refine hq_lload (q := 2) C dL_law_82 rfl ?_
  refine hq_lsub C dL_law_84 ?_
  refine hq_goto (tgt := 89) C dL_law_85 (by decide) ?_
  refine hq_ladd C dL_law_89 ?_
  refine hq_st (st' := [.long (gm nb' nc' P' N')]) (by rw [ht, sum6 h1', sum6 h1]) ?_
  refine hq_lstore_n (L' := [(3, .long _), (10, .long _), (9, .int _), (7, .long _), (6, .int _), (5, .int _), (2, .ref _), (1, .ref _), (0, .ref _)]) C dL_law_90 rfl (by decide) rfl ?_
  refine hq_lload (q := 1) C dL_law_91 rfl ?_
  refine hq_ldc2 C wc_L_16 dL_law_93 ?_
  refine hq_lcmp C dL_law_96 ?_
  refine hq_if_eq (tgt := 112) C dL_law_97 (by decide) (fun c_97 => ?_) (fun c_97 => absurd ((lg_cmp_eq _ _).mpr rfl) c_97)
  refine hq_perm [0, 1, 2, 3, 4, 5, 6, 7, 8] (L' := [(3, .long (gm nb' nc' P' N')), (10, .long NO), (9, .int 1), (7, .long (r_sum I1 J1 6 nb no nc)), (6, .int v9), (5, .int (nI e9)), (2, .ref (hw_ad (b0 + 237) 0 0)), (1, .ref (hw_ad b0 0 0)), (0, .ref b)]) rfl ?_
  exact hq_widen (by show ka + 1 + 65 + 1 ≤ ka + 132; omega) (by show kb + 6 + 390 + 6 ≤ kb + 792; omega) kk
set_option maxHeartbeats 4000000 in
set_option maxRecDepth 100000 in
theorem law_head_10 {p : Program} {l : Launch} {e : Env} {s : State} {m : MethodId} {args : Array Value} {below : List Frame} {meth : Method} {c : Code} {Q : State → Prop} {D : va_G} {b0 b L9 ka kb e9 : Nat} {xs : Nat → Int32} (hlt : l.stackTraces = false) (C : hw_C p s m args c D b0 code RL 12) (hX : va_X b L9 xs s s.heap) (hbl : b < s.heap.size) (hb0 : b < b0) (hL : L9 ≤ 260) (he : e9 < 120) {k nb no nc nb' no' nc' : Nat} {I1 I2 P I1' I2' P' : MI} {J1 J2 N J1' J2' N' : MJ} {v9 : Int32} {r9 : Int64} (hr : ¬ r9 = NO) (h1 : IV k nb no nc I1 J1 P N) (h1' : IV (k + 1) nb' no' nc' I1' J1' P' N') (hcell : hw_Mc l D b0 (hw_n 0) (hw_vl b0 I1 J1 I2 J2 0) b L9 xs (nI e9) v9) (hj : ¬ 2 ≤ sp_low v9 32) (hA1 : kA v9 I1 J1 r9 I1' J1') (hA2 : kA v9 I2 J2 r9 I2' J2') (ht : gm nb' nc' P' N' = gm nb nc P N + (SM (N' 0) nb' - SM (N 0) nb)) (hf : ka + 132 ≤ 653974 ∧ kb + 792 ≤ 7139777) (kk : hw_V p l e room_1 s m args below meth c Q D b0 12 false (ka + 132) (kb + 792) (hw_n 0) 112 [(3, .long (gm nb' nc' P' N')), (10, .long r9), (9, .int 1), (7, .long (r_sum I1 J1 6 nb no nc)), (6, .int v9), (5, .int (nI e9)), (2, .ref (hw_ad (b0 + 237) 0 0)), (1, .ref (hw_ad b0 0 0)), (0, .ref b)] [] (hw_vl b0 I1' J1' I2' J2' 0)) : hw_V p l e room_1 s m args below meth c Q D b0 12 false ka kb (hw_n 0) 21 [(5, .int (nI e9)), (3, .long (gm nb nc P N)), (2, .ref (hw_ad (b0 + 237) 0 0)), (1, .ref (hw_ad b0 0 0)), (0, .ref b)] [] (hw_vl b0 I1 J1 I2 J2 0) := by
  obtain ⟨hf1, hf2⟩ := hf
  refine hq_iload (q := 0) C dL_law_21 rfl ?_
  refine hq_bipush (y := 120) C dL_law_23 (by decide) ?_
  refine hq_icmp_ge (tgt := 160) C dL_law_25 (by decide) (fun c_25 => absurd c_25 (nI_ge (b := 120) (by omega) (by omega))) (fun c_25 => ?_)
  refine hq_aload_n (q := 4) C dL_law_28 rfl rfl ?_
  refine hq_iload (q := 0) C dL_law_29 rfl ?_
  refine hq_callC C hX hbl hb0 hcell ml_L_160 rfl ⟨Nat.le_of_ble_eq_true rfl, Nat.le_of_ble_eq_true rfl⟩ (Nat.le_of_ble_eq_true rfl) ⟨by show ka + 0 ≤ 653974; omega, by show kb + 0 ≤ 7139777; omega⟩ dL_law_31 ?_
  refine hq_istore (L' := [(6, .int _), (5, .int _), (3, .long _), (2, .ref _), (1, .ref _), (0, .ref _)]) C dL_law_34 (by decide) rfl ?_
  refine hq_aload_n (q := 4) C dL_law_36 rfl rfl ?_
  refine hq_bipush (y := 6) C dL_law_37 (by decide) ?_
  refine hq_cVXr (As := [.int _]) (rm := rX5_sum) (f := 0) (Nc := 1) C (d_sum hlt h1 (x := 6) (by decide) rfl) wv_X5_sum ml_L_88 rfl rfl rfl Nat.one_pos rfl rfl rfl rfl ⟨Nat.le_of_ble_eq_true rfl, Nat.le_of_ble_eq_true rfl⟩ (Nat.le_of_ble_eq_true rfl) ⟨by show ka + 1 ≤ 653974; omega, by show kb + 6 ≤ 7139777; omega⟩ dL_law_39 (fun _ => ?_) (fun E9 x9 => by cases x9)
  refine hq_lstore (L' := [(7, .long _), (6, .int _), (5, .int _), (3, .long _), (2, .ref _), (1, .ref _), (0, .ref _)]) C dL_law_42 (by decide) rfl ?_
  refine hq_iload (q := 1) C dL_law_44 rfl ?_
  refine hq_bipush (y := 32) C dL_law_46 (by decide) ?_
  refine hq_cSr (As := [.int _, .int _]) (rm := rL_low) (Cn := "") C (m_L_low (by decide)) ws_L_low ml_L_92 rfl rfl rfl rfl ⟨Nat.le_of_ble_eq_true rfl, Nat.le_of_ble_eq_true rfl⟩ (Nat.le_of_ble_eq_true rfl) ⟨by show ka + 1 + 0 ≤ 653974; omega, by show kb + 6 + 0 ≤ 7139777; omega⟩ dL_law_48 ?_
  refine hq_iconst (y := 2) C dL_law_51 (by decide) ?_
  refine hq_icmp_ge (tgt := 59) C dL_law_52 (by decide) (fun c_52 => absurd c_52 hj) (fun c_52 => ?_)
  refine hq_iconst (y := 1) C dL_law_55 (by decide) ?_
  refine hq_goto (tgt := 60) C dL_law_56 (by decide) ?_
  refine hq_istore (L' := [(9, .int _), (7, .long _), (6, .int _), (5, .int _), (3, .long _), (2, .ref _), (1, .ref _), (0, .ref _)]) C dL_law_60 (by decide) rfl ?_
  refine hq_aload_n (q := 6) C dL_law_62 rfl rfl ?_
  refine hq_iload (q := 2) C dL_law_63 rfl ?_
  refine hq_cSAr (As := [.ref _, .int _]) (rm := rL_act) C (hA1 l D b0 I2 J2 0 hlt) ws_L_act ml_L_164 rfl rfl rfl rfl ⟨Nat.le_of_ble_eq_true rfl, Nat.le_of_ble_eq_true rfl⟩ (Nat.le_of_ble_eq_true rfl) ⟨by show ka + 1 + 65 ≤ 653974; omega, by show kb + 6 + 390 ≤ 7139777; omega⟩ dL_law_65 ?_
  refine hq_lstore (L' := [(10, .long _), (9, .int _), (7, .long _), (6, .int _), (5, .int _), (3, .long _), (2, .ref _), (1, .ref _), (0, .ref _)]) C dL_law_68 (by decide) rfl ?_
  refine hq_lload_n (q := 5) C dL_law_70 rfl rfl ?_
  refine hq_iload (q := 1) C dL_law_71 rfl ?_
  refine hq_if_eq (tgt := 88) C dL_law_73 (by decide) (fun c_73 => absurd c_73 (by decide)) (fun _ => ?_)
  refine hq_aload_n (q := 7) C dL_law_76 rfl rfl ?_
  refine hq_bipush (y := 6) C dL_law_77 (by decide) ?_
  refine hq_cVXr (As := [.int _]) (rm := rX5_sum) (f := 0) (Nc := 1) C (d_sum hlt h1' (x := 6) (by decide) rfl) wv_X5_sum ml_L_88 rfl rfl rfl Nat.one_pos rfl rfl rfl rfl ⟨Nat.le_of_ble_eq_true rfl, Nat.le_of_ble_eq_true rfl⟩ (Nat.le_of_ble_eq_true rfl) ⟨by show ka + 1 + 65 + 1 ≤ 653974; omega, by show kb + 6 + 390 + 6 ≤ 7139777; omega⟩ dL_law_79 (fun _ => ?_) (fun E9 x9 => by cases x9)
  refine hq_lload (q := 2) C dL_law_82 rfl ?_
  refine hq_lsub C dL_law_84 ?_
  refine hq_goto (tgt := 89) C dL_law_85 (by decide) ?_
  refine hq_ladd C dL_law_89 ?_
  refine hq_st (st' := [.long (gm nb' nc' P' N')]) (by rw [ht, sum6 h1', sum6 h1]) ?_
  refine hq_lstore_n (L' := [(3, .long _), (10, .long _), (9, .int _), (7, .long _), (6, .int _), (5, .int _), (2, .ref _), (1, .ref _), (0, .ref _)]) C dL_law_90 rfl (by decide) rfl ?_
  refine hq_lload (q := 1) C dL_law_91 rfl ?_
  refine hq_ldc2 C wc_L_16 dL_law_93 ?_
  refine hq_lcmp C dL_law_96 ?_
  refine hq_if_eq (tgt := 112) C dL_law_97 (by decide) (fun c_97 => absurd c_97 (fun z9 => hr ((lg_cmp_eq _ _).mp z9))) (fun c_97 => ?_)
  refine hq_aload_n (q := 6) C dL_law_100 rfl rfl ?_
  refine hq_iload (q := 4) C dL_law_101 rfl ?_
  refine hq_cSAp (As := [.ref _, .int _]) (rm := rL_act) C (hA2 l D (b0 + 237) I2 J2 1 hlt) ws_L_act ml_L_164 rfl rfl rfl rfl ⟨Nat.le_of_ble_eq_true rfl, Nat.le_of_ble_eq_true rfl⟩ (Nat.le_of_ble_eq_true rfl) ⟨by show ka + 1 + 65 + 1 + 65 ≤ 653974; omega, by show kb + 6 + 390 + 6 + 390 ≤ 7139777; omega⟩ dL_law_103 ?_
  refine hq_lload (q := 1) C dL_law_106 rfl ?_
  refine hq_lcmp C dL_law_108 ?_
  refine hq_if_ne (tgt := 152) C dL_law_109 (by decide) (fun c_109 => absurd ((lg_cmp_eq _ _).mpr rfl) c_109) (fun c_109 => ?_)
  refine hq_perm [0, 1, 2, 3, 4, 5, 6, 7, 8] (L' := [(3, .long (gm nb' nc' P' N')), (10, .long r9), (9, .int 1), (7, .long (r_sum I1 J1 6 nb no nc)), (6, .int v9), (5, .int (nI e9)), (2, .ref (hw_ad (b0 + 237) 0 0)), (1, .ref (hw_ad b0 0 0)), (0, .ref b)]) rfl ?_
  exact hq_widen (by show ka + 1 + 65 + 1 + 65 ≤ ka + 132; omega) (by show kb + 6 + 390 + 6 + 390 ≤ kb + 792; omega) kk
set_option maxHeartbeats 4000000 in
set_option maxRecDepth 100000 in
theorem law_head_01 {p : Program} {l : Launch} {e : Env} {s : State} {m : MethodId} {args : Array Value} {below : List Frame} {meth : Method} {c : Code} {Q : State → Prop} {D : va_G} {b0 b L9 ka kb e9 : Nat} {xs : Nat → Int32} (hlt : l.stackTraces = false) (C : hw_C p s m args c D b0 code RL 12) (hX : va_X b L9 xs s s.heap) (hbl : b < s.heap.size) (hb0 : b < b0) (hL : L9 ≤ 260) (he : e9 < 120) {k nb no nc nb' no' nc' : Nat} {I1 I2 P I1' P' : MI} {J1 J2 N J1' N' : MJ} {v9 : Int32} (h1 : IV k nb no nc I1 J1 P N) (h1' : IV (k + 1) nb' no' nc' I1' J1' P' N') (hcell : hw_Mc l D b0 (hw_n 0) (hw_vl b0 I1 J1 I2 J2 0) b L9 xs (nI e9) v9) (hj : 2 ≤ sp_low v9 32) (hA1 : kA v9 I1 J1 NO I1' J1') (ht : gm nb' nc' P' N' = gm nb nc P N) (hf : ka + 132 ≤ 653974 ∧ kb + 792 ≤ 7139777) (kk : hw_V p l e room_1 s m args below meth c Q D b0 12 false (ka + 132) (kb + 792) (hw_n 0) 112 [(3, .long (gm nb' nc' P' N')), (10, .long NO), (9, .int 0), (7, .long (r_sum I1 J1 6 nb no nc)), (6, .int v9), (5, .int (nI e9)), (2, .ref (hw_ad (b0 + 237) 0 0)), (1, .ref (hw_ad b0 0 0)), (0, .ref b)] [] (hw_vl b0 I1' J1' I2 J2 0)) : hw_V p l e room_1 s m args below meth c Q D b0 12 false ka kb (hw_n 0) 21 [(5, .int (nI e9)), (3, .long (gm nb nc P N)), (2, .ref (hw_ad (b0 + 237) 0 0)), (1, .ref (hw_ad b0 0 0)), (0, .ref b)] [] (hw_vl b0 I1 J1 I2 J2 0) := by
  obtain ⟨hf1, hf2⟩ := hf
  refine hq_iload (q := 0) C dL_law_21 rfl ?_
  refine hq_bipush (y := 120) C dL_law_23 (by decide) ?_
  refine hq_icmp_ge (tgt := 160) C dL_law_25 (by decide) (fun c_25 => absurd c_25 (nI_ge (b := 120) (by omega) (by omega))) (fun c_25 => ?_)
  refine hq_aload_n (q := 4) C dL_law_28 rfl rfl ?_
  refine hq_iload (q := 0) C dL_law_29 rfl ?_
  refine hq_callC C hX hbl hb0 hcell ml_L_160 rfl ⟨Nat.le_of_ble_eq_true rfl, Nat.le_of_ble_eq_true rfl⟩ (Nat.le_of_ble_eq_true rfl) ⟨by show ka + 0 ≤ 653974; omega, by show kb + 0 ≤ 7139777; omega⟩ dL_law_31 ?_
  refine hq_istore (L' := [(6, .int _), (5, .int _), (3, .long _), (2, .ref _), (1, .ref _), (0, .ref _)]) C dL_law_34 (by decide) rfl ?_
  refine hq_aload_n (q := 4) C dL_law_36 rfl rfl ?_
  refine hq_bipush (y := 6) C dL_law_37 (by decide) ?_
  refine hq_cVXr (As := [.int _]) (rm := rX5_sum) (f := 0) (Nc := 1) C (d_sum hlt h1 (x := 6) (by decide) rfl) wv_X5_sum ml_L_88 rfl rfl rfl Nat.one_pos rfl rfl rfl rfl ⟨Nat.le_of_ble_eq_true rfl, Nat.le_of_ble_eq_true rfl⟩ (Nat.le_of_ble_eq_true rfl) ⟨by show ka + 1 ≤ 653974; omega, by show kb + 6 ≤ 7139777; omega⟩ dL_law_39 (fun _ => ?_) (fun E9 x9 => by cases x9)
  refine hq_lstore (L' := [(7, .long _), (6, .int _), (5, .int _), (3, .long _), (2, .ref _), (1, .ref _), (0, .ref _)]) C dL_law_42 (by decide) rfl ?_
  refine hq_iload (q := 1) C dL_law_44 rfl ?_
  refine hq_bipush (y := 32) C dL_law_46 (by decide) ?_
  refine hq_cSr (As := [.int _, .int _]) (rm := rL_low) (Cn := "") C (m_L_low (by decide)) ws_L_low ml_L_92 rfl rfl rfl rfl ⟨Nat.le_of_ble_eq_true rfl, Nat.le_of_ble_eq_true rfl⟩ (Nat.le_of_ble_eq_true rfl) ⟨by show ka + 1 + 0 ≤ 653974; omega, by show kb + 6 + 0 ≤ 7139777; omega⟩ dL_law_48 ?_
  refine hq_iconst (y := 2) C dL_law_51 (by decide) ?_
  refine hq_icmp_ge (tgt := 59) C dL_law_52 (by decide) (fun c_52 => ?_) (fun c_52 => absurd hj c_52)
  refine hq_iconst (y := 0) C dL_law_59 (by decide) ?_
  refine hq_istore (L' := [(9, .int _), (7, .long _), (6, .int _), (5, .int _), (3, .long _), (2, .ref _), (1, .ref _), (0, .ref _)]) C dL_law_60 (by decide) rfl ?_
  refine hq_aload_n (q := 6) C dL_law_62 rfl rfl ?_
  refine hq_iload (q := 2) C dL_law_63 rfl ?_
  refine hq_cSAr (As := [.ref _, .int _]) (rm := rL_act) C (hA1 l D b0 I2 J2 0 hlt) ws_L_act ml_L_164 rfl rfl rfl rfl ⟨Nat.le_of_ble_eq_true rfl, Nat.le_of_ble_eq_true rfl⟩ (Nat.le_of_ble_eq_true rfl) ⟨by show ka + 1 + 65 ≤ 653974; omega, by show kb + 6 + 390 ≤ 7139777; omega⟩ dL_law_65 ?_
  refine hq_lstore (L' := [(10, .long _), (9, .int _), (7, .long _), (6, .int _), (5, .int _), (3, .long _), (2, .ref _), (1, .ref _), (0, .ref _)]) C dL_law_68 (by decide) rfl ?_
  refine hq_lload_n (q := 5) C dL_law_70 rfl rfl ?_
  refine hq_iload (q := 1) C dL_law_71 rfl ?_
  refine hq_if_eq (tgt := 88) C dL_law_73 (by decide) (fun _ => ?_) (fun c_73 => absurd c_73 (by decide))
  refine hq_lconst (y := 0) C dL_law_88 rfl ?_
  refine hq_ladd C dL_law_89 ?_
  refine hq_st (st' := [.long (gm nb' nc' P' N')]) (by rw [ht]; exact congrArg (fun z => [Value.long z]) (Int64.add_zero _)) ?_
  refine hq_lstore_n (L' := [(3, .long _), (10, .long _), (9, .int _), (7, .long _), (6, .int _), (5, .int _), (2, .ref _), (1, .ref _), (0, .ref _)]) C dL_law_90 rfl (by decide) rfl ?_
  refine hq_lload (q := 1) C dL_law_91 rfl ?_
  refine hq_ldc2 C wc_L_16 dL_law_93 ?_
  refine hq_lcmp C dL_law_96 ?_
  refine hq_if_eq (tgt := 112) C dL_law_97 (by decide) (fun c_97 => ?_) (fun c_97 => absurd ((lg_cmp_eq _ _).mpr rfl) c_97)
  refine hq_perm [0, 1, 2, 3, 4, 5, 6, 7, 8] (L' := [(3, .long (gm nb' nc' P' N')), (10, .long NO), (9, .int 0), (7, .long (r_sum I1 J1 6 nb no nc)), (6, .int v9), (5, .int (nI e9)), (2, .ref (hw_ad (b0 + 237) 0 0)), (1, .ref (hw_ad b0 0 0)), (0, .ref b)]) rfl ?_
  exact hq_widen (by show ka + 1 + 65 ≤ ka + 132; omega) (by show kb + 6 + 390 ≤ kb + 792; omega) kk
set_option maxHeartbeats 4000000 in
set_option maxRecDepth 100000 in
theorem law_head_00 {p : Program} {l : Launch} {e : Env} {s : State} {m : MethodId} {args : Array Value} {below : List Frame} {meth : Method} {c : Code} {Q : State → Prop} {D : va_G} {b0 b L9 ka kb e9 : Nat} {xs : Nat → Int32} (hlt : l.stackTraces = false) (C : hw_C p s m args c D b0 code RL 12) (hX : va_X b L9 xs s s.heap) (hbl : b < s.heap.size) (hb0 : b < b0) (hL : L9 ≤ 260) (he : e9 < 120) {k nb no nc nb' no' nc' : Nat} {I1 I2 P I1' I2' P' : MI} {J1 J2 N J1' J2' N' : MJ} {v9 : Int32} {r9 : Int64} (hr : ¬ r9 = NO) (h1 : IV k nb no nc I1 J1 P N) (h1' : IV (k + 1) nb' no' nc' I1' J1' P' N') (hcell : hw_Mc l D b0 (hw_n 0) (hw_vl b0 I1 J1 I2 J2 0) b L9 xs (nI e9) v9) (hj : 2 ≤ sp_low v9 32) (hA1 : kA v9 I1 J1 r9 I1' J1') (hA2 : kA v9 I2 J2 r9 I2' J2') (ht : gm nb' nc' P' N' = gm nb nc P N) (hf : ka + 132 ≤ 653974 ∧ kb + 792 ≤ 7139777) (kk : hw_V p l e room_1 s m args below meth c Q D b0 12 false (ka + 132) (kb + 792) (hw_n 0) 112 [(3, .long (gm nb' nc' P' N')), (10, .long r9), (9, .int 0), (7, .long (r_sum I1 J1 6 nb no nc)), (6, .int v9), (5, .int (nI e9)), (2, .ref (hw_ad (b0 + 237) 0 0)), (1, .ref (hw_ad b0 0 0)), (0, .ref b)] [] (hw_vl b0 I1' J1' I2' J2' 0)) : hw_V p l e room_1 s m args below meth c Q D b0 12 false ka kb (hw_n 0) 21 [(5, .int (nI e9)), (3, .long (gm nb nc P N)), (2, .ref (hw_ad (b0 + 237) 0 0)), (1, .ref (hw_ad b0 0 0)), (0, .ref b)] [] (hw_vl b0 I1 J1 I2 J2 0) := by
  obtain ⟨hf1, hf2⟩ := hf
  refine hq_iload (q := 0) C dL_law_21 rfl ?_
  refine hq_bipush (y := 120) C dL_law_23 (by decide) ?_
  refine hq_icmp_ge (tgt := 160) C dL_law_25 (by decide) (fun c_25 => absurd c_25 (nI_ge (b := 120) (by omega) (by omega))) (fun c_25 => ?_)
  refine hq_aload_n (q := 4) C dL_law_28 rfl rfl ?_
  refine hq_iload (q := 0) C dL_law_29 rfl ?_
  refine hq_callC C hX hbl hb0 hcell ml_L_160 rfl ⟨Nat.le_of_ble_eq_true rfl, Nat.le_of_ble_eq_true rfl⟩ (Nat.le_of_ble_eq_true rfl) ⟨by show ka + 0 ≤ 653974; omega, by show kb + 0 ≤ 7139777; omega⟩ dL_law_31 ?_
  refine hq_istore (L' := [(6, .int _), (5, .int _), (3, .long _), (2, .ref _), (1, .ref _), (0, .ref _)]) C dL_law_34 (by decide) rfl ?_
  refine hq_aload_n (q := 4) C dL_law_36 rfl rfl ?_
  refine hq_bipush (y := 6) C dL_law_37 (by decide) ?_
  refine hq_cVXr (As := [.int _]) (rm := rX5_sum) (f := 0) (Nc := 1) C (d_sum hlt h1 (x := 6) (by decide) rfl) wv_X5_sum ml_L_88 rfl rfl rfl Nat.one_pos rfl rfl rfl rfl ⟨Nat.le_of_ble_eq_true rfl, Nat.le_of_ble_eq_true rfl⟩ (Nat.le_of_ble_eq_true rfl) ⟨by show ka + 1 ≤ 653974; omega, by show kb + 6 ≤ 7139777; omega⟩ dL_law_39 (fun _ => ?_) (fun E9 x9 => by cases x9)
  refine hq_lstore (L' := [(7, .long _), (6, .int _), (5, .int _), (3, .long _), (2, .ref _), (1, .ref _), (0, .ref _)]) C dL_law_42 (by decide) rfl ?_
  refine hq_iload (q := 1) C dL_law_44 rfl ?_
  refine hq_bipush (y := 32) C dL_law_46 (by decide) ?_
  refine hq_cSr (As := [.int _, .int _]) (rm := rL_low) (Cn := "") C (m_L_low (by decide)) ws_L_low ml_L_92 rfl rfl rfl rfl ⟨Nat.le_of_ble_eq_true rfl, Nat.le_of_ble_eq_true rfl⟩ (Nat.le_of_ble_eq_true rfl) ⟨by show ka + 1 + 0 ≤ 653974; omega, by show kb + 6 + 0 ≤ 7139777; omega⟩ dL_law_48 ?_
  refine hq_iconst (y := 2) C dL_law_51 (by decide) ?_
  refine hq_icmp_ge (tgt := 59) C dL_law_52 (by decide) (fun c_52 => ?_) (fun c_52 => absurd hj c_52)
  refine hq_iconst (y := 0) C dL_law_59 (by decide) ?_
  refine hq_istore (L' := [(9, .int _), (7, .long _), (6, .int _), (5, .int _), (3, .long _), (2, .ref _), (1, .ref _), (0, .ref _)]) C dL_law_60 (by decide) rfl ?_
  refine hq_aload_n (q := 6) C dL_law_62 rfl rfl ?_
  refine hq_iload (q := 2) C dL_law_63 rfl ?_
  refine hq_cSAr (As := [.ref _, .int _]) (rm := rL_act) C (hA1 l D b0 I2 J2 0 hlt) ws_L_act ml_L_164 rfl rfl rfl rfl ⟨Nat.le_of_ble_eq_true rfl, Nat.le_of_ble_eq_true rfl⟩ (Nat.le_of_ble_eq_true rfl) ⟨by show ka + 1 + 65 ≤ 653974; omega, by show kb + 6 + 390 ≤ 7139777; omega⟩ dL_law_65 ?_
  refine hq_lstore (L' := [(10, .long _), (9, .int _), (7, .long _), (6, .int _), (5, .int _), (3, .long _), (2, .ref _), (1, .ref _), (0, .ref _)]) C dL_law_68 (by decide) rfl ?_
  refine hq_lload_n (q := 5) C dL_law_70 rfl rfl ?_
  refine hq_iload (q := 1) C dL_law_71 rfl ?_
  refine hq_if_eq (tgt := 88) C dL_law_73 (by decide) (fun _ => ?_) (fun c_73 => absurd c_73 (by decide))
  refine hq_lconst (y := 0) C dL_law_88 rfl ?_
  refine hq_ladd C dL_law_89 ?_
  refine hq_st (st' := [.long (gm nb' nc' P' N')]) (by rw [ht]; exact congrArg (fun z => [Value.long z]) (Int64.add_zero _)) ?_
  refine hq_lstore_n (L' := [(3, .long _), (10, .long _), (9, .int _), (7, .long _), (6, .int _), (5, .int _), (2, .ref _), (1, .ref _), (0, .ref _)]) C dL_law_90 rfl (by decide) rfl ?_
  refine hq_lload (q := 1) C dL_law_91 rfl ?_
  refine hq_ldc2 C wc_L_16 dL_law_93 ?_
  refine hq_lcmp C dL_law_96 ?_
  refine hq_if_eq (tgt := 112) C dL_law_97 (by decide) (fun c_97 => absurd c_97 (fun z9 => hr ((lg_cmp_eq _ _).mp z9))) (fun c_97 => ?_)
  refine hq_aload_n (q := 6) C dL_law_100 rfl rfl ?_
  refine hq_iload (q := 4) C dL_law_101 rfl ?_
  refine hq_cSAp (As := [.ref _, .int _]) (rm := rL_act) C (hA2 l D (b0 + 237) I2 J2 1 hlt) ws_L_act ml_L_164 rfl rfl rfl rfl ⟨Nat.le_of_ble_eq_true rfl, Nat.le_of_ble_eq_true rfl⟩ (Nat.le_of_ble_eq_true rfl) ⟨by show ka + 1 + 65 + 65 ≤ 653974; omega, by show kb + 6 + 390 + 390 ≤ 7139777; omega⟩ dL_law_103 ?_
  refine hq_lload (q := 1) C dL_law_106 rfl ?_
  refine hq_lcmp C dL_law_108 ?_
  refine hq_if_ne (tgt := 152) C dL_law_109 (by decide) (fun c_109 => absurd ((lg_cmp_eq _ _).mpr rfl) c_109) (fun c_109 => ?_)
  refine hq_perm [0, 1, 2, 3, 4, 5, 6, 7, 8] (L' := [(3, .long (gm nb' nc' P' N')), (10, .long r9), (9, .int 0), (7, .long (r_sum I1 J1 6 nb no nc)), (6, .int v9), (5, .int (nI e9)), (2, .ref (hw_ad (b0 + 237) 0 0)), (1, .ref (hw_ad b0 0 0)), (0, .ref b)]) rfl ?_
  exact hq_widen (by show ka + 1 + 65 + 65 ≤ ka + 132; omega) (by show kb + 6 + 390 + 390 ≤ kb + 792; omega) kk
set_option maxRecDepth 100000 in
theorem law_round {p : Program} {l : Launch} {e : Env} {s : State} {m : MethodId} {args : Array Value} {below : List Frame} {meth : Method} {c : Code} {Q : State → Prop} {D : va_G} {b0 b L9 ka kb e9 : Nat} {xs : Nat → Int32} (hlt : l.stackTraces = false) (C : hw_C p s m args c D b0 code RL 12) (hX : va_X b L9 xs s s.heap) (hbl : b < s.heap.size) (hb0 : b < b0) (hL : L9 ≤ 260) (he : e9 < 120) {nb no nc : Nat} {I1 I2 P : MI} {J1 J2 N : MJ} (h1 : IV e9 nb no nc I1 J1 P N) (h2 : IV e9 nb no nc I2 J2 P N) (hg : GI nb no nc P) (hf : ka + 2942 ≤ 653974 ∧ kb + 17652 ≤ 7139777)
    (kk : ∀ (nb no nc : Nat) (I1 I2 P : MI) (J1 J2 N : MJ), IV (e9 + 1) nb no nc I1 J1 P N → IV (e9 + 1) nb no nc I2 J2 P N → GI nb no nc P → hw_V p l e room_1 s m args below meth c Q D b0 12 false (ka + 2942) (kb + 17652) (hw_n 0) 21 [(5, .int (nI (e9 + 1))), (3, .long (gm nb nc P N)), (2, .ref (hw_ad (b0 + 237) 0 0)), (1, .ref (hw_ad b0 0 0)), (0, .ref b)] [] (hw_vl b0 I1 J1 I2 J2 0)) : hw_V p l e room_1 s m args below meth c Q D b0 12 false ka kb (hw_n 0) 21 [(5, .int (nI e9)), (3, .long (gm nb nc P N)), (2, .ref (hw_ad (b0 + 237) 0 0)), (1, .ref (hw_ad b0 0 0)), (0, .ref b)] [] (hw_vl b0 I1 J1 I2 J2 0) := by
  obtain ⟨hf1, hf2⟩ := hf
  have hcell := m_cell (l := l) (D := D) (b0 := b0) (n := hw_n 0) (v := hw_vl b0 I1 J1 I2 J2 0) (b := b) (xs := xs) hL he
  generalize (if nI L9 ≤ nI e9 then 7919 * (nI e9 + 2473) * (nI e9 + 277) else xs (nI e9).toNatClampNeg) = v9 at hcell
  obtain ⟨j, j1, j2, r, nb', no', nc', P', N', t, hs⟩ := O1_act h1 (by omega) v9
  obtain ⟨g1, g2⟩ := t hg
  by_cases hj : j < 2
  · have hj9 : ¬ 2 ≤ sp_low v9 32 := by rw [j2]; exact nI_ge (b := 2) hj (by omega)
    rw [decide_eq_true hj, if_pos rfl] at g2
    rcases hs with ⟨hr, ⟨rfl, rfl, rfl⟩, hk⟩ | ⟨hr, hk⟩
    · obtain ⟨⟨Ie, Je, a1, a2⟩, _⟩ := hk I1 J1 h1
      have b2 := (hk I2 J2 h2).2
      refine law_head_11 hlt C hX hbl hb0 hL he h1 a2 hcell hj9 a1 g2 ⟨by omega, by omega⟩ ?_
      exact law_tail hlt C hX hbl hb0 hL he a2 b2 (by omega) g1 ⟨by omega, by omega⟩ (hq_widen (by omega) (by omega) (kk _ _ _ _ _ _ _ _ _ a2 b2 g1))
    · obtain ⟨I1', J1', a1, a2⟩ := hk I1 J1 h1
      obtain ⟨I2', J2', b1, b2⟩ := hk I2 J2 h2
      refine law_head_10 hlt C hX hbl hb0 hL he hr h1 a2 hcell hj9 a1 b1 g2 ⟨by omega, by omega⟩ ?_
      exact law_tail hlt C hX hbl hb0 hL he a2 b2 (by omega) g1 ⟨by omega, by omega⟩ (hq_widen (by omega) (by omega) (kk _ _ _ _ _ _ _ _ _ a2 b2 g1))
  · have hj9 : 2 ≤ sp_low v9 32 := by rw [j2]; exact nI_le (a := 2) (by omega) (by omega)
    rw [decide_eq_false hj, if_neg (by decide)] at g2
    rcases hs with ⟨hr, ⟨rfl, rfl, rfl⟩, hk⟩ | ⟨hr, hk⟩
    · obtain ⟨⟨Ie, Je, a1, a2⟩, _⟩ := hk I1 J1 h1
      have b2 := (hk I2 J2 h2).2
      refine law_head_01 hlt C hX hbl hb0 hL he h1 a2 hcell hj9 a1 g2 ⟨by omega, by omega⟩ ?_
      exact law_tail hlt C hX hbl hb0 hL he a2 b2 (by omega) g1 ⟨by omega, by omega⟩ (hq_widen (by omega) (by omega) (kk _ _ _ _ _ _ _ _ _ a2 b2 g1))
    · obtain ⟨I1', J1', a1, a2⟩ := hk I1 J1 h1
      obtain ⟨I2', J2', b1, b2⟩ := hk I2 J2 h2
      refine law_head_00 hlt C hX hbl hb0 hL he hr h1 a2 hcell hj9 a1 b1 g2 ⟨by omega, by omega⟩ ?_
      exact law_tail hlt C hX hbl hb0 hL he a2 b2 (by omega) g1 ⟨by omega, by omega⟩ (hq_widen (by omega) (by omega) (kk _ _ _ _ _ _ _ _ _ a2 b2 g1))
set_option maxRecDepth 100000 in
theorem law_loop {p : Program} {l : Launch} {e : Env} {s : State} {m : MethodId} {args : Array Value} {below : List Frame} {meth : Method} {c : Code} {Q : State → Prop} {D : va_G} {b0 b L9 : Nat} {xs : Nat → Int32} (hlt : l.stackTraces = false) (C : hw_C p s m args c D b0 code RL 12) (hX : va_X b L9 xs s s.heap) (hbl : b < s.heap.size) (hb0 : b < b0) (hL : L9 ≤ 260) (hend : ∀ (ka kb : Nat) (L : List (Nat × Value)) (v : VF), ka ≤ 400000 → kb ≤ 4000000 → hw_V p l e room_1 s m args below meth c Q D b0 12 false ka kb (hw_n 0) 160 L [] v) : ∀ r e9 : Nat, r + e9 = 120 → ∀ (nb no nc : Nat) (I1 I2 P : MI) (J1 J2 N : MJ), IV e9 nb no nc I1 J1 P N → IV e9 nb no nc I2 J2 P N → GI nb no nc P → hw_V p l e room_1 s m args below meth c Q D b0 12 false (500 + 2942 * e9) (5500 + 17652 * e9) (hw_n 0) 21 [(5, .int (nI e9)), (3, .long (gm nb nc P N)), (2, .ref (hw_ad (b0 + 237) 0 0)), (1, .ref (hw_ad b0 0 0)), (0, .ref b)] [] (hw_vl b0 I1 J1 I2 J2 0) := by
  intro r
  induction r with
  | zero =>
    intro e9 he nb no nc I1 I2 P J1 J2 N h1 h2 hg
    obtain rfl : e9 = 120 := by omega
    refine hq_iload (q := 0) C dL_law_21 rfl ?_
    refine hq_bipush (y := 120) C dL_law_23 (by decide) ?_
    exact hq_icmp_ge (tgt := 160) C dL_law_25 (by decide) (fun _ => hend _ _ _ _ (by omega) (by omega)) (fun c_9 => absurd (show (120 : Int32) ≤ nI 120 by decide) c_9)
  | succ r ih =>
    intro e9 he nb no nc I1 I2 P J1 J2 N h1 h2 hg
    refine law_round hlt C hX hbl hb0 hL (by omega) h1 h2 hg ⟨by omega, by omega⟩ ?_
    intro nb no nc I1 I2 P J1 J2 N h1 h2 hg
    exact hq_widen (by omega) (by omega) (ih (e9 + 1) (by omega) nb no nc I1 I2 P J1 J2 N h1 h2 hg)
