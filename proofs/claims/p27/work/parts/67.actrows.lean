/-! the law's act: rows -/
section HA
variable {p : Program} {l : Launch} {e : Env} {R : Room} {s : State} {m : MethodId} {args : Array Value} {below : List Frame} {meth : Method} {c : Code} {Q : State → Prop}
variable {D : va_G} {b0 nL : Nat} {xb : Bool} {ka kb n : Nat} {pc : Nat} {L L' : List (Nat × Value)} {st : List Value} {cc : ByteArray} {own : String} {v : VF} {I I' : MI} {J J' : MJ} {P : MI} {N : MJ} {o : Int64}
theorem hq_irem (C : hw_C p s m args c D b0 cc own nL) {x y : Int32} (hdg : decode cc pc = .ok (.irem, 1)) (hne : ¬ y = 0) (k : hw_V p l e R s m args below meth c Q D b0 nL xb ka kb n (pc + 1) L (.int (x - x / y * y) :: st) v) : hw_V p l e R s m args below meth c Q D b0 nL xb ka kb n pc L (.int y :: .int x :: st) v := fun H locs ls hH hZ hS hl => lv_irem C.1 C.2.1 hdg hne (k H locs ls hH hZ hS hl)
def tsB (x : Int32) (pc : Nat) (dflt lo hi : Int) (offs : Array Int) (tgt : Nat) : Bool := if x.toInt < lo ∨ hi < x.toInt then decide ((pc : Int) + dflt = (tgt : Int)) else match offs[(x.toInt - lo).toNat]? with
  | some off => decide ((pc : Int) + off = (tgt : Int))
  | none => false
theorem hq_ts (C : hw_C p s m args c D b0 cc own nL) {dflt lo hi : Int} {offs : Array Int} {len : Nat} {x : Int32} {tgt : Nat} (hdg : decode cc pc = .ok (.tableswitch dflt lo hi offs, len)) (h : tsB x pc dflt lo hi offs tgt = true) (k : hw_V p l e R s m args below meth c Q D b0 nL xb ka kb n tgt L st v) : hw_V p l e R s m args below meth c Q D b0 nL xb ka kb n pc L (.int x :: st) v := by
  unfold tsB at h
  by_cases c1 : x.toInt < lo ∨ hi < x.toInt
  · rw [if_pos c1] at h
    exact hq_tsOut C hdg c1 (of_decide_eq_true h) k
  · rw [if_neg c1] at h
    cases ho : offs[(x.toInt - lo).toNat]? with
    | none => rw [ho] at h; cases h
    | some off => rw [ho] at h; exact hq_tsIn C hdg (fun z => c1 (Or.inl z)) (fun z => c1 (Or.inr z)) ho (of_decide_eq_true h) k
/-- a wrapper of the law is called -/
theorem hq_cSLr (C : hw_C p s m args c D b0 cc own nL) {y : MethodName} {bytes : ByteArray} {maxL idx k9 mc ms : Nat} {rm : Room} {hh : List (Nat × Nat × Nat × Nat)} {As st0 : List Value} {r : Int64} {Cn : String} (hM : hL l y (Cond.codeWith y bytes maxL (some .long) hh) rm D b0 As I J P N o r I' J') (hw : hw_WS y (Cond.codeWith y bytes maxL (some .long) hh) k9) (hl9 : Cond.methodLink own idx y ∈ hw_TB) (hlen : As.length = k9) (hst : st0 = As.reverse ++ st) (hrc : rm.cells = mc) (hrs : rm.slots = ms) (hR : rm.frames + 1 ≤ R.frames ∧ 8 + (maxL + 11) + rm.locals ≤ R.locals) (hroom : (st.map fun v => v.category).sum ≤ 8) (hf : ka + mc ≤ R.cells ∧ kb + ms ≤ R.slots) (hdg : decode cc pc = .ok (.invokestatic idx, 3))
    (kk : hw_V p l e R s m args below meth c Q D b0 nL false (ka + mc) (kb + ms) (hw_n o) (pc + 3) L (.long r :: st) (hw_vl b0 I' J' P N o)) : hw_V p l e R s m args below meth c Q D b0 nL false ka kb (hw_n o) pc L st0 (hw_vl b0 I J P N o) := by
  subst hrc hrs
  exact hq_callSXW C hM hw hl9 hlen hst rfl rfl hR hroom hf hdg (fun _ => kk) (fun E z => by cases z)
end HA
def sp_low (x n : Int32) : Int32 := (x &&& 2147483647) - (x &&& 2147483647) / n * n
set_option maxHeartbeats 4000000 in
set_option maxRecDepth 100000 in
theorem m_L_low {l : Launch} {D : va_G} {b0 : Nat} {I : MI} {J : MJ} {P : MI} {N : MJ} {o : Int64} {x y : Int32} (hy : ¬ y = 0) : hM l yL_low cL_low 2 (some .int) rL_low D b0 [.int x, .int y] I J P N o (some (.int (sp_low x y))) I J P N o := by
  refine hw_Mof (by decide) [(0, .int _), (1, .int _)] rfl (Nat.le_of_ble_eq_true rfl) ?_
  intro p e s m args below meth c C hr hlk hnm
  refine hq_iload_n (q := 0) C dL_low_0 rfl rfl ?_
  refine hq_ldc C wc_L_7 dL_low_1 ?_
  refine hq_iand C dL_low_3 ?_
  refine hq_iload_n (q := 1) C dL_low_4 rfl rfl ?_
  refine hq_irem C dL_low_5 hy ?_
  exact hq_iret C hr hlk dL_low_6 rfl rfl
/-- act, at v, in a hall -/
def kA (v : Int32) (I : MI) (J : MJ) (r : Int64) (I' : MI) (J' : MJ) : Prop := ∀ (l : Launch) (D : va_G) (b0 : Nat) (P : MI) (N : MJ) (o : Int64), l.stackTraces = false → hL l yL_act wL_act rL_act D b0 [.ref (hw_ad b0 0 0), .int v] I J P N o r I' J'
set_option maxHeartbeats 4000000 in
set_option maxRecDepth 100000 in
theorem act_pre1 {p : Program} {l : Launch} {e : Env} {s : State} {m : MethodId} {args : Array Value} {below : List Frame} {meth : Method} {c : Code} {Q : State → Prop} {D : va_G} {b0 : Nat} {I : MI} {J : MJ} {P : MI} {N : MJ} {o : Int64} {v : Int32} (hd : sp_low (v >>> ((26 : Int32) &&& 31)) 14 = 0) (C : hw_C p s m args c D b0 cL_act RL 8) (k9 : hw_V p l e rL_act s m args below meth c Q D b0 8 false 0 0 (hw_n o) 159 [(7, .int (v >>> ((9 : Int32) &&& 31))), (6, .int ((sp_low (v >>> ((14 : Int32) &&& 31)) 10) - 1)), (5, .int ((sp_low (v >>> ((11 : Int32) &&& 31)) 44) - 2)), (4, .int ((sp_low (v >>> ((8 : Int32) &&& 31)) 15) - 2)), (3, .int ((sp_low (v >>> ((5 : Int32) &&& 31)) 15) - 2)), (2, .int 1), (0, .ref (hw_ad b0 0 0)), (1, .int v)] [.int (sp_low v 32)] (hw_vl b0 I J P N o)) : hw_V p l e rL_act s m args below meth c Q D b0 8 false 0 0 (hw_n o) 0 [(0, .ref (hw_ad b0 0 0)), (1, .int v)] [] (hw_vl b0 I J P N o) := by
  refine hq_iload_n (q := 1) C dL_act_0 rfl rfl ?_
  refine hq_bipush (y := 26) C dL_act_1 (by decide) ?_
  refine hq_ishr C dL_act_3 ?_
  refine hq_bipush (y := 14) C dL_act_4 (by decide) ?_
  refine hq_cSr (As := [.int _, .int _]) (rm := rL_low) (Cn := "") C (m_L_low (by decide)) ws_L_low ml_L_92 rfl rfl rfl rfl ⟨Nat.le_of_ble_eq_true rfl, Nat.le_of_ble_eq_true rfl⟩ (Nat.le_of_ble_eq_true rfl) ⟨Nat.le_of_ble_eq_true rfl, Nat.le_of_ble_eq_true rfl⟩ dL_act_6 ?_
  refine hq_if_ne (tgt := 16) C dL_act_9 (by decide) (fun c_9 => absurd hd c_9) (fun c_9 => ?_)
  refine hq_iconst (y := 1) C dL_act_12 (by decide) ?_
  refine hq_goto (tgt := 17) C dL_act_13 (by decide) ?_
  refine hq_istore_n (L' := [(2, .int _), (0, .ref _), (1, .int _)]) C dL_act_17 rfl (by decide) rfl ?_
  refine hq_iload_n (q := 0) C dL_act_18 rfl rfl ?_
  refine hq_if_eq (tgt := 35) C dL_act_19 (by decide) (fun c_19 => absurd c_19 (by decide)) (fun _ => ?_)
  refine hq_iload_n (q := 2) C dL_act_22 rfl rfl ?_
  refine hq_iconst (y := 5) C dL_act_23 (by decide) ?_
  refine hq_ishr C dL_act_24 ?_
  refine hq_bipush (y := 15) C dL_act_25 (by decide) ?_
  refine hq_cSr (As := [.int _, .int _]) (rm := rL_low) (Cn := "") C (m_L_low (by decide)) ws_L_low ml_L_92 rfl rfl rfl rfl ⟨Nat.le_of_ble_eq_true rfl, Nat.le_of_ble_eq_true rfl⟩ (Nat.le_of_ble_eq_true rfl) ⟨Nat.le_of_ble_eq_true rfl, Nat.le_of_ble_eq_true rfl⟩ dL_act_27 ?_
  refine hq_iconst (y := 2) C dL_act_30 (by decide) ?_
  refine hq_isub C dL_act_31 ?_
  refine hq_goto (tgt := 42) C dL_act_32 (by decide) ?_
  refine hq_istore_n (L' := [(3, .int _), (2, .int _), (0, .ref _), (1, .int _)]) C dL_act_42 rfl (by decide) rfl ?_
  refine hq_iload_n (q := 1) C dL_act_43 rfl rfl ?_
  refine hq_if_eq (tgt := 61) C dL_act_44 (by decide) (fun c_44 => absurd c_44 (by decide)) (fun _ => ?_)
  refine hq_iload_n (q := 3) C dL_act_47 rfl rfl ?_
  refine hq_bipush (y := 8) C dL_act_48 (by decide) ?_
  refine hq_ishr C dL_act_50 ?_
  refine hq_bipush (y := 15) C dL_act_51 (by decide) ?_
  refine hq_cSr (As := [.int _, .int _]) (rm := rL_low) (Cn := "") C (m_L_low (by decide)) ws_L_low ml_L_92 rfl rfl rfl rfl ⟨Nat.le_of_ble_eq_true rfl, Nat.le_of_ble_eq_true rfl⟩ (Nat.le_of_ble_eq_true rfl) ⟨Nat.le_of_ble_eq_true rfl, Nat.le_of_ble_eq_true rfl⟩ dL_act_53 ?_
  refine hq_iconst (y := 2) C dL_act_56 (by decide) ?_
  refine hq_isub C dL_act_57 ?_
  refine hq_goto (tgt := 69) C dL_act_58 (by decide) ?_
  refine hq_istore (L' := [(4, .int _), (3, .int _), (2, .int _), (0, .ref _), (1, .int _)]) C dL_act_69 (by decide) rfl ?_
  refine hq_iload_n (q := 2) C dL_act_71 rfl rfl ?_
  refine hq_if_eq (tgt := 89) C dL_act_72 (by decide) (fun c_72 => absurd c_72 (by decide)) (fun _ => ?_)
  refine hq_iload_n (q := 4) C dL_act_75 rfl rfl ?_
  refine hq_bipush (y := 11) C dL_act_76 (by decide) ?_
  refine hq_ishr C dL_act_78 ?_
  refine hq_bipush (y := 44) C dL_act_79 (by decide) ?_
  refine hq_cSr (As := [.int _, .int _]) (rm := rL_low) (Cn := "") C (m_L_low (by decide)) ws_L_low ml_L_92 rfl rfl rfl rfl ⟨Nat.le_of_ble_eq_true rfl, Nat.le_of_ble_eq_true rfl⟩ (Nat.le_of_ble_eq_true rfl) ⟨Nat.le_of_ble_eq_true rfl, Nat.le_of_ble_eq_true rfl⟩ dL_act_81 ?_
  refine hq_iconst (y := 2) C dL_act_84 (by decide) ?_
  refine hq_isub C dL_act_85 ?_
  refine hq_goto (tgt := 98) C dL_act_86 (by decide) ?_
  refine hq_istore (L' := [(5, .int _), (4, .int _), (3, .int _), (2, .int _), (0, .ref _), (1, .int _)]) C dL_act_98 (by decide) rfl ?_
  refine hq_iload_n (q := 3) C dL_act_100 rfl rfl ?_
  refine hq_if_eq (tgt := 118) C dL_act_101 (by decide) (fun c_101 => absurd c_101 (by decide)) (fun _ => ?_)
  refine hq_iload_n (q := 5) C dL_act_104 rfl rfl ?_
  refine hq_bipush (y := 14) C dL_act_105 (by decide) ?_
  refine hq_ishr C dL_act_107 ?_
  refine hq_bipush (y := 10) C dL_act_108 (by decide) ?_
  refine hq_cSr (As := [.int _, .int _]) (rm := rL_low) (Cn := "") C (m_L_low (by decide)) ws_L_low ml_L_92 rfl rfl rfl rfl ⟨Nat.le_of_ble_eq_true rfl, Nat.le_of_ble_eq_true rfl⟩ (Nat.le_of_ble_eq_true rfl) ⟨Nat.le_of_ble_eq_true rfl, Nat.le_of_ble_eq_true rfl⟩ dL_act_110 ?_
  refine hq_iconst (y := 1) C dL_act_113 (by decide) ?_
  refine hq_isub C dL_act_114 ?_
  refine hq_goto (tgt := 126) C dL_act_115 (by decide) ?_
  refine hq_istore (L' := [(6, .int _), (5, .int _), (4, .int _), (3, .int _), (2, .int _), (0, .ref _), (1, .int _)]) C dL_act_126 (by decide) rfl ?_
  refine hq_iload_n (q := 4) C dL_act_128 rfl rfl ?_
  refine hq_if_eq (tgt := 139) C dL_act_129 (by decide) (fun c_129 => absurd c_129 (by decide)) (fun _ => ?_)
  refine hq_iload_n (q := 6) C dL_act_132 rfl rfl ?_
  refine hq_bipush (y := 9) C dL_act_133 (by decide) ?_
  refine hq_ishr C dL_act_135 ?_
  refine hq_goto (tgt := 151) C dL_act_136 (by decide) ?_
  refine hq_istore (L' := [(7, .int _), (6, .int _), (5, .int _), (4, .int _), (3, .int _), (2, .int _), (0, .ref _), (1, .int _)]) C dL_act_151 (by decide) rfl ?_
  refine hq_iload_n (q := 7) C dL_act_153 rfl rfl ?_
  refine hq_bipush (y := 32) C dL_act_154 (by decide) ?_
  refine hq_cSr (As := [.int _, .int _]) (rm := rL_low) (Cn := "") C (m_L_low (by decide)) ws_L_low ml_L_92 rfl rfl rfl rfl ⟨Nat.le_of_ble_eq_true rfl, Nat.le_of_ble_eq_true rfl⟩ (Nat.le_of_ble_eq_true rfl) ⟨Nat.le_of_ble_eq_true rfl, Nat.le_of_ble_eq_true rfl⟩ dL_act_156 ?_
  exact k9
set_option maxHeartbeats 4000000 in
set_option maxRecDepth 100000 in
theorem act_pre0 {p : Program} {l : Launch} {e : Env} {s : State} {m : MethodId} {args : Array Value} {below : List Frame} {meth : Method} {c : Code} {Q : State → Prop} {D : va_G} {b0 : Nat} {I : MI} {J : MJ} {P : MI} {N : MJ} {o : Int64} {v : Int32} (hd : ¬ sp_low (v >>> ((26 : Int32) &&& 31)) 14 = 0) (C : hw_C p s m args c D b0 cL_act RL 8) (k9 : hw_V p l e rL_act s m args below meth c Q D b0 8 false 0 0 (hw_n o) 159 [(7, .int (1 + (sp_low (v >>> ((9 : Int32) &&& 31)) 600))), (6, .int (sp_low (v >>> ((14 : Int32) &&& 31)) 3)), (5, .int (sp_low (v >>> ((11 : Int32) &&& 31)) 8)), (4, .int (sp_low (v >>> ((8 : Int32) &&& 31)) 5)), (3, .int (sp_low (v >>> ((5 : Int32) &&& 31)) 5)), (2, .int 0), (0, .ref (hw_ad b0 0 0)), (1, .int v)] [.int (sp_low v 32)] (hw_vl b0 I J P N o)) : hw_V p l e rL_act s m args below meth c Q D b0 8 false 0 0 (hw_n o) 0 [(0, .ref (hw_ad b0 0 0)), (1, .int v)] [] (hw_vl b0 I J P N o) := by
  refine hq_iload_n (q := 1) C dL_act_0 rfl rfl ?_
  refine hq_bipush (y := 26) C dL_act_1 (by decide) ?_
  refine hq_ishr C dL_act_3 ?_
  refine hq_bipush (y := 14) C dL_act_4 (by decide) ?_
  refine hq_cSr (As := [.int _, .int _]) (rm := rL_low) (Cn := "") C (m_L_low (by decide)) ws_L_low ml_L_92 rfl rfl rfl rfl ⟨Nat.le_of_ble_eq_true rfl, Nat.le_of_ble_eq_true rfl⟩ (Nat.le_of_ble_eq_true rfl) ⟨Nat.le_of_ble_eq_true rfl, Nat.le_of_ble_eq_true rfl⟩ dL_act_6 ?_
  refine hq_if_ne (tgt := 16) C dL_act_9 (by decide) (fun c_9 => ?_) (fun c_9 => absurd c_9 hd)
  refine hq_iconst (y := 0) C dL_act_16 (by decide) ?_
  refine hq_istore_n (L' := [(2, .int _), (0, .ref _), (1, .int _)]) C dL_act_17 rfl (by decide) rfl ?_
  refine hq_iload_n (q := 0) C dL_act_18 rfl rfl ?_
  refine hq_if_eq (tgt := 35) C dL_act_19 (by decide) (fun _ => ?_) (fun c_19 => absurd c_19 (by decide))
  refine hq_iload_n (q := 2) C dL_act_35 rfl rfl ?_
  refine hq_iconst (y := 5) C dL_act_36 (by decide) ?_
  refine hq_ishr C dL_act_37 ?_
  refine hq_iconst (y := 5) C dL_act_38 (by decide) ?_
  refine hq_cSr (As := [.int _, .int _]) (rm := rL_low) (Cn := "") C (m_L_low (by decide)) ws_L_low ml_L_92 rfl rfl rfl rfl ⟨Nat.le_of_ble_eq_true rfl, Nat.le_of_ble_eq_true rfl⟩ (Nat.le_of_ble_eq_true rfl) ⟨Nat.le_of_ble_eq_true rfl, Nat.le_of_ble_eq_true rfl⟩ dL_act_39 ?_
  refine hq_istore_n (L' := [(3, .int _), (2, .int _), (0, .ref _), (1, .int _)]) C dL_act_42 rfl (by decide) rfl ?_
  refine hq_iload_n (q := 1) C dL_act_43 rfl rfl ?_
  refine hq_if_eq (tgt := 61) C dL_act_44 (by decide) (fun _ => ?_) (fun c_44 => absurd c_44 (by decide))
  refine hq_iload_n (q := 3) C dL_act_61 rfl rfl ?_
  refine hq_bipush (y := 8) C dL_act_62 (by decide) ?_
  refine hq_ishr C dL_act_64 ?_
  refine hq_iconst (y := 5) C dL_act_65 (by decide) ?_
  refine hq_cSr (As := [.int _, .int _]) (rm := rL_low) (Cn := "") C (m_L_low (by decide)) ws_L_low ml_L_92 rfl rfl rfl rfl ⟨Nat.le_of_ble_eq_true rfl, Nat.le_of_ble_eq_true rfl⟩ (Nat.le_of_ble_eq_true rfl) ⟨Nat.le_of_ble_eq_true rfl, Nat.le_of_ble_eq_true rfl⟩ dL_act_66 ?_
  refine hq_istore (L' := [(4, .int _), (3, .int _), (2, .int _), (0, .ref _), (1, .int _)]) C dL_act_69 (by decide) rfl ?_
  refine hq_iload_n (q := 2) C dL_act_71 rfl rfl ?_
  refine hq_if_eq (tgt := 89) C dL_act_72 (by decide) (fun _ => ?_) (fun c_72 => absurd c_72 (by decide))
  refine hq_iload_n (q := 4) C dL_act_89 rfl rfl ?_
  refine hq_bipush (y := 11) C dL_act_90 (by decide) ?_
  refine hq_ishr C dL_act_92 ?_
  refine hq_bipush (y := 8) C dL_act_93 (by decide) ?_
  refine hq_cSr (As := [.int _, .int _]) (rm := rL_low) (Cn := "") C (m_L_low (by decide)) ws_L_low ml_L_92 rfl rfl rfl rfl ⟨Nat.le_of_ble_eq_true rfl, Nat.le_of_ble_eq_true rfl⟩ (Nat.le_of_ble_eq_true rfl) ⟨Nat.le_of_ble_eq_true rfl, Nat.le_of_ble_eq_true rfl⟩ dL_act_95 ?_
  refine hq_istore (L' := [(5, .int _), (4, .int _), (3, .int _), (2, .int _), (0, .ref _), (1, .int _)]) C dL_act_98 (by decide) rfl ?_
  refine hq_iload_n (q := 3) C dL_act_100 rfl rfl ?_
  refine hq_if_eq (tgt := 118) C dL_act_101 (by decide) (fun _ => ?_) (fun c_101 => absurd c_101 (by decide))
  refine hq_iload_n (q := 5) C dL_act_118 rfl rfl ?_
  refine hq_bipush (y := 14) C dL_act_119 (by decide) ?_
  refine hq_ishr C dL_act_121 ?_
  refine hq_iconst (y := 3) C dL_act_122 (by decide) ?_
  refine hq_cSr (As := [.int _, .int _]) (rm := rL_low) (Cn := "") C (m_L_low (by decide)) ws_L_low ml_L_92 rfl rfl rfl rfl ⟨Nat.le_of_ble_eq_true rfl, Nat.le_of_ble_eq_true rfl⟩ (Nat.le_of_ble_eq_true rfl) ⟨Nat.le_of_ble_eq_true rfl, Nat.le_of_ble_eq_true rfl⟩ dL_act_123 ?_
  refine hq_istore (L' := [(6, .int _), (5, .int _), (4, .int _), (3, .int _), (2, .int _), (0, .ref _), (1, .int _)]) C dL_act_126 (by decide) rfl ?_
  refine hq_iload_n (q := 4) C dL_act_128 rfl rfl ?_
  refine hq_if_eq (tgt := 139) C dL_act_129 (by decide) (fun _ => ?_) (fun c_129 => absurd c_129 (by decide))
  refine hq_iconst (y := 1) C dL_act_139 (by decide) ?_
  refine hq_iload_n (q := 6) C dL_act_140 rfl rfl ?_
  refine hq_bipush (y := 9) C dL_act_141 (by decide) ?_
  refine hq_ishr C dL_act_143 ?_
  refine hq_sipush (y := 600) C dL_act_144 (by decide) ?_
  refine hq_cSr (As := [.int _, .int _]) (rm := rL_low) (Cn := "") C (m_L_low (by decide)) ws_L_low ml_L_92 rfl rfl rfl rfl ⟨Nat.le_of_ble_eq_true rfl, Nat.le_of_ble_eq_true rfl⟩ (Nat.le_of_ble_eq_true rfl) ⟨Nat.le_of_ble_eq_true rfl, Nat.le_of_ble_eq_true rfl⟩ dL_act_147 ?_
  refine hq_iadd C dL_act_150 ?_
  refine hq_istore (L' := [(7, .int _), (6, .int _), (5, .int _), (4, .int _), (3, .int _), (2, .int _), (0, .ref _), (1, .int _)]) C dL_act_151 (by decide) rfl ?_
  refine hq_iload_n (q := 7) C dL_act_153 rfl rfl ?_
  refine hq_bipush (y := 32) C dL_act_154 (by decide) ?_
  refine hq_cSr (As := [.int _, .int _]) (rm := rL_low) (Cn := "") C (m_L_low (by decide)) ws_L_low ml_L_92 rfl rfl rfl rfl ⟨Nat.le_of_ble_eq_true rfl, Nat.le_of_ble_eq_true rfl⟩ (Nat.le_of_ble_eq_true rfl) ⟨Nat.le_of_ble_eq_true rfl, Nat.le_of_ble_eq_true rfl⟩ dL_act_156 ?_
  exact k9
