/-! wrappers: what is thrown becomes a number -/
section HHX
variable {p : Program} {l : Launch} {e : Env} {R : Room} {s : State} {m : MethodId} {args : Array Value} {below : List Frame} {meth : Method} {c : Code} {Q : State → Prop}
variable {D : va_G} {b0 nL : Nat} {ka kb n : Nat} {pc : Nat} {L : List (Nat × Value)} {st : List Value} {v v' ve : VF} {cc : ByteArray} {own : String}
variable {y : MethodName} {bytes : ByteArray} {maxL mc ms : Nat} {ret : Option FieldType} {rm : Room} {r : Option Value} {hh : List (Nat × Nat × Nat × Nat)}
/-- caught here by the row x of the table; the rows ahead don't take it -/
theorem hq_catch (C : hw_C p s m args c D b0 cc own nL) (hT : c.exceptionTable.toList = tableOf hh) {E name : String} (pre : List ExceptionTableEntry) (x : ExceptionTableEntry) (suf : List ExceptionTableEntry) (hsplit : tableOf hh = pre ++ x :: suf)
    (hpass : ∀ z ∈ pre, covers z pc = false ∨ (z.catchType ≠ 0 ∧ ∃ nm : String, Cond.classLink own z.catchType nm ∈ hw_TB ∧ va_Nc E nm s)) (hx : covers x pc = true) (h0 : x.catchType ≠ 0) (hlink : Cond.classLink own x.catchType name ∈ hw_TB) (hcast : va_Nw (.castable E name) s)
    (kk : ∀ q : Addr, hw_V p l e R s m args below meth c Q D b0 nL false ka kb n x.handlerPc L [.ref q] v) : hw_T p l e R s m args below meth c Q D b0 nL ka kb n E pc L st v := by
  intro H locs ls q ce hH hZ hS hl hce hcv hcl
  exact vx_catch C.2.2.2.1 pre x suf (hT.trans hsplit) (fun z hz => (hpass z hz).imp id (fun ⟨a, nm, b, d⟩ => ⟨a, nm, C.2.2.2.2.1 _ b, d⟩)) hx h0 (C.2.2.2.2.1 _ hlink) (va_Nw.use rfl hcast) hce hcv hcl (kk q H locs ls hH hZ hS hl)
theorem hw_MHof {av : List Value} (hy : plainName y.cls = true) (Ls : List (Nat × Value)) (hLs : lv_args 0 av = Ls) (hml : (lg_sl av).length ≤ maxL)
    (body : ∀ (p : Program) (e : Env) (s : State) (m : MethodId) (args : Array Value) (below : List Frame) (meth : Method) (c : Code), hw_C p s m args c D b0 bytes y.cls maxL → meth.sig.returnType = ret → meth.locks = false → c.exceptionTable.toList = tableOf hh →
      hw_V p l e rm s m args below meth c (vx_MQ below (hw_QX D b0 n none r v') (hw_XC D b0 n none ve) args s mc ms (fun q => b0 ≤ q)) D b0 maxL false 0 0 n 0 Ls [] v) : hw_MXe l y (Cond.codeWith y bytes maxL ret hh) rm D b0 n av v none ve r v' mc ms := by
  refine vx_ofWH (cc := bytes) (maxL := maxL) (ret := ret) (hh := hh) hy rfl ?_
  intro p e s m args below meth c s₁ B hml9 hv9
  obtain ⟨rfl, h1, h2, h3, h4, h5, h6⟩ := hv9
  have hts := atoms_spec (ws := Cond.codeWith y bytes maxL ret hh :: hw_TB) B.pre
  have hT : c.exceptionTable.toList = tableOf hh := vx_table (x := y) B (hts _ List.mem_cons_self)
  have C : hw_C p s m av.toArray c D b0 bytes y.cls maxL := ⟨B.exec, B.bytes, hml9, findClass_of_methodNamed B.named, fun w hw => hts w (List.mem_cons_of_mem _ hw), h1, h2, h3, h4, Nat.le_trans (Nat.le_add_right _ _) h6.1⟩
  rw [lg_entry_eq]
  have hl := lv_entry av (n := maxL) hml
  rw [hLs] at hl
  exact body p e s m av.toArray below meth c C B.returns B.notSynchronized hT s.heap [] _ h5 h6 va_S.rf hl
end HHX
theorem hw_MXe.of {l : Launch} {y : MethodName} {w : Cond} {rm : Room} {D : va_G} {b0 n : Nat} {av : List Value} {v v' : VF} {ex : Option String} {r : Option Value} {mc ms : Nat} (h : hw_MX l y w rm D b0 n av v ex r v' mc ms) : hw_MXe l y w rm D b0 n av v ex v r v' mc ms := h
/-- a wrapper's contract -/
abbrev hL (l : Launch) (y : MethodName) (w : Cond) (rm : Room) (D : va_G) (b0 : Nat) (av : List Value) (I : MI) (J : MJ) (P : MI) (N : MJ) (o : Int64) (r : Int32) (I' : MI) (J' : MJ) (o' : Int64) : Prop := hw_MX l y w rm D b0 271 av (hw_vl b0 I J P N o) none (some (.int r)) (hw_vl b0 I' J' P N o') rm.cells rm.slots
theorem L_13 : Cond.classLink RL 13 eI ∈ hw_TB := hw_in 334 (by decide +kernel) rfl
theorem L_15 : Cond.classLink RL 15 eA ∈ hw_TB := hw_in 335 (by decide +kernel) rfl
theorem L_17 : Cond.classLink RL 17 eS ∈ hw_TB := hw_in 336 (by decide +kernel) rfl
abbrev wL_rate : Cond := .codeWith yL_rate cL_rate 5 (some .int) [(0, 10, 13, 13), (0, 10, 17, 15)]
theorem ws_L_rate : hw_WS yL_rate wL_rate 4 := ⟨⟨hw_in 452 (by decide +kernel) rfl, hw_in 451 (by decide +kernel) rfl, hw_in 57 (by decide +kernel) rfl⟩, by decide +kernel⟩
set_option maxHeartbeats 4000000 in
set_option maxRecDepth 100000 in
theorem m_L_rate_n {l : Launch} {D : va_G} {b0 : Nat} {I : MI} {J : MJ} {P : MI} {N : MJ} {o : Int64} (hlt : l.stackTraces = false) {x y : Int32} {nb no nc : Nat} {B : Int} (h : hw_ci I J nb no nc B) (hx9 : e_rate I x y = none) : hL l yL_rate wL_rate rL_rate D b0 [.ref (hw_ad b0 0 0), .int x, .int y, .ref (hw_ad b0 59 0)] I J P N o 0 (uI I 6 (tn x) y) J (I 6 (tn x)).toInt64 := by
  refine hw_MHof (by decide) [(0, .ref _), (1, .int _), (2, .int _), (3, .ref _)] rfl (Nat.le_of_ble_eq_true rfl) ?_
  intro p e s m args below meth c C hr hlk hT
  refine hq_aload_n (q := 3) C dL_rate_0 rfl rfl ?_
  refine hq_iconst (y := 0) C dL_rate_1 (by decide) ?_
  refine hq_aload_n (q := 0) C dL_rate_2 rfl rfl ?_
  refine hq_iload_n (q := 1) C dL_rate_3 rfl rfl ?_
  refine hq_iload_n (q := 2) C dL_rate_4 rfl rfl ?_
  refine hq_cVXr (As := [.int _, .int _]) (rm := rX5_rate) (f := 0) (Nc := 1) C (m_X5_rate hlt h) wv_X5_rate ml_L_19 rfl rfl rfl Nat.one_pos rfl rfl rfl rfl ⟨Nat.le_of_ble_eq_true rfl, Nat.le_of_ble_eq_true rfl⟩ (Nat.le_of_ble_eq_true rfl) ⟨Nat.le_of_ble_eq_true rfl, Nat.le_of_ble_eq_true rfl⟩ dL_rate_5 (fun _ => ?_) (fun E9 x9 => absurd (hx9.symm.trans x9) (by simp))
  refine hq_i2l C dL_rate_8 ?_
  refine hq_lasto C dL_rate_9 rfl ?_
  refine hq_goto (tgt := 21) C dL_rate_10 (by decide) ?_
  refine hq_iconst (y := 0) C dL_rate_21 (by decide) ?_
  exact hq_iretX C hr hlk dL_rate_22 rfl rfl rfl (Nat.le_of_ble_eq_true rfl) (Nat.le_of_ble_eq_true rfl)
set_option maxHeartbeats 4000000 in
set_option maxRecDepth 100000 in
theorem m_L_rate_eI {l : Launch} {D : va_G} {b0 : Nat} {I : MI} {J : MJ} {P : MI} {N : MJ} {o : Int64} (hlt : l.stackTraces = false) {x y : Int32} {nb no nc : Nat} {B : Int} (h : hw_ci I J nb no nc B) (hx9 : e_rate I x y = some eI) : hL l yL_rate wL_rate rL_rate D b0 [.ref (hw_ad b0 0 0), .int x, .int y, .ref (hw_ad b0 59 0)] I J P N o 1 I J o := by
  refine hw_MHof (by decide) [(0, .ref _), (1, .int _), (2, .int _), (3, .ref _)] rfl (Nat.le_of_ble_eq_true rfl) ?_
  intro p e s m args below meth c C hr hlk hT
  refine hq_aload_n (q := 3) C dL_rate_0 rfl rfl ?_
  refine hq_iconst (y := 0) C dL_rate_1 (by decide) ?_
  refine hq_aload_n (q := 0) C dL_rate_2 rfl rfl ?_
  refine hq_iload_n (q := 1) C dL_rate_3 rfl rfl ?_
  refine hq_iload_n (q := 2) C dL_rate_4 rfl rfl ?_
  refine hq_cVXr (As := [.int _, .int _]) (rm := rX5_rate) (f := 0) (Nc := 1) C (m_X5_rate hlt h) wv_X5_rate ml_L_19 rfl rfl rfl Nat.one_pos rfl rfl rfl rfl ⟨Nat.le_of_ble_eq_true rfl, Nat.le_of_ble_eq_true rfl⟩ (Nat.le_of_ble_eq_true rfl) ⟨Nat.le_of_ble_eq_true rfl, Nat.le_of_ble_eq_true rfl⟩ dL_rate_5 (fun n9 => absurd (n9.symm.trans hx9) (by simp)) (fun E9 x9 => ?_)
  cases hx9.symm.trans x9
  refine hq_catch (E := eI) (name := eI) C hT (tableOf []) ⟨0, 10, 13, 13⟩ (tableOf [(0, 10, 17, 15)]) rfl (fun z hz => by cases hz) rfl (by decide) L_13 C.2.2.2.2.2.2.1.2.1.1 (fun q9 => ?_)
  refine hq_astore (L' := [(4, .ref _), (0, .ref _), (1, .int _), (2, .int _), (3, .ref _)]) C dL_rate_13 (by decide) rfl ?_
  refine hq_iconst (y := 1) C dL_rate_15 (by decide) ?_
  exact hq_iretX C hr hlk dL_rate_16 rfl rfl rfl (Nat.le_of_ble_eq_true rfl) (Nat.le_of_ble_eq_true rfl)
set_option maxHeartbeats 4000000 in
set_option maxRecDepth 100000 in
theorem m_L_rate_eA {l : Launch} {D : va_G} {b0 : Nat} {I : MI} {J : MJ} {P : MI} {N : MJ} {o : Int64} (hlt : l.stackTraces = false) {x y : Int32} {nb no nc : Nat} {B : Int} (h : hw_ci I J nb no nc B) (hx9 : e_rate I x y = some eA) : hL l yL_rate wL_rate rL_rate D b0 [.ref (hw_ad b0 0 0), .int x, .int y, .ref (hw_ad b0 59 0)] I J P N o 2 I J o := by
  refine hw_MHof (by decide) [(0, .ref _), (1, .int _), (2, .int _), (3, .ref _)] rfl (Nat.le_of_ble_eq_true rfl) ?_
  intro p e s m args below meth c C hr hlk hT
  refine hq_aload_n (q := 3) C dL_rate_0 rfl rfl ?_
  refine hq_iconst (y := 0) C dL_rate_1 (by decide) ?_
  refine hq_aload_n (q := 0) C dL_rate_2 rfl rfl ?_
  refine hq_iload_n (q := 1) C dL_rate_3 rfl rfl ?_
  refine hq_iload_n (q := 2) C dL_rate_4 rfl rfl ?_
  refine hq_cVXr (As := [.int _, .int _]) (rm := rX5_rate) (f := 0) (Nc := 1) C (m_X5_rate hlt h) wv_X5_rate ml_L_19 rfl rfl rfl Nat.one_pos rfl rfl rfl rfl ⟨Nat.le_of_ble_eq_true rfl, Nat.le_of_ble_eq_true rfl⟩ (Nat.le_of_ble_eq_true rfl) ⟨Nat.le_of_ble_eq_true rfl, Nat.le_of_ble_eq_true rfl⟩ dL_rate_5 (fun n9 => absurd (n9.symm.trans hx9) (by simp)) (fun E9 x9 => ?_)
  cases hx9.symm.trans x9
  refine hq_catch (E := eA) (name := eA) C hT (tableOf [(0, 10, 13, 13)]) ⟨0, 10, 17, 15⟩ (tableOf []) rfl (fun z hz => by
      rcases List.mem_cons.mp hz with h9 | h9
      · rw [h9]; exact Or.inr ⟨by decide, eI, L_13, C.2.2.2.2.2.2.1.2.2.1.1⟩
      · cases h9) rfl (by decide) L_15 C.2.2.2.2.2.2.1.2.1.2.1 (fun q9 => ?_)
  refine hq_astore (L' := [(4, .ref _), (0, .ref _), (1, .int _), (2, .int _), (3, .ref _)]) C dL_rate_17 (by decide) rfl ?_
  refine hq_iconst (y := 2) C dL_rate_19 (by decide) ?_
  exact hq_iretX C hr hlk dL_rate_20 rfl rfl rfl (Nat.le_of_ble_eq_true rfl) (Nat.le_of_ble_eq_true rfl)
abbrev wL_broker : Cond := .codeWith yL_broker cL_broker 6 (some .int) [(0, 12, 15, 13), (0, 12, 19, 15), (0, 12, 23, 17)]
theorem ws_L_broker : hw_WS yL_broker wL_broker 5 := ⟨⟨hw_in 333 (by decide +kernel) rfl, hw_in 332 (by decide +kernel) rfl, hw_in 57 (by decide +kernel) rfl⟩, by decide +kernel⟩
set_option maxHeartbeats 4000000 in
set_option maxRecDepth 100000 in
theorem m_L_broker_n {l : Launch} {D : va_G} {b0 : Nat} {I : MI} {J : MJ} {P : MI} {N : MJ} {o : Int64} (hlt : l.stackTraces = false) {x y z : Int32} {nb no nc : Nat} {B : Int} (h : hw_ci I J nb no nc B) (hx9 : e_broker I x y z = none) : hL l yL_broker wL_broker rL_broker D b0 [.ref (hw_ad b0 0 0), .int x, .int y, .int z, .ref (hw_ad b0 59 0)] I J P N o 0 (i_broker I x z nb) (uJ J 0 nb y.toInt64) (I 0 0 + 1 - 1).toInt64 := by
  refine hw_MHof (by decide) [(0, .ref _), (1, .int _), (2, .int _), (3, .int _), (4, .ref _)] rfl (Nat.le_of_ble_eq_true rfl) ?_
  intro p e s m args below meth c C hr hlk hT
  refine hq_aload (q := 4) C dL_broker_0 rfl ?_
  refine hq_iconst (y := 0) C dL_broker_2 (by decide) ?_
  refine hq_aload_n (q := 0) C dL_broker_3 rfl rfl ?_
  refine hq_iload_n (q := 1) C dL_broker_4 rfl rfl ?_
  refine hq_iload_n (q := 2) C dL_broker_5 rfl rfl ?_
  refine hq_iload_n (q := 3) C dL_broker_6 rfl rfl ?_
  refine hq_cVXr (As := [.int _, .int _, .int _]) (rm := rX5_broker) (f := 0) (Nc := 1) C (m_X5_broker hlt h) wv_X5_broker ml_L_7 rfl rfl rfl Nat.one_pos rfl rfl rfl rfl ⟨Nat.le_of_ble_eq_true rfl, Nat.le_of_ble_eq_true rfl⟩ (Nat.le_of_ble_eq_true rfl) ⟨Nat.le_of_ble_eq_true rfl, Nat.le_of_ble_eq_true rfl⟩ dL_broker_7 (fun _ => ?_) (fun E9 x9 => absurd (hx9.symm.trans x9) (by simp))
  refine hq_i2l C dL_broker_10 ?_
  refine hq_lasto C dL_broker_11 rfl ?_
  refine hq_goto (tgt := 27) C dL_broker_12 (by decide) ?_
  refine hq_iconst (y := 0) C dL_broker_27 (by decide) ?_
  exact hq_iretX C hr hlk dL_broker_28 rfl rfl rfl (Nat.le_of_ble_eq_true rfl) (Nat.le_of_ble_eq_true rfl)
set_option maxHeartbeats 4000000 in
set_option maxRecDepth 100000 in
theorem m_L_broker_eI {l : Launch} {D : va_G} {b0 : Nat} {I : MI} {J : MJ} {P : MI} {N : MJ} {o : Int64} (hlt : l.stackTraces = false) {x y z : Int32} {nb no nc : Nat} {B : Int} (h : hw_ci I J nb no nc B) (hx9 : e_broker I x y z = some eI) : hL l yL_broker wL_broker rL_broker D b0 [.ref (hw_ad b0 0 0), .int x, .int y, .int z, .ref (hw_ad b0 59 0)] I J P N o 1 I J o := by
  refine hw_MHof (by decide) [(0, .ref _), (1, .int _), (2, .int _), (3, .int _), (4, .ref _)] rfl (Nat.le_of_ble_eq_true rfl) ?_
  intro p e s m args below meth c C hr hlk hT
  refine hq_aload (q := 4) C dL_broker_0 rfl ?_
  refine hq_iconst (y := 0) C dL_broker_2 (by decide) ?_
  refine hq_aload_n (q := 0) C dL_broker_3 rfl rfl ?_
  refine hq_iload_n (q := 1) C dL_broker_4 rfl rfl ?_
  refine hq_iload_n (q := 2) C dL_broker_5 rfl rfl ?_
  refine hq_iload_n (q := 3) C dL_broker_6 rfl rfl ?_
  refine hq_cVXr (As := [.int _, .int _, .int _]) (rm := rX5_broker) (f := 0) (Nc := 1) C (m_X5_broker hlt h) wv_X5_broker ml_L_7 rfl rfl rfl Nat.one_pos rfl rfl rfl rfl ⟨Nat.le_of_ble_eq_true rfl, Nat.le_of_ble_eq_true rfl⟩ (Nat.le_of_ble_eq_true rfl) ⟨Nat.le_of_ble_eq_true rfl, Nat.le_of_ble_eq_true rfl⟩ dL_broker_7 (fun n9 => absurd (n9.symm.trans hx9) (by simp)) (fun E9 x9 => ?_)
  cases hx9.symm.trans x9
  refine hq_catch (E := eI) (name := eI) C hT (tableOf []) ⟨0, 12, 15, 13⟩ (tableOf [(0, 12, 19, 15), (0, 12, 23, 17)]) rfl (fun z hz => by cases hz) rfl (by decide) L_13 C.2.2.2.2.2.2.1.2.1.1 (fun q9 => ?_)
  refine hq_astore (L' := [(5, .ref _), (0, .ref _), (1, .int _), (2, .int _), (3, .int _), (4, .ref _)]) C dL_broker_15 (by decide) rfl ?_
  refine hq_iconst (y := 1) C dL_broker_17 (by decide) ?_
  exact hq_iretX C hr hlk dL_broker_18 rfl rfl rfl (Nat.le_of_ble_eq_true rfl) (Nat.le_of_ble_eq_true rfl)
set_option maxHeartbeats 4000000 in
set_option maxRecDepth 100000 in
theorem m_L_broker_eA {l : Launch} {D : va_G} {b0 : Nat} {I : MI} {J : MJ} {P : MI} {N : MJ} {o : Int64} (hlt : l.stackTraces = false) {x y z : Int32} {nb no nc : Nat} {B : Int} (h : hw_ci I J nb no nc B) (hx9 : e_broker I x y z = some eA) : hL l yL_broker wL_broker rL_broker D b0 [.ref (hw_ad b0 0 0), .int x, .int y, .int z, .ref (hw_ad b0 59 0)] I J P N o 2 I J o := by
  refine hw_MHof (by decide) [(0, .ref _), (1, .int _), (2, .int _), (3, .int _), (4, .ref _)] rfl (Nat.le_of_ble_eq_true rfl) ?_
  intro p e s m args below meth c C hr hlk hT
  refine hq_aload (q := 4) C dL_broker_0 rfl ?_
  refine hq_iconst (y := 0) C dL_broker_2 (by decide) ?_
  refine hq_aload_n (q := 0) C dL_broker_3 rfl rfl ?_
  refine hq_iload_n (q := 1) C dL_broker_4 rfl rfl ?_
  refine hq_iload_n (q := 2) C dL_broker_5 rfl rfl ?_
  refine hq_iload_n (q := 3) C dL_broker_6 rfl rfl ?_
  refine hq_cVXr (As := [.int _, .int _, .int _]) (rm := rX5_broker) (f := 0) (Nc := 1) C (m_X5_broker hlt h) wv_X5_broker ml_L_7 rfl rfl rfl Nat.one_pos rfl rfl rfl rfl ⟨Nat.le_of_ble_eq_true rfl, Nat.le_of_ble_eq_true rfl⟩ (Nat.le_of_ble_eq_true rfl) ⟨Nat.le_of_ble_eq_true rfl, Nat.le_of_ble_eq_true rfl⟩ dL_broker_7 (fun n9 => absurd (n9.symm.trans hx9) (by simp)) (fun E9 x9 => ?_)
  cases hx9.symm.trans x9
  refine hq_catch (E := eA) (name := eA) C hT (tableOf [(0, 12, 15, 13)]) ⟨0, 12, 19, 15⟩ (tableOf [(0, 12, 23, 17)]) rfl (fun z hz => by
      rcases List.mem_cons.mp hz with h9 | h9
      · rw [h9]; exact Or.inr ⟨by decide, eI, L_13, C.2.2.2.2.2.2.1.2.2.1.1⟩
      · cases h9) rfl (by decide) L_15 C.2.2.2.2.2.2.1.2.1.2.1 (fun q9 => ?_)
  refine hq_astore (L' := [(5, .ref _), (0, .ref _), (1, .int _), (2, .int _), (3, .int _), (4, .ref _)]) C dL_broker_19 (by decide) rfl ?_
  refine hq_iconst (y := 2) C dL_broker_21 (by decide) ?_
  exact hq_iretX C hr hlk dL_broker_22 rfl rfl rfl (Nat.le_of_ble_eq_true rfl) (Nat.le_of_ble_eq_true rfl)
set_option maxHeartbeats 4000000 in
set_option maxRecDepth 100000 in
theorem m_L_broker_eS {l : Launch} {D : va_G} {b0 : Nat} {I : MI} {J : MJ} {P : MI} {N : MJ} {o : Int64} (hlt : l.stackTraces = false) {x y z : Int32} {nb no nc : Nat} {B : Int} (h : hw_ci I J nb no nc B) (hx9 : e_broker I x y z = some eS) : hL l yL_broker wL_broker rL_broker D b0 [.ref (hw_ad b0 0 0), .int x, .int y, .int z, .ref (hw_ad b0 59 0)] I J P N o 3 I J o := by
  refine hw_MHof (by decide) [(0, .ref _), (1, .int _), (2, .int _), (3, .int _), (4, .ref _)] rfl (Nat.le_of_ble_eq_true rfl) ?_
  intro p e s m args below meth c C hr hlk hT
  refine hq_aload (q := 4) C dL_broker_0 rfl ?_
  refine hq_iconst (y := 0) C dL_broker_2 (by decide) ?_
  refine hq_aload_n (q := 0) C dL_broker_3 rfl rfl ?_
  refine hq_iload_n (q := 1) C dL_broker_4 rfl rfl ?_
  refine hq_iload_n (q := 2) C dL_broker_5 rfl rfl ?_
  refine hq_iload_n (q := 3) C dL_broker_6 rfl rfl ?_
  refine hq_cVXr (As := [.int _, .int _, .int _]) (rm := rX5_broker) (f := 0) (Nc := 1) C (m_X5_broker hlt h) wv_X5_broker ml_L_7 rfl rfl rfl Nat.one_pos rfl rfl rfl rfl ⟨Nat.le_of_ble_eq_true rfl, Nat.le_of_ble_eq_true rfl⟩ (Nat.le_of_ble_eq_true rfl) ⟨Nat.le_of_ble_eq_true rfl, Nat.le_of_ble_eq_true rfl⟩ dL_broker_7 (fun n9 => absurd (n9.symm.trans hx9) (by simp)) (fun E9 x9 => ?_)
  cases hx9.symm.trans x9
  refine hq_catch (E := eS) (name := eS) C hT (tableOf [(0, 12, 15, 13), (0, 12, 19, 15)]) ⟨0, 12, 23, 17⟩ (tableOf []) rfl (fun z hz => by
      rcases List.mem_cons.mp hz with h9 | h9
      · rw [h9]; exact Or.inr ⟨by decide, eI, L_13, C.2.2.2.2.2.2.1.2.2.1.2.1⟩
      · rcases List.mem_cons.mp h9 with h8 | h8
        · rw [h8]; exact Or.inr ⟨by decide, eA, L_15, C.2.2.2.2.2.2.1.2.2.1.2.2⟩
        · cases h8) rfl (by decide) L_17 C.2.2.2.2.2.2.1.2.1.2.2 (fun q9 => ?_)
  refine hq_astore (L' := [(5, .ref _), (0, .ref _), (1, .int _), (2, .int _), (3, .int _), (4, .ref _)]) C dL_broker_23 (by decide) rfl ?_
  refine hq_iconst (y := 3) C dL_broker_25 (by decide) ?_
  exact hq_iretX C hr hlk dL_broker_26 rfl rfl rfl (Nat.le_of_ble_eq_true rfl) (Nat.le_of_ble_eq_true rfl)
