/-! wrappers: what is thrown becomes a number -/
section HHX
variable {p : Program} {l : Launch} {e : Env} {R : Room} {s : State} {m : MethodId} {args : Array Value} {below : List Frame} {meth : Method} {c : Code} {Q : State → Prop}
variable {D : va_G} {b0 nL : Nat} {ka kb n : Nat} {pc : Nat} {L : List (Nat × Value)} {st : List Value} {v v' ve : VF} {cc : ByteArray} {own : String}
variable {y : MethodName} {bytes : ByteArray} {maxL mc ms : Nat} {ret : Option FieldType} {rm : Room} {r : Option Value} {hh : List (Nat × Nat × Nat × Nat)}
/-- caught here by the row x of the table; the rows ahead don't take it -/
theorem hq_catch (C : hw_C p s m args c D b0 cc own nL) (hT : c.exceptionTable.toList = tableOf hh) {E name : String} (pre : List ExceptionTableEntry) (x : ExceptionTableEntry) (suf : List ExceptionTableEntry) (hsplit : tableOf hh = pre ++ x :: suf)
    (hpass : ∀ z ∈ pre, covers z pc = false ∨ (z.catchType ≠ 0 ∧ ∃ nm : String, Cond.classLink own z.catchType nm ∈ hw_TB ∧ va_Nc E nm s)) (hx : covers x pc = true) (h0 : x.catchType ≠ 0) (hlink : Cond.classLink own x.catchType name ∈ hw_TB) (hcast : va_Nw (.castable E name) s)
    (kk : ∀ q : Addr, hw_V p l e R s m args below meth c Q D b0 nL false ka kb n x.handlerPc L [.ref q] v) : hw_T p l e R s m args below meth c Q D b0 nL ka kb n E pc L st v := by
  intro H locs ls q ce hH hZ hS hl hce hcv hcl
  exact vx_catch C.2.2.2.1 pre x suf (hT.trans hsplit) (fun z hz => (hpass z hz).imp id (fun ⟨a, nm, b, d⟩ => ⟨a, nm, C.2.2.2.2.1 _ b, d⟩)) hx h0 (C.2.2.2.2.1 _ hlink) (va_Nw.use rfl hcast) hce hcv hcl (kk q H locs ls hH hZ hS hl)
theorem hw_MHof {av : List Value} (hy : plainName y.cls = true) (Ls : List (Nat × Value)) (hLs : lv_args 0 av = Ls) (hml : (lg_sl av).length ≤ maxL)
    (body : ∀ (p : Program) (e : Env) (s : State) (m : MethodId) (args : Array Value) (below : List Frame) (meth : Method) (c : Code), hw_C p s m args c D b0 bytes y.cls maxL → meth.sig.returnType = ret → meth.locks = false → c.exceptionTable.toList = tableOf hh →
      hw_V p l e rm s m args below meth c (vx_MQ below (hw_QX D b0 n none r v') (hw_XC D b0 n none ve) args s mc ms (fun q => b0 ≤ q)) D b0 maxL false 0 0 n 0 Ls [] v) : hw_MXe l y (Cond.codeWith y bytes maxL ret hh) rm D b0 n av v none ve r v' mc ms := by
  refine vx_ofWH (cc := bytes) (maxL := maxL) (ret := ret) (hh := hh) hy rfl ?_
  intro p e s m args below meth c s₁ B hml9 hv9
  obtain ⟨rfl, h1, h2, h3, h4, h5, h6⟩ := hv9
  have hts := atoms_spec (ws := Cond.codeWith y bytes maxL ret hh :: hw_TB) B.pre
  have hT : c.exceptionTable.toList = tableOf hh := vx_table (x := y) B (hts _ List.mem_cons_self)
  have C : hw_C p s m av.toArray c D b0 bytes y.cls maxL := ⟨B.exec, B.bytes, hml9, findClass_of_methodNamed B.named, fun w hw => hts w (List.mem_cons_of_mem _ hw), h1, h2, h3, h4, Nat.le_trans (Nat.le_add_right _ _) h6.1⟩
  rw [lg_entry_eq]
  have hl := lv_entry av (n := maxL) hml
  rw [hLs] at hl
  exact body p e s m av.toArray below meth c C B.returns B.notSynchronized hT s.heap [] _ h5 h6 va_S.rf hl
end HHX
theorem hw_MXe.of {l : Launch} {y : MethodName} {w : Cond} {rm : Room} {D : va_G} {b0 n : Nat} {av : List Value} {v v' : VF} {ex : Option String} {r : Option Value} {mc ms : Nat} (h : hw_MX l y w rm D b0 n av v ex r v' mc ms) : hw_MXe l y w rm D b0 n av v ex v r v' mc ms := h
/-- a wrapper's contract -/
abbrev hL (l : Launch) (y : MethodName) (w : Cond) (rm : Room) (D : va_G) (b0 : Nat) (av : List Value) (I : MI) (J : MJ) (P : MI) (N : MJ) (o : Int64) (r : Int32) (I' : MI) (J' : MJ) (o' : Int64) : Prop := hw_MX l y w rm D b0 271 av (hw_vl b0 I J P N o) none (some (.int r)) (hw_vl b0 I' J' P N o') rm.cells rm.slots
theorem L_13 : Cond.classLink RL 13 eI ∈ hw_TB := hw_in 334 (by decide +kernel) rfl
theorem L_15 : Cond.classLink RL 15 eA ∈ hw_TB := hw_in 335 (by decide +kernel) rfl
theorem L_17 : Cond.classLink RL 17 eS ∈ hw_TB := hw_in 336 (by decide +kernel) rfl
theorem hq_cVXer {p : Program} {l : Launch} {e : Env} {R : Room} {s : State} {m : MethodId} {args : Array Value} {below : List Frame} {meth : Method} {c : Code} {Q : State → Prop} {D : va_G} {b0 nL : Nat} {ka kb : Nat} {pc : Nat} {L : List (Nat × Value)} {st : List Value} {cc : ByteArray} {own : String} {I : MI} {J : MJ} {P : MI} {N : MJ} {o : Int64} (C : hw_C p s m args c D b0 cc own nL) {y : MethodName} {bytes : ByteArray} {maxL idx k : Nat} {ret : Option FieldType} {rm : Room} {As : List Value} {Cn : String} {st0 : List Value} {I' Ie : MI} {J' Je : MJ} {P' Pe : MI} {N' Ne : MJ} {o' oe : Int64} {q : Value} {f i : Nat} {T : u_T} {N0 Nc : Nat} {mc ms : Nat} {ex : Option String} (hM : hw_MXe l y (Cond.code y bytes maxL ret) rm D b0 271 (.ref (hw_ad b0 f i) :: As) (hw_vl b0 I J P N o) ex (hw_vl b0 Ie Je Pe Ne oe) (some q) (hw_vl b0 I' J' P' N' o') mc ms) (hw : hw_WV Cn y (Cond.code y bytes maxL ret) k) (hl9 : Cond.methodLink own idx y ∈ hw_TB) (ho : hw_ob f = true) (hcl : vwCl[hw_kc f]? = some (Cn, T, N0)) (hNc : hw_cnt f = Nc) (hi : i < Nc) (hlen : As.length = k) (hst : st0 = As.reverse ++ .ref (hw_ad b0 f i) :: st) (hrc : rm.cells = mc) (hrs : rm.slots = ms) (hR : rm.frames + 1 ≤ R.frames ∧ 8 + (maxL + 11) + rm.locals ≤ R.locals) (hroom : (st.map fun v => v.category).sum ≤ 8) (hf : ka + mc ≤ R.cells ∧ kb + ms ≤ R.slots) (hdg : decode cc pc = .ok (.invokevirtual idx, 3)) (kk : (ex = none → hw_V p l e R s m args below meth c Q D b0 nL false (ka + mc) (kb + ms) 271 (pc + 3) L (q :: st) (hw_vl b0 I' J' P' N' o'))) (kx : ∀ E, ex = some E → hw_T p l e R s m args below meth c Q D b0 nL (ka + mc) (kb + ms) 271 E pc L st (hw_vl b0 Ie Je Pe Ne oe)) : hw_V p l e R s m args below meth c Q D b0 nL false ka kb 271 pc L st0 (hw_vl b0 I J P N o) :=
  hq_callVXe C hM hw hl9 ho hcl (hw_nt hNc hi).1 (hw_nt hNc hi).2 hlen hst hrc hrs hR hroom hf hdg kk kx
abbrev wL_rate : Cond := .codeWith yL_rate cL_rate 5 (some .int) [(0, 10, 13, 13), (0, 10, 17, 15)]
theorem ws_L_rate : hw_WS yL_rate wL_rate 4 := ⟨⟨hw_in 452 (by decide +kernel) rfl, hw_in 451 (by decide +kernel) rfl, hw_in 57 (by decide +kernel) rfl⟩, by decide +kernel⟩
set_option maxHeartbeats 4000000 in
set_option maxRecDepth 100000 in
theorem m_L_rate_n {l : Launch} {D : va_G} {b0 : Nat} {I : MI} {J : MJ} {P : MI} {N : MJ} {o : Int64} (hlt : l.stackTraces = false) {x y : Int32} {nb no nc : Nat} {B : Int} (h : hw_ci I J nb no nc B) (hx9 : e_rate I x y = none) : hL l yL_rate wL_rate rL_rate D b0 [.ref (hw_ad b0 0 0), .int x, .int y, .ref (hw_ad b0 59 0)] I J P N o 0 (uI I 6 (tn x) y) J (I 6 (tn x)).toInt64 := by
  refine hw_MHof (by decide) [(0, .ref _), (1, .int _), (2, .int _), (3, .ref _)] rfl (Nat.le_of_ble_eq_true rfl) ?_
  intro p e s m args below meth c C hr hlk hT
  refine hq_aload_n (q := 3) C dL_rate_0 rfl rfl ?_
  refine hq_iconst (y := 0) C dL_rate_1 (by decide) ?_
  refine hq_aload_n (q := 0) C dL_rate_2 rfl rfl ?_
  refine hq_iload_n (q := 1) C dL_rate_3 rfl rfl ?_
  refine hq_iload_n (q := 2) C dL_rate_4 rfl rfl ?_
  refine hq_cVXr (As := [.int _, .int _]) (rm := rX5_rate) (f := 0) (Nc := 1) C (m_X5_rate hlt h) wv_X5_rate ml_L_19 rfl rfl rfl Nat.one_pos rfl rfl rfl rfl ⟨Nat.le_of_ble_eq_true rfl, Nat.le_of_ble_eq_true rfl⟩ (Nat.le_of_ble_eq_true rfl) ⟨Nat.le_of_ble_eq_true rfl, Nat.le_of_ble_eq_true rfl⟩ dL_rate_5 (fun _ => ?_) (fun E9 x9 => absurd (hx9.symm.trans x9) (by simp))
  refine hq_i2l C dL_rate_8 ?_
  refine hq_lasto C dL_rate_9 rfl ?_
  refine hq_goto (tgt := 21) C dL_rate_10 (by decide) ?_
  refine hq_iconst (y := 0) C dL_rate_21 (by decide) ?_
  exact hq_iretX C hr hlk dL_rate_22 rfl rfl rfl (Nat.le_of_ble_eq_true rfl) (Nat.le_of_ble_eq_true rfl)
set_option maxHeartbeats 4000000 in
set_option maxRecDepth 100000 in
theorem m_L_rate_eI {l : Launch} {D : va_G} {b0 : Nat} {I : MI} {J : MJ} {P : MI} {N : MJ} {o : Int64} (hlt : l.stackTraces = false) {x y : Int32} {nb no nc : Nat} {B : Int} (h : hw_ci I J nb no nc B) (hx9 : e_rate I x y = some eI) : hL l yL_rate wL_rate rL_rate D b0 [.ref (hw_ad b0 0 0), .int x, .int y, .ref (hw_ad b0 59 0)] I J P N o 1 I J o := by
  refine hw_MHof (by decide) [(0, .ref _), (1, .int _), (2, .int _), (3, .ref _)] rfl (Nat.le_of_ble_eq_true rfl) ?_
  intro p e s m args below meth c C hr hlk hT
  refine hq_aload_n (q := 3) C dL_rate_0 rfl rfl ?_
  refine hq_iconst (y := 0) C dL_rate_1 (by decide) ?_
  refine hq_aload_n (q := 0) C dL_rate_2 rfl rfl ?_
  refine hq_iload_n (q := 1) C dL_rate_3 rfl rfl ?_
  refine hq_iload_n (q := 2) C dL_rate_4 rfl rfl ?_
  refine hq_cVXr (As := [.int _, .int _]) (rm := rX5_rate) (f := 0) (Nc := 1) C (m_X5_rate hlt h) wv_X5_rate ml_L_19 rfl rfl rfl Nat.one_pos rfl rfl rfl rfl ⟨Nat.le_of_ble_eq_true rfl, Nat.le_of_ble_eq_true rfl⟩ (Nat.le_of_ble_eq_true rfl) ⟨Nat.le_of_ble_eq_true rfl, Nat.le_of_ble_eq_true rfl⟩ dL_rate_5 (fun n9 => absurd (n9.symm.trans hx9) (by simp)) (fun E9 x9 => ?_)
  cases hx9.symm.trans x9
  refine hq_catch (E := eI) (name := eI) C hT (tableOf []) ⟨0, 10, 13, 13⟩ (tableOf [(0, 10, 17, 15)]) rfl (fun z hz => by cases hz) rfl (by decide) L_13 C.2.2.2.2.2.2.1.2.1.1 (fun q9 => ?_)
  refine hq_astore (L' := [(4, .ref _), (0, .ref _), (1, .int _), (2, .int _), (3, .ref _)]) C dL_rate_13 (by decide) rfl ?_
  refine hq_iconst (y := 1) C dL_rate_15 (by decide) ?_
  exact hq_iretX C hr hlk dL_rate_16 rfl rfl rfl (Nat.le_of_ble_eq_true rfl) (Nat.le_of_ble_eq_true rfl)
set_option maxHeartbeats 4000000 in
set_option maxRecDepth 100000 in
theorem m_L_rate_eA {l : Launch} {D : va_G} {b0 : Nat} {I : MI} {J : MJ} {P : MI} {N : MJ} {o : Int64} (hlt : l.stackTraces = false) {x y : Int32} {nb no nc : Nat} {B : Int} (h : hw_ci I J nb no nc B) (hx9 : e_rate I x y = some eA) : hL l yL_rate wL_rate rL_rate D b0 [.ref (hw_ad b0 0 0), .int x, .int y, .ref (hw_ad b0 59 0)] I J P N o 2 I J o := by
  refine hw_MHof (by decide) [(0, .ref _), (1, .int _), (2, .int _), (3, .ref _)] rfl (Nat.le_of_ble_eq_true rfl) ?_
  intro p e s m args below meth c C hr hlk hT
  refine hq_aload_n (q := 3) C dL_rate_0 rfl rfl ?_
  refine hq_iconst (y := 0) C dL_rate_1 (by decide) ?_
  refine hq_aload_n (q := 0) C dL_rate_2 rfl rfl ?_
  refine hq_iload_n (q := 1) C dL_rate_3 rfl rfl ?_
  refine hq_iload_n (q := 2) C dL_rate_4 rfl rfl ?_
  refine hq_cVXr (As := [.int _, .int _]) (rm := rX5_rate) (f := 0) (Nc := 1) C (m_X5_rate hlt h) wv_X5_rate ml_L_19 rfl rfl rfl Nat.one_pos rfl rfl rfl rfl ⟨Nat.le_of_ble_eq_true rfl, Nat.le_of_ble_eq_true rfl⟩ (Nat.le_of_ble_eq_true rfl) ⟨Nat.le_of_ble_eq_true rfl, Nat.le_of_ble_eq_true rfl⟩ dL_rate_5 (fun n9 => absurd (n9.symm.trans hx9) (by simp)) (fun E9 x9 => ?_)
  cases hx9.symm.trans x9
  refine hq_catch (E := eA) (name := eA) C hT (tableOf [(0, 10, 13, 13)]) ⟨0, 10, 17, 15⟩ (tableOf []) rfl (fun z hz => by
      rcases List.mem_cons.mp hz with h9 | h9
      · rw [h9]; exact Or.inr ⟨by decide, eI, L_13, C.2.2.2.2.2.2.1.2.2.1.1⟩
      · cases h9) rfl (by decide) L_15 C.2.2.2.2.2.2.1.2.1.2.1 (fun q9 => ?_)
  refine hq_astore (L' := [(4, .ref _), (0, .ref _), (1, .int _), (2, .int _), (3, .ref _)]) C dL_rate_17 (by decide) rfl ?_
  refine hq_iconst (y := 2) C dL_rate_19 (by decide) ?_
  exact hq_iretX C hr hlk dL_rate_20 rfl rfl rfl (Nat.le_of_ble_eq_true rfl) (Nat.le_of_ble_eq_true rfl)
abbrev wL_broker : Cond := .codeWith yL_broker cL_broker 6 (some .int) [(0, 12, 15, 13), (0, 12, 19, 15), (0, 12, 23, 17)]
theorem ws_L_broker : hw_WS yL_broker wL_broker 5 := ⟨⟨hw_in 333 (by decide +kernel) rfl, hw_in 332 (by decide +kernel) rfl, hw_in 57 (by decide +kernel) rfl⟩, by decide +kernel⟩
set_option maxHeartbeats 4000000 in
set_option maxRecDepth 100000 in
theorem m_L_broker_n {l : Launch} {D : va_G} {b0 : Nat} {I : MI} {J : MJ} {P : MI} {N : MJ} {o : Int64} (hlt : l.stackTraces = false) {x y z : Int32} {nb no nc : Nat} {B : Int} (h : hw_ci I J nb no nc B) (hx9 : e_broker I x y z = none) : hL l yL_broker wL_broker rL_broker D b0 [.ref (hw_ad b0 0 0), .int x, .int y, .int z, .ref (hw_ad b0 59 0)] I J P N o 0 (i_broker I x z nb) (uJ J 0 nb y.toInt64) (I 0 0 + 1 - 1).toInt64 := by
  refine hw_MHof (by decide) [(0, .ref _), (1, .int _), (2, .int _), (3, .int _), (4, .ref _)] rfl (Nat.le_of_ble_eq_true rfl) ?_
  intro p e s m args below meth c C hr hlk hT
  refine hq_aload (q := 4) C dL_broker_0 rfl ?_
  refine hq_iconst (y := 0) C dL_broker_2 (by decide) ?_
  refine hq_aload_n (q := 0) C dL_broker_3 rfl rfl ?_
  refine hq_iload_n (q := 1) C dL_broker_4 rfl rfl ?_
  refine hq_iload_n (q := 2) C dL_broker_5 rfl rfl ?_
  refine hq_iload_n (q := 3) C dL_broker_6 rfl rfl ?_
  refine hq_cVXr (As := [.int _, .int _, .int _]) (rm := rX5_broker) (f := 0) (Nc := 1) C (m_X5_broker hlt h) wv_X5_broker ml_L_7 rfl rfl rfl Nat.one_pos rfl rfl rfl rfl ⟨Nat.le_of_ble_eq_true rfl, Nat.le_of_ble_eq_true rfl⟩ (Nat.le_of_ble_eq_true rfl) ⟨Nat.le_of_ble_eq_true rfl, Nat.le_of_ble_eq_true rfl⟩ dL_broker_7 (fun _ => ?_) (fun E9 x9 => absurd (hx9.symm.trans x9) (by simp))
  refine hq_i2l C dL_broker_10 ?_
  refine hq_lasto C dL_broker_11 rfl ?_
  refine hq_goto (tgt := 27) C dL_broker_12 (by decide) ?_
  refine hq_iconst (y := 0) C dL_broker_27 (by decide) ?_
  exact hq_iretX C hr hlk dL_broker_28 rfl rfl rfl (Nat.le_of_ble_eq_true rfl) (Nat.le_of_ble_eq_true rfl)
set_option maxHeartbeats 4000000 in
set_option maxRecDepth 100000 in
theorem m_L_broker_eI {l : Launch} {D : va_G} {b0 : Nat} {I : MI} {J : MJ} {P : MI} {N : MJ} {o : Int64} (hlt : l.stackTraces = false) {x y z : Int32} {nb no nc : Nat} {B : Int} (h : hw_ci I J nb no nc B) (hx9 : e_broker I x y z = some eI) : hL l yL_broker wL_broker rL_broker D b0 [.ref (hw_ad b0 0 0), .int x, .int y, .int z, .ref (hw_ad b0 59 0)] I J P N o 1 I J o := by
  refine hw_MHof (by decide) [(0, .ref _), (1, .int _), (2, .int _), (3, .int _), (4, .ref _)] rfl (Nat.le_of_ble_eq_true rfl) ?_
  intro p e s m args below meth c C hr hlk hT
  refine hq_aload (q := 4) C dL_broker_0 rfl ?_
  refine hq_iconst (y := 0) C dL_broker_2 (by decide) ?_
  refine hq_aload_n (q := 0) C dL_broker_3 rfl rfl ?_
  refine hq_iload_n (q := 1) C dL_broker_4 rfl rfl ?_
  refine hq_iload_n (q := 2) C dL_broker_5 rfl rfl ?_
  refine hq_iload_n (q := 3) C dL_broker_6 rfl rfl ?_
  refine hq_cVXr (As := [.int _, .int _, .int _]) (rm := rX5_broker) (f := 0) (Nc := 1) C (m_X5_broker hlt h) wv_X5_broker ml_L_7 rfl rfl rfl Nat.one_pos rfl rfl rfl rfl ⟨Nat.le_of_ble_eq_true rfl, Nat.le_of_ble_eq_true rfl⟩ (Nat.le_of_ble_eq_true rfl) ⟨Nat.le_of_ble_eq_true rfl, Nat.le_of_ble_eq_true rfl⟩ dL_broker_7 (fun n9 => absurd (n9.symm.trans hx9) (by simp)) (fun E9 x9 => ?_)
  cases hx9.symm.trans x9
  refine hq_catch (E := eI) (name := eI) C hT (tableOf []) ⟨0, 12, 15, 13⟩ (tableOf [(0, 12, 19, 15), (0, 12, 23, 17)]) rfl (fun z hz => by cases hz) rfl (by decide) L_13 C.2.2.2.2.2.2.1.2.1.1 (fun q9 => ?_)
  refine hq_astore (L' := [(5, .ref _), (0, .ref _), (1, .int _), (2, .int _), (3, .int _), (4, .ref _)]) C dL_broker_15 (by decide) rfl ?_
  refine hq_iconst (y := 1) C dL_broker_17 (by decide) ?_
  exact hq_iretX C hr hlk dL_broker_18 rfl rfl rfl (Nat.le_of_ble_eq_true rfl) (Nat.le_of_ble_eq_true rfl)
set_option maxHeartbeats 4000000 in
set_option maxRecDepth 100000 in
theorem m_L_broker_eA {l : Launch} {D : va_G} {b0 : Nat} {I : MI} {J : MJ} {P : MI} {N : MJ} {o : Int64} (hlt : l.stackTraces = false) {x y z : Int32} {nb no nc : Nat} {B : Int} (h : hw_ci I J nb no nc B) (hx9 : e_broker I x y z = some eA) : hL l yL_broker wL_broker rL_broker D b0 [.ref (hw_ad b0 0 0), .int x, .int y, .int z, .ref (hw_ad b0 59 0)] I J P N o 2 I J o := by
  refine hw_MHof (by decide) [(0, .ref _), (1, .int _), (2, .int _), (3, .int _), (4, .ref _)] rfl (Nat.le_of_ble_eq_true rfl) ?_
  intro p e s m args below meth c C hr hlk hT
  refine hq_aload (q := 4) C dL_broker_0 rfl ?_
  refine hq_iconst (y := 0) C dL_broker_2 (by decide) ?_
  refine hq_aload_n (q := 0) C dL_broker_3 rfl rfl ?_
  refine hq_iload_n (q := 1) C dL_broker_4 rfl rfl ?_
  refine hq_iload_n (q := 2) C dL_broker_5 rfl rfl ?_
  refine hq_iload_n (q := 3) C dL_broker_6 rfl rfl ?_
  refine hq_cVXr (As := [.int _, .int _, .int _]) (rm := rX5_broker) (f := 0) (Nc := 1) C (m_X5_broker hlt h) wv_X5_broker ml_L_7 rfl rfl rfl Nat.one_pos rfl rfl rfl rfl ⟨Nat.le_of_ble_eq_true rfl, Nat.le_of_ble_eq_true rfl⟩ (Nat.le_of_ble_eq_true rfl) ⟨Nat.le_of_ble_eq_true rfl, Nat.le_of_ble_eq_true rfl⟩ dL_broker_7 (fun n9 => absurd (n9.symm.trans hx9) (by simp)) (fun E9 x9 => ?_)
  cases hx9.symm.trans x9
  refine hq_catch (E := eA) (name := eA) C hT (tableOf [(0, 12, 15, 13)]) ⟨0, 12, 19, 15⟩ (tableOf [(0, 12, 23, 17)]) rfl (fun z hz => by
      rcases List.mem_cons.mp hz with h9 | h9
      · rw [h9]; exact Or.inr ⟨by decide, eI, L_13, C.2.2.2.2.2.2.1.2.2.1.1⟩
      · cases h9) rfl (by decide) L_15 C.2.2.2.2.2.2.1.2.1.2.1 (fun q9 => ?_)
  refine hq_astore (L' := [(5, .ref _), (0, .ref _), (1, .int _), (2, .int _), (3, .int _), (4, .ref _)]) C dL_broker_19 (by decide) rfl ?_
  refine hq_iconst (y := 2) C dL_broker_21 (by decide) ?_
  exact hq_iretX C hr hlk dL_broker_22 rfl rfl rfl (Nat.le_of_ble_eq_true rfl) (Nat.le_of_ble_eq_true rfl)
set_option maxHeartbeats 4000000 in
set_option maxRecDepth 100000 in
theorem m_L_broker_eS {l : Launch} {D : va_G} {b0 : Nat} {I : MI} {J : MJ} {P : MI} {N : MJ} {o : Int64} (hlt : l.stackTraces = false) {x y z : Int32} {nb no nc : Nat} {B : Int} (h : hw_ci I J nb no nc B) (hx9 : e_broker I x y z = some eS) : hL l yL_broker wL_broker rL_broker D b0 [.ref (hw_ad b0 0 0), .int x, .int y, .int z, .ref (hw_ad b0 59 0)] I J P N o 3 I J o := by
  refine hw_MHof (by decide) [(0, .ref _), (1, .int _), (2, .int _), (3, .int _), (4, .ref _)] rfl (Nat.le_of_ble_eq_true rfl) ?_
  intro p e s m args below meth c C hr hlk hT
  refine hq_aload (q := 4) C dL_broker_0 rfl ?_
  refine hq_iconst (y := 0) C dL_broker_2 (by decide) ?_
  refine hq_aload_n (q := 0) C dL_broker_3 rfl rfl ?_
  refine hq_iload_n (q := 1) C dL_broker_4 rfl rfl ?_
  refine hq_iload_n (q := 2) C dL_broker_5 rfl rfl ?_
  refine hq_iload_n (q := 3) C dL_broker_6 rfl rfl ?_
  refine hq_cVXr (As := [.int _, .int _, .int _]) (rm := rX5_broker) (f := 0) (Nc := 1) C (m_X5_broker hlt h) wv_X5_broker ml_L_7 rfl rfl rfl Nat.one_pos rfl rfl rfl rfl ⟨Nat.le_of_ble_eq_true rfl, Nat.le_of_ble_eq_true rfl⟩ (Nat.le_of_ble_eq_true rfl) ⟨Nat.le_of_ble_eq_true rfl, Nat.le_of_ble_eq_true rfl⟩ dL_broker_7 (fun n9 => absurd (n9.symm.trans hx9) (by simp)) (fun E9 x9 => ?_)
  cases hx9.symm.trans x9
  refine hq_catch (E := eS) (name := eS) C hT (tableOf [(0, 12, 15, 13), (0, 12, 19, 15)]) ⟨0, 12, 23, 17⟩ (tableOf []) rfl (fun z hz => by
      rcases List.mem_cons.mp hz with h9 | h9
      · rw [h9]; exact Or.inr ⟨by decide, eI, L_13, C.2.2.2.2.2.2.1.2.2.1.2.1⟩
      · rcases List.mem_cons.mp h9 with h8 | h8
        · rw [h8]; exact Or.inr ⟨by decide, eA, L_15, C.2.2.2.2.2.2.1.2.2.1.2.2⟩
        · cases h8) rfl (by decide) L_17 C.2.2.2.2.2.2.1.2.1.2.2 (fun q9 => ?_)
  refine hq_astore (L' := [(5, .ref _), (0, .ref _), (1, .int _), (2, .int _), (3, .int _), (4, .ref _)]) C dL_broker_23 (by decide) rfl ?_
  refine hq_iconst (y := 3) C dL_broker_25 (by decide) ?_
  exact hq_iretX C hr hlk dL_broker_26 rfl rfl rfl (Nat.le_of_ble_eq_true rfl) (Nat.le_of_ble_eq_true rfl)
abbrev wL_trust : Cond := .codeWith yL_trust cL_trust 6 (some .int) [(0, 9, 12, 13), (0, 9, 16, 15)]
theorem ws_L_trust : hw_WS yL_trust wL_trust 5 := ⟨⟨hw_in 459 (by decide +kernel) rfl, hw_in 458 (by decide +kernel) rfl, hw_in 57 (by decide +kernel) rfl⟩, by decide +kernel⟩
set_option maxHeartbeats 4000000 in
set_option maxRecDepth 100000 in
theorem m_L_trust_n {l : Launch} {D : va_G} {b0 : Nat} {I : MI} {J : MJ} {P : MI} {N : MJ} {o : Int64} (hlt : l.stackTraces = false) {x y z w : Int32} (hw : hw_bo w) {nb no nc : Nat} {B : Int} (h : hw_ci I J nb no nc B) (hx9 : e_trust I x y z = none) : hL l yL_trust wL_trust rL_trust D b0 [.ref (hw_ad b0 0 0), .int x, .int y, .int z, .int w] I J P N o 0 (i_trust I x y z w) J o := by
  refine hw_MHof (by decide) [(0, .ref _), (1, .int _), (2, .int _), (3, .int _), (4, .int _)] rfl (Nat.le_of_ble_eq_true rfl) ?_
  intro p e s m args below meth c C hr hlk hT
  refine hq_aload_n (q := 0) C dL_trust_0 rfl rfl ?_
  refine hq_iload_n (q := 1) C dL_trust_1 rfl rfl ?_
  refine hq_iload_n (q := 2) C dL_trust_2 rfl rfl ?_
  refine hq_iload_n (q := 3) C dL_trust_3 rfl rfl ?_
  refine hq_iload (q := 4) C dL_trust_4 rfl ?_
  refine hq_cVXv (As := [.int _, .int _, .int _, .int _]) (rm := rX5_trust) (f := 0) (Nc := 1) C (m_X5_trust hlt hw h) wv_X5_trust ml_L_23 rfl rfl rfl Nat.one_pos rfl rfl rfl rfl ⟨Nat.le_of_ble_eq_true rfl, Nat.le_of_ble_eq_true rfl⟩ (Nat.le_of_ble_eq_true rfl) ⟨Nat.le_of_ble_eq_true rfl, Nat.le_of_ble_eq_true rfl⟩ dL_trust_6 (fun _ => ?_) (fun E9 x9 => absurd (hx9.symm.trans x9) (by simp))
  refine hq_goto (tgt := 20) C dL_trust_9 (by decide) ?_
  refine hq_iconst (y := 0) C dL_trust_20 (by decide) ?_
  exact hq_iretX C hr hlk dL_trust_21 rfl rfl rfl (Nat.le_of_ble_eq_true rfl) (Nat.le_of_ble_eq_true rfl)
set_option maxHeartbeats 4000000 in
set_option maxRecDepth 100000 in
theorem m_L_trust_eI {l : Launch} {D : va_G} {b0 : Nat} {I : MI} {J : MJ} {P : MI} {N : MJ} {o : Int64} (hlt : l.stackTraces = false) {x y z w : Int32} (hw : hw_bo w) {nb no nc : Nat} {B : Int} (h : hw_ci I J nb no nc B) (hx9 : e_trust I x y z = some eI) : hL l yL_trust wL_trust rL_trust D b0 [.ref (hw_ad b0 0 0), .int x, .int y, .int z, .int w] I J P N o 1 I J o := by
  refine hw_MHof (by decide) [(0, .ref _), (1, .int _), (2, .int _), (3, .int _), (4, .int _)] rfl (Nat.le_of_ble_eq_true rfl) ?_
  intro p e s m args below meth c C hr hlk hT
  refine hq_aload_n (q := 0) C dL_trust_0 rfl rfl ?_
  refine hq_iload_n (q := 1) C dL_trust_1 rfl rfl ?_
  refine hq_iload_n (q := 2) C dL_trust_2 rfl rfl ?_
  refine hq_iload_n (q := 3) C dL_trust_3 rfl rfl ?_
  refine hq_iload (q := 4) C dL_trust_4 rfl ?_
  refine hq_cVXv (As := [.int _, .int _, .int _, .int _]) (rm := rX5_trust) (f := 0) (Nc := 1) C (m_X5_trust hlt hw h) wv_X5_trust ml_L_23 rfl rfl rfl Nat.one_pos rfl rfl rfl rfl ⟨Nat.le_of_ble_eq_true rfl, Nat.le_of_ble_eq_true rfl⟩ (Nat.le_of_ble_eq_true rfl) ⟨Nat.le_of_ble_eq_true rfl, Nat.le_of_ble_eq_true rfl⟩ dL_trust_6 (fun n9 => absurd (n9.symm.trans hx9) (by simp)) (fun E9 x9 => ?_)
  cases hx9.symm.trans x9
  refine hq_catch (E := eI) (name := eI) C hT (tableOf []) ⟨0, 9, 12, 13⟩ (tableOf [(0, 9, 16, 15)]) rfl (fun z hz => by cases hz) rfl (by decide) L_13 C.2.2.2.2.2.2.1.2.1.1 (fun q9 => ?_)
  refine hq_astore (L' := [(5, .ref _), (0, .ref _), (1, .int _), (2, .int _), (3, .int _), (4, .int _)]) C dL_trust_12 (by decide) rfl ?_
  refine hq_iconst (y := 1) C dL_trust_14 (by decide) ?_
  exact hq_iretX C hr hlk dL_trust_15 rfl rfl rfl (Nat.le_of_ble_eq_true rfl) (Nat.le_of_ble_eq_true rfl)
set_option maxHeartbeats 4000000 in
set_option maxRecDepth 100000 in
theorem m_L_trust_eA {l : Launch} {D : va_G} {b0 : Nat} {I : MI} {J : MJ} {P : MI} {N : MJ} {o : Int64} (hlt : l.stackTraces = false) {x y z w : Int32} (hw : hw_bo w) {nb no nc : Nat} {B : Int} (h : hw_ci I J nb no nc B) (hx9 : e_trust I x y z = some eA) : hL l yL_trust wL_trust rL_trust D b0 [.ref (hw_ad b0 0 0), .int x, .int y, .int z, .int w] I J P N o 2 I J o := by
  refine hw_MHof (by decide) [(0, .ref _), (1, .int _), (2, .int _), (3, .int _), (4, .int _)] rfl (Nat.le_of_ble_eq_true rfl) ?_
  intro p e s m args below meth c C hr hlk hT
  refine hq_aload_n (q := 0) C dL_trust_0 rfl rfl ?_
  refine hq_iload_n (q := 1) C dL_trust_1 rfl rfl ?_
  refine hq_iload_n (q := 2) C dL_trust_2 rfl rfl ?_
  refine hq_iload_n (q := 3) C dL_trust_3 rfl rfl ?_
  refine hq_iload (q := 4) C dL_trust_4 rfl ?_
  refine hq_cVXv (As := [.int _, .int _, .int _, .int _]) (rm := rX5_trust) (f := 0) (Nc := 1) C (m_X5_trust hlt hw h) wv_X5_trust ml_L_23 rfl rfl rfl Nat.one_pos rfl rfl rfl rfl ⟨Nat.le_of_ble_eq_true rfl, Nat.le_of_ble_eq_true rfl⟩ (Nat.le_of_ble_eq_true rfl) ⟨Nat.le_of_ble_eq_true rfl, Nat.le_of_ble_eq_true rfl⟩ dL_trust_6 (fun n9 => absurd (n9.symm.trans hx9) (by simp)) (fun E9 x9 => ?_)
  cases hx9.symm.trans x9
  refine hq_catch (E := eA) (name := eA) C hT (tableOf [(0, 9, 12, 13)]) ⟨0, 9, 16, 15⟩ (tableOf []) rfl (fun z hz => by
      rcases List.mem_cons.mp hz with h9 | h9
      · rw [h9]; exact Or.inr ⟨by decide, eI, L_13, C.2.2.2.2.2.2.1.2.2.1.1⟩
      · cases h9) rfl (by decide) L_15 C.2.2.2.2.2.2.1.2.1.2.1 (fun q9 => ?_)
  refine hq_astore (L' := [(5, .ref _), (0, .ref _), (1, .int _), (2, .int _), (3, .int _), (4, .int _)]) C dL_trust_16 (by decide) rfl ?_
  refine hq_iconst (y := 2) C dL_trust_18 (by decide) ?_
  exact hq_iretX C hr hlk dL_trust_19 rfl rfl rfl (Nat.le_of_ble_eq_true rfl) (Nat.le_of_ble_eq_true rfl)
abbrev wL_breakWord : Cond := .codeWith yL_breakWord cL_breakWord 4 (some .int) [(0, 9, 12, 13), (0, 9, 15, 17)]
theorem ws_L_breakWord : hw_WS yL_breakWord wL_breakWord 3 := ⟨⟨hw_in 471 (by decide +kernel) rfl, hw_in 470 (by decide +kernel) rfl, hw_in 57 (by decide +kernel) rfl⟩, by decide +kernel⟩
set_option maxHeartbeats 4000000 in
set_option maxRecDepth 100000 in
theorem m_L_breakWord_n {l : Launch} {D : va_G} {b0 : Nat} {I : MI} {J : MJ} {P : MI} {N : MJ} {o : Int64} (hlt : l.stackTraces = false) {x : Int32} {nb no nc : Nat} {B : Int} (h : hw_ci I J nb no nc B) (hB : B + 3092376453120 ≤ 4611686018427387904) (hx9 : e_breakWord I x = none) : hL l yL_breakWord wL_breakWord rL_breakWord D b0 [.ref (hw_ad b0 0 0), .int x, .ref (hw_ad b0 59 0)] I J P N o 0 (s_breakWord I J x no).1 (s_breakWord I J x no).2 (nI (l_breakWord I J x no).2.2).toInt64 := by
  refine hw_MHof (by decide) [(0, .ref _), (1, .int _), (2, .ref _)] rfl (Nat.le_of_ble_eq_true rfl) ?_
  intro p e s m args below meth c C hr hlk hT
  refine hq_aload_n (q := 2) C dL_breakWord_0 rfl rfl ?_
  refine hq_iconst (y := 0) C dL_breakWord_1 (by decide) ?_
  refine hq_aload_n (q := 0) C dL_breakWord_2 rfl rfl ?_
  refine hq_iload_n (q := 1) C dL_breakWord_3 rfl rfl ?_
  refine hq_cVXr (As := [.int _]) (rm := rX5_breakWord) (f := 0) (Nc := 1) C (m_X5_breakWord hlt h hB) wv_X5_breakWord ml_L_27 rfl rfl rfl Nat.one_pos rfl rfl rfl rfl ⟨Nat.le_of_ble_eq_true rfl, Nat.le_of_ble_eq_true rfl⟩ (Nat.le_of_ble_eq_true rfl) ⟨Nat.le_of_ble_eq_true rfl, Nat.le_of_ble_eq_true rfl⟩ dL_breakWord_4 (fun _ => ?_) (fun E9 x9 => absurd (hx9.symm.trans x9) (by simp))
  refine hq_i2l C dL_breakWord_7 ?_
  refine hq_lasto C dL_breakWord_8 rfl ?_
  refine hq_goto (tgt := 18) C dL_breakWord_9 (by decide) ?_
  refine hq_iconst (y := 0) C dL_breakWord_18 (by decide) ?_
  exact hq_iretX C hr hlk dL_breakWord_19 rfl rfl rfl (Nat.le_of_ble_eq_true rfl) (Nat.le_of_ble_eq_true rfl)
set_option maxHeartbeats 4000000 in
set_option maxRecDepth 100000 in
theorem m_L_breakWord_eI {l : Launch} {D : va_G} {b0 : Nat} {I : MI} {J : MJ} {P : MI} {N : MJ} {o : Int64} (hlt : l.stackTraces = false) {x : Int32} {nb no nc : Nat} {B : Int} (h : hw_ci I J nb no nc B) (hB : B + 3092376453120 ≤ 4611686018427387904) (hx9 : e_breakWord I x = some eI) : hL l yL_breakWord wL_breakWord rL_breakWord D b0 [.ref (hw_ad b0 0 0), .int x, .ref (hw_ad b0 59 0)] I J P N o 1 I J o := by
  refine hw_MHof (by decide) [(0, .ref _), (1, .int _), (2, .ref _)] rfl (Nat.le_of_ble_eq_true rfl) ?_
  intro p e s m args below meth c C hr hlk hT
  refine hq_aload_n (q := 2) C dL_breakWord_0 rfl rfl ?_
  refine hq_iconst (y := 0) C dL_breakWord_1 (by decide) ?_
  refine hq_aload_n (q := 0) C dL_breakWord_2 rfl rfl ?_
  refine hq_iload_n (q := 1) C dL_breakWord_3 rfl rfl ?_
  refine hq_cVXr (As := [.int _]) (rm := rX5_breakWord) (f := 0) (Nc := 1) C (m_X5_breakWord hlt h hB) wv_X5_breakWord ml_L_27 rfl rfl rfl Nat.one_pos rfl rfl rfl rfl ⟨Nat.le_of_ble_eq_true rfl, Nat.le_of_ble_eq_true rfl⟩ (Nat.le_of_ble_eq_true rfl) ⟨Nat.le_of_ble_eq_true rfl, Nat.le_of_ble_eq_true rfl⟩ dL_breakWord_4 (fun n9 => absurd (n9.symm.trans hx9) (by simp)) (fun E9 x9 => ?_)
  cases hx9.symm.trans x9
  refine hq_catch (E := eI) (name := eI) C hT (tableOf []) ⟨0, 9, 12, 13⟩ (tableOf [(0, 9, 15, 17)]) rfl (fun z hz => by cases hz) rfl (by decide) L_13 C.2.2.2.2.2.2.1.2.1.1 (fun q9 => ?_)
  refine hq_astore_n (L' := [(3, .ref _), (0, .ref _), (1, .int _), (2, .ref _)]) C dL_breakWord_12 rfl (by decide) rfl ?_
  refine hq_iconst (y := 1) C dL_breakWord_13 (by decide) ?_
  exact hq_iretX C hr hlk dL_breakWord_14 rfl rfl rfl (Nat.le_of_ble_eq_true rfl) (Nat.le_of_ble_eq_true rfl)
set_option maxHeartbeats 4000000 in
set_option maxRecDepth 100000 in
theorem m_L_breakWord_eS {l : Launch} {D : va_G} {b0 : Nat} {I : MI} {J : MJ} {P : MI} {N : MJ} {o : Int64} (hlt : l.stackTraces = false) {x : Int32} {nb no nc : Nat} {B : Int} (h : hw_ci I J nb no nc B) (hB : B + 3092376453120 ≤ 4611686018427387904) (hx9 : e_breakWord I x = some eS) : hL l yL_breakWord wL_breakWord rL_breakWord D b0 [.ref (hw_ad b0 0 0), .int x, .ref (hw_ad b0 59 0)] I J P N o 2 I J o := by
  refine hw_MHof (by decide) [(0, .ref _), (1, .int _), (2, .ref _)] rfl (Nat.le_of_ble_eq_true rfl) ?_
  intro p e s m args below meth c C hr hlk hT
  refine hq_aload_n (q := 2) C dL_breakWord_0 rfl rfl ?_
  refine hq_iconst (y := 0) C dL_breakWord_1 (by decide) ?_
  refine hq_aload_n (q := 0) C dL_breakWord_2 rfl rfl ?_
  refine hq_iload_n (q := 1) C dL_breakWord_3 rfl rfl ?_
  refine hq_cVXr (As := [.int _]) (rm := rX5_breakWord) (f := 0) (Nc := 1) C (m_X5_breakWord hlt h hB) wv_X5_breakWord ml_L_27 rfl rfl rfl Nat.one_pos rfl rfl rfl rfl ⟨Nat.le_of_ble_eq_true rfl, Nat.le_of_ble_eq_true rfl⟩ (Nat.le_of_ble_eq_true rfl) ⟨Nat.le_of_ble_eq_true rfl, Nat.le_of_ble_eq_true rfl⟩ dL_breakWord_4 (fun n9 => absurd (n9.symm.trans hx9) (by simp)) (fun E9 x9 => ?_)
  cases hx9.symm.trans x9
  refine hq_catch (E := eS) (name := eS) C hT (tableOf [(0, 9, 12, 13)]) ⟨0, 9, 15, 17⟩ (tableOf []) rfl (fun z hz => by
      rcases List.mem_cons.mp hz with h9 | h9
      · rw [h9]; exact Or.inr ⟨by decide, eI, L_13, C.2.2.2.2.2.2.1.2.2.1.2.1⟩
      · cases h9) rfl (by decide) L_17 C.2.2.2.2.2.2.1.2.1.2.2 (fun q9 => ?_)
  refine hq_astore_n (L' := [(3, .ref _), (0, .ref _), (1, .int _), (2, .ref _)]) C dL_breakWord_15 rfl (by decide) rfl ?_
  refine hq_iconst (y := 2) C dL_breakWord_16 (by decide) ?_
  exact hq_iretX C hr hlk dL_breakWord_17 rfl rfl rfl (Nat.le_of_ble_eq_true rfl) (Nat.le_of_ble_eq_true rfl)
abbrev wL_raid : Cond := .codeWith yL_raid cL_raid 4 (some .int) [(0, 9, 12, 13), (0, 9, 15, 17)]
theorem ws_L_raid : hw_WS yL_raid wL_raid 3 := ⟨⟨hw_in 576 (by decide +kernel) rfl, hw_in 575 (by decide +kernel) rfl, hw_in 57 (by decide +kernel) rfl⟩, by decide +kernel⟩
set_option maxHeartbeats 4000000 in
set_option maxRecDepth 100000 in
theorem m_L_raid_n {l : Launch} {D : va_G} {b0 : Nat} {I : MI} {J : MJ} {P : MI} {N : MJ} {o : Int64} (hlt : l.stackTraces = false) {x : Int32} {nb no nc : Nat} {B : Int} (h : hw_ci I J nb no nc B) (hB : B + 3092376453120 ≤ 4611686018427387904) (hx9 : e_raid I x = none) : hL l yL_raid wL_raid rL_raid D b0 [.ref (hw_ad b0 0 0), .int x, .ref (hw_ad b0 59 0)] I J P N o 0 (s_raid I J x no).1 (s_raid I J x no).2 (J 0 (tn x)).toInt32.toInt64 := by
  refine hw_MHof (by decide) [(0, .ref _), (1, .int _), (2, .ref _)] rfl (Nat.le_of_ble_eq_true rfl) ?_
  intro p e s m args below meth c C hr hlk hT
  refine hq_aload_n (q := 2) C dL_raid_0 rfl rfl ?_
  refine hq_iconst (y := 0) C dL_raid_1 (by decide) ?_
  refine hq_aload_n (q := 0) C dL_raid_2 rfl rfl ?_
  refine hq_iload_n (q := 1) C dL_raid_3 rfl rfl ?_
  refine hq_cVXr (As := [.int _]) (rm := rX5_raid) (f := 0) (Nc := 1) C (m_X5_raid hlt h hB) wv_X5_raid ml_L_31 rfl rfl rfl Nat.one_pos rfl rfl rfl rfl ⟨Nat.le_of_ble_eq_true rfl, Nat.le_of_ble_eq_true rfl⟩ (Nat.le_of_ble_eq_true rfl) ⟨Nat.le_of_ble_eq_true rfl, Nat.le_of_ble_eq_true rfl⟩ dL_raid_4 (fun _ => ?_) (fun E9 x9 => absurd (hx9.symm.trans x9) (by simp))
  refine hq_i2l C dL_raid_7 ?_
  refine hq_lasto C dL_raid_8 rfl ?_
  refine hq_goto (tgt := 18) C dL_raid_9 (by decide) ?_
  refine hq_iconst (y := 0) C dL_raid_18 (by decide) ?_
  exact hq_iretX C hr hlk dL_raid_19 rfl rfl rfl (Nat.le_of_ble_eq_true rfl) (Nat.le_of_ble_eq_true rfl)
set_option maxHeartbeats 4000000 in
set_option maxRecDepth 100000 in
theorem m_L_raid_eI {l : Launch} {D : va_G} {b0 : Nat} {I : MI} {J : MJ} {P : MI} {N : MJ} {o : Int64} (hlt : l.stackTraces = false) {x : Int32} {nb no nc : Nat} {B : Int} (h : hw_ci I J nb no nc B) (hB : B + 3092376453120 ≤ 4611686018427387904) (hx9 : e_raid I x = some eI) : hL l yL_raid wL_raid rL_raid D b0 [.ref (hw_ad b0 0 0), .int x, .ref (hw_ad b0 59 0)] I J P N o 1 I J o := by
  refine hw_MHof (by decide) [(0, .ref _), (1, .int _), (2, .ref _)] rfl (Nat.le_of_ble_eq_true rfl) ?_
  intro p e s m args below meth c C hr hlk hT
  refine hq_aload_n (q := 2) C dL_raid_0 rfl rfl ?_
  refine hq_iconst (y := 0) C dL_raid_1 (by decide) ?_
  refine hq_aload_n (q := 0) C dL_raid_2 rfl rfl ?_
  refine hq_iload_n (q := 1) C dL_raid_3 rfl rfl ?_
  refine hq_cVXr (As := [.int _]) (rm := rX5_raid) (f := 0) (Nc := 1) C (m_X5_raid hlt h hB) wv_X5_raid ml_L_31 rfl rfl rfl Nat.one_pos rfl rfl rfl rfl ⟨Nat.le_of_ble_eq_true rfl, Nat.le_of_ble_eq_true rfl⟩ (Nat.le_of_ble_eq_true rfl) ⟨Nat.le_of_ble_eq_true rfl, Nat.le_of_ble_eq_true rfl⟩ dL_raid_4 (fun n9 => absurd (n9.symm.trans hx9) (by simp)) (fun E9 x9 => ?_)
  cases hx9.symm.trans x9
  refine hq_catch (E := eI) (name := eI) C hT (tableOf []) ⟨0, 9, 12, 13⟩ (tableOf [(0, 9, 15, 17)]) rfl (fun z hz => by cases hz) rfl (by decide) L_13 C.2.2.2.2.2.2.1.2.1.1 (fun q9 => ?_)
  refine hq_astore_n (L' := [(3, .ref _), (0, .ref _), (1, .int _), (2, .ref _)]) C dL_raid_12 rfl (by decide) rfl ?_
  refine hq_iconst (y := 1) C dL_raid_13 (by decide) ?_
  exact hq_iretX C hr hlk dL_raid_14 rfl rfl rfl (Nat.le_of_ble_eq_true rfl) (Nat.le_of_ble_eq_true rfl)
set_option maxHeartbeats 4000000 in
set_option maxRecDepth 100000 in
theorem m_L_raid_eS {l : Launch} {D : va_G} {b0 : Nat} {I : MI} {J : MJ} {P : MI} {N : MJ} {o : Int64} (hlt : l.stackTraces = false) {x : Int32} {nb no nc : Nat} {B : Int} (h : hw_ci I J nb no nc B) (hB : B + 3092376453120 ≤ 4611686018427387904) (hx9 : e_raid I x = some eS) : hL l yL_raid wL_raid rL_raid D b0 [.ref (hw_ad b0 0 0), .int x, .ref (hw_ad b0 59 0)] I J P N o 2 I J o := by
  refine hw_MHof (by decide) [(0, .ref _), (1, .int _), (2, .ref _)] rfl (Nat.le_of_ble_eq_true rfl) ?_
  intro p e s m args below meth c C hr hlk hT
  refine hq_aload_n (q := 2) C dL_raid_0 rfl rfl ?_
  refine hq_iconst (y := 0) C dL_raid_1 (by decide) ?_
  refine hq_aload_n (q := 0) C dL_raid_2 rfl rfl ?_
  refine hq_iload_n (q := 1) C dL_raid_3 rfl rfl ?_
  refine hq_cVXr (As := [.int _]) (rm := rX5_raid) (f := 0) (Nc := 1) C (m_X5_raid hlt h hB) wv_X5_raid ml_L_31 rfl rfl rfl Nat.one_pos rfl rfl rfl rfl ⟨Nat.le_of_ble_eq_true rfl, Nat.le_of_ble_eq_true rfl⟩ (Nat.le_of_ble_eq_true rfl) ⟨Nat.le_of_ble_eq_true rfl, Nat.le_of_ble_eq_true rfl⟩ dL_raid_4 (fun n9 => absurd (n9.symm.trans hx9) (by simp)) (fun E9 x9 => ?_)
  cases hx9.symm.trans x9
  refine hq_catch (E := eS) (name := eS) C hT (tableOf [(0, 9, 12, 13)]) ⟨0, 9, 15, 17⟩ (tableOf []) rfl (fun z hz => by
      rcases List.mem_cons.mp hz with h9 | h9
      · rw [h9]; exact Or.inr ⟨by decide, eI, L_13, C.2.2.2.2.2.2.1.2.2.1.2.1⟩
      · cases h9) rfl (by decide) L_17 C.2.2.2.2.2.2.1.2.1.2.2 (fun q9 => ?_)
  refine hq_astore_n (L' := [(3, .ref _), (0, .ref _), (1, .int _), (2, .ref _)]) C dL_raid_15 rfl (by decide) rfl ?_
  refine hq_iconst (y := 2) C dL_raid_16 (by decide) ?_
  exact hq_iretX C hr hlk dL_raid_17 rfl rfl rfl (Nat.le_of_ble_eq_true rfl) (Nat.le_of_ble_eq_true rfl)
abbrev wL_order : Cond := .codeWith yL_order cL_order 8 (some .int) [(0, 16, 19, 13), (0, 16, 23, 15), (0, 16, 27, 17)]
theorem ws_L_order : hw_WS yL_order wL_order 7 := ⟨⟨hw_in 584 (by decide +kernel) rfl, hw_in 583 (by decide +kernel) rfl, hw_in 57 (by decide +kernel) rfl⟩, by decide +kernel⟩
set_option maxHeartbeats 4000000 in
set_option maxRecDepth 100000 in
theorem m_L_order_n {l : Launch} {D : va_G} {b0 : Nat} {I : MI} {J : MJ} {P : MI} {N : MJ} {o : Int64} (hlt : l.stackTraces = false) {x y z w v : Int32} {nb no nc : Nat} {B : Int} (h : hw_ci I J nb no nc B) (hfr : hw_fr I no nc) (hB : B ≤ 4611686018427387904) (hx9 : e_order I J x y z w v = none) : hL l yL_order wL_order rL_order D b0 [.ref (hw_ad b0 0 0), .int x, .int y, .int z, .int w, .int v, .ref (hw_ad b0 59 0)] I J P N o 0 (i2_order (sp_fw I J (tn x) (tn y) z).2 x z v no) (j_order (sp_fw I J (tn x) (tn y) z).2 J x z v no) (nI no).toInt64 := by
  refine hw_MHof (by decide) [(0, .ref _), (1, .int _), (2, .int _), (3, .int _), (4, .int _), (5, .int _), (6, .ref _)] rfl (Nat.le_of_ble_eq_true rfl) ?_
  intro p e s m args below meth c C hr hlk hT
  refine hq_aload (q := 6) C dL_order_0 rfl ?_
  refine hq_iconst (y := 0) C dL_order_2 (by decide) ?_
  refine hq_aload_n (q := 0) C dL_order_3 rfl rfl ?_
  refine hq_iload_n (q := 1) C dL_order_4 rfl rfl ?_
  refine hq_iload_n (q := 2) C dL_order_5 rfl rfl ?_
  refine hq_iload_n (q := 3) C dL_order_6 rfl rfl ?_
  refine hq_iload (q := 4) C dL_order_7 rfl ?_
  refine hq_iload (q := 5) C dL_order_9 rfl ?_
  refine hq_cVXer (As := [.int _, .int _, .int _, .int _, .int _]) (rm := rX5_order) (f := 0) (Nc := 1) C (m_X5_order hlt h hfr hB) wv_X5_order ml_L_34 rfl rfl rfl Nat.one_pos rfl rfl rfl rfl ⟨Nat.le_of_ble_eq_true rfl, Nat.le_of_ble_eq_true rfl⟩ (Nat.le_of_ble_eq_true rfl) ⟨Nat.le_of_ble_eq_true rfl, Nat.le_of_ble_eq_true rfl⟩ dL_order_11 (fun _ => ?_) (fun E9 x9 => absurd (hx9.symm.trans x9) (by simp))
  refine hq_i2l C dL_order_14 ?_
  refine hq_lasto C dL_order_15 rfl ?_
  refine hq_goto (tgt := 31) C dL_order_16 (by decide) ?_
  refine hq_iconst (y := 0) C dL_order_31 (by decide) ?_
  exact hq_iretX C hr hlk dL_order_32 rfl rfl rfl (Nat.le_of_ble_eq_true rfl) (Nat.le_of_ble_eq_true rfl)
set_option maxHeartbeats 4000000 in
set_option maxRecDepth 100000 in
theorem m_L_order_eI {l : Launch} {D : va_G} {b0 : Nat} {I : MI} {J : MJ} {P : MI} {N : MJ} {o : Int64} (hlt : l.stackTraces = false) {x y z w v : Int32} {nb no nc : Nat} {B : Int} (h : hw_ci I J nb no nc B) (hfr : hw_fr I no nc) (hB : B ≤ 4611686018427387904) (hx9 : e_order I J x y z w v = some eI) : hL l yL_order wL_order rL_order D b0 [.ref (hw_ad b0 0 0), .int x, .int y, .int z, .int w, .int v, .ref (hw_ad b0 59 0)] I J P N o 1 (x_order I J x y z w v) J o := by
  refine hw_MHof (by decide) [(0, .ref _), (1, .int _), (2, .int _), (3, .int _), (4, .int _), (5, .int _), (6, .ref _)] rfl (Nat.le_of_ble_eq_true rfl) ?_
  intro p e s m args below meth c C hr hlk hT
  refine hq_aload (q := 6) C dL_order_0 rfl ?_
  refine hq_iconst (y := 0) C dL_order_2 (by decide) ?_
  refine hq_aload_n (q := 0) C dL_order_3 rfl rfl ?_
  refine hq_iload_n (q := 1) C dL_order_4 rfl rfl ?_
  refine hq_iload_n (q := 2) C dL_order_5 rfl rfl ?_
  refine hq_iload_n (q := 3) C dL_order_6 rfl rfl ?_
  refine hq_iload (q := 4) C dL_order_7 rfl ?_
  refine hq_iload (q := 5) C dL_order_9 rfl ?_
  refine hq_cVXer (As := [.int _, .int _, .int _, .int _, .int _]) (rm := rX5_order) (f := 0) (Nc := 1) C (m_X5_order hlt h hfr hB) wv_X5_order ml_L_34 rfl rfl rfl Nat.one_pos rfl rfl rfl rfl ⟨Nat.le_of_ble_eq_true rfl, Nat.le_of_ble_eq_true rfl⟩ (Nat.le_of_ble_eq_true rfl) ⟨Nat.le_of_ble_eq_true rfl, Nat.le_of_ble_eq_true rfl⟩ dL_order_11 (fun n9 => absurd (n9.symm.trans hx9) (by simp)) (fun E9 x9 => ?_)
  cases hx9.symm.trans x9
  refine hq_catch (E := eI) (name := eI) C hT (tableOf []) ⟨0, 16, 19, 13⟩ (tableOf [(0, 16, 23, 15), (0, 16, 27, 17)]) rfl (fun z hz => by cases hz) rfl (by decide) L_13 C.2.2.2.2.2.2.1.2.1.1 (fun q9 => ?_)
  refine hq_astore (L' := [(7, .ref _), (0, .ref _), (1, .int _), (2, .int _), (3, .int _), (4, .int _), (5, .int _), (6, .ref _)]) C dL_order_19 (by decide) rfl ?_
  refine hq_iconst (y := 1) C dL_order_21 (by decide) ?_
  exact hq_iretX C hr hlk dL_order_22 rfl rfl rfl (Nat.le_of_ble_eq_true rfl) (Nat.le_of_ble_eq_true rfl)
set_option maxHeartbeats 4000000 in
set_option maxRecDepth 100000 in
theorem m_L_order_eA {l : Launch} {D : va_G} {b0 : Nat} {I : MI} {J : MJ} {P : MI} {N : MJ} {o : Int64} (hlt : l.stackTraces = false) {x y z w v : Int32} {nb no nc : Nat} {B : Int} (h : hw_ci I J nb no nc B) (hfr : hw_fr I no nc) (hB : B ≤ 4611686018427387904) (hx9 : e_order I J x y z w v = some eA) : hL l yL_order wL_order rL_order D b0 [.ref (hw_ad b0 0 0), .int x, .int y, .int z, .int w, .int v, .ref (hw_ad b0 59 0)] I J P N o 2 (x_order I J x y z w v) J o := by
  refine hw_MHof (by decide) [(0, .ref _), (1, .int _), (2, .int _), (3, .int _), (4, .int _), (5, .int _), (6, .ref _)] rfl (Nat.le_of_ble_eq_true rfl) ?_
  intro p e s m args below meth c C hr hlk hT
  refine hq_aload (q := 6) C dL_order_0 rfl ?_
  refine hq_iconst (y := 0) C dL_order_2 (by decide) ?_
  refine hq_aload_n (q := 0) C dL_order_3 rfl rfl ?_
  refine hq_iload_n (q := 1) C dL_order_4 rfl rfl ?_
  refine hq_iload_n (q := 2) C dL_order_5 rfl rfl ?_
  refine hq_iload_n (q := 3) C dL_order_6 rfl rfl ?_
  refine hq_iload (q := 4) C dL_order_7 rfl ?_
  refine hq_iload (q := 5) C dL_order_9 rfl ?_
  refine hq_cVXer (As := [.int _, .int _, .int _, .int _, .int _]) (rm := rX5_order) (f := 0) (Nc := 1) C (m_X5_order hlt h hfr hB) wv_X5_order ml_L_34 rfl rfl rfl Nat.one_pos rfl rfl rfl rfl ⟨Nat.le_of_ble_eq_true rfl, Nat.le_of_ble_eq_true rfl⟩ (Nat.le_of_ble_eq_true rfl) ⟨Nat.le_of_ble_eq_true rfl, Nat.le_of_ble_eq_true rfl⟩ dL_order_11 (fun n9 => absurd (n9.symm.trans hx9) (by simp)) (fun E9 x9 => ?_)
  cases hx9.symm.trans x9
  refine hq_catch (E := eA) (name := eA) C hT (tableOf [(0, 16, 19, 13)]) ⟨0, 16, 23, 15⟩ (tableOf [(0, 16, 27, 17)]) rfl (fun z hz => by
      rcases List.mem_cons.mp hz with h9 | h9
      · rw [h9]; exact Or.inr ⟨by decide, eI, L_13, C.2.2.2.2.2.2.1.2.2.1.1⟩
      · cases h9) rfl (by decide) L_15 C.2.2.2.2.2.2.1.2.1.2.1 (fun q9 => ?_)
  refine hq_astore (L' := [(7, .ref _), (0, .ref _), (1, .int _), (2, .int _), (3, .int _), (4, .int _), (5, .int _), (6, .ref _)]) C dL_order_23 (by decide) rfl ?_
  refine hq_iconst (y := 2) C dL_order_25 (by decide) ?_
  exact hq_iretX C hr hlk dL_order_26 rfl rfl rfl (Nat.le_of_ble_eq_true rfl) (Nat.le_of_ble_eq_true rfl)
set_option maxHeartbeats 4000000 in
set_option maxRecDepth 100000 in
theorem m_L_order_eS {l : Launch} {D : va_G} {b0 : Nat} {I : MI} {J : MJ} {P : MI} {N : MJ} {o : Int64} (hlt : l.stackTraces = false) {x y z w v : Int32} {nb no nc : Nat} {B : Int} (h : hw_ci I J nb no nc B) (hfr : hw_fr I no nc) (hB : B ≤ 4611686018427387904) (hx9 : e_order I J x y z w v = some eS) : hL l yL_order wL_order rL_order D b0 [.ref (hw_ad b0 0 0), .int x, .int y, .int z, .int w, .int v, .ref (hw_ad b0 59 0)] I J P N o 3 (x_order I J x y z w v) J o := by
  refine hw_MHof (by decide) [(0, .ref _), (1, .int _), (2, .int _), (3, .int _), (4, .int _), (5, .int _), (6, .ref _)] rfl (Nat.le_of_ble_eq_true rfl) ?_
  intro p e s m args below meth c C hr hlk hT
  refine hq_aload (q := 6) C dL_order_0 rfl ?_
  refine hq_iconst (y := 0) C dL_order_2 (by decide) ?_
  refine hq_aload_n (q := 0) C dL_order_3 rfl rfl ?_
  refine hq_iload_n (q := 1) C dL_order_4 rfl rfl ?_
  refine hq_iload_n (q := 2) C dL_order_5 rfl rfl ?_
  refine hq_iload_n (q := 3) C dL_order_6 rfl rfl ?_
  refine hq_iload (q := 4) C dL_order_7 rfl ?_
  refine hq_iload (q := 5) C dL_order_9 rfl ?_
  refine hq_cVXer (As := [.int _, .int _, .int _, .int _, .int _]) (rm := rX5_order) (f := 0) (Nc := 1) C (m_X5_order hlt h hfr hB) wv_X5_order ml_L_34 rfl rfl rfl Nat.one_pos rfl rfl rfl rfl ⟨Nat.le_of_ble_eq_true rfl, Nat.le_of_ble_eq_true rfl⟩ (Nat.le_of_ble_eq_true rfl) ⟨Nat.le_of_ble_eq_true rfl, Nat.le_of_ble_eq_true rfl⟩ dL_order_11 (fun n9 => absurd (n9.symm.trans hx9) (by simp)) (fun E9 x9 => ?_)
  cases hx9.symm.trans x9
  refine hq_catch (E := eS) (name := eS) C hT (tableOf [(0, 16, 19, 13), (0, 16, 23, 15)]) ⟨0, 16, 27, 17⟩ (tableOf []) rfl (fun z hz => by
      rcases List.mem_cons.mp hz with h9 | h9
      · rw [h9]; exact Or.inr ⟨by decide, eI, L_13, C.2.2.2.2.2.2.1.2.2.1.2.1⟩
      · rcases List.mem_cons.mp h9 with h8 | h8
        · rw [h8]; exact Or.inr ⟨by decide, eA, L_15, C.2.2.2.2.2.2.1.2.2.1.2.2⟩
        · cases h8) rfl (by decide) L_17 C.2.2.2.2.2.2.1.2.1.2.2 (fun q9 => ?_)
  refine hq_astore (L' := [(7, .ref _), (0, .ref _), (1, .int _), (2, .int _), (3, .int _), (4, .int _), (5, .int _), (6, .ref _)]) C dL_order_27 (by decide) rfl ?_
  refine hq_iconst (y := 3) C dL_order_29 (by decide) ?_
  exact hq_iretX C hr hlk dL_order_30 rfl rfl rfl (Nat.le_of_ble_eq_true rfl) (Nat.le_of_ble_eq_true rfl)
abbrev wL_fetch : Cond := .codeWith yL_fetch cL_fetch 5 (some .int) [(0, 10, 13, 13), (0, 10, 17, 15), (0, 10, 21, 17)]
theorem ws_L_fetch : hw_WS yL_fetch wL_fetch 4 := ⟨⟨hw_in 603 (by decide +kernel) rfl, hw_in 602 (by decide +kernel) rfl, hw_in 57 (by decide +kernel) rfl⟩, by decide +kernel⟩
set_option maxHeartbeats 4000000 in
set_option maxRecDepth 100000 in
theorem m_L_fetch_n {l : Launch} {D : va_G} {b0 : Nat} {I : MI} {J : MJ} {P : MI} {N : MJ} {o : Int64} (hlt : l.stackTraces = false) {x y : Int32} {nb no nc : Nat} {B : Int} (h : hw_ci I J nb no nc B) (hx9 : e_fetch I J x y = none) : hL l yL_fetch wL_fetch rL_fetch D b0 [.ref (hw_ad b0 0 0), .int x, .int y, .ref (hw_ad b0 59 0)] I J P N o 0 (s_fetch I J x y).2.1 (s_fetch I J x y).2.2 (s_fetch I J x y).1.toInt64 := by
  refine hw_MHof (by decide) [(0, .ref _), (1, .int _), (2, .int _), (3, .ref _)] rfl (Nat.le_of_ble_eq_true rfl) ?_
  intro p e s m args below meth c C hr hlk hT
  refine hq_aload_n (q := 3) C dL_fetch_0 rfl rfl ?_
  refine hq_iconst (y := 0) C dL_fetch_1 (by decide) ?_
  refine hq_aload_n (q := 0) C dL_fetch_2 rfl rfl ?_
  refine hq_iload_n (q := 1) C dL_fetch_3 rfl rfl ?_
  refine hq_iload_n (q := 2) C dL_fetch_4 rfl rfl ?_
  refine hq_cVXr (As := [.int _, .int _]) (rm := rX5_fetch) (f := 0) (Nc := 1) C (m_X5_fetch hlt h) wv_X5_fetch ml_L_38 rfl rfl rfl Nat.one_pos rfl rfl rfl rfl ⟨Nat.le_of_ble_eq_true rfl, Nat.le_of_ble_eq_true rfl⟩ (Nat.le_of_ble_eq_true rfl) ⟨Nat.le_of_ble_eq_true rfl, Nat.le_of_ble_eq_true rfl⟩ dL_fetch_5 (fun _ => ?_) (fun E9 x9 => absurd (hx9.symm.trans x9) (by simp))
  refine hq_i2l C dL_fetch_8 ?_
  refine hq_lasto C dL_fetch_9 rfl ?_
  refine hq_goto (tgt := 25) C dL_fetch_10 (by decide) ?_
  refine hq_iconst (y := 0) C dL_fetch_25 (by decide) ?_
  exact hq_iretX C hr hlk dL_fetch_26 rfl rfl rfl (Nat.le_of_ble_eq_true rfl) (Nat.le_of_ble_eq_true rfl)
set_option maxHeartbeats 4000000 in
set_option maxRecDepth 100000 in
theorem m_L_fetch_eI {l : Launch} {D : va_G} {b0 : Nat} {I : MI} {J : MJ} {P : MI} {N : MJ} {o : Int64} (hlt : l.stackTraces = false) {x y : Int32} {nb no nc : Nat} {B : Int} (h : hw_ci I J nb no nc B) (hx9 : e_fetch I J x y = some eI) : hL l yL_fetch wL_fetch rL_fetch D b0 [.ref (hw_ad b0 0 0), .int x, .int y, .ref (hw_ad b0 59 0)] I J P N o 1 I J o := by
  refine hw_MHof (by decide) [(0, .ref _), (1, .int _), (2, .int _), (3, .ref _)] rfl (Nat.le_of_ble_eq_true rfl) ?_
  intro p e s m args below meth c C hr hlk hT
  refine hq_aload_n (q := 3) C dL_fetch_0 rfl rfl ?_
  refine hq_iconst (y := 0) C dL_fetch_1 (by decide) ?_
  refine hq_aload_n (q := 0) C dL_fetch_2 rfl rfl ?_
  refine hq_iload_n (q := 1) C dL_fetch_3 rfl rfl ?_
  refine hq_iload_n (q := 2) C dL_fetch_4 rfl rfl ?_
  refine hq_cVXr (As := [.int _, .int _]) (rm := rX5_fetch) (f := 0) (Nc := 1) C (m_X5_fetch hlt h) wv_X5_fetch ml_L_38 rfl rfl rfl Nat.one_pos rfl rfl rfl rfl ⟨Nat.le_of_ble_eq_true rfl, Nat.le_of_ble_eq_true rfl⟩ (Nat.le_of_ble_eq_true rfl) ⟨Nat.le_of_ble_eq_true rfl, Nat.le_of_ble_eq_true rfl⟩ dL_fetch_5 (fun n9 => absurd (n9.symm.trans hx9) (by simp)) (fun E9 x9 => ?_)
  cases hx9.symm.trans x9
  refine hq_catch (E := eI) (name := eI) C hT (tableOf []) ⟨0, 10, 13, 13⟩ (tableOf [(0, 10, 17, 15), (0, 10, 21, 17)]) rfl (fun z hz => by cases hz) rfl (by decide) L_13 C.2.2.2.2.2.2.1.2.1.1 (fun q9 => ?_)
  refine hq_astore (L' := [(4, .ref _), (0, .ref _), (1, .int _), (2, .int _), (3, .ref _)]) C dL_fetch_13 (by decide) rfl ?_
  refine hq_iconst (y := 1) C dL_fetch_15 (by decide) ?_
  exact hq_iretX C hr hlk dL_fetch_16 rfl rfl rfl (Nat.le_of_ble_eq_true rfl) (Nat.le_of_ble_eq_true rfl)
set_option maxHeartbeats 4000000 in
set_option maxRecDepth 100000 in
theorem m_L_fetch_eA {l : Launch} {D : va_G} {b0 : Nat} {I : MI} {J : MJ} {P : MI} {N : MJ} {o : Int64} (hlt : l.stackTraces = false) {x y : Int32} {nb no nc : Nat} {B : Int} (h : hw_ci I J nb no nc B) (hx9 : e_fetch I J x y = some eA) : hL l yL_fetch wL_fetch rL_fetch D b0 [.ref (hw_ad b0 0 0), .int x, .int y, .ref (hw_ad b0 59 0)] I J P N o 2 I J o := by
  refine hw_MHof (by decide) [(0, .ref _), (1, .int _), (2, .int _), (3, .ref _)] rfl (Nat.le_of_ble_eq_true rfl) ?_
  intro p e s m args below meth c C hr hlk hT
  refine hq_aload_n (q := 3) C dL_fetch_0 rfl rfl ?_
  refine hq_iconst (y := 0) C dL_fetch_1 (by decide) ?_
  refine hq_aload_n (q := 0) C dL_fetch_2 rfl rfl ?_
  refine hq_iload_n (q := 1) C dL_fetch_3 rfl rfl ?_
  refine hq_iload_n (q := 2) C dL_fetch_4 rfl rfl ?_
  refine hq_cVXr (As := [.int _, .int _]) (rm := rX5_fetch) (f := 0) (Nc := 1) C (m_X5_fetch hlt h) wv_X5_fetch ml_L_38 rfl rfl rfl Nat.one_pos rfl rfl rfl rfl ⟨Nat.le_of_ble_eq_true rfl, Nat.le_of_ble_eq_true rfl⟩ (Nat.le_of_ble_eq_true rfl) ⟨Nat.le_of_ble_eq_true rfl, Nat.le_of_ble_eq_true rfl⟩ dL_fetch_5 (fun n9 => absurd (n9.symm.trans hx9) (by simp)) (fun E9 x9 => ?_)
  cases hx9.symm.trans x9
  refine hq_catch (E := eA) (name := eA) C hT (tableOf [(0, 10, 13, 13)]) ⟨0, 10, 17, 15⟩ (tableOf [(0, 10, 21, 17)]) rfl (fun z hz => by
      rcases List.mem_cons.mp hz with h9 | h9
      · rw [h9]; exact Or.inr ⟨by decide, eI, L_13, C.2.2.2.2.2.2.1.2.2.1.1⟩
      · cases h9) rfl (by decide) L_15 C.2.2.2.2.2.2.1.2.1.2.1 (fun q9 => ?_)
  refine hq_astore (L' := [(4, .ref _), (0, .ref _), (1, .int _), (2, .int _), (3, .ref _)]) C dL_fetch_17 (by decide) rfl ?_
  refine hq_iconst (y := 2) C dL_fetch_19 (by decide) ?_
  exact hq_iretX C hr hlk dL_fetch_20 rfl rfl rfl (Nat.le_of_ble_eq_true rfl) (Nat.le_of_ble_eq_true rfl)
set_option maxHeartbeats 4000000 in
set_option maxRecDepth 100000 in
theorem m_L_fetch_eS {l : Launch} {D : va_G} {b0 : Nat} {I : MI} {J : MJ} {P : MI} {N : MJ} {o : Int64} (hlt : l.stackTraces = false) {x y : Int32} {nb no nc : Nat} {B : Int} (h : hw_ci I J nb no nc B) (hx9 : e_fetch I J x y = some eS) : hL l yL_fetch wL_fetch rL_fetch D b0 [.ref (hw_ad b0 0 0), .int x, .int y, .ref (hw_ad b0 59 0)] I J P N o 3 I J o := by
  refine hw_MHof (by decide) [(0, .ref _), (1, .int _), (2, .int _), (3, .ref _)] rfl (Nat.le_of_ble_eq_true rfl) ?_
  intro p e s m args below meth c C hr hlk hT
  refine hq_aload_n (q := 3) C dL_fetch_0 rfl rfl ?_
  refine hq_iconst (y := 0) C dL_fetch_1 (by decide) ?_
  refine hq_aload_n (q := 0) C dL_fetch_2 rfl rfl ?_
  refine hq_iload_n (q := 1) C dL_fetch_3 rfl rfl ?_
  refine hq_iload_n (q := 2) C dL_fetch_4 rfl rfl ?_
  refine hq_cVXr (As := [.int _, .int _]) (rm := rX5_fetch) (f := 0) (Nc := 1) C (m_X5_fetch hlt h) wv_X5_fetch ml_L_38 rfl rfl rfl Nat.one_pos rfl rfl rfl rfl ⟨Nat.le_of_ble_eq_true rfl, Nat.le_of_ble_eq_true rfl⟩ (Nat.le_of_ble_eq_true rfl) ⟨Nat.le_of_ble_eq_true rfl, Nat.le_of_ble_eq_true rfl⟩ dL_fetch_5 (fun n9 => absurd (n9.symm.trans hx9) (by simp)) (fun E9 x9 => ?_)
  cases hx9.symm.trans x9
  refine hq_catch (E := eS) (name := eS) C hT (tableOf [(0, 10, 13, 13), (0, 10, 17, 15)]) ⟨0, 10, 21, 17⟩ (tableOf []) rfl (fun z hz => by
      rcases List.mem_cons.mp hz with h9 | h9
      · rw [h9]; exact Or.inr ⟨by decide, eI, L_13, C.2.2.2.2.2.2.1.2.2.1.2.1⟩
      · rcases List.mem_cons.mp h9 with h8 | h8
        · rw [h8]; exact Or.inr ⟨by decide, eA, L_15, C.2.2.2.2.2.2.1.2.2.1.2.2⟩
        · cases h8) rfl (by decide) L_17 C.2.2.2.2.2.2.1.2.1.2.2 (fun q9 => ?_)
  refine hq_astore (L' := [(4, .ref _), (0, .ref _), (1, .int _), (2, .int _), (3, .ref _)]) C dL_fetch_21 (by decide) rfl ?_
  refine hq_iconst (y := 3) C dL_fetch_23 (by decide) ?_
  exact hq_iretX C hr hlk dL_fetch_24 rfl rfl rfl (Nat.le_of_ble_eq_true rfl) (Nat.le_of_ble_eq_true rfl)
abbrev wL_pass : Cond := .codeWith yL_pass cL_pass 4 (some .int) [(0, 9, 12, 15)]
theorem ws_L_pass : hw_WS yL_pass wL_pass 3 := ⟨⟨hw_in 614 (by decide +kernel) rfl, hw_in 613 (by decide +kernel) rfl, hw_in 57 (by decide +kernel) rfl⟩, by decide +kernel⟩
set_option maxHeartbeats 4000000 in
set_option maxRecDepth 100000 in
theorem m_L_pass_n {l : Launch} {D : va_G} {b0 : Nat} {I : MI} {J : MJ} {P : MI} {N : MJ} {o : Int64} (hlt : l.stackTraces = false) {x : Int32} {nb no nc : Nat} {B : Int} (h : hw_ci I J nb no nc B) (hx9 : e_pass x = none) : hL l yL_pass wL_pass rL_pass D b0 [.ref (hw_ad b0 0 0), .int x, .ref (hw_ad b0 59 0)] I J P N o 0 (s_pass I J x nb no nc).1 (s_pass I J x nb no nc).2 ((s_pass I J x nb no nc).1 3 0).toInt64 := by
  refine hw_MHof (by decide) [(0, .ref _), (1, .int _), (2, .ref _)] rfl (Nat.le_of_ble_eq_true rfl) ?_
  intro p e s m args below meth c C hr hlk hT
  refine hq_aload_n (q := 2) C dL_pass_0 rfl rfl ?_
  refine hq_iconst (y := 0) C dL_pass_1 (by decide) ?_
  refine hq_aload_n (q := 0) C dL_pass_2 rfl rfl ?_
  refine hq_iload_n (q := 1) C dL_pass_3 rfl rfl ?_
  refine hq_cVXr (As := [.int _]) (rm := rX5_pass) (f := 0) (Nc := 1) C (m_X5_pass hlt h) wv_X5_pass ml_L_41 rfl rfl rfl Nat.one_pos rfl rfl rfl rfl ⟨Nat.le_of_ble_eq_true rfl, Nat.le_of_ble_eq_true rfl⟩ (Nat.le_of_ble_eq_true rfl) ⟨Nat.le_of_ble_eq_true rfl, Nat.le_of_ble_eq_true rfl⟩ dL_pass_4 (fun _ => ?_) (fun E9 x9 => absurd (hx9.symm.trans x9) (by simp))
  refine hq_i2l C dL_pass_7 ?_
  refine hq_lasto C dL_pass_8 rfl ?_
  refine hq_goto (tgt := 15) C dL_pass_9 (by decide) ?_
  refine hq_iconst (y := 0) C dL_pass_15 (by decide) ?_
  exact hq_iretX C hr hlk dL_pass_16 rfl rfl rfl (Nat.le_of_ble_eq_true rfl) (Nat.le_of_ble_eq_true rfl)
set_option maxHeartbeats 4000000 in
set_option maxRecDepth 100000 in
theorem m_L_pass_eA {l : Launch} {D : va_G} {b0 : Nat} {I : MI} {J : MJ} {P : MI} {N : MJ} {o : Int64} (hlt : l.stackTraces = false) {x : Int32} {nb no nc : Nat} {B : Int} (h : hw_ci I J nb no nc B) (hx9 : e_pass x = some eA) : hL l yL_pass wL_pass rL_pass D b0 [.ref (hw_ad b0 0 0), .int x, .ref (hw_ad b0 59 0)] I J P N o 1 I J o := by
  refine hw_MHof (by decide) [(0, .ref _), (1, .int _), (2, .ref _)] rfl (Nat.le_of_ble_eq_true rfl) ?_
  intro p e s m args below meth c C hr hlk hT
  refine hq_aload_n (q := 2) C dL_pass_0 rfl rfl ?_
  refine hq_iconst (y := 0) C dL_pass_1 (by decide) ?_
  refine hq_aload_n (q := 0) C dL_pass_2 rfl rfl ?_
  refine hq_iload_n (q := 1) C dL_pass_3 rfl rfl ?_
  refine hq_cVXr (As := [.int _]) (rm := rX5_pass) (f := 0) (Nc := 1) C (m_X5_pass hlt h) wv_X5_pass ml_L_41 rfl rfl rfl Nat.one_pos rfl rfl rfl rfl ⟨Nat.le_of_ble_eq_true rfl, Nat.le_of_ble_eq_true rfl⟩ (Nat.le_of_ble_eq_true rfl) ⟨Nat.le_of_ble_eq_true rfl, Nat.le_of_ble_eq_true rfl⟩ dL_pass_4 (fun n9 => absurd (n9.symm.trans hx9) (by simp)) (fun E9 x9 => ?_)
  cases hx9.symm.trans x9
  refine hq_catch (E := eA) (name := eA) C hT (tableOf []) ⟨0, 9, 12, 15⟩ (tableOf []) rfl (fun z hz => by cases hz) rfl (by decide) L_15 C.2.2.2.2.2.2.1.2.1.2.1 (fun q9 => ?_)
  refine hq_astore_n (L' := [(3, .ref _), (0, .ref _), (1, .int _), (2, .ref _)]) C dL_pass_12 rfl (by decide) rfl ?_
  refine hq_iconst (y := 1) C dL_pass_13 (by decide) ?_
  exact hq_iretX C hr hlk dL_pass_14 rfl rfl rfl (Nat.le_of_ble_eq_true rfl) (Nat.le_of_ble_eq_true rfl)
abbrev wL_pay : Cond := .codeWith yL_pay cL_pay 6 (some .int) [(0, 12, 15, 13), (0, 12, 19, 15), (0, 12, 23, 17)]
theorem ws_L_pay : hw_WS yL_pay wL_pay 5 := ⟨⟨hw_in 649 (by decide +kernel) rfl, hw_in 648 (by decide +kernel) rfl, hw_in 57 (by decide +kernel) rfl⟩, by decide +kernel⟩
set_option maxHeartbeats 4000000 in
set_option maxRecDepth 100000 in
theorem m_L_pay_n {l : Launch} {D : va_G} {b0 : Nat} {I : MI} {J : MJ} {P : MI} {N : MJ} {o : Int64} (hlt : l.stackTraces = false) {x y z : Int32} {nb no nc : Nat} {B : Int} (h : hw_ci I J nb no nc B) (hx9 : e_pay I J x y z = none) : hL l yL_pay wL_pay rL_pay D b0 [.ref (hw_ad b0 0 0), .int x, .int y, .int z, .ref (hw_ad b0 59 0)] I J P N o 0 I (j_pay J x y z) (j_pay J x y z 1 (12 * tn x + tn y)).toInt32.toInt64 := by
  refine hw_MHof (by decide) [(0, .ref _), (1, .int _), (2, .int _), (3, .int _), (4, .ref _)] rfl (Nat.le_of_ble_eq_true rfl) ?_
  intro p e s m args below meth c C hr hlk hT
  refine hq_aload (q := 4) C dL_pay_0 rfl ?_
  refine hq_iconst (y := 0) C dL_pay_2 (by decide) ?_
  refine hq_aload_n (q := 0) C dL_pay_3 rfl rfl ?_
  refine hq_iload_n (q := 1) C dL_pay_4 rfl rfl ?_
  refine hq_iload_n (q := 2) C dL_pay_5 rfl rfl ?_
  refine hq_iload_n (q := 3) C dL_pay_6 rfl rfl ?_
  refine hq_cVXr (As := [.int _, .int _, .int _]) (rm := rX5_pay) (f := 0) (Nc := 1) C (m_X5_pay hlt h) wv_X5_pay ml_L_44 rfl rfl rfl Nat.one_pos rfl rfl rfl rfl ⟨Nat.le_of_ble_eq_true rfl, Nat.le_of_ble_eq_true rfl⟩ (Nat.le_of_ble_eq_true rfl) ⟨Nat.le_of_ble_eq_true rfl, Nat.le_of_ble_eq_true rfl⟩ dL_pay_7 (fun _ => ?_) (fun E9 x9 => absurd (hx9.symm.trans x9) (by simp))
  refine hq_i2l C dL_pay_10 ?_
  refine hq_lasto C dL_pay_11 rfl ?_
  refine hq_goto (tgt := 27) C dL_pay_12 (by decide) ?_
  refine hq_iconst (y := 0) C dL_pay_27 (by decide) ?_
  exact hq_iretX C hr hlk dL_pay_28 rfl rfl rfl (Nat.le_of_ble_eq_true rfl) (Nat.le_of_ble_eq_true rfl)
set_option maxHeartbeats 4000000 in
set_option maxRecDepth 100000 in
theorem m_L_pay_eI {l : Launch} {D : va_G} {b0 : Nat} {I : MI} {J : MJ} {P : MI} {N : MJ} {o : Int64} (hlt : l.stackTraces = false) {x y z : Int32} {nb no nc : Nat} {B : Int} (h : hw_ci I J nb no nc B) (hx9 : e_pay I J x y z = some eI) : hL l yL_pay wL_pay rL_pay D b0 [.ref (hw_ad b0 0 0), .int x, .int y, .int z, .ref (hw_ad b0 59 0)] I J P N o 1 I J o := by
  refine hw_MHof (by decide) [(0, .ref _), (1, .int _), (2, .int _), (3, .int _), (4, .ref _)] rfl (Nat.le_of_ble_eq_true rfl) ?_
  intro p e s m args below meth c C hr hlk hT
  refine hq_aload (q := 4) C dL_pay_0 rfl ?_
  refine hq_iconst (y := 0) C dL_pay_2 (by decide) ?_
  refine hq_aload_n (q := 0) C dL_pay_3 rfl rfl ?_
  refine hq_iload_n (q := 1) C dL_pay_4 rfl rfl ?_
  refine hq_iload_n (q := 2) C dL_pay_5 rfl rfl ?_
  refine hq_iload_n (q := 3) C dL_pay_6 rfl rfl ?_
  refine hq_cVXr (As := [.int _, .int _, .int _]) (rm := rX5_pay) (f := 0) (Nc := 1) C (m_X5_pay hlt h) wv_X5_pay ml_L_44 rfl rfl rfl Nat.one_pos rfl rfl rfl rfl ⟨Nat.le_of_ble_eq_true rfl, Nat.le_of_ble_eq_true rfl⟩ (Nat.le_of_ble_eq_true rfl) ⟨Nat.le_of_ble_eq_true rfl, Nat.le_of_ble_eq_true rfl⟩ dL_pay_7 (fun n9 => absurd (n9.symm.trans hx9) (by simp)) (fun E9 x9 => ?_)
  cases hx9.symm.trans x9
  refine hq_catch (E := eI) (name := eI) C hT (tableOf []) ⟨0, 12, 15, 13⟩ (tableOf [(0, 12, 19, 15), (0, 12, 23, 17)]) rfl (fun z hz => by cases hz) rfl (by decide) L_13 C.2.2.2.2.2.2.1.2.1.1 (fun q9 => ?_)
  refine hq_astore (L' := [(5, .ref _), (0, .ref _), (1, .int _), (2, .int _), (3, .int _), (4, .ref _)]) C dL_pay_15 (by decide) rfl ?_
  refine hq_iconst (y := 1) C dL_pay_17 (by decide) ?_
  exact hq_iretX C hr hlk dL_pay_18 rfl rfl rfl (Nat.le_of_ble_eq_true rfl) (Nat.le_of_ble_eq_true rfl)
set_option maxHeartbeats 4000000 in
set_option maxRecDepth 100000 in
theorem m_L_pay_eA {l : Launch} {D : va_G} {b0 : Nat} {I : MI} {J : MJ} {P : MI} {N : MJ} {o : Int64} (hlt : l.stackTraces = false) {x y z : Int32} {nb no nc : Nat} {B : Int} (h : hw_ci I J nb no nc B) (hx9 : e_pay I J x y z = some eA) : hL l yL_pay wL_pay rL_pay D b0 [.ref (hw_ad b0 0 0), .int x, .int y, .int z, .ref (hw_ad b0 59 0)] I J P N o 2 I J o := by
  refine hw_MHof (by decide) [(0, .ref _), (1, .int _), (2, .int _), (3, .int _), (4, .ref _)] rfl (Nat.le_of_ble_eq_true rfl) ?_
  intro p e s m args below meth c C hr hlk hT
  refine hq_aload (q := 4) C dL_pay_0 rfl ?_
  refine hq_iconst (y := 0) C dL_pay_2 (by decide) ?_
  refine hq_aload_n (q := 0) C dL_pay_3 rfl rfl ?_
  refine hq_iload_n (q := 1) C dL_pay_4 rfl rfl ?_
  refine hq_iload_n (q := 2) C dL_pay_5 rfl rfl ?_
  refine hq_iload_n (q := 3) C dL_pay_6 rfl rfl ?_
  refine hq_cVXr (As := [.int _, .int _, .int _]) (rm := rX5_pay) (f := 0) (Nc := 1) C (m_X5_pay hlt h) wv_X5_pay ml_L_44 rfl rfl rfl Nat.one_pos rfl rfl rfl rfl ⟨Nat.le_of_ble_eq_true rfl, Nat.le_of_ble_eq_true rfl⟩ (Nat.le_of_ble_eq_true rfl) ⟨Nat.le_of_ble_eq_true rfl, Nat.le_of_ble_eq_true rfl⟩ dL_pay_7 (fun n9 => absurd (n9.symm.trans hx9) (by simp)) (fun E9 x9 => ?_)
  cases hx9.symm.trans x9
  refine hq_catch (E := eA) (name := eA) C hT (tableOf [(0, 12, 15, 13)]) ⟨0, 12, 19, 15⟩ (tableOf [(0, 12, 23, 17)]) rfl (fun z hz => by
      rcases List.mem_cons.mp hz with h9 | h9
      · rw [h9]; exact Or.inr ⟨by decide, eI, L_13, C.2.2.2.2.2.2.1.2.2.1.1⟩
      · cases h9) rfl (by decide) L_15 C.2.2.2.2.2.2.1.2.1.2.1 (fun q9 => ?_)
  refine hq_astore (L' := [(5, .ref _), (0, .ref _), (1, .int _), (2, .int _), (3, .int _), (4, .ref _)]) C dL_pay_19 (by decide) rfl ?_
  refine hq_iconst (y := 2) C dL_pay_21 (by decide) ?_
  exact hq_iretX C hr hlk dL_pay_22 rfl rfl rfl (Nat.le_of_ble_eq_true rfl) (Nat.le_of_ble_eq_true rfl)
set_option maxHeartbeats 4000000 in
set_option maxRecDepth 100000 in
theorem m_L_pay_eS {l : Launch} {D : va_G} {b0 : Nat} {I : MI} {J : MJ} {P : MI} {N : MJ} {o : Int64} (hlt : l.stackTraces = false) {x y z : Int32} {nb no nc : Nat} {B : Int} (h : hw_ci I J nb no nc B) (hx9 : e_pay I J x y z = some eS) : hL l yL_pay wL_pay rL_pay D b0 [.ref (hw_ad b0 0 0), .int x, .int y, .int z, .ref (hw_ad b0 59 0)] I J P N o 3 I J o := by
  refine hw_MHof (by decide) [(0, .ref _), (1, .int _), (2, .int _), (3, .int _), (4, .ref _)] rfl (Nat.le_of_ble_eq_true rfl) ?_
  intro p e s m args below meth c C hr hlk hT
  refine hq_aload (q := 4) C dL_pay_0 rfl ?_
  refine hq_iconst (y := 0) C dL_pay_2 (by decide) ?_
  refine hq_aload_n (q := 0) C dL_pay_3 rfl rfl ?_
  refine hq_iload_n (q := 1) C dL_pay_4 rfl rfl ?_
  refine hq_iload_n (q := 2) C dL_pay_5 rfl rfl ?_
  refine hq_iload_n (q := 3) C dL_pay_6 rfl rfl ?_
  refine hq_cVXr (As := [.int _, .int _, .int _]) (rm := rX5_pay) (f := 0) (Nc := 1) C (m_X5_pay hlt h) wv_X5_pay ml_L_44 rfl rfl rfl Nat.one_pos rfl rfl rfl rfl ⟨Nat.le_of_ble_eq_true rfl, Nat.le_of_ble_eq_true rfl⟩ (Nat.le_of_ble_eq_true rfl) ⟨Nat.le_of_ble_eq_true rfl, Nat.le_of_ble_eq_true rfl⟩ dL_pay_7 (fun n9 => absurd (n9.symm.trans hx9) (by simp)) (fun E9 x9 => ?_)
  cases hx9.symm.trans x9
  refine hq_catch (E := eS) (name := eS) C hT (tableOf [(0, 12, 15, 13), (0, 12, 19, 15)]) ⟨0, 12, 23, 17⟩ (tableOf []) rfl (fun z hz => by
      rcases List.mem_cons.mp hz with h9 | h9
      · rw [h9]; exact Or.inr ⟨by decide, eI, L_13, C.2.2.2.2.2.2.1.2.2.1.2.1⟩
      · rcases List.mem_cons.mp h9 with h8 | h8
        · rw [h8]; exact Or.inr ⟨by decide, eA, L_15, C.2.2.2.2.2.2.1.2.2.1.2.2⟩
        · cases h8) rfl (by decide) L_17 C.2.2.2.2.2.2.1.2.1.2.2 (fun q9 => ?_)
  refine hq_astore (L' := [(5, .ref _), (0, .ref _), (1, .int _), (2, .int _), (3, .int _), (4, .ref _)]) C dL_pay_23 (by decide) rfl ?_
  refine hq_iconst (y := 3) C dL_pay_25 (by decide) ?_
  exact hq_iretX C hr hlk dL_pay_26 rfl rfl rfl (Nat.le_of_ble_eq_true rfl) (Nat.le_of_ble_eq_true rfl)
abbrev wL_deliver : Cond := .codeWith yL_deliver cL_deliver 6 (some .int) [(0, 12, 15, 13), (0, 12, 19, 15), (0, 12, 23, 17)]
theorem ws_L_deliver : hw_WS yL_deliver wL_deliver 5 := ⟨⟨hw_in 656 (by decide +kernel) rfl, hw_in 655 (by decide +kernel) rfl, hw_in 57 (by decide +kernel) rfl⟩, by decide +kernel⟩
set_option maxHeartbeats 4000000 in
set_option maxRecDepth 100000 in
theorem m_L_deliver_n {l : Launch} {D : va_G} {b0 : Nat} {I : MI} {J : MJ} {P : MI} {N : MJ} {o : Int64} (hlt : l.stackTraces = false) {x y z : Int32} {nb no nc : Nat} {B : Int} (h : hw_ci I J nb no nc B) (hx9 : e_deliver I J x y z = none) : hL l yL_deliver wL_deliver rL_deliver D b0 [.ref (hw_ad b0 0 0), .int x, .int y, .int z, .ref (hw_ad b0 59 0)] I J P N o 0 I (j_deliver J x y z) (j_deliver J x y z 1 (12 * tn x + tn y)).toInt32.toInt64 := by
  refine hw_MHof (by decide) [(0, .ref _), (1, .int _), (2, .int _), (3, .int _), (4, .ref _)] rfl (Nat.le_of_ble_eq_true rfl) ?_
  intro p e s m args below meth c C hr hlk hT
  refine hq_aload (q := 4) C dL_deliver_0 rfl ?_
  refine hq_iconst (y := 0) C dL_deliver_2 (by decide) ?_
  refine hq_aload_n (q := 0) C dL_deliver_3 rfl rfl ?_
  refine hq_iload_n (q := 1) C dL_deliver_4 rfl rfl ?_
  refine hq_iload_n (q := 2) C dL_deliver_5 rfl rfl ?_
  refine hq_iload_n (q := 3) C dL_deliver_6 rfl rfl ?_
  refine hq_cVXr (As := [.int _, .int _, .int _]) (rm := rX5_deliver) (f := 0) (Nc := 1) C (m_X5_deliver hlt h) wv_X5_deliver ml_L_47 rfl rfl rfl Nat.one_pos rfl rfl rfl rfl ⟨Nat.le_of_ble_eq_true rfl, Nat.le_of_ble_eq_true rfl⟩ (Nat.le_of_ble_eq_true rfl) ⟨Nat.le_of_ble_eq_true rfl, Nat.le_of_ble_eq_true rfl⟩ dL_deliver_7 (fun _ => ?_) (fun E9 x9 => absurd (hx9.symm.trans x9) (by simp))
  refine hq_i2l C dL_deliver_10 ?_
  refine hq_lasto C dL_deliver_11 rfl ?_
  refine hq_goto (tgt := 27) C dL_deliver_12 (by decide) ?_
  refine hq_iconst (y := 0) C dL_deliver_27 (by decide) ?_
  exact hq_iretX C hr hlk dL_deliver_28 rfl rfl rfl (Nat.le_of_ble_eq_true rfl) (Nat.le_of_ble_eq_true rfl)
set_option maxHeartbeats 4000000 in
set_option maxRecDepth 100000 in
theorem m_L_deliver_eI {l : Launch} {D : va_G} {b0 : Nat} {I : MI} {J : MJ} {P : MI} {N : MJ} {o : Int64} (hlt : l.stackTraces = false) {x y z : Int32} {nb no nc : Nat} {B : Int} (h : hw_ci I J nb no nc B) (hx9 : e_deliver I J x y z = some eI) : hL l yL_deliver wL_deliver rL_deliver D b0 [.ref (hw_ad b0 0 0), .int x, .int y, .int z, .ref (hw_ad b0 59 0)] I J P N o 1 I J o := by
  refine hw_MHof (by decide) [(0, .ref _), (1, .int _), (2, .int _), (3, .int _), (4, .ref _)] rfl (Nat.le_of_ble_eq_true rfl) ?_
  intro p e s m args below meth c C hr hlk hT
  refine hq_aload (q := 4) C dL_deliver_0 rfl ?_
  refine hq_iconst (y := 0) C dL_deliver_2 (by decide) ?_
  refine hq_aload_n (q := 0) C dL_deliver_3 rfl rfl ?_
  refine hq_iload_n (q := 1) C dL_deliver_4 rfl rfl ?_
  refine hq_iload_n (q := 2) C dL_deliver_5 rfl rfl ?_
  refine hq_iload_n (q := 3) C dL_deliver_6 rfl rfl ?_
  refine hq_cVXr (As := [.int _, .int _, .int _]) (rm := rX5_deliver) (f := 0) (Nc := 1) C (m_X5_deliver hlt h) wv_X5_deliver ml_L_47 rfl rfl rfl Nat.one_pos rfl rfl rfl rfl ⟨Nat.le_of_ble_eq_true rfl, Nat.le_of_ble_eq_true rfl⟩ (Nat.le_of_ble_eq_true rfl) ⟨Nat.le_of_ble_eq_true rfl, Nat.le_of_ble_eq_true rfl⟩ dL_deliver_7 (fun n9 => absurd (n9.symm.trans hx9) (by simp)) (fun E9 x9 => ?_)
  cases hx9.symm.trans x9
  refine hq_catch (E := eI) (name := eI) C hT (tableOf []) ⟨0, 12, 15, 13⟩ (tableOf [(0, 12, 19, 15), (0, 12, 23, 17)]) rfl (fun z hz => by cases hz) rfl (by decide) L_13 C.2.2.2.2.2.2.1.2.1.1 (fun q9 => ?_)
  refine hq_astore (L' := [(5, .ref _), (0, .ref _), (1, .int _), (2, .int _), (3, .int _), (4, .ref _)]) C dL_deliver_15 (by decide) rfl ?_
  refine hq_iconst (y := 1) C dL_deliver_17 (by decide) ?_
  exact hq_iretX C hr hlk dL_deliver_18 rfl rfl rfl (Nat.le_of_ble_eq_true rfl) (Nat.le_of_ble_eq_true rfl)
set_option maxHeartbeats 4000000 in
set_option maxRecDepth 100000 in
theorem m_L_deliver_eA {l : Launch} {D : va_G} {b0 : Nat} {I : MI} {J : MJ} {P : MI} {N : MJ} {o : Int64} (hlt : l.stackTraces = false) {x y z : Int32} {nb no nc : Nat} {B : Int} (h : hw_ci I J nb no nc B) (hx9 : e_deliver I J x y z = some eA) : hL l yL_deliver wL_deliver rL_deliver D b0 [.ref (hw_ad b0 0 0), .int x, .int y, .int z, .ref (hw_ad b0 59 0)] I J P N o 2 I J o := by
  refine hw_MHof (by decide) [(0, .ref _), (1, .int _), (2, .int _), (3, .int _), (4, .ref _)] rfl (Nat.le_of_ble_eq_true rfl) ?_
  intro p e s m args below meth c C hr hlk hT
  refine hq_aload (q := 4) C dL_deliver_0 rfl ?_
  refine hq_iconst (y := 0) C dL_deliver_2 (by decide) ?_
  refine hq_aload_n (q := 0) C dL_deliver_3 rfl rfl ?_
  refine hq_iload_n (q := 1) C dL_deliver_4 rfl rfl ?_
  refine hq_iload_n (q := 2) C dL_deliver_5 rfl rfl ?_
  refine hq_iload_n (q := 3) C dL_deliver_6 rfl rfl ?_
  refine hq_cVXr (As := [.int _, .int _, .int _]) (rm := rX5_deliver) (f := 0) (Nc := 1) C (m_X5_deliver hlt h) wv_X5_deliver ml_L_47 rfl rfl rfl Nat.one_pos rfl rfl rfl rfl ⟨Nat.le_of_ble_eq_true rfl, Nat.le_of_ble_eq_true rfl⟩ (Nat.le_of_ble_eq_true rfl) ⟨Nat.le_of_ble_eq_true rfl, Nat.le_of_ble_eq_true rfl⟩ dL_deliver_7 (fun n9 => absurd (n9.symm.trans hx9) (by simp)) (fun E9 x9 => ?_)
  cases hx9.symm.trans x9
  refine hq_catch (E := eA) (name := eA) C hT (tableOf [(0, 12, 15, 13)]) ⟨0, 12, 19, 15⟩ (tableOf [(0, 12, 23, 17)]) rfl (fun z hz => by
      rcases List.mem_cons.mp hz with h9 | h9
      · rw [h9]; exact Or.inr ⟨by decide, eI, L_13, C.2.2.2.2.2.2.1.2.2.1.1⟩
      · cases h9) rfl (by decide) L_15 C.2.2.2.2.2.2.1.2.1.2.1 (fun q9 => ?_)
  refine hq_astore (L' := [(5, .ref _), (0, .ref _), (1, .int _), (2, .int _), (3, .int _), (4, .ref _)]) C dL_deliver_19 (by decide) rfl ?_
  refine hq_iconst (y := 2) C dL_deliver_21 (by decide) ?_
  exact hq_iretX C hr hlk dL_deliver_22 rfl rfl rfl (Nat.le_of_ble_eq_true rfl) (Nat.le_of_ble_eq_true rfl)
set_option maxHeartbeats 4000000 in
set_option maxRecDepth 100000 in
theorem m_L_deliver_eS {l : Launch} {D : va_G} {b0 : Nat} {I : MI} {J : MJ} {P : MI} {N : MJ} {o : Int64} (hlt : l.stackTraces = false) {x y z : Int32} {nb no nc : Nat} {B : Int} (h : hw_ci I J nb no nc B) (hx9 : e_deliver I J x y z = some eS) : hL l yL_deliver wL_deliver rL_deliver D b0 [.ref (hw_ad b0 0 0), .int x, .int y, .int z, .ref (hw_ad b0 59 0)] I J P N o 3 I J o := by
  refine hw_MHof (by decide) [(0, .ref _), (1, .int _), (2, .int _), (3, .int _), (4, .ref _)] rfl (Nat.le_of_ble_eq_true rfl) ?_
  intro p e s m args below meth c C hr hlk hT
  refine hq_aload (q := 4) C dL_deliver_0 rfl ?_
  refine hq_iconst (y := 0) C dL_deliver_2 (by decide) ?_
  refine hq_aload_n (q := 0) C dL_deliver_3 rfl rfl ?_
  refine hq_iload_n (q := 1) C dL_deliver_4 rfl rfl ?_
  refine hq_iload_n (q := 2) C dL_deliver_5 rfl rfl ?_
  refine hq_iload_n (q := 3) C dL_deliver_6 rfl rfl ?_
  refine hq_cVXr (As := [.int _, .int _, .int _]) (rm := rX5_deliver) (f := 0) (Nc := 1) C (m_X5_deliver hlt h) wv_X5_deliver ml_L_47 rfl rfl rfl Nat.one_pos rfl rfl rfl rfl ⟨Nat.le_of_ble_eq_true rfl, Nat.le_of_ble_eq_true rfl⟩ (Nat.le_of_ble_eq_true rfl) ⟨Nat.le_of_ble_eq_true rfl, Nat.le_of_ble_eq_true rfl⟩ dL_deliver_7 (fun n9 => absurd (n9.symm.trans hx9) (by simp)) (fun E9 x9 => ?_)
  cases hx9.symm.trans x9
  refine hq_catch (E := eS) (name := eS) C hT (tableOf [(0, 12, 15, 13), (0, 12, 19, 15)]) ⟨0, 12, 23, 17⟩ (tableOf []) rfl (fun z hz => by
      rcases List.mem_cons.mp hz with h9 | h9
      · rw [h9]; exact Or.inr ⟨by decide, eI, L_13, C.2.2.2.2.2.2.1.2.2.1.2.1⟩
      · rcases List.mem_cons.mp h9 with h8 | h8
        · rw [h8]; exact Or.inr ⟨by decide, eA, L_15, C.2.2.2.2.2.2.1.2.2.1.2.2⟩
        · cases h8) rfl (by decide) L_17 C.2.2.2.2.2.2.1.2.1.2.2 (fun q9 => ?_)
  refine hq_astore (L' := [(5, .ref _), (0, .ref _), (1, .int _), (2, .int _), (3, .int _), (4, .ref _)]) C dL_deliver_23 (by decide) rfl ?_
  refine hq_iconst (y := 3) C dL_deliver_25 (by decide) ?_
  exact hq_iretX C hr hlk dL_deliver_26 rfl rfl rfl (Nat.le_of_ble_eq_true rfl) (Nat.le_of_ble_eq_true rfl)
abbrev wL_courier : Cond := .codeWith yL_courier cL_courier 7 (some .int) [(0, 14, 17, 13), (0, 14, 21, 15), (0, 14, 25, 17)]
theorem ws_L_courier : hw_WS yL_courier wL_courier 6 := ⟨⟨hw_in 663 (by decide +kernel) rfl, hw_in 662 (by decide +kernel) rfl, hw_in 57 (by decide +kernel) rfl⟩, by decide +kernel⟩
set_option maxHeartbeats 4000000 in
set_option maxRecDepth 100000 in
theorem m_L_courier_n {l : Launch} {D : va_G} {b0 : Nat} {I : MI} {J : MJ} {P : MI} {N : MJ} {o : Int64} (hlt : l.stackTraces = false) {x y z w : Int32} {nb no nc : Nat} {B : Int} (h : hw_ci I J nb no nc B) (hx9 : e_courier I J x y z w = none) : hL l yL_courier wL_courier rL_courier D b0 [.ref (hw_ad b0 0 0), .int x, .int y, .int z, .int w, .ref (hw_ad b0 59 0)] I J P N o 0 (i_courier I x y z w nc) (uJ J 0 (tn x) (J 0 (tn x) - z.toInt64)) (I 2 0 + 1 - 1).toInt64 := by
  refine hw_MHof (by decide) [(0, .ref _), (1, .int _), (2, .int _), (3, .int _), (4, .int _), (5, .ref _)] rfl (Nat.le_of_ble_eq_true rfl) ?_
  intro p e s m args below meth c C hr hlk hT
  refine hq_aload (q := 5) C dL_courier_0 rfl ?_
  refine hq_iconst (y := 0) C dL_courier_2 (by decide) ?_
  refine hq_aload_n (q := 0) C dL_courier_3 rfl rfl ?_
  refine hq_iload_n (q := 1) C dL_courier_4 rfl rfl ?_
  refine hq_iload_n (q := 2) C dL_courier_5 rfl rfl ?_
  refine hq_iload_n (q := 3) C dL_courier_6 rfl rfl ?_
  refine hq_iload (q := 4) C dL_courier_7 rfl ?_
  refine hq_cVXr (As := [.int _, .int _, .int _, .int _]) (rm := rX5_courier) (f := 0) (Nc := 1) C (m_X5_courier hlt h) wv_X5_courier ml_L_50 rfl rfl rfl Nat.one_pos rfl rfl rfl rfl ⟨Nat.le_of_ble_eq_true rfl, Nat.le_of_ble_eq_true rfl⟩ (Nat.le_of_ble_eq_true rfl) ⟨Nat.le_of_ble_eq_true rfl, Nat.le_of_ble_eq_true rfl⟩ dL_courier_9 (fun _ => ?_) (fun E9 x9 => absurd (hx9.symm.trans x9) (by simp))
  refine hq_i2l C dL_courier_12 ?_
  refine hq_lasto C dL_courier_13 rfl ?_
  refine hq_goto (tgt := 29) C dL_courier_14 (by decide) ?_
  refine hq_iconst (y := 0) C dL_courier_29 (by decide) ?_
  exact hq_iretX C hr hlk dL_courier_30 rfl rfl rfl (Nat.le_of_ble_eq_true rfl) (Nat.le_of_ble_eq_true rfl)
set_option maxHeartbeats 4000000 in
set_option maxRecDepth 100000 in
theorem m_L_courier_eI {l : Launch} {D : va_G} {b0 : Nat} {I : MI} {J : MJ} {P : MI} {N : MJ} {o : Int64} (hlt : l.stackTraces = false) {x y z w : Int32} {nb no nc : Nat} {B : Int} (h : hw_ci I J nb no nc B) (hx9 : e_courier I J x y z w = some eI) : hL l yL_courier wL_courier rL_courier D b0 [.ref (hw_ad b0 0 0), .int x, .int y, .int z, .int w, .ref (hw_ad b0 59 0)] I J P N o 1 I J o := by
  refine hw_MHof (by decide) [(0, .ref _), (1, .int _), (2, .int _), (3, .int _), (4, .int _), (5, .ref _)] rfl (Nat.le_of_ble_eq_true rfl) ?_
  intro p e s m args below meth c C hr hlk hT
  refine hq_aload (q := 5) C dL_courier_0 rfl ?_
  refine hq_iconst (y := 0) C dL_courier_2 (by decide) ?_
  refine hq_aload_n (q := 0) C dL_courier_3 rfl rfl ?_
  refine hq_iload_n (q := 1) C dL_courier_4 rfl rfl ?_
  refine hq_iload_n (q := 2) C dL_courier_5 rfl rfl ?_
  refine hq_iload_n (q := 3) C dL_courier_6 rfl rfl ?_
  refine hq_iload (q := 4) C dL_courier_7 rfl ?_
  refine hq_cVXr (As := [.int _, .int _, .int _, .int _]) (rm := rX5_courier) (f := 0) (Nc := 1) C (m_X5_courier hlt h) wv_X5_courier ml_L_50 rfl rfl rfl Nat.one_pos rfl rfl rfl rfl ⟨Nat.le_of_ble_eq_true rfl, Nat.le_of_ble_eq_true rfl⟩ (Nat.le_of_ble_eq_true rfl) ⟨Nat.le_of_ble_eq_true rfl, Nat.le_of_ble_eq_true rfl⟩ dL_courier_9 (fun n9 => absurd (n9.symm.trans hx9) (by simp)) (fun E9 x9 => ?_)
  cases hx9.symm.trans x9
  refine hq_catch (E := eI) (name := eI) C hT (tableOf []) ⟨0, 14, 17, 13⟩ (tableOf [(0, 14, 21, 15), (0, 14, 25, 17)]) rfl (fun z hz => by cases hz) rfl (by decide) L_13 C.2.2.2.2.2.2.1.2.1.1 (fun q9 => ?_)
  refine hq_astore (L' := [(6, .ref _), (0, .ref _), (1, .int _), (2, .int _), (3, .int _), (4, .int _), (5, .ref _)]) C dL_courier_17 (by decide) rfl ?_
  refine hq_iconst (y := 1) C dL_courier_19 (by decide) ?_
  exact hq_iretX C hr hlk dL_courier_20 rfl rfl rfl (Nat.le_of_ble_eq_true rfl) (Nat.le_of_ble_eq_true rfl)
set_option maxHeartbeats 4000000 in
set_option maxRecDepth 100000 in
theorem m_L_courier_eA {l : Launch} {D : va_G} {b0 : Nat} {I : MI} {J : MJ} {P : MI} {N : MJ} {o : Int64} (hlt : l.stackTraces = false) {x y z w : Int32} {nb no nc : Nat} {B : Int} (h : hw_ci I J nb no nc B) (hx9 : e_courier I J x y z w = some eA) : hL l yL_courier wL_courier rL_courier D b0 [.ref (hw_ad b0 0 0), .int x, .int y, .int z, .int w, .ref (hw_ad b0 59 0)] I J P N o 2 I J o := by
  refine hw_MHof (by decide) [(0, .ref _), (1, .int _), (2, .int _), (3, .int _), (4, .int _), (5, .ref _)] rfl (Nat.le_of_ble_eq_true rfl) ?_
  intro p e s m args below meth c C hr hlk hT
  refine hq_aload (q := 5) C dL_courier_0 rfl ?_
  refine hq_iconst (y := 0) C dL_courier_2 (by decide) ?_
  refine hq_aload_n (q := 0) C dL_courier_3 rfl rfl ?_
  refine hq_iload_n (q := 1) C dL_courier_4 rfl rfl ?_
  refine hq_iload_n (q := 2) C dL_courier_5 rfl rfl ?_
  refine hq_iload_n (q := 3) C dL_courier_6 rfl rfl ?_
  refine hq_iload (q := 4) C dL_courier_7 rfl ?_
  refine hq_cVXr (As := [.int _, .int _, .int _, .int _]) (rm := rX5_courier) (f := 0) (Nc := 1) C (m_X5_courier hlt h) wv_X5_courier ml_L_50 rfl rfl rfl Nat.one_pos rfl rfl rfl rfl ⟨Nat.le_of_ble_eq_true rfl, Nat.le_of_ble_eq_true rfl⟩ (Nat.le_of_ble_eq_true rfl) ⟨Nat.le_of_ble_eq_true rfl, Nat.le_of_ble_eq_true rfl⟩ dL_courier_9 (fun n9 => absurd (n9.symm.trans hx9) (by simp)) (fun E9 x9 => ?_)
  cases hx9.symm.trans x9
  refine hq_catch (E := eA) (name := eA) C hT (tableOf [(0, 14, 17, 13)]) ⟨0, 14, 21, 15⟩ (tableOf [(0, 14, 25, 17)]) rfl (fun z hz => by
      rcases List.mem_cons.mp hz with h9 | h9
      · rw [h9]; exact Or.inr ⟨by decide, eI, L_13, C.2.2.2.2.2.2.1.2.2.1.1⟩
      · cases h9) rfl (by decide) L_15 C.2.2.2.2.2.2.1.2.1.2.1 (fun q9 => ?_)
  refine hq_astore (L' := [(6, .ref _), (0, .ref _), (1, .int _), (2, .int _), (3, .int _), (4, .int _), (5, .ref _)]) C dL_courier_21 (by decide) rfl ?_
  refine hq_iconst (y := 2) C dL_courier_23 (by decide) ?_
  exact hq_iretX C hr hlk dL_courier_24 rfl rfl rfl (Nat.le_of_ble_eq_true rfl) (Nat.le_of_ble_eq_true rfl)
set_option maxHeartbeats 4000000 in
set_option maxRecDepth 100000 in
theorem m_L_courier_eS {l : Launch} {D : va_G} {b0 : Nat} {I : MI} {J : MJ} {P : MI} {N : MJ} {o : Int64} (hlt : l.stackTraces = false) {x y z w : Int32} {nb no nc : Nat} {B : Int} (h : hw_ci I J nb no nc B) (hx9 : e_courier I J x y z w = some eS) : hL l yL_courier wL_courier rL_courier D b0 [.ref (hw_ad b0 0 0), .int x, .int y, .int z, .int w, .ref (hw_ad b0 59 0)] I J P N o 3 I J o := by
  refine hw_MHof (by decide) [(0, .ref _), (1, .int _), (2, .int _), (3, .int _), (4, .int _), (5, .ref _)] rfl (Nat.le_of_ble_eq_true rfl) ?_
  intro p e s m args below meth c C hr hlk hT
  refine hq_aload (q := 5) C dL_courier_0 rfl ?_
  refine hq_iconst (y := 0) C dL_courier_2 (by decide) ?_
  refine hq_aload_n (q := 0) C dL_courier_3 rfl rfl ?_
  refine hq_iload_n (q := 1) C dL_courier_4 rfl rfl ?_
  refine hq_iload_n (q := 2) C dL_courier_5 rfl rfl ?_
  refine hq_iload_n (q := 3) C dL_courier_6 rfl rfl ?_
  refine hq_iload (q := 4) C dL_courier_7 rfl ?_
  refine hq_cVXr (As := [.int _, .int _, .int _, .int _]) (rm := rX5_courier) (f := 0) (Nc := 1) C (m_X5_courier hlt h) wv_X5_courier ml_L_50 rfl rfl rfl Nat.one_pos rfl rfl rfl rfl ⟨Nat.le_of_ble_eq_true rfl, Nat.le_of_ble_eq_true rfl⟩ (Nat.le_of_ble_eq_true rfl) ⟨Nat.le_of_ble_eq_true rfl, Nat.le_of_ble_eq_true rfl⟩ dL_courier_9 (fun n9 => absurd (n9.symm.trans hx9) (by simp)) (fun E9 x9 => ?_)
  cases hx9.symm.trans x9
  refine hq_catch (E := eS) (name := eS) C hT (tableOf [(0, 14, 17, 13), (0, 14, 21, 15)]) ⟨0, 14, 25, 17⟩ (tableOf []) rfl (fun z hz => by
      rcases List.mem_cons.mp hz with h9 | h9
      · rw [h9]; exact Or.inr ⟨by decide, eI, L_13, C.2.2.2.2.2.2.1.2.2.1.2.1⟩
      · rcases List.mem_cons.mp h9 with h8 | h8
        · rw [h8]; exact Or.inr ⟨by decide, eA, L_15, C.2.2.2.2.2.2.1.2.2.1.2.2⟩
        · cases h8) rfl (by decide) L_17 C.2.2.2.2.2.2.1.2.1.2.2 (fun q9 => ?_)
  refine hq_astore (L' := [(6, .ref _), (0, .ref _), (1, .int _), (2, .int _), (3, .int _), (4, .int _), (5, .ref _)]) C dL_courier_25 (by decide) rfl ?_
  refine hq_iconst (y := 3) C dL_courier_27 (by decide) ?_
  exact hq_iretX C hr hlk dL_courier_28 rfl rfl rfl (Nat.le_of_ble_eq_true rfl) (Nat.le_of_ble_eq_true rfl)
abbrev wL_rob : Cond := .codeWith yL_rob cL_rob 4 (some .int) [(0, 9, 12, 13), (0, 9, 15, 17)]
theorem ws_L_rob : hw_WS yL_rob wL_rob 3 := ⟨⟨hw_in 670 (by decide +kernel) rfl, hw_in 669 (by decide +kernel) rfl, hw_in 57 (by decide +kernel) rfl⟩, by decide +kernel⟩
set_option maxHeartbeats 4000000 in
set_option maxRecDepth 100000 in
theorem m_L_rob_n {l : Launch} {D : va_G} {b0 : Nat} {I : MI} {J : MJ} {P : MI} {N : MJ} {o : Int64} (hlt : l.stackTraces = false) {x : Int32} {nb no nc : Nat} {B : Int} (h : hw_ci I J nb no nc B) (hx9 : e_rob I x = none) : hL l yL_rob wL_rob rL_rob D b0 [.ref (hw_ad b0 0 0), .int x, .ref (hw_ad b0 59 0)] I J P N o 0 (i_rob I x) J (I 24 (tn x)).toInt64 := by
  refine hw_MHof (by decide) [(0, .ref _), (1, .int _), (2, .ref _)] rfl (Nat.le_of_ble_eq_true rfl) ?_
  intro p e s m args below meth c C hr hlk hT
  refine hq_aload_n (q := 2) C dL_rob_0 rfl rfl ?_
  refine hq_iconst (y := 0) C dL_rob_1 (by decide) ?_
  refine hq_aload_n (q := 0) C dL_rob_2 rfl rfl ?_
  refine hq_iload_n (q := 1) C dL_rob_3 rfl rfl ?_
  refine hq_cVXr (As := [.int _]) (rm := rX5_rob) (f := 0) (Nc := 1) C (m_X5_rob hlt h) wv_X5_rob ml_L_54 rfl rfl rfl Nat.one_pos rfl rfl rfl rfl ⟨Nat.le_of_ble_eq_true rfl, Nat.le_of_ble_eq_true rfl⟩ (Nat.le_of_ble_eq_true rfl) ⟨Nat.le_of_ble_eq_true rfl, Nat.le_of_ble_eq_true rfl⟩ dL_rob_4 (fun _ => ?_) (fun E9 x9 => absurd (hx9.symm.trans x9) (by simp))
  refine hq_i2l C dL_rob_7 ?_
  refine hq_lasto C dL_rob_8 rfl ?_
  refine hq_goto (tgt := 18) C dL_rob_9 (by decide) ?_
  refine hq_iconst (y := 0) C dL_rob_18 (by decide) ?_
  exact hq_iretX C hr hlk dL_rob_19 rfl rfl rfl (Nat.le_of_ble_eq_true rfl) (Nat.le_of_ble_eq_true rfl)
set_option maxHeartbeats 4000000 in
set_option maxRecDepth 100000 in
theorem m_L_rob_eI {l : Launch} {D : va_G} {b0 : Nat} {I : MI} {J : MJ} {P : MI} {N : MJ} {o : Int64} (hlt : l.stackTraces = false) {x : Int32} {nb no nc : Nat} {B : Int} (h : hw_ci I J nb no nc B) (hx9 : e_rob I x = some eI) : hL l yL_rob wL_rob rL_rob D b0 [.ref (hw_ad b0 0 0), .int x, .ref (hw_ad b0 59 0)] I J P N o 1 I J o := by
  refine hw_MHof (by decide) [(0, .ref _), (1, .int _), (2, .ref _)] rfl (Nat.le_of_ble_eq_true rfl) ?_
  intro p e s m args below meth c C hr hlk hT
  refine hq_aload_n (q := 2) C dL_rob_0 rfl rfl ?_
  refine hq_iconst (y := 0) C dL_rob_1 (by decide) ?_
  refine hq_aload_n (q := 0) C dL_rob_2 rfl rfl ?_
  refine hq_iload_n (q := 1) C dL_rob_3 rfl rfl ?_
  refine hq_cVXr (As := [.int _]) (rm := rX5_rob) (f := 0) (Nc := 1) C (m_X5_rob hlt h) wv_X5_rob ml_L_54 rfl rfl rfl Nat.one_pos rfl rfl rfl rfl ⟨Nat.le_of_ble_eq_true rfl, Nat.le_of_ble_eq_true rfl⟩ (Nat.le_of_ble_eq_true rfl) ⟨Nat.le_of_ble_eq_true rfl, Nat.le_of_ble_eq_true rfl⟩ dL_rob_4 (fun n9 => absurd (n9.symm.trans hx9) (by simp)) (fun E9 x9 => ?_)
  cases hx9.symm.trans x9
  refine hq_catch (E := eI) (name := eI) C hT (tableOf []) ⟨0, 9, 12, 13⟩ (tableOf [(0, 9, 15, 17)]) rfl (fun z hz => by cases hz) rfl (by decide) L_13 C.2.2.2.2.2.2.1.2.1.1 (fun q9 => ?_)
  refine hq_astore_n (L' := [(3, .ref _), (0, .ref _), (1, .int _), (2, .ref _)]) C dL_rob_12 rfl (by decide) rfl ?_
  refine hq_iconst (y := 1) C dL_rob_13 (by decide) ?_
  exact hq_iretX C hr hlk dL_rob_14 rfl rfl rfl (Nat.le_of_ble_eq_true rfl) (Nat.le_of_ble_eq_true rfl)
set_option maxHeartbeats 4000000 in
set_option maxRecDepth 100000 in
theorem m_L_rob_eS {l : Launch} {D : va_G} {b0 : Nat} {I : MI} {J : MJ} {P : MI} {N : MJ} {o : Int64} (hlt : l.stackTraces = false) {x : Int32} {nb no nc : Nat} {B : Int} (h : hw_ci I J nb no nc B) (hx9 : e_rob I x = some eS) : hL l yL_rob wL_rob rL_rob D b0 [.ref (hw_ad b0 0 0), .int x, .ref (hw_ad b0 59 0)] I J P N o 2 I J o := by
  refine hw_MHof (by decide) [(0, .ref _), (1, .int _), (2, .ref _)] rfl (Nat.le_of_ble_eq_true rfl) ?_
  intro p e s m args below meth c C hr hlk hT
  refine hq_aload_n (q := 2) C dL_rob_0 rfl rfl ?_
  refine hq_iconst (y := 0) C dL_rob_1 (by decide) ?_
  refine hq_aload_n (q := 0) C dL_rob_2 rfl rfl ?_
  refine hq_iload_n (q := 1) C dL_rob_3 rfl rfl ?_
  refine hq_cVXr (As := [.int _]) (rm := rX5_rob) (f := 0) (Nc := 1) C (m_X5_rob hlt h) wv_X5_rob ml_L_54 rfl rfl rfl Nat.one_pos rfl rfl rfl rfl ⟨Nat.le_of_ble_eq_true rfl, Nat.le_of_ble_eq_true rfl⟩ (Nat.le_of_ble_eq_true rfl) ⟨Nat.le_of_ble_eq_true rfl, Nat.le_of_ble_eq_true rfl⟩ dL_rob_4 (fun n9 => absurd (n9.symm.trans hx9) (by simp)) (fun E9 x9 => ?_)
  cases hx9.symm.trans x9
  refine hq_catch (E := eS) (name := eS) C hT (tableOf [(0, 9, 12, 13)]) ⟨0, 9, 15, 17⟩ (tableOf []) rfl (fun z hz => by
      rcases List.mem_cons.mp hz with h9 | h9
      · rw [h9]; exact Or.inr ⟨by decide, eI, L_13, C.2.2.2.2.2.2.1.2.2.1.2.1⟩
      · cases h9) rfl (by decide) L_17 C.2.2.2.2.2.2.1.2.1.2.2 (fun q9 => ?_)
  refine hq_astore_n (L' := [(3, .ref _), (0, .ref _), (1, .int _), (2, .ref _)]) C dL_rob_15 rfl (by decide) rfl ?_
  refine hq_iconst (y := 2) C dL_rob_16 (by decide) ?_
  exact hq_iretX C hr hlk dL_rob_17 rfl rfl rfl (Nat.le_of_ble_eq_true rfl) (Nat.le_of_ble_eq_true rfl)
abbrev wL_law : Cond := .codeWith yL_law cL_law 5 (some .int) [(0, 10, 13, 13), (0, 10, 17, 15)]
theorem ws_L_law : hw_WS yL_law wL_law 4 := ⟨⟨hw_in 677 (by decide +kernel) rfl, hw_in 676 (by decide +kernel) rfl, hw_in 57 (by decide +kernel) rfl⟩, by decide +kernel⟩
set_option maxHeartbeats 4000000 in
set_option maxRecDepth 100000 in
theorem m_L_law_n {l : Launch} {D : va_G} {b0 : Nat} {I : MI} {J : MJ} {P : MI} {N : MJ} {o : Int64} (hlt : l.stackTraces = false) {x y : Int32} (hx9 : e_law x y = none) : hL l yL_law wL_law rL_law D b0 [.ref (hw_ad b0 0 0), .int x, .int y, .ref (hw_ad b0 59 0)] I J P N o 0 (uI I 28 (tn x) y) J (I 29 (tn x)).toInt64 := by
  refine hw_MHof (by decide) [(0, .ref _), (1, .int _), (2, .int _), (3, .ref _)] rfl (Nat.le_of_ble_eq_true rfl) ?_
  intro p e s m args below meth c C hr hlk hT
  refine hq_aload_n (q := 3) C dL_law_0 rfl rfl ?_
  refine hq_iconst (y := 0) C dL_law_1 (by decide) ?_
  refine hq_aload_n (q := 0) C dL_law_2 rfl rfl ?_
  refine hq_iload_n (q := 1) C dL_law_3 rfl rfl ?_
  refine hq_iload_n (q := 2) C dL_law_4 rfl rfl ?_
  refine hq_cVXr (As := [.int _, .int _]) (rm := rX5_law) (f := 0) (Nc := 1) C (m_X5_law hlt) wv_X5_law ml_L_57 rfl rfl rfl Nat.one_pos rfl rfl rfl rfl ⟨Nat.le_of_ble_eq_true rfl, Nat.le_of_ble_eq_true rfl⟩ (Nat.le_of_ble_eq_true rfl) ⟨Nat.le_of_ble_eq_true rfl, Nat.le_of_ble_eq_true rfl⟩ dL_law_5 (fun _ => ?_) (fun E9 x9 => absurd (hx9.symm.trans x9) (by simp))
  refine hq_i2l C dL_law_8 ?_
  refine hq_lasto C dL_law_9 rfl ?_
  refine hq_goto (tgt := 21) C dL_law_10 (by decide) ?_
  refine hq_iconst (y := 0) C dL_law_21 (by decide) ?_
  exact hq_iretX C hr hlk dL_law_22 rfl rfl rfl (Nat.le_of_ble_eq_true rfl) (Nat.le_of_ble_eq_true rfl)
set_option maxHeartbeats 4000000 in
set_option maxRecDepth 100000 in
theorem m_L_law_eI {l : Launch} {D : va_G} {b0 : Nat} {I : MI} {J : MJ} {P : MI} {N : MJ} {o : Int64} (hlt : l.stackTraces = false) {x y : Int32} (hx9 : e_law x y = some eI) : hL l yL_law wL_law rL_law D b0 [.ref (hw_ad b0 0 0), .int x, .int y, .ref (hw_ad b0 59 0)] I J P N o 1 I J o := by
  refine hw_MHof (by decide) [(0, .ref _), (1, .int _), (2, .int _), (3, .ref _)] rfl (Nat.le_of_ble_eq_true rfl) ?_
  intro p e s m args below meth c C hr hlk hT
  refine hq_aload_n (q := 3) C dL_law_0 rfl rfl ?_
  refine hq_iconst (y := 0) C dL_law_1 (by decide) ?_
  refine hq_aload_n (q := 0) C dL_law_2 rfl rfl ?_
  refine hq_iload_n (q := 1) C dL_law_3 rfl rfl ?_
  refine hq_iload_n (q := 2) C dL_law_4 rfl rfl ?_
  refine hq_cVXr (As := [.int _, .int _]) (rm := rX5_law) (f := 0) (Nc := 1) C (m_X5_law hlt) wv_X5_law ml_L_57 rfl rfl rfl Nat.one_pos rfl rfl rfl rfl ⟨Nat.le_of_ble_eq_true rfl, Nat.le_of_ble_eq_true rfl⟩ (Nat.le_of_ble_eq_true rfl) ⟨Nat.le_of_ble_eq_true rfl, Nat.le_of_ble_eq_true rfl⟩ dL_law_5 (fun n9 => absurd (n9.symm.trans hx9) (by simp)) (fun E9 x9 => ?_)
  cases hx9.symm.trans x9
  refine hq_catch (E := eI) (name := eI) C hT (tableOf []) ⟨0, 10, 13, 13⟩ (tableOf [(0, 10, 17, 15)]) rfl (fun z hz => by cases hz) rfl (by decide) L_13 C.2.2.2.2.2.2.1.2.1.1 (fun q9 => ?_)
  refine hq_astore (L' := [(4, .ref _), (0, .ref _), (1, .int _), (2, .int _), (3, .ref _)]) C dL_law_13 (by decide) rfl ?_
  refine hq_iconst (y := 1) C dL_law_15 (by decide) ?_
  exact hq_iretX C hr hlk dL_law_16 rfl rfl rfl (Nat.le_of_ble_eq_true rfl) (Nat.le_of_ble_eq_true rfl)
set_option maxHeartbeats 4000000 in
set_option maxRecDepth 100000 in
theorem m_L_law_eA {l : Launch} {D : va_G} {b0 : Nat} {I : MI} {J : MJ} {P : MI} {N : MJ} {o : Int64} (hlt : l.stackTraces = false) {x y : Int32} (hx9 : e_law x y = some eA) : hL l yL_law wL_law rL_law D b0 [.ref (hw_ad b0 0 0), .int x, .int y, .ref (hw_ad b0 59 0)] I J P N o 2 I J o := by
  refine hw_MHof (by decide) [(0, .ref _), (1, .int _), (2, .int _), (3, .ref _)] rfl (Nat.le_of_ble_eq_true rfl) ?_
  intro p e s m args below meth c C hr hlk hT
  refine hq_aload_n (q := 3) C dL_law_0 rfl rfl ?_
  refine hq_iconst (y := 0) C dL_law_1 (by decide) ?_
  refine hq_aload_n (q := 0) C dL_law_2 rfl rfl ?_
  refine hq_iload_n (q := 1) C dL_law_3 rfl rfl ?_
  refine hq_iload_n (q := 2) C dL_law_4 rfl rfl ?_
  refine hq_cVXr (As := [.int _, .int _]) (rm := rX5_law) (f := 0) (Nc := 1) C (m_X5_law hlt) wv_X5_law ml_L_57 rfl rfl rfl Nat.one_pos rfl rfl rfl rfl ⟨Nat.le_of_ble_eq_true rfl, Nat.le_of_ble_eq_true rfl⟩ (Nat.le_of_ble_eq_true rfl) ⟨Nat.le_of_ble_eq_true rfl, Nat.le_of_ble_eq_true rfl⟩ dL_law_5 (fun n9 => absurd (n9.symm.trans hx9) (by simp)) (fun E9 x9 => ?_)
  cases hx9.symm.trans x9
  refine hq_catch (E := eA) (name := eA) C hT (tableOf [(0, 10, 13, 13)]) ⟨0, 10, 17, 15⟩ (tableOf []) rfl (fun z hz => by
      rcases List.mem_cons.mp hz with h9 | h9
      · rw [h9]; exact Or.inr ⟨by decide, eI, L_13, C.2.2.2.2.2.2.1.2.2.1.1⟩
      · cases h9) rfl (by decide) L_15 C.2.2.2.2.2.2.1.2.1.2.1 (fun q9 => ?_)
  refine hq_astore (L' := [(4, .ref _), (0, .ref _), (1, .int _), (2, .int _), (3, .ref _)]) C dL_law_17 (by decide) rfl ?_
  refine hq_iconst (y := 2) C dL_law_19 (by decide) ?_
  exact hq_iretX C hr hlk dL_law_20 rfl rfl rfl (Nat.le_of_ble_eq_true rfl) (Nat.le_of_ble_eq_true rfl)
abbrev wL_list : Cond := .codeWith yL_list cL_list 4 (some .int) [(0, 16, 19, 13)]
theorem ws_L_list : hw_WS yL_list wL_list 3 := ⟨⟨hw_in 684 (by decide +kernel) rfl, hw_in 683 (by decide +kernel) rfl, hw_in 57 (by decide +kernel) rfl⟩, by decide +kernel⟩
set_option maxHeartbeats 4000000 in
set_option maxRecDepth 100000 in
theorem m_L_list_n {l : Launch} {D : va_G} {b0 : Nat} {I : MI} {J : MJ} {P : MI} {N : MJ} {o : Int64} (hlt : l.stackTraces = false) {x : Int32} (hx9 : e_list x = none) : hL l yL_list wL_list rL_list D b0 [.ref (hw_ad b0 0 0), .int x, .ref (hw_ad b0 59 0)] I J P N o 0 (i_list I x) J (if (if I 30 (tn x) = 0 then (1 : Int32) else 0) = 0 then 0 else 1) := by
  refine hw_MHof (by decide) [(0, .ref _), (1, .int _), (2, .ref _)] rfl (Nat.le_of_ble_eq_true rfl) ?_
  intro p e s m args below meth c C hr hlk hT
  refine hq_aload_n (q := 2) C dL_list_0 rfl rfl ?_
  refine hq_iconst (y := 0) C dL_list_1 (by decide) ?_
  refine hq_aload_n (q := 0) C dL_list_2 rfl rfl ?_
  refine hq_iload_n (q := 1) C dL_list_3 rfl rfl ?_
  refine hq_cVXr (As := [.int _]) (rm := rX5_list) (f := 0) (Nc := 1) C (m_X5_list hlt) wv_X5_list ml_L_60 rfl rfl rfl Nat.one_pos rfl rfl rfl rfl ⟨Nat.le_of_ble_eq_true rfl, Nat.le_of_ble_eq_true rfl⟩ (Nat.le_of_ble_eq_true rfl) ⟨Nat.le_of_ble_eq_true rfl, Nat.le_of_ble_eq_true rfl⟩ dL_list_4 (fun _ => ?_) (fun E9 x9 => absurd (hx9.symm.trans x9) (by simp))
  refine hq_if_eq (tgt := 14) C dL_list_7 (by decide) (fun c_7 => ?_) (fun c_7 => ?_)
  · refine hq_lconst (y := 0) C dL_list_14 rfl ?_
    refine hq_lasto C dL_list_15 rfl ?_
    refine hq_goto (tgt := 22) C dL_list_16 (by decide) ?_
    refine hq_iconst (y := 0) C dL_list_22 (by decide) ?_
    exact hq_iretX C hr hlk dL_list_23 rfl rfl (by rw [if_pos c_7]) (Nat.le_of_ble_eq_true rfl) (Nat.le_of_ble_eq_true rfl)
  · refine hq_lconst (y := 1) C dL_list_10 rfl ?_
    refine hq_goto (tgt := 15) C dL_list_11 (by decide) ?_
    refine hq_lasto C dL_list_15 rfl ?_
    refine hq_goto (tgt := 22) C dL_list_16 (by decide) ?_
    refine hq_iconst (y := 0) C dL_list_22 (by decide) ?_
    exact hq_iretX C hr hlk dL_list_23 rfl rfl (by rw [if_neg c_7]) (Nat.le_of_ble_eq_true rfl) (Nat.le_of_ble_eq_true rfl)
set_option maxHeartbeats 4000000 in
set_option maxRecDepth 100000 in
theorem m_L_list_eI {l : Launch} {D : va_G} {b0 : Nat} {I : MI} {J : MJ} {P : MI} {N : MJ} {o : Int64} (hlt : l.stackTraces = false) {x : Int32} (hx9 : e_list x = some eI) : hL l yL_list wL_list rL_list D b0 [.ref (hw_ad b0 0 0), .int x, .ref (hw_ad b0 59 0)] I J P N o 1 I J o := by
  refine hw_MHof (by decide) [(0, .ref _), (1, .int _), (2, .ref _)] rfl (Nat.le_of_ble_eq_true rfl) ?_
  intro p e s m args below meth c C hr hlk hT
  refine hq_aload_n (q := 2) C dL_list_0 rfl rfl ?_
  refine hq_iconst (y := 0) C dL_list_1 (by decide) ?_
  refine hq_aload_n (q := 0) C dL_list_2 rfl rfl ?_
  refine hq_iload_n (q := 1) C dL_list_3 rfl rfl ?_
  refine hq_cVXr (As := [.int _]) (rm := rX5_list) (f := 0) (Nc := 1) C (m_X5_list hlt) wv_X5_list ml_L_60 rfl rfl rfl Nat.one_pos rfl rfl rfl rfl ⟨Nat.le_of_ble_eq_true rfl, Nat.le_of_ble_eq_true rfl⟩ (Nat.le_of_ble_eq_true rfl) ⟨Nat.le_of_ble_eq_true rfl, Nat.le_of_ble_eq_true rfl⟩ dL_list_4 (fun n9 => absurd (n9.symm.trans hx9) (by simp)) (fun E9 x9 => ?_)
  cases hx9.symm.trans x9
  refine hq_catch (E := eI) (name := eI) C hT (tableOf []) ⟨0, 16, 19, 13⟩ (tableOf []) rfl (fun z hz => by cases hz) rfl (by decide) L_13 C.2.2.2.2.2.2.1.2.1.1 (fun q9 => ?_)
  refine hq_astore_n (L' := [(3, .ref _), (0, .ref _), (1, .int _), (2, .ref _)]) C dL_list_19 rfl (by decide) rfl ?_
  refine hq_iconst (y := 1) C dL_list_20 (by decide) ?_
  exact hq_iretX C hr hlk dL_list_21 rfl rfl rfl (Nat.le_of_ble_eq_true rfl) (Nat.le_of_ble_eq_true rfl)
abbrev wL_brokerOf : Cond := .codeWith yL_brokerOf cL_brokerOf 5 (some .int) [(0, 9, 12, 13), (0, 9, 16, 15)]
theorem ws_L_brokerOf : hw_WS yL_brokerOf wL_brokerOf 4 := ⟨⟨hw_in 691 (by decide +kernel) rfl, hw_in 690 (by decide +kernel) rfl, hw_in 57 (by decide +kernel) rfl⟩, by decide +kernel⟩
set_option maxHeartbeats 4000000 in
set_option maxRecDepth 100000 in
theorem m_L_brokerOf_n {l : Launch} {D : va_G} {b0 : Nat} {I : MI} {J : MJ} {P : MI} {N : MJ} {o : Int64} (hlt : l.stackTraces = false) {x y : Int32} {nb no nc : Nat} {B : Int} (h : hw_ci I J nb no nc B) (hx9 : e_brokerOf I x y = none) : hL l yL_brokerOf wL_brokerOf rL_brokerOf D b0 [.ref (hw_ad b0 0 0), .int x, .int y, .ref (hw_ad b0 59 0)] I J P N o 0 I J (r_brokerOf I J x y nb) := by
  refine hw_MHof (by decide) [(0, .ref _), (1, .int _), (2, .int _), (3, .ref _)] rfl (Nat.le_of_ble_eq_true rfl) ?_
  intro p e s m args below meth c C hr hlk hT
  refine hq_aload_n (q := 3) C dL_brokerOf_0 rfl rfl ?_
  refine hq_iconst (y := 0) C dL_brokerOf_1 (by decide) ?_
  refine hq_aload_n (q := 0) C dL_brokerOf_2 rfl rfl ?_
  refine hq_iload_n (q := 1) C dL_brokerOf_3 rfl rfl ?_
  refine hq_iload_n (q := 2) C dL_brokerOf_4 rfl rfl ?_
  refine hq_cVXr (As := [.int _, .int _]) (rm := rX5_brokerOf) (f := 0) (Nc := 1) C (m_X5_brokerOf hlt h) wv_X5_brokerOf ml_L_64 rfl rfl rfl Nat.one_pos rfl rfl rfl rfl ⟨Nat.le_of_ble_eq_true rfl, Nat.le_of_ble_eq_true rfl⟩ (Nat.le_of_ble_eq_true rfl) ⟨Nat.le_of_ble_eq_true rfl, Nat.le_of_ble_eq_true rfl⟩ dL_brokerOf_5 (fun _ => ?_) (fun E9 x9 => absurd (hx9.symm.trans x9) (by simp))
  refine hq_lasto C dL_brokerOf_8 rfl ?_
  refine hq_goto (tgt := 20) C dL_brokerOf_9 (by decide) ?_
  refine hq_iconst (y := 0) C dL_brokerOf_20 (by decide) ?_
  exact hq_iretX C hr hlk dL_brokerOf_21 rfl rfl rfl (Nat.le_of_ble_eq_true rfl) (Nat.le_of_ble_eq_true rfl)
set_option maxHeartbeats 4000000 in
set_option maxRecDepth 100000 in
theorem m_L_brokerOf_eI {l : Launch} {D : va_G} {b0 : Nat} {I : MI} {J : MJ} {P : MI} {N : MJ} {o : Int64} (hlt : l.stackTraces = false) {x y : Int32} {nb no nc : Nat} {B : Int} (h : hw_ci I J nb no nc B) (hx9 : e_brokerOf I x y = some eI) : hL l yL_brokerOf wL_brokerOf rL_brokerOf D b0 [.ref (hw_ad b0 0 0), .int x, .int y, .ref (hw_ad b0 59 0)] I J P N o 1 I J o := by
  refine hw_MHof (by decide) [(0, .ref _), (1, .int _), (2, .int _), (3, .ref _)] rfl (Nat.le_of_ble_eq_true rfl) ?_
  intro p e s m args below meth c C hr hlk hT
  refine hq_aload_n (q := 3) C dL_brokerOf_0 rfl rfl ?_
  refine hq_iconst (y := 0) C dL_brokerOf_1 (by decide) ?_
  refine hq_aload_n (q := 0) C dL_brokerOf_2 rfl rfl ?_
  refine hq_iload_n (q := 1) C dL_brokerOf_3 rfl rfl ?_
  refine hq_iload_n (q := 2) C dL_brokerOf_4 rfl rfl ?_
  refine hq_cVXr (As := [.int _, .int _]) (rm := rX5_brokerOf) (f := 0) (Nc := 1) C (m_X5_brokerOf hlt h) wv_X5_brokerOf ml_L_64 rfl rfl rfl Nat.one_pos rfl rfl rfl rfl ⟨Nat.le_of_ble_eq_true rfl, Nat.le_of_ble_eq_true rfl⟩ (Nat.le_of_ble_eq_true rfl) ⟨Nat.le_of_ble_eq_true rfl, Nat.le_of_ble_eq_true rfl⟩ dL_brokerOf_5 (fun n9 => absurd (n9.symm.trans hx9) (by simp)) (fun E9 x9 => ?_)
  cases hx9.symm.trans x9
  refine hq_catch (E := eI) (name := eI) C hT (tableOf []) ⟨0, 9, 12, 13⟩ (tableOf [(0, 9, 16, 15)]) rfl (fun z hz => by cases hz) rfl (by decide) L_13 C.2.2.2.2.2.2.1.2.1.1 (fun q9 => ?_)
  refine hq_astore (L' := [(4, .ref _), (0, .ref _), (1, .int _), (2, .int _), (3, .ref _)]) C dL_brokerOf_12 (by decide) rfl ?_
  refine hq_iconst (y := 1) C dL_brokerOf_14 (by decide) ?_
  exact hq_iretX C hr hlk dL_brokerOf_15 rfl rfl rfl (Nat.le_of_ble_eq_true rfl) (Nat.le_of_ble_eq_true rfl)
set_option maxHeartbeats 4000000 in
set_option maxRecDepth 100000 in
theorem m_L_brokerOf_eA {l : Launch} {D : va_G} {b0 : Nat} {I : MI} {J : MJ} {P : MI} {N : MJ} {o : Int64} (hlt : l.stackTraces = false) {x y : Int32} {nb no nc : Nat} {B : Int} (h : hw_ci I J nb no nc B) (hx9 : e_brokerOf I x y = some eA) : hL l yL_brokerOf wL_brokerOf rL_brokerOf D b0 [.ref (hw_ad b0 0 0), .int x, .int y, .ref (hw_ad b0 59 0)] I J P N o 2 I J o := by
  refine hw_MHof (by decide) [(0, .ref _), (1, .int _), (2, .int _), (3, .ref _)] rfl (Nat.le_of_ble_eq_true rfl) ?_
  intro p e s m args below meth c C hr hlk hT
  refine hq_aload_n (q := 3) C dL_brokerOf_0 rfl rfl ?_
  refine hq_iconst (y := 0) C dL_brokerOf_1 (by decide) ?_
  refine hq_aload_n (q := 0) C dL_brokerOf_2 rfl rfl ?_
  refine hq_iload_n (q := 1) C dL_brokerOf_3 rfl rfl ?_
  refine hq_iload_n (q := 2) C dL_brokerOf_4 rfl rfl ?_
  refine hq_cVXr (As := [.int _, .int _]) (rm := rX5_brokerOf) (f := 0) (Nc := 1) C (m_X5_brokerOf hlt h) wv_X5_brokerOf ml_L_64 rfl rfl rfl Nat.one_pos rfl rfl rfl rfl ⟨Nat.le_of_ble_eq_true rfl, Nat.le_of_ble_eq_true rfl⟩ (Nat.le_of_ble_eq_true rfl) ⟨Nat.le_of_ble_eq_true rfl, Nat.le_of_ble_eq_true rfl⟩ dL_brokerOf_5 (fun n9 => absurd (n9.symm.trans hx9) (by simp)) (fun E9 x9 => ?_)
  cases hx9.symm.trans x9
  refine hq_catch (E := eA) (name := eA) C hT (tableOf [(0, 9, 12, 13)]) ⟨0, 9, 16, 15⟩ (tableOf []) rfl (fun z hz => by
      rcases List.mem_cons.mp hz with h9 | h9
      · rw [h9]; exact Or.inr ⟨by decide, eI, L_13, C.2.2.2.2.2.2.1.2.2.1.1⟩
      · cases h9) rfl (by decide) L_15 C.2.2.2.2.2.2.1.2.1.2.1 (fun q9 => ?_)
  refine hq_astore (L' := [(4, .ref _), (0, .ref _), (1, .int _), (2, .int _), (3, .ref _)]) C dL_brokerOf_16 (by decide) rfl ?_
  refine hq_iconst (y := 2) C dL_brokerOf_18 (by decide) ?_
  exact hq_iretX C hr hlk dL_brokerOf_19 rfl rfl rfl (Nat.le_of_ble_eq_true rfl) (Nat.le_of_ble_eq_true rfl)
abbrev wL_debt : Cond := .codeWith yL_debt cL_debt 6 (some .int) [(0, 11, 14, 13)]
theorem ws_L_debt : hw_WS yL_debt wL_debt 5 := ⟨⟨hw_in 702 (by decide +kernel) rfl, hw_in 701 (by decide +kernel) rfl, hw_in 57 (by decide +kernel) rfl⟩, by decide +kernel⟩
set_option maxHeartbeats 4000000 in
set_option maxRecDepth 100000 in
theorem m_L_debt_n {l : Launch} {D : va_G} {b0 : Nat} {I : MI} {J : MJ} {P : MI} {N : MJ} {o : Int64} (hlt : l.stackTraces = false) {x y z : Int32} {nb no nc : Nat} {B : Int} (h : hw_ci I J nb no nc B) (hx9 : e_debt I x y = none) : hL l yL_debt wL_debt rL_debt D b0 [.ref (hw_ad b0 0 0), .int x, .int y, .int z, .ref (hw_ad b0 59 0)] I J P N o 0 I J (r_debt J x y z) := by
  refine hw_MHof (by decide) [(0, .ref _), (1, .int _), (2, .int _), (3, .int _), (4, .ref _)] rfl (Nat.le_of_ble_eq_true rfl) ?_
  intro p e s m args below meth c C hr hlk hT
  refine hq_aload (q := 4) C dL_debt_0 rfl ?_
  refine hq_iconst (y := 0) C dL_debt_2 (by decide) ?_
  refine hq_aload_n (q := 0) C dL_debt_3 rfl rfl ?_
  refine hq_iload_n (q := 1) C dL_debt_4 rfl rfl ?_
  refine hq_iload_n (q := 2) C dL_debt_5 rfl rfl ?_
  refine hq_iload_n (q := 3) C dL_debt_6 rfl rfl ?_
  refine hq_cVXr (As := [.int _, .int _, .int _]) (rm := rX5_debt) (f := 0) (Nc := 1) C (m_X5_debt hlt h) wv_X5_debt ml_L_68 rfl rfl rfl Nat.one_pos rfl rfl rfl rfl ⟨Nat.le_of_ble_eq_true rfl, Nat.le_of_ble_eq_true rfl⟩ (Nat.le_of_ble_eq_true rfl) ⟨Nat.le_of_ble_eq_true rfl, Nat.le_of_ble_eq_true rfl⟩ dL_debt_7 (fun _ => ?_) (fun E9 x9 => absurd (hx9.symm.trans x9) (by simp))
  refine hq_lasto C dL_debt_10 rfl ?_
  refine hq_goto (tgt := 18) C dL_debt_11 (by decide) ?_
  refine hq_iconst (y := 0) C dL_debt_18 (by decide) ?_
  exact hq_iretX C hr hlk dL_debt_19 rfl rfl rfl (Nat.le_of_ble_eq_true rfl) (Nat.le_of_ble_eq_true rfl)
set_option maxHeartbeats 4000000 in
set_option maxRecDepth 100000 in
theorem m_L_debt_eI {l : Launch} {D : va_G} {b0 : Nat} {I : MI} {J : MJ} {P : MI} {N : MJ} {o : Int64} (hlt : l.stackTraces = false) {x y z : Int32} {nb no nc : Nat} {B : Int} (h : hw_ci I J nb no nc B) (hx9 : e_debt I x y = some eI) : hL l yL_debt wL_debt rL_debt D b0 [.ref (hw_ad b0 0 0), .int x, .int y, .int z, .ref (hw_ad b0 59 0)] I J P N o 1 I J o := by
  refine hw_MHof (by decide) [(0, .ref _), (1, .int _), (2, .int _), (3, .int _), (4, .ref _)] rfl (Nat.le_of_ble_eq_true rfl) ?_
  intro p e s m args below meth c C hr hlk hT
  refine hq_aload (q := 4) C dL_debt_0 rfl ?_
  refine hq_iconst (y := 0) C dL_debt_2 (by decide) ?_
  refine hq_aload_n (q := 0) C dL_debt_3 rfl rfl ?_
  refine hq_iload_n (q := 1) C dL_debt_4 rfl rfl ?_
  refine hq_iload_n (q := 2) C dL_debt_5 rfl rfl ?_
  refine hq_iload_n (q := 3) C dL_debt_6 rfl rfl ?_
  refine hq_cVXr (As := [.int _, .int _, .int _]) (rm := rX5_debt) (f := 0) (Nc := 1) C (m_X5_debt hlt h) wv_X5_debt ml_L_68 rfl rfl rfl Nat.one_pos rfl rfl rfl rfl ⟨Nat.le_of_ble_eq_true rfl, Nat.le_of_ble_eq_true rfl⟩ (Nat.le_of_ble_eq_true rfl) ⟨Nat.le_of_ble_eq_true rfl, Nat.le_of_ble_eq_true rfl⟩ dL_debt_7 (fun n9 => absurd (n9.symm.trans hx9) (by simp)) (fun E9 x9 => ?_)
  cases hx9.symm.trans x9
  refine hq_catch (E := eI) (name := eI) C hT (tableOf []) ⟨0, 11, 14, 13⟩ (tableOf []) rfl (fun z hz => by cases hz) rfl (by decide) L_13 C.2.2.2.2.2.2.1.2.1.1 (fun q9 => ?_)
  refine hq_astore (L' := [(5, .ref _), (0, .ref _), (1, .int _), (2, .int _), (3, .int _), (4, .ref _)]) C dL_debt_14 (by decide) rfl ?_
  refine hq_iconst (y := 1) C dL_debt_16 (by decide) ?_
  exact hq_iretX C hr hlk dL_debt_17 rfl rfl rfl (Nat.le_of_ble_eq_true rfl) (Nat.le_of_ble_eq_true rfl)
abbrev wL_agree : Cond := .codeWith yL_agree cL_agree 5 (some .int) [(0, 17, 20, 13)]
theorem ws_L_agree : hw_WS yL_agree wL_agree 4 := ⟨⟨hw_in 709 (by decide +kernel) rfl, hw_in 708 (by decide +kernel) rfl, hw_in 57 (by decide +kernel) rfl⟩, by decide +kernel⟩
set_option maxHeartbeats 4000000 in
set_option maxRecDepth 100000 in
theorem m_L_agree_n {l : Launch} {D : va_G} {b0 : Nat} {I : MI} {J : MJ} {P : MI} {N : MJ} {o : Int64} (hlt : l.stackTraces = false) {x y : Int32} {nb no nc : Nat} {B : Int} (h : hw_ci I J nb no nc B) (hx9 : e_debt I x y = none) : hL l yL_agree wL_agree rL_agree D b0 [.ref (hw_ad b0 0 0), .int x, .int y, .ref (hw_ad b0 59 0)] I J P N o 0 I J (if r_agree J x y = 0 then 0 else 1) := by
  refine hw_MHof (by decide) [(0, .ref _), (1, .int _), (2, .int _), (3, .ref _)] rfl (Nat.le_of_ble_eq_true rfl) ?_
  intro p e s m args below meth c C hr hlk hT
  refine hq_aload_n (q := 3) C dL_agree_0 rfl rfl ?_
  refine hq_iconst (y := 0) C dL_agree_1 (by decide) ?_
  refine hq_aload_n (q := 0) C dL_agree_2 rfl rfl ?_
  refine hq_iload_n (q := 1) C dL_agree_3 rfl rfl ?_
  refine hq_iload_n (q := 2) C dL_agree_4 rfl rfl ?_
  refine hq_cVXr (As := [.int _, .int _]) (rm := rX5_agree) (f := 0) (Nc := 1) C (m_X5_agree hlt h) wv_X5_agree ml_L_72 rfl rfl rfl Nat.one_pos rfl rfl rfl rfl ⟨Nat.le_of_ble_eq_true rfl, Nat.le_of_ble_eq_true rfl⟩ (Nat.le_of_ble_eq_true rfl) ⟨Nat.le_of_ble_eq_true rfl, Nat.le_of_ble_eq_true rfl⟩ dL_agree_5 (fun _ => ?_) (fun E9 x9 => absurd (hx9.symm.trans x9) (by simp))
  refine hq_if_eq (tgt := 15) C dL_agree_8 (by decide) (fun c_8 => ?_) (fun c_8 => ?_)
  · refine hq_lconst (y := 0) C dL_agree_15 rfl ?_
    refine hq_lasto C dL_agree_16 rfl ?_
    refine hq_goto (tgt := 24) C dL_agree_17 (by decide) ?_
    refine hq_iconst (y := 0) C dL_agree_24 (by decide) ?_
    exact hq_iretX C hr hlk dL_agree_25 rfl rfl (by rw [if_pos c_8]) (Nat.le_of_ble_eq_true rfl) (Nat.le_of_ble_eq_true rfl)
  · refine hq_lconst (y := 1) C dL_agree_11 rfl ?_
    refine hq_goto (tgt := 16) C dL_agree_12 (by decide) ?_
    refine hq_lasto C dL_agree_16 rfl ?_
    refine hq_goto (tgt := 24) C dL_agree_17 (by decide) ?_
    refine hq_iconst (y := 0) C dL_agree_24 (by decide) ?_
    exact hq_iretX C hr hlk dL_agree_25 rfl rfl (by rw [if_neg c_8]) (Nat.le_of_ble_eq_true rfl) (Nat.le_of_ble_eq_true rfl)
set_option maxHeartbeats 4000000 in
set_option maxRecDepth 100000 in
theorem m_L_agree_eI {l : Launch} {D : va_G} {b0 : Nat} {I : MI} {J : MJ} {P : MI} {N : MJ} {o : Int64} (hlt : l.stackTraces = false) {x y : Int32} {nb no nc : Nat} {B : Int} (h : hw_ci I J nb no nc B) (hx9 : e_debt I x y = some eI) : hL l yL_agree wL_agree rL_agree D b0 [.ref (hw_ad b0 0 0), .int x, .int y, .ref (hw_ad b0 59 0)] I J P N o 1 I J o := by
  refine hw_MHof (by decide) [(0, .ref _), (1, .int _), (2, .int _), (3, .ref _)] rfl (Nat.le_of_ble_eq_true rfl) ?_
  intro p e s m args below meth c C hr hlk hT
  refine hq_aload_n (q := 3) C dL_agree_0 rfl rfl ?_
  refine hq_iconst (y := 0) C dL_agree_1 (by decide) ?_
  refine hq_aload_n (q := 0) C dL_agree_2 rfl rfl ?_
  refine hq_iload_n (q := 1) C dL_agree_3 rfl rfl ?_
  refine hq_iload_n (q := 2) C dL_agree_4 rfl rfl ?_
  refine hq_cVXr (As := [.int _, .int _]) (rm := rX5_agree) (f := 0) (Nc := 1) C (m_X5_agree hlt h) wv_X5_agree ml_L_72 rfl rfl rfl Nat.one_pos rfl rfl rfl rfl ⟨Nat.le_of_ble_eq_true rfl, Nat.le_of_ble_eq_true rfl⟩ (Nat.le_of_ble_eq_true rfl) ⟨Nat.le_of_ble_eq_true rfl, Nat.le_of_ble_eq_true rfl⟩ dL_agree_5 (fun n9 => absurd (n9.symm.trans hx9) (by simp)) (fun E9 x9 => ?_)
  cases hx9.symm.trans x9
  refine hq_catch (E := eI) (name := eI) C hT (tableOf []) ⟨0, 17, 20, 13⟩ (tableOf []) rfl (fun z hz => by cases hz) rfl (by decide) L_13 C.2.2.2.2.2.2.1.2.1.1 (fun q9 => ?_)
  refine hq_astore (L' := [(4, .ref _), (0, .ref _), (1, .int _), (2, .int _), (3, .ref _)]) C dL_agree_20 (by decide) rfl ?_
  refine hq_iconst (y := 1) C dL_agree_22 (by decide) ?_
  exact hq_iretX C hr hlk dL_agree_23 rfl rfl rfl (Nat.le_of_ble_eq_true rfl) (Nat.le_of_ble_eq_true rfl)
abbrev wL_way : Cond := .codeWith yL_way cL_way 7 (some .int) [(0, 14, 17, 13), (0, 14, 21, 15)]
theorem ws_L_way : hw_WS yL_way wL_way 6 := ⟨⟨hw_in 716 (by decide +kernel) rfl, hw_in 715 (by decide +kernel) rfl, hw_in 57 (by decide +kernel) rfl⟩, by decide +kernel⟩
set_option maxHeartbeats 4000000 in
set_option maxRecDepth 100000 in
theorem m_L_way_n {l : Launch} {D : va_G} {b0 : Nat} {I : MI} {J : MJ} {P : MI} {N : MJ} {o : Int64} (hlt : l.stackTraces = false) {x y z w : Int32} {nb no nc : Nat} {B : Int} (h : hw_ci I J nb no nc B) (hB : B ≤ 4611686018427387904) (hx9 : e_way I x y z w = none) : hL l yL_way wL_way rL_way D b0 [.ref (hw_ad b0 0 0), .int x, .int y, .int z, .int w, .ref (hw_ad b0 59 0)] I J P N o 0 (sp_fw I J (tn x) (tn y) z).2 J (r_way I J x y z w).toInt64 := by
  refine hw_MHof (by decide) [(0, .ref _), (1, .int _), (2, .int _), (3, .int _), (4, .int _), (5, .ref _)] rfl (Nat.le_of_ble_eq_true rfl) ?_
  intro p e s m args below meth c C hr hlk hT
  refine hq_aload (q := 5) C dL_way_0 rfl ?_
  refine hq_iconst (y := 0) C dL_way_2 (by decide) ?_
  refine hq_aload_n (q := 0) C dL_way_3 rfl rfl ?_
  refine hq_iload_n (q := 1) C dL_way_4 rfl rfl ?_
  refine hq_iload_n (q := 2) C dL_way_5 rfl rfl ?_
  refine hq_iload_n (q := 3) C dL_way_6 rfl rfl ?_
  refine hq_iload (q := 4) C dL_way_7 rfl ?_
  refine hq_cVXr (As := [.int _, .int _, .int _, .int _]) (rm := rX5_way) (f := 0) (Nc := 1) C (m_X5_way hlt h hB) wv_X5_way ml_L_76 rfl rfl rfl Nat.one_pos rfl rfl rfl rfl ⟨Nat.le_of_ble_eq_true rfl, Nat.le_of_ble_eq_true rfl⟩ (Nat.le_of_ble_eq_true rfl) ⟨Nat.le_of_ble_eq_true rfl, Nat.le_of_ble_eq_true rfl⟩ dL_way_9 (fun _ => ?_) (fun E9 x9 => absurd (hx9.symm.trans x9) (by simp))
  refine hq_i2l C dL_way_12 ?_
  refine hq_lasto C dL_way_13 rfl ?_
  refine hq_goto (tgt := 25) C dL_way_14 (by decide) ?_
  refine hq_iconst (y := 0) C dL_way_25 (by decide) ?_
  exact hq_iretX C hr hlk dL_way_26 rfl rfl rfl (Nat.le_of_ble_eq_true rfl) (Nat.le_of_ble_eq_true rfl)
set_option maxHeartbeats 4000000 in
set_option maxRecDepth 100000 in
theorem m_L_way_eI {l : Launch} {D : va_G} {b0 : Nat} {I : MI} {J : MJ} {P : MI} {N : MJ} {o : Int64} (hlt : l.stackTraces = false) {x y z w : Int32} {nb no nc : Nat} {B : Int} (h : hw_ci I J nb no nc B) (hB : B ≤ 4611686018427387904) (hx9 : e_way I x y z w = some eI) : hL l yL_way wL_way rL_way D b0 [.ref (hw_ad b0 0 0), .int x, .int y, .int z, .int w, .ref (hw_ad b0 59 0)] I J P N o 1 I J o := by
  refine hw_MHof (by decide) [(0, .ref _), (1, .int _), (2, .int _), (3, .int _), (4, .int _), (5, .ref _)] rfl (Nat.le_of_ble_eq_true rfl) ?_
  intro p e s m args below meth c C hr hlk hT
  refine hq_aload (q := 5) C dL_way_0 rfl ?_
  refine hq_iconst (y := 0) C dL_way_2 (by decide) ?_
  refine hq_aload_n (q := 0) C dL_way_3 rfl rfl ?_
  refine hq_iload_n (q := 1) C dL_way_4 rfl rfl ?_
  refine hq_iload_n (q := 2) C dL_way_5 rfl rfl ?_
  refine hq_iload_n (q := 3) C dL_way_6 rfl rfl ?_
  refine hq_iload (q := 4) C dL_way_7 rfl ?_
  refine hq_cVXr (As := [.int _, .int _, .int _, .int _]) (rm := rX5_way) (f := 0) (Nc := 1) C (m_X5_way hlt h hB) wv_X5_way ml_L_76 rfl rfl rfl Nat.one_pos rfl rfl rfl rfl ⟨Nat.le_of_ble_eq_true rfl, Nat.le_of_ble_eq_true rfl⟩ (Nat.le_of_ble_eq_true rfl) ⟨Nat.le_of_ble_eq_true rfl, Nat.le_of_ble_eq_true rfl⟩ dL_way_9 (fun n9 => absurd (n9.symm.trans hx9) (by simp)) (fun E9 x9 => ?_)
  cases hx9.symm.trans x9
  refine hq_catch (E := eI) (name := eI) C hT (tableOf []) ⟨0, 14, 17, 13⟩ (tableOf [(0, 14, 21, 15)]) rfl (fun z hz => by cases hz) rfl (by decide) L_13 C.2.2.2.2.2.2.1.2.1.1 (fun q9 => ?_)
  refine hq_astore (L' := [(6, .ref _), (0, .ref _), (1, .int _), (2, .int _), (3, .int _), (4, .int _), (5, .ref _)]) C dL_way_17 (by decide) rfl ?_
  refine hq_iconst (y := 1) C dL_way_19 (by decide) ?_
  exact hq_iretX C hr hlk dL_way_20 rfl rfl rfl (Nat.le_of_ble_eq_true rfl) (Nat.le_of_ble_eq_true rfl)
set_option maxHeartbeats 4000000 in
set_option maxRecDepth 100000 in
theorem m_L_way_eA {l : Launch} {D : va_G} {b0 : Nat} {I : MI} {J : MJ} {P : MI} {N : MJ} {o : Int64} (hlt : l.stackTraces = false) {x y z w : Int32} {nb no nc : Nat} {B : Int} (h : hw_ci I J nb no nc B) (hB : B ≤ 4611686018427387904) (hx9 : e_way I x y z w = some eA) : hL l yL_way wL_way rL_way D b0 [.ref (hw_ad b0 0 0), .int x, .int y, .int z, .int w, .ref (hw_ad b0 59 0)] I J P N o 2 I J o := by
  refine hw_MHof (by decide) [(0, .ref _), (1, .int _), (2, .int _), (3, .int _), (4, .int _), (5, .ref _)] rfl (Nat.le_of_ble_eq_true rfl) ?_
  intro p e s m args below meth c C hr hlk hT
  refine hq_aload (q := 5) C dL_way_0 rfl ?_
  refine hq_iconst (y := 0) C dL_way_2 (by decide) ?_
  refine hq_aload_n (q := 0) C dL_way_3 rfl rfl ?_
  refine hq_iload_n (q := 1) C dL_way_4 rfl rfl ?_
  refine hq_iload_n (q := 2) C dL_way_5 rfl rfl ?_
  refine hq_iload_n (q := 3) C dL_way_6 rfl rfl ?_
  refine hq_iload (q := 4) C dL_way_7 rfl ?_
  refine hq_cVXr (As := [.int _, .int _, .int _, .int _]) (rm := rX5_way) (f := 0) (Nc := 1) C (m_X5_way hlt h hB) wv_X5_way ml_L_76 rfl rfl rfl Nat.one_pos rfl rfl rfl rfl ⟨Nat.le_of_ble_eq_true rfl, Nat.le_of_ble_eq_true rfl⟩ (Nat.le_of_ble_eq_true rfl) ⟨Nat.le_of_ble_eq_true rfl, Nat.le_of_ble_eq_true rfl⟩ dL_way_9 (fun n9 => absurd (n9.symm.trans hx9) (by simp)) (fun E9 x9 => ?_)
  cases hx9.symm.trans x9
  refine hq_catch (E := eA) (name := eA) C hT (tableOf [(0, 14, 17, 13)]) ⟨0, 14, 21, 15⟩ (tableOf []) rfl (fun z hz => by
      rcases List.mem_cons.mp hz with h9 | h9
      · rw [h9]; exact Or.inr ⟨by decide, eI, L_13, C.2.2.2.2.2.2.1.2.2.1.1⟩
      · cases h9) rfl (by decide) L_15 C.2.2.2.2.2.2.1.2.1.2.1 (fun q9 => ?_)
  refine hq_astore (L' := [(6, .ref _), (0, .ref _), (1, .int _), (2, .int _), (3, .int _), (4, .int _), (5, .ref _)]) C dL_way_21 (by decide) rfl ?_
  refine hq_iconst (y := 2) C dL_way_23 (by decide) ?_
  exact hq_iretX C hr hlk dL_way_24 rfl rfl rfl (Nat.le_of_ble_eq_true rfl) (Nat.le_of_ble_eq_true rfl)
abbrev wL_wayOf : Cond := .codeWith yL_wayOf cL_wayOf 5 (some .int) [(0, 10, 13, 13)]
theorem ws_L_wayOf : hw_WS yL_wayOf wL_wayOf 4 := ⟨⟨hw_in 727 (by decide +kernel) rfl, hw_in 726 (by decide +kernel) rfl, hw_in 57 (by decide +kernel) rfl⟩, by decide +kernel⟩
set_option maxHeartbeats 4000000 in
set_option maxRecDepth 100000 in
theorem m_L_wayOf_n {l : Launch} {D : va_G} {b0 : Nat} {I : MI} {J : MJ} {P : MI} {N : MJ} {o : Int64} (hlt : l.stackTraces = false) {x y : Int32} {nb no nc : Nat} {B : Int} (h : hw_ci I J nb no nc B) (hx9 : e_wayOf I x y = none) : hL l yL_wayOf wL_wayOf rL_wayOf D b0 [.ref (hw_ad b0 0 0), .int x, .int y, .ref (hw_ad b0 59 0)] I J P N o 0 I J (r_wayOf I x y).toInt64 := by
  refine hw_MHof (by decide) [(0, .ref _), (1, .int _), (2, .int _), (3, .ref _)] rfl (Nat.le_of_ble_eq_true rfl) ?_
  intro p e s m args below meth c C hr hlk hT
  refine hq_aload_n (q := 3) C dL_wayOf_0 rfl rfl ?_
  refine hq_iconst (y := 0) C dL_wayOf_1 (by decide) ?_
  refine hq_aload_n (q := 0) C dL_wayOf_2 rfl rfl ?_
  refine hq_iload_n (q := 1) C dL_wayOf_3 rfl rfl ?_
  refine hq_iload_n (q := 2) C dL_wayOf_4 rfl rfl ?_
  refine hq_cVXr (As := [.int _, .int _]) (rm := rX5_wayOf) (f := 0) (Nc := 1) C (m_X5_wayOf hlt h) wv_X5_wayOf ml_L_79 rfl rfl rfl Nat.one_pos rfl rfl rfl rfl ⟨Nat.le_of_ble_eq_true rfl, Nat.le_of_ble_eq_true rfl⟩ (Nat.le_of_ble_eq_true rfl) ⟨Nat.le_of_ble_eq_true rfl, Nat.le_of_ble_eq_true rfl⟩ dL_wayOf_5 (fun _ => ?_) (fun E9 x9 => absurd (hx9.symm.trans x9) (by simp))
  refine hq_i2l C dL_wayOf_8 ?_
  refine hq_lasto C dL_wayOf_9 rfl ?_
  refine hq_goto (tgt := 17) C dL_wayOf_10 (by decide) ?_
  refine hq_iconst (y := 0) C dL_wayOf_17 (by decide) ?_
  exact hq_iretX C hr hlk dL_wayOf_18 rfl rfl rfl (Nat.le_of_ble_eq_true rfl) (Nat.le_of_ble_eq_true rfl)
set_option maxHeartbeats 4000000 in
set_option maxRecDepth 100000 in
theorem m_L_wayOf_eI {l : Launch} {D : va_G} {b0 : Nat} {I : MI} {J : MJ} {P : MI} {N : MJ} {o : Int64} (hlt : l.stackTraces = false) {x y : Int32} {nb no nc : Nat} {B : Int} (h : hw_ci I J nb no nc B) (hx9 : e_wayOf I x y = some eI) : hL l yL_wayOf wL_wayOf rL_wayOf D b0 [.ref (hw_ad b0 0 0), .int x, .int y, .ref (hw_ad b0 59 0)] I J P N o 1 I J o := by
  refine hw_MHof (by decide) [(0, .ref _), (1, .int _), (2, .int _), (3, .ref _)] rfl (Nat.le_of_ble_eq_true rfl) ?_
  intro p e s m args below meth c C hr hlk hT
  refine hq_aload_n (q := 3) C dL_wayOf_0 rfl rfl ?_
  refine hq_iconst (y := 0) C dL_wayOf_1 (by decide) ?_
  refine hq_aload_n (q := 0) C dL_wayOf_2 rfl rfl ?_
  refine hq_iload_n (q := 1) C dL_wayOf_3 rfl rfl ?_
  refine hq_iload_n (q := 2) C dL_wayOf_4 rfl rfl ?_
  refine hq_cVXr (As := [.int _, .int _]) (rm := rX5_wayOf) (f := 0) (Nc := 1) C (m_X5_wayOf hlt h) wv_X5_wayOf ml_L_79 rfl rfl rfl Nat.one_pos rfl rfl rfl rfl ⟨Nat.le_of_ble_eq_true rfl, Nat.le_of_ble_eq_true rfl⟩ (Nat.le_of_ble_eq_true rfl) ⟨Nat.le_of_ble_eq_true rfl, Nat.le_of_ble_eq_true rfl⟩ dL_wayOf_5 (fun n9 => absurd (n9.symm.trans hx9) (by simp)) (fun E9 x9 => ?_)
  cases hx9.symm.trans x9
  refine hq_catch (E := eI) (name := eI) C hT (tableOf []) ⟨0, 10, 13, 13⟩ (tableOf []) rfl (fun z hz => by cases hz) rfl (by decide) L_13 C.2.2.2.2.2.2.1.2.1.1 (fun q9 => ?_)
  refine hq_astore (L' := [(4, .ref _), (0, .ref _), (1, .int _), (2, .int _), (3, .ref _)]) C dL_wayOf_13 (by decide) rfl ?_
  refine hq_iconst (y := 1) C dL_wayOf_15 (by decide) ?_
  exact hq_iretX C hr hlk dL_wayOf_16 rfl rfl rfl (Nat.le_of_ble_eq_true rfl) (Nat.le_of_ble_eq_true rfl)
abbrev wL_orderOf : Cond := .codeWith yL_orderOf cL_orderOf 5 (some .int) [(0, 10, 13, 13), (0, 10, 17, 15)]
theorem ws_L_orderOf : hw_WS yL_orderOf wL_orderOf 4 := ⟨⟨hw_in 738 (by decide +kernel) rfl, hw_in 737 (by decide +kernel) rfl, hw_in 57 (by decide +kernel) rfl⟩, by decide +kernel⟩
set_option maxHeartbeats 4000000 in
set_option maxRecDepth 100000 in
theorem m_L_orderOf_n {l : Launch} {D : va_G} {b0 : Nat} {I : MI} {J : MJ} {P : MI} {N : MJ} {o : Int64} (hlt : l.stackTraces = false) {x y : Int32} {nb no nc : Nat} {B : Int} (h : hw_ci I J nb no nc B) (hx9 : e_orderOf I x y = none) : hL l yL_orderOf wL_orderOf rL_orderOf D b0 [.ref (hw_ad b0 0 0), .int x, .int y, .ref (hw_ad b0 59 0)] I J P N o 0 I J (r_orderOf I x y).toInt64 := by
  refine hw_MHof (by decide) [(0, .ref _), (1, .int _), (2, .int _), (3, .ref _)] rfl (Nat.le_of_ble_eq_true rfl) ?_
  intro p e s m args below meth c C hr hlk hT
  refine hq_aload_n (q := 3) C dL_orderOf_0 rfl rfl ?_
  refine hq_iconst (y := 0) C dL_orderOf_1 (by decide) ?_
  refine hq_aload_n (q := 0) C dL_orderOf_2 rfl rfl ?_
  refine hq_iload_n (q := 1) C dL_orderOf_3 rfl rfl ?_
  refine hq_iload_n (q := 2) C dL_orderOf_4 rfl rfl ?_
  refine hq_cVXr (As := [.int _, .int _]) (rm := rX5_orderOf) (f := 0) (Nc := 1) C (m_X5_orderOf hlt h) wv_X5_orderOf ml_L_82 rfl rfl rfl Nat.one_pos rfl rfl rfl rfl ⟨Nat.le_of_ble_eq_true rfl, Nat.le_of_ble_eq_true rfl⟩ (Nat.le_of_ble_eq_true rfl) ⟨Nat.le_of_ble_eq_true rfl, Nat.le_of_ble_eq_true rfl⟩ dL_orderOf_5 (fun _ => ?_) (fun E9 x9 => absurd (hx9.symm.trans x9) (by simp))
  refine hq_i2l C dL_orderOf_8 ?_
  refine hq_lasto C dL_orderOf_9 rfl ?_
  refine hq_goto (tgt := 21) C dL_orderOf_10 (by decide) ?_
  refine hq_iconst (y := 0) C dL_orderOf_21 (by decide) ?_
  exact hq_iretX C hr hlk dL_orderOf_22 rfl rfl rfl (Nat.le_of_ble_eq_true rfl) (Nat.le_of_ble_eq_true rfl)
set_option maxHeartbeats 4000000 in
set_option maxRecDepth 100000 in
theorem m_L_orderOf_eI {l : Launch} {D : va_G} {b0 : Nat} {I : MI} {J : MJ} {P : MI} {N : MJ} {o : Int64} (hlt : l.stackTraces = false) {x y : Int32} {nb no nc : Nat} {B : Int} (h : hw_ci I J nb no nc B) (hx9 : e_orderOf I x y = some eI) : hL l yL_orderOf wL_orderOf rL_orderOf D b0 [.ref (hw_ad b0 0 0), .int x, .int y, .ref (hw_ad b0 59 0)] I J P N o 1 I J o := by
  refine hw_MHof (by decide) [(0, .ref _), (1, .int _), (2, .int _), (3, .ref _)] rfl (Nat.le_of_ble_eq_true rfl) ?_
  intro p e s m args below meth c C hr hlk hT
  refine hq_aload_n (q := 3) C dL_orderOf_0 rfl rfl ?_
  refine hq_iconst (y := 0) C dL_orderOf_1 (by decide) ?_
  refine hq_aload_n (q := 0) C dL_orderOf_2 rfl rfl ?_
  refine hq_iload_n (q := 1) C dL_orderOf_3 rfl rfl ?_
  refine hq_iload_n (q := 2) C dL_orderOf_4 rfl rfl ?_
  refine hq_cVXr (As := [.int _, .int _]) (rm := rX5_orderOf) (f := 0) (Nc := 1) C (m_X5_orderOf hlt h) wv_X5_orderOf ml_L_82 rfl rfl rfl Nat.one_pos rfl rfl rfl rfl ⟨Nat.le_of_ble_eq_true rfl, Nat.le_of_ble_eq_true rfl⟩ (Nat.le_of_ble_eq_true rfl) ⟨Nat.le_of_ble_eq_true rfl, Nat.le_of_ble_eq_true rfl⟩ dL_orderOf_5 (fun n9 => absurd (n9.symm.trans hx9) (by simp)) (fun E9 x9 => ?_)
  cases hx9.symm.trans x9
  refine hq_catch (E := eI) (name := eI) C hT (tableOf []) ⟨0, 10, 13, 13⟩ (tableOf [(0, 10, 17, 15)]) rfl (fun z hz => by cases hz) rfl (by decide) L_13 C.2.2.2.2.2.2.1.2.1.1 (fun q9 => ?_)
  refine hq_astore (L' := [(4, .ref _), (0, .ref _), (1, .int _), (2, .int _), (3, .ref _)]) C dL_orderOf_13 (by decide) rfl ?_
  refine hq_iconst (y := 1) C dL_orderOf_15 (by decide) ?_
  exact hq_iretX C hr hlk dL_orderOf_16 rfl rfl rfl (Nat.le_of_ble_eq_true rfl) (Nat.le_of_ble_eq_true rfl)
set_option maxHeartbeats 4000000 in
set_option maxRecDepth 100000 in
theorem m_L_orderOf_eA {l : Launch} {D : va_G} {b0 : Nat} {I : MI} {J : MJ} {P : MI} {N : MJ} {o : Int64} (hlt : l.stackTraces = false) {x y : Int32} {nb no nc : Nat} {B : Int} (h : hw_ci I J nb no nc B) (hx9 : e_orderOf I x y = some eA) : hL l yL_orderOf wL_orderOf rL_orderOf D b0 [.ref (hw_ad b0 0 0), .int x, .int y, .ref (hw_ad b0 59 0)] I J P N o 2 I J o := by
  refine hw_MHof (by decide) [(0, .ref _), (1, .int _), (2, .int _), (3, .ref _)] rfl (Nat.le_of_ble_eq_true rfl) ?_
  intro p e s m args below meth c C hr hlk hT
  refine hq_aload_n (q := 3) C dL_orderOf_0 rfl rfl ?_
  refine hq_iconst (y := 0) C dL_orderOf_1 (by decide) ?_
  refine hq_aload_n (q := 0) C dL_orderOf_2 rfl rfl ?_
  refine hq_iload_n (q := 1) C dL_orderOf_3 rfl rfl ?_
  refine hq_iload_n (q := 2) C dL_orderOf_4 rfl rfl ?_
  refine hq_cVXr (As := [.int _, .int _]) (rm := rX5_orderOf) (f := 0) (Nc := 1) C (m_X5_orderOf hlt h) wv_X5_orderOf ml_L_82 rfl rfl rfl Nat.one_pos rfl rfl rfl rfl ⟨Nat.le_of_ble_eq_true rfl, Nat.le_of_ble_eq_true rfl⟩ (Nat.le_of_ble_eq_true rfl) ⟨Nat.le_of_ble_eq_true rfl, Nat.le_of_ble_eq_true rfl⟩ dL_orderOf_5 (fun n9 => absurd (n9.symm.trans hx9) (by simp)) (fun E9 x9 => ?_)
  cases hx9.symm.trans x9
  refine hq_catch (E := eA) (name := eA) C hT (tableOf [(0, 10, 13, 13)]) ⟨0, 10, 17, 15⟩ (tableOf []) rfl (fun z hz => by
      rcases List.mem_cons.mp hz with h9 | h9
      · rw [h9]; exact Or.inr ⟨by decide, eI, L_13, C.2.2.2.2.2.2.1.2.2.1.1⟩
      · cases h9) rfl (by decide) L_15 C.2.2.2.2.2.2.1.2.1.2.1 (fun q9 => ?_)
  refine hq_astore (L' := [(4, .ref _), (0, .ref _), (1, .int _), (2, .int _), (3, .ref _)]) C dL_orderOf_17 (by decide) rfl ?_
  refine hq_iconst (y := 2) C dL_orderOf_19 (by decide) ?_
  exact hq_iretX C hr hlk dL_orderOf_20 rfl rfl rfl (Nat.le_of_ble_eq_true rfl) (Nat.le_of_ble_eq_true rfl)
abbrev wL_sum : Cond := .codeWith yL_sum cL_sum 4 (some .int) [(0, 8, 11, 15)]
theorem ws_L_sum : hw_WS yL_sum wL_sum 3 := ⟨⟨hw_in 745 (by decide +kernel) rfl, hw_in 744 (by decide +kernel) rfl, hw_in 57 (by decide +kernel) rfl⟩, by decide +kernel⟩
set_option maxHeartbeats 4000000 in
set_option maxRecDepth 100000 in
theorem m_L_sum_n {l : Launch} {D : va_G} {b0 : Nat} {I : MI} {J : MJ} {P : MI} {N : MJ} {o : Int64} (hlt : l.stackTraces = false) {x : Int32} {nb no nc : Nat} {B : Int} (h : hw_ci I J nb no nc B) (hx9 : e_sum x = none) : hL l yL_sum wL_sum rL_sum D b0 [.ref (hw_ad b0 0 0), .int x, .ref (hw_ad b0 59 0)] I J P N o 0 I J (r_sum I J x nb no nc) := by
  refine hw_MHof (by decide) [(0, .ref _), (1, .int _), (2, .ref _)] rfl (Nat.le_of_ble_eq_true rfl) ?_
  intro p e s m args below meth c C hr hlk hT
  refine hq_aload_n (q := 2) C dL_sum_0 rfl rfl ?_
  refine hq_iconst (y := 0) C dL_sum_1 (by decide) ?_
  refine hq_aload_n (q := 0) C dL_sum_2 rfl rfl ?_
  refine hq_iload_n (q := 1) C dL_sum_3 rfl rfl ?_
  refine hq_cVXr (As := [.int _]) (rm := rX5_sum) (f := 0) (Nc := 1) C (m_X5_sum hlt h) wv_X5_sum ml_L_85 rfl rfl rfl Nat.one_pos rfl rfl rfl rfl ⟨Nat.le_of_ble_eq_true rfl, Nat.le_of_ble_eq_true rfl⟩ (Nat.le_of_ble_eq_true rfl) ⟨Nat.le_of_ble_eq_true rfl, Nat.le_of_ble_eq_true rfl⟩ dL_sum_4 (fun _ => ?_) (fun E9 x9 => absurd (hx9.symm.trans x9) (by simp))
  refine hq_lasto C dL_sum_7 rfl ?_
  refine hq_goto (tgt := 14) C dL_sum_8 (by decide) ?_
  refine hq_iconst (y := 0) C dL_sum_14 (by decide) ?_
  exact hq_iretX C hr hlk dL_sum_15 rfl rfl rfl (Nat.le_of_ble_eq_true rfl) (Nat.le_of_ble_eq_true rfl)
set_option maxHeartbeats 4000000 in
set_option maxRecDepth 100000 in
theorem m_L_sum_eA {l : Launch} {D : va_G} {b0 : Nat} {I : MI} {J : MJ} {P : MI} {N : MJ} {o : Int64} (hlt : l.stackTraces = false) {x : Int32} {nb no nc : Nat} {B : Int} (h : hw_ci I J nb no nc B) (hx9 : e_sum x = some eA) : hL l yL_sum wL_sum rL_sum D b0 [.ref (hw_ad b0 0 0), .int x, .ref (hw_ad b0 59 0)] I J P N o 1 I J o := by
  refine hw_MHof (by decide) [(0, .ref _), (1, .int _), (2, .ref _)] rfl (Nat.le_of_ble_eq_true rfl) ?_
  intro p e s m args below meth c C hr hlk hT
  refine hq_aload_n (q := 2) C dL_sum_0 rfl rfl ?_
  refine hq_iconst (y := 0) C dL_sum_1 (by decide) ?_
  refine hq_aload_n (q := 0) C dL_sum_2 rfl rfl ?_
  refine hq_iload_n (q := 1) C dL_sum_3 rfl rfl ?_
  refine hq_cVXr (As := [.int _]) (rm := rX5_sum) (f := 0) (Nc := 1) C (m_X5_sum hlt h) wv_X5_sum ml_L_85 rfl rfl rfl Nat.one_pos rfl rfl rfl rfl ⟨Nat.le_of_ble_eq_true rfl, Nat.le_of_ble_eq_true rfl⟩ (Nat.le_of_ble_eq_true rfl) ⟨Nat.le_of_ble_eq_true rfl, Nat.le_of_ble_eq_true rfl⟩ dL_sum_4 (fun n9 => absurd (n9.symm.trans hx9) (by simp)) (fun E9 x9 => ?_)
  cases hx9.symm.trans x9
  refine hq_catch (E := eA) (name := eA) C hT (tableOf []) ⟨0, 8, 11, 15⟩ (tableOf []) rfl (fun z hz => by cases hz) rfl (by decide) L_15 C.2.2.2.2.2.2.1.2.1.2.1 (fun q9 => ?_)
  refine hq_astore_n (L' := [(3, .ref _), (0, .ref _), (1, .int _), (2, .ref _)]) C dL_sum_11 rfl (by decide) rfl ?_
  refine hq_iconst (y := 1) C dL_sum_12 (by decide) ?_
  exact hq_iretX C hr hlk dL_sum_13 rfl rfl rfl (Nat.le_of_ble_eq_true rfl) (Nat.le_of_ble_eq_true rfl)
