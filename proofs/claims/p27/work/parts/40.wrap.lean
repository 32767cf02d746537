/-! wrappers: what is thrown becomes a number -/
section HHX
variable {p : Program} {l : Launch} {e : Env} {R : Room} {s : State} {m : MethodId} {args : Array Value} {below : List Frame} {meth : Method} {c : Code} {Q : State → Prop}
variable {D : va_G} {b0 nL : Nat} {ka kb n : Nat} {pc : Nat} {L : List (Nat × Value)} {st : List Value} {v v' ve : VF} {cc : ByteArray} {own : String}
variable {y : MethodName} {bytes : ByteArray} {maxL mc ms : Nat} {ret : Option FieldType} {rm : Room} {r : Option Value} {hh : List (Nat × Nat × Nat × Nat)}
/-- caught here by the row x of the table; the rows ahead don't take it -/
theorem hq_catch (C : hw_C p s m args c D b0 cc own nL) (hT : c.exceptionTable.toList = tableOf hh) {E name : String} (pre : List ExceptionTableEntry) (x : ExceptionTableEntry) (suf : List ExceptionTableEntry) (hsplit : tableOf hh = pre ++ x :: suf)
    (hpass : ∀ z ∈ pre, covers z pc = false ∨ (z.catchType ≠ 0 ∧ ∃ nm : String, Cond.classLink own z.catchType nm ∈ hw_TB ∧ va_Nc E nm s)) (hx : covers x pc = true) (h0 : x.catchType ≠ 0) (hlink : Cond.classLink own x.catchType name ∈ hw_TB) (hcast : va_Nw (.castable E name) s)
    (kk : ∀ q : Addr, hw_V p l e R s m args below meth c Q D b0 nL false ka kb n x.handlerPc L [.ref q] v) : hw_T p l e R s m args below meth c Q D b0 nL ka kb n E pc L st v := by
  intro H locs ls q ce hH hZ hS hl hce hcv hcl
  exact vx_catch C.2.2.2.1 pre x suf (hT.trans hsplit) (fun z hz => (hpass z hz).imp id (fun ⟨a, nm, b, d⟩ => ⟨a, nm, C.2.2.2.2.1 _ b, d⟩)) hx h0 (C.2.2.2.2.1 _ hlink) (va_Nw.use rfl hcast) hce hcv hcl (kk q H locs ls hH hZ hS hl)
theorem hw_MHof {av : List Value} (hy : plainName y.cls = true) (Ls : List (Nat × Value)) (hLs : lv_args 0 av = Ls) (hml : (lg_sl av).length ≤ maxL)
    (body : ∀ (p : Program) (e : Env) (s : State) (m : MethodId) (args : Array Value) (below : List Frame) (meth : Method) (c : Code), hw_C p s m args c D b0 bytes y.cls maxL → meth.sig.returnType = ret → meth.locks = false → c.exceptionTable.toList = tableOf hh →
      hw_V p l e rm s m args below meth c (vx_MQ below (hw_QX D b0 n none r v') (hw_XC D b0 n none ve) args s mc ms (fun q => b0 ≤ q)) D b0 maxL false 0 0 n 0 Ls [] v) : hw_MXe l y (Cond.codeWith y bytes maxL ret hh) rm D b0 n av v none ve r v' mc ms := by
  refine vx_ofWH (cc := bytes) (maxL := maxL) (ret := ret) (hh := hh) hy rfl ?_
  intro p e s m args below meth c s₁ B hml9 hv9
  obtain ⟨rfl, h1, h2, h3, h4, h5, h6⟩ := hv9
  have hts := atoms_spec (ws := Cond.codeWith y bytes maxL ret hh :: hw_TB) B.pre
  have hT : c.exceptionTable.toList = tableOf hh := vx_table (x := y) B (hts _ List.mem_cons_self)
  have C : hw_C p s m av.toArray c D b0 bytes y.cls maxL := ⟨B.exec, B.bytes, hml9, findClass_of_methodNamed B.named, fun w hw => hts w (List.mem_cons_of_mem _ hw), h1, h2, h3, h4, Nat.le_trans (Nat.le_add_right _ _) h6.1⟩
  rw [lg_entry_eq]
  have hl := lv_entry av (n := maxL) hml
  rw [hLs] at hl
  exact body p e s m av.toArray below meth c C B.returns B.notSynchronized hT s.heap [] _ h5 h6 va_S.rf hl
end HHX
theorem hw_MXe.of {l : Launch} {y : MethodName} {w : Cond} {rm : Room} {D : va_G} {b0 n : Nat} {av : List Value} {v v' : VF} {ex : Option String} {r : Option Value} {mc ms : Nat} (h : hw_MX l y w rm D b0 n av v ex r v' mc ms) : hw_MXe l y w rm D b0 n av v ex v r v' mc ms := h
/-- a wrapper's contract -/
abbrev hL (l : Launch) (y : MethodName) (w : Cond) (rm : Room) (D : va_G) (b0 : Nat) (av : List Value) (I : MI) (J : MJ) (P : MI) (N : MJ) (o : Int64) (r : Int64) (I' : MI) (J' : MJ) : Prop := hw_MX l y w rm D b0 (hw_n o) av (hw_vl b0 I J P N o) none (some (.long r)) (hw_vl b0 I' J' P N o) rm.cells rm.slots
/-- what a wrapper answers where the hall throws -/
abbrev NO : Int64 := -9000000000000000
theorem L_14 : Cond.classLink RL 14 eI ∈ hw_TB := hw_in 384 (by decide +kernel) rfl
theorem L_18 : Cond.classLink RL 18 eA ∈ hw_TB := hw_in 385 (by decide +kernel) rfl
theorem L_20 : Cond.classLink RL 20 eS ∈ hw_TB := hw_in 386 (by decide +kernel) rfl
theorem hq_cVXer {p : Program} {l : Launch} {e : Env} {R : Room} {s : State} {m : MethodId} {args : Array Value} {below : List Frame} {meth : Method} {c : Code} {Q : State → Prop} {D : va_G} {b0 nL : Nat} {ka kb : Nat} {pc : Nat} {L : List (Nat × Value)} {st : List Value} {cc : ByteArray} {own : String} {I : MI} {J : MJ} {P : MI} {N : MJ} {o : Int64} (C : hw_C p s m args c D b0 cc own nL) {y : MethodName} {bytes : ByteArray} {maxL idx k : Nat} {ret : Option FieldType} {rm : Room} {As : List Value} {Cn : String} {st0 : List Value} {I' Ie : MI} {J' Je : MJ} {P' Pe : MI} {N' Ne : MJ} {o' oe : Int64} {q : Value} {f i : Nat} {T : u_T} {N0 Nc : Nat} {mc ms : Nat} {ex : Option String} (hM : hw_MXe l y (Cond.code y bytes maxL ret) rm D b0 (hw_n o) (.ref (hw_ad b0 f i) :: As) (hw_vl b0 I J P N o) ex (hw_vl b0 Ie Je Pe Ne oe) (some q) (hw_vl b0 I' J' P' N' o') mc ms) (hw : hw_WV Cn y (Cond.code y bytes maxL ret) k) (hl9 : Cond.methodLink own idx y ∈ hw_TB) (ho : hw_ob f = true) (hcl : vwCl[hw_kc f]? = some (Cn, T, N0)) (hNc : hw_cn f = Nc) (hi : i < Nc) (hlen : As.length = k) (hst : st0 = As.reverse ++ .ref (hw_ad b0 f i) :: st) (hrc : rm.cells = mc) (hrs : rm.slots = ms) (hR : rm.frames + 1 ≤ R.frames ∧ 8 + (maxL + 11) + rm.locals ≤ R.locals) (hroom : (st.map fun v => v.category).sum ≤ 8) (hf : ka + mc ≤ R.cells ∧ kb + ms ≤ R.slots) (hdg : decode cc pc = .ok (.invokevirtual idx, 3)) (kk : (ex = none → hw_V p l e R s m args below meth c Q D b0 nL false (ka + mc) (kb + ms) (hw_n o) (pc + 3) L (q :: st) (hw_vl b0 I' J' P' N' o'))) (kx : ∀ E, ex = some E → hw_T p l e R s m args below meth c Q D b0 nL (ka + mc) (kb + ms) (hw_n o) E pc L st (hw_vl b0 Ie Je Pe Ne oe)) : hw_V p l e R s m args below meth c Q D b0 nL false ka kb (hw_n o) pc L st0 (hw_vl b0 I J P N o) :=
  hq_callVXe C hM hw hl9 ho hcl (hw_nt1 hNc hi) (hw_nt2 hNc hi) hlen hst hrc hrs hR hroom hf hdg kk kx
abbrev wL_rate : Cond := .codeWith yL_rate cL_rate 4 (some .long) [(0, 7, 8, 14), (0, 7, 13, 18)]
theorem ws_L_rate : hw_WS yL_rate wL_rate 3 := ⟨⟨hw_in 432 (by decide +kernel) rfl, hw_in 431 (by decide +kernel) rfl, hw_in 34 (by decide +kernel) rfl⟩, by decide +kernel⟩
def kL_rate (x y : Int32) (I : MI) (J : MJ) (r : Int64) (I' : MI) (J' : MJ) : Prop := ∀ (l : Launch) (D : va_G) (b0 : Nat) (P : MI) (N : MJ) (o : Int64), l.stackTraces = false → hL l yL_rate wL_rate rL_rate D b0 [.ref (hw_ad b0 0 0), .int x, .int y] I J P N o r I' J'
set_option maxHeartbeats 4000000 in
set_option maxRecDepth 100000 in
theorem m_L_rate_n {l : Launch} {D : va_G} {b0 : Nat} {I : MI} {J : MJ} {P : MI} {N : MJ} {o : Int64} (hlt : l.stackTraces = false) {x y : Int32} {nb no nc : Nat} {B : Int} (h : hw_ci I J nb no nc B) (hx9 : e_rate I x y = none) : hL l yL_rate wL_rate rL_rate D b0 [.ref (hw_ad b0 0 0), .int x, .int y] I J P N o (I 6 (tn x)).toInt64 (uI I 6 (tn x) y) J := by
  refine hw_MHof (by decide) [(0, .ref _), (1, .int _), (2, .int _)] rfl (Nat.le_of_ble_eq_true rfl) ?_
  intro p e s m args below meth c C hr hlk hT
  refine hq_aload_n (q := 0) C dL_rate_0 rfl rfl ?_
  refine hq_iload_n (q := 1) C dL_rate_1 rfl rfl ?_
  refine hq_iload_n (q := 2) C dL_rate_2 rfl rfl ?_
  refine hq_cVXr (As := [.int _, .int _]) (rm := rX5_rate) (f := 0) (Nc := 1) C (m_X5_rate hlt h) wv_X5_rate ml_L_22 rfl rfl rfl Nat.one_pos rfl rfl rfl rfl ⟨Nat.le_of_ble_eq_true rfl, Nat.le_of_ble_eq_true rfl⟩ (Nat.le_of_ble_eq_true rfl) ⟨Nat.le_of_ble_eq_true rfl, Nat.le_of_ble_eq_true rfl⟩ dL_rate_3 (fun _ => ?_) (fun E9 x9 => absurd (hx9.symm.trans x9) (by simp))
  refine hq_i2l C dL_rate_6 ?_
  exact hq_lretX C hr hlk dL_rate_7 rfl rfl rfl (Nat.le_of_ble_eq_true rfl) (Nat.le_of_ble_eq_true rfl)
theorem n_L_rate {I : MI} {J : MJ} {x y : Int32} {nb no nc : Nat} {B : Int} (h : hw_ci I J nb no nc B) (hx9 : e_rate I x y = none) : kL_rate x y I J (I 6 (tn x)).toInt64 (uI I 6 (tn x) y) J := fun _ _ _ _ _ _ hlt => m_L_rate_n hlt h hx9
set_option maxHeartbeats 4000000 in
set_option maxRecDepth 100000 in
theorem m_L_rate_eI {l : Launch} {D : va_G} {b0 : Nat} {I : MI} {J : MJ} {P : MI} {N : MJ} {o : Int64} (hlt : l.stackTraces = false) {x y : Int32} {nb no nc : Nat} {B : Int} (h : hw_ci I J nb no nc B) (hx9 : e_rate I x y = some eI) : hL l yL_rate wL_rate rL_rate D b0 [.ref (hw_ad b0 0 0), .int x, .int y] I J P N o NO I J := by
  refine hw_MHof (by decide) [(0, .ref _), (1, .int _), (2, .int _)] rfl (Nat.le_of_ble_eq_true rfl) ?_
  intro p e s m args below meth c C hr hlk hT
  refine hq_aload_n (q := 0) C dL_rate_0 rfl rfl ?_
  refine hq_iload_n (q := 1) C dL_rate_1 rfl rfl ?_
  refine hq_iload_n (q := 2) C dL_rate_2 rfl rfl ?_
  refine hq_cVXr (As := [.int _, .int _]) (rm := rX5_rate) (f := 0) (Nc := 1) C (m_X5_rate hlt h) wv_X5_rate ml_L_22 rfl rfl rfl Nat.one_pos rfl rfl rfl rfl ⟨Nat.le_of_ble_eq_true rfl, Nat.le_of_ble_eq_true rfl⟩ (Nat.le_of_ble_eq_true rfl) ⟨Nat.le_of_ble_eq_true rfl, Nat.le_of_ble_eq_true rfl⟩ dL_rate_3 (fun n9 => absurd (n9.symm.trans hx9) (by simp)) (fun E9 x9 => ?_)
  cases hx9.symm.trans x9
  refine hq_catch (E := eI) (name := eI) C hT (tableOf []) ⟨0, 7, 8, 14⟩ (tableOf [(0, 7, 13, 18)]) rfl (fun z hz => by cases hz) rfl (by decide) L_14 C.2.2.2.2.2.2.1.2.1.1 (fun q9 => ?_)
  refine hq_astore_n (L' := [(3, .ref _), (0, .ref _), (1, .int _), (2, .int _)]) C dL_rate_8 rfl (by decide) rfl ?_
  refine hq_ldc2 C wc_L_16 dL_rate_9 ?_
  exact hq_lretX C hr hlk dL_rate_12 rfl rfl rfl (Nat.le_of_ble_eq_true rfl) (Nat.le_of_ble_eq_true rfl)
theorem t_L_rate_eI {I : MI} {J : MJ} {x y : Int32} {nb no nc : Nat} {B : Int} (h : hw_ci I J nb no nc B) (hx9 : e_rate I x y = some eI) : kL_rate x y I J NO I J := fun _ _ _ _ _ _ hlt => m_L_rate_eI hlt h hx9
set_option maxHeartbeats 4000000 in
set_option maxRecDepth 100000 in
theorem m_L_rate_eA {l : Launch} {D : va_G} {b0 : Nat} {I : MI} {J : MJ} {P : MI} {N : MJ} {o : Int64} (hlt : l.stackTraces = false) {x y : Int32} {nb no nc : Nat} {B : Int} (h : hw_ci I J nb no nc B) (hx9 : e_rate I x y = some eA) : hL l yL_rate wL_rate rL_rate D b0 [.ref (hw_ad b0 0 0), .int x, .int y] I J P N o NO I J := by
  refine hw_MHof (by decide) [(0, .ref _), (1, .int _), (2, .int _)] rfl (Nat.le_of_ble_eq_true rfl) ?_
  intro p e s m args below meth c C hr hlk hT
  refine hq_aload_n (q := 0) C dL_rate_0 rfl rfl ?_
  refine hq_iload_n (q := 1) C dL_rate_1 rfl rfl ?_
  refine hq_iload_n (q := 2) C dL_rate_2 rfl rfl ?_
  refine hq_cVXr (As := [.int _, .int _]) (rm := rX5_rate) (f := 0) (Nc := 1) C (m_X5_rate hlt h) wv_X5_rate ml_L_22 rfl rfl rfl Nat.one_pos rfl rfl rfl rfl ⟨Nat.le_of_ble_eq_true rfl, Nat.le_of_ble_eq_true rfl⟩ (Nat.le_of_ble_eq_true rfl) ⟨Nat.le_of_ble_eq_true rfl, Nat.le_of_ble_eq_true rfl⟩ dL_rate_3 (fun n9 => absurd (n9.symm.trans hx9) (by simp)) (fun E9 x9 => ?_)
  cases hx9.symm.trans x9
  refine hq_catch (E := eA) (name := eA) C hT (tableOf [(0, 7, 8, 14)]) ⟨0, 7, 13, 18⟩ (tableOf []) rfl (fun z hz => by
      rcases List.mem_cons.mp hz with h9 | h9
      · rw [h9]; exact Or.inr ⟨by decide, eI, L_14, C.2.2.2.2.2.2.1.2.2.1.1⟩
      · cases h9) rfl (by decide) L_18 C.2.2.2.2.2.2.1.2.1.2.1 (fun q9 => ?_)
  refine hq_astore_n (L' := [(3, .ref _), (0, .ref _), (1, .int _), (2, .int _)]) C dL_rate_13 rfl (by decide) rfl ?_
  refine hq_ldc2 C wc_L_16 dL_rate_14 ?_
  exact hq_lretX C hr hlk dL_rate_17 rfl rfl rfl (Nat.le_of_ble_eq_true rfl) (Nat.le_of_ble_eq_true rfl)
theorem t_L_rate_eA {I : MI} {J : MJ} {x y : Int32} {nb no nc : Nat} {B : Int} (h : hw_ci I J nb no nc B) (hx9 : e_rate I x y = some eA) : kL_rate x y I J NO I J := fun _ _ _ _ _ _ hlt => m_L_rate_eA hlt h hx9
abbrev wL_broker : Cond := .codeWith yL_broker cL_broker 5 (some .long) [(0, 8, 9, 14), (0, 8, 15, 18), (0, 8, 21, 20)]
theorem ws_L_broker : hw_WS yL_broker wL_broker 4 := ⟨⟨hw_in 383 (by decide +kernel) rfl, hw_in 382 (by decide +kernel) rfl, hw_in 34 (by decide +kernel) rfl⟩, by decide +kernel⟩
def kL_broker (x y z : Int32) (I : MI) (J : MJ) (r : Int64) (I' : MI) (J' : MJ) : Prop := ∀ (l : Launch) (D : va_G) (b0 : Nat) (P : MI) (N : MJ) (o : Int64), l.stackTraces = false → hL l yL_broker wL_broker rL_broker D b0 [.ref (hw_ad b0 0 0), .int x, .int y, .int z] I J P N o r I' J'
set_option maxHeartbeats 4000000 in
set_option maxRecDepth 100000 in
theorem m_L_broker_n {l : Launch} {D : va_G} {b0 : Nat} {I : MI} {J : MJ} {P : MI} {N : MJ} {o : Int64} (hlt : l.stackTraces = false) {x y z : Int32} {nb no nc : Nat} {B : Int} (h : hw_ci I J nb no nc B) (hx9 : e_broker I x y z = none) : hL l yL_broker wL_broker rL_broker D b0 [.ref (hw_ad b0 0 0), .int x, .int y, .int z] I J P N o (I 0 0 + 1 - 1).toInt64 (i_broker I x z nb) (uJ J 0 nb y.toInt64) := by
  refine hw_MHof (by decide) [(0, .ref _), (1, .int _), (2, .int _), (3, .int _)] rfl (Nat.le_of_ble_eq_true rfl) ?_
  intro p e s m args below meth c C hr hlk hT
  refine hq_aload_n (q := 0) C dL_broker_0 rfl rfl ?_
  refine hq_iload_n (q := 1) C dL_broker_1 rfl rfl ?_
  refine hq_iload_n (q := 2) C dL_broker_2 rfl rfl ?_
  refine hq_iload_n (q := 3) C dL_broker_3 rfl rfl ?_
  refine hq_cVXr (As := [.int _, .int _, .int _]) (rm := rX5_broker) (f := 0) (Nc := 1) C (m_X5_broker hlt h) wv_X5_broker ml_L_8 rfl rfl rfl Nat.one_pos rfl rfl rfl rfl ⟨Nat.le_of_ble_eq_true rfl, Nat.le_of_ble_eq_true rfl⟩ (Nat.le_of_ble_eq_true rfl) ⟨Nat.le_of_ble_eq_true rfl, Nat.le_of_ble_eq_true rfl⟩ dL_broker_4 (fun _ => ?_) (fun E9 x9 => absurd (hx9.symm.trans x9) (by simp))
  refine hq_i2l C dL_broker_7 ?_
  exact hq_lretX C hr hlk dL_broker_8 rfl rfl rfl (Nat.le_of_ble_eq_true rfl) (Nat.le_of_ble_eq_true rfl)
theorem n_L_broker {I : MI} {J : MJ} {x y z : Int32} {nb no nc : Nat} {B : Int} (h : hw_ci I J nb no nc B) (hx9 : e_broker I x y z = none) : kL_broker x y z I J (I 0 0 + 1 - 1).toInt64 (i_broker I x z nb) (uJ J 0 nb y.toInt64) := fun _ _ _ _ _ _ hlt => m_L_broker_n hlt h hx9
set_option maxHeartbeats 4000000 in
set_option maxRecDepth 100000 in
theorem m_L_broker_eI {l : Launch} {D : va_G} {b0 : Nat} {I : MI} {J : MJ} {P : MI} {N : MJ} {o : Int64} (hlt : l.stackTraces = false) {x y z : Int32} {nb no nc : Nat} {B : Int} (h : hw_ci I J nb no nc B) (hx9 : e_broker I x y z = some eI) : hL l yL_broker wL_broker rL_broker D b0 [.ref (hw_ad b0 0 0), .int x, .int y, .int z] I J P N o NO I J := by
  refine hw_MHof (by decide) [(0, .ref _), (1, .int _), (2, .int _), (3, .int _)] rfl (Nat.le_of_ble_eq_true rfl) ?_
  intro p e s m args below meth c C hr hlk hT
  refine hq_aload_n (q := 0) C dL_broker_0 rfl rfl ?_
  refine hq_iload_n (q := 1) C dL_broker_1 rfl rfl ?_
  refine hq_iload_n (q := 2) C dL_broker_2 rfl rfl ?_
  refine hq_iload_n (q := 3) C dL_broker_3 rfl rfl ?_
  refine hq_cVXr (As := [.int _, .int _, .int _]) (rm := rX5_broker) (f := 0) (Nc := 1) C (m_X5_broker hlt h) wv_X5_broker ml_L_8 rfl rfl rfl Nat.one_pos rfl rfl rfl rfl ⟨Nat.le_of_ble_eq_true rfl, Nat.le_of_ble_eq_true rfl⟩ (Nat.le_of_ble_eq_true rfl) ⟨Nat.le_of_ble_eq_true rfl, Nat.le_of_ble_eq_true rfl⟩ dL_broker_4 (fun n9 => absurd (n9.symm.trans hx9) (by simp)) (fun E9 x9 => ?_)
  cases hx9.symm.trans x9
  refine hq_catch (E := eI) (name := eI) C hT (tableOf []) ⟨0, 8, 9, 14⟩ (tableOf [(0, 8, 15, 18), (0, 8, 21, 20)]) rfl (fun z hz => by cases hz) rfl (by decide) L_14 C.2.2.2.2.2.2.1.2.1.1 (fun q9 => ?_)
  refine hq_astore (L' := [(4, .ref _), (0, .ref _), (1, .int _), (2, .int _), (3, .int _)]) C dL_broker_9 (by decide) rfl ?_
  refine hq_ldc2 C wc_L_16 dL_broker_11 ?_
  exact hq_lretX C hr hlk dL_broker_14 rfl rfl rfl (Nat.le_of_ble_eq_true rfl) (Nat.le_of_ble_eq_true rfl)
theorem t_L_broker_eI {I : MI} {J : MJ} {x y z : Int32} {nb no nc : Nat} {B : Int} (h : hw_ci I J nb no nc B) (hx9 : e_broker I x y z = some eI) : kL_broker x y z I J NO I J := fun _ _ _ _ _ _ hlt => m_L_broker_eI hlt h hx9
set_option maxHeartbeats 4000000 in
set_option maxRecDepth 100000 in
theorem m_L_broker_eA {l : Launch} {D : va_G} {b0 : Nat} {I : MI} {J : MJ} {P : MI} {N : MJ} {o : Int64} (hlt : l.stackTraces = false) {x y z : Int32} {nb no nc : Nat} {B : Int} (h : hw_ci I J nb no nc B) (hx9 : e_broker I x y z = some eA) : hL l yL_broker wL_broker rL_broker D b0 [.ref (hw_ad b0 0 0), .int x, .int y, .int z] I J P N o NO I J := by
  refine hw_MHof (by decide) [(0, .ref _), (1, .int _), (2, .int _), (3, .int _)] rfl (Nat.le_of_ble_eq_true rfl) ?_
  intro p e s m args below meth c C hr hlk hT
  refine hq_aload_n (q := 0) C dL_broker_0 rfl rfl ?_
  refine hq_iload_n (q := 1) C dL_broker_1 rfl rfl ?_
  refine hq_iload_n (q := 2) C dL_broker_2 rfl rfl ?_
  refine hq_iload_n (q := 3) C dL_broker_3 rfl rfl ?_
  refine hq_cVXr (As := [.int _, .int _, .int _]) (rm := rX5_broker) (f := 0) (Nc := 1) C (m_X5_broker hlt h) wv_X5_broker ml_L_8 rfl rfl rfl Nat.one_pos rfl rfl rfl rfl ⟨Nat.le_of_ble_eq_true rfl, Nat.le_of_ble_eq_true rfl⟩ (Nat.le_of_ble_eq_true rfl) ⟨Nat.le_of_ble_eq_true rfl, Nat.le_of_ble_eq_true rfl⟩ dL_broker_4 (fun n9 => absurd (n9.symm.trans hx9) (by simp)) (fun E9 x9 => ?_)
  cases hx9.symm.trans x9
  refine hq_catch (E := eA) (name := eA) C hT (tableOf [(0, 8, 9, 14)]) ⟨0, 8, 15, 18⟩ (tableOf [(0, 8, 21, 20)]) rfl (fun z hz => by
      rcases List.mem_cons.mp hz with h9 | h9
      · rw [h9]; exact Or.inr ⟨by decide, eI, L_14, C.2.2.2.2.2.2.1.2.2.1.1⟩
      · cases h9) rfl (by decide) L_18 C.2.2.2.2.2.2.1.2.1.2.1 (fun q9 => ?_)
  refine hq_astore (L' := [(4, .ref _), (0, .ref _), (1, .int _), (2, .int _), (3, .int _)]) C dL_broker_15 (by decide) rfl ?_
  refine hq_ldc2 C wc_L_16 dL_broker_17 ?_
  exact hq_lretX C hr hlk dL_broker_20 rfl rfl rfl (Nat.le_of_ble_eq_true rfl) (Nat.le_of_ble_eq_true rfl)
theorem t_L_broker_eA {I : MI} {J : MJ} {x y z : Int32} {nb no nc : Nat} {B : Int} (h : hw_ci I J nb no nc B) (hx9 : e_broker I x y z = some eA) : kL_broker x y z I J NO I J := fun _ _ _ _ _ _ hlt => m_L_broker_eA hlt h hx9
set_option maxHeartbeats 4000000 in
set_option maxRecDepth 100000 in
theorem m_L_broker_eS {l : Launch} {D : va_G} {b0 : Nat} {I : MI} {J : MJ} {P : MI} {N : MJ} {o : Int64} (hlt : l.stackTraces = false) {x y z : Int32} {nb no nc : Nat} {B : Int} (h : hw_ci I J nb no nc B) (hx9 : e_broker I x y z = some eS) : hL l yL_broker wL_broker rL_broker D b0 [.ref (hw_ad b0 0 0), .int x, .int y, .int z] I J P N o NO I J := by
  refine hw_MHof (by decide) [(0, .ref _), (1, .int _), (2, .int _), (3, .int _)] rfl (Nat.le_of_ble_eq_true rfl) ?_
  intro p e s m args below meth c C hr hlk hT
  refine hq_aload_n (q := 0) C dL_broker_0 rfl rfl ?_
  refine hq_iload_n (q := 1) C dL_broker_1 rfl rfl ?_
  refine hq_iload_n (q := 2) C dL_broker_2 rfl rfl ?_
  refine hq_iload_n (q := 3) C dL_broker_3 rfl rfl ?_
  refine hq_cVXr (As := [.int _, .int _, .int _]) (rm := rX5_broker) (f := 0) (Nc := 1) C (m_X5_broker hlt h) wv_X5_broker ml_L_8 rfl rfl rfl Nat.one_pos rfl rfl rfl rfl ⟨Nat.le_of_ble_eq_true rfl, Nat.le_of_ble_eq_true rfl⟩ (Nat.le_of_ble_eq_true rfl) ⟨Nat.le_of_ble_eq_true rfl, Nat.le_of_ble_eq_true rfl⟩ dL_broker_4 (fun n9 => absurd (n9.symm.trans hx9) (by simp)) (fun E9 x9 => ?_)
  cases hx9.symm.trans x9
  refine hq_catch (E := eS) (name := eS) C hT (tableOf [(0, 8, 9, 14), (0, 8, 15, 18)]) ⟨0, 8, 21, 20⟩ (tableOf []) rfl (fun z hz => by
      rcases List.mem_cons.mp hz with h9 | h9
      · rw [h9]; exact Or.inr ⟨by decide, eI, L_14, C.2.2.2.2.2.2.1.2.2.1.2.1⟩
      · rcases List.mem_cons.mp h9 with h8 | h8
        · rw [h8]; exact Or.inr ⟨by decide, eA, L_18, C.2.2.2.2.2.2.1.2.2.1.2.2⟩
        · cases h8) rfl (by decide) L_20 C.2.2.2.2.2.2.1.2.1.2.2 (fun q9 => ?_)
  refine hq_astore (L' := [(4, .ref _), (0, .ref _), (1, .int _), (2, .int _), (3, .int _)]) C dL_broker_21 (by decide) rfl ?_
  refine hq_ldc2 C wc_L_16 dL_broker_23 ?_
  exact hq_lretX C hr hlk dL_broker_26 rfl rfl rfl (Nat.le_of_ble_eq_true rfl) (Nat.le_of_ble_eq_true rfl)
theorem t_L_broker_eS {I : MI} {J : MJ} {x y z : Int32} {nb no nc : Nat} {B : Int} (h : hw_ci I J nb no nc B) (hx9 : e_broker I x y z = some eS) : kL_broker x y z I J NO I J := fun _ _ _ _ _ _ hlt => m_L_broker_eS hlt h hx9
abbrev wL_trust : Cond := .codeWith yL_trust cL_trust 6 (some .long) [(0, 10, 11, 14), (0, 10, 17, 18)]
theorem ws_L_trust : hw_WS yL_trust wL_trust 5 := ⟨⟨hw_in 439 (by decide +kernel) rfl, hw_in 438 (by decide +kernel) rfl, hw_in 34 (by decide +kernel) rfl⟩, by decide +kernel⟩
def kL_trust (x y z w : Int32) (I : MI) (J : MJ) (r : Int64) (I' : MI) (J' : MJ) : Prop := ∀ (l : Launch) (D : va_G) (b0 : Nat) (P : MI) (N : MJ) (o : Int64), l.stackTraces = false → hL l yL_trust wL_trust rL_trust D b0 [.ref (hw_ad b0 0 0), .int x, .int y, .int z, .int w] I J P N o r I' J'
set_option maxHeartbeats 4000000 in
set_option maxRecDepth 100000 in
theorem m_L_trust_n {l : Launch} {D : va_G} {b0 : Nat} {I : MI} {J : MJ} {P : MI} {N : MJ} {o : Int64} (hlt : l.stackTraces = false) {x y z w : Int32} (hw : hw_bo w) {nb no nc : Nat} {B : Int} (h : hw_ci I J nb no nc B) (hx9 : e_trust I x y z = none) : hL l yL_trust wL_trust rL_trust D b0 [.ref (hw_ad b0 0 0), .int x, .int y, .int z, .int w] I J P N o 0 (i_trust I x y z w) J := by
  refine hw_MHof (by decide) [(0, .ref _), (1, .int _), (2, .int _), (3, .int _), (4, .int _)] rfl (Nat.le_of_ble_eq_true rfl) ?_
  intro p e s m args below meth c C hr hlk hT
  refine hq_aload_n (q := 0) C dL_trust_0 rfl rfl ?_
  refine hq_iload_n (q := 1) C dL_trust_1 rfl rfl ?_
  refine hq_iload_n (q := 2) C dL_trust_2 rfl rfl ?_
  refine hq_iload_n (q := 3) C dL_trust_3 rfl rfl ?_
  refine hq_iload (q := 4) C dL_trust_4 rfl ?_
  refine hq_cVXv (As := [.int _, .int _, .int _, .int _]) (rm := rX5_trust) (f := 0) (Nc := 1) C (m_X5_trust hlt hw h) wv_X5_trust ml_L_26 rfl rfl rfl Nat.one_pos rfl rfl rfl rfl ⟨Nat.le_of_ble_eq_true rfl, Nat.le_of_ble_eq_true rfl⟩ (Nat.le_of_ble_eq_true rfl) ⟨Nat.le_of_ble_eq_true rfl, Nat.le_of_ble_eq_true rfl⟩ dL_trust_6 (fun _ => ?_) (fun E9 x9 => absurd (hx9.symm.trans x9) (by simp))
  refine hq_lconst (y := 0) C dL_trust_9 rfl ?_
  exact hq_lretX C hr hlk dL_trust_10 rfl rfl rfl (Nat.le_of_ble_eq_true rfl) (Nat.le_of_ble_eq_true rfl)
theorem n_L_trust {I : MI} {J : MJ} {x y z w : Int32} (hw : hw_bo w) {nb no nc : Nat} {B : Int} (h : hw_ci I J nb no nc B) (hx9 : e_trust I x y z = none) : kL_trust x y z w I J 0 (i_trust I x y z w) J := fun _ _ _ _ _ _ hlt => m_L_trust_n hlt hw h hx9
set_option maxHeartbeats 4000000 in
set_option maxRecDepth 100000 in
theorem m_L_trust_eI {l : Launch} {D : va_G} {b0 : Nat} {I : MI} {J : MJ} {P : MI} {N : MJ} {o : Int64} (hlt : l.stackTraces = false) {x y z w : Int32} (hw : hw_bo w) {nb no nc : Nat} {B : Int} (h : hw_ci I J nb no nc B) (hx9 : e_trust I x y z = some eI) : hL l yL_trust wL_trust rL_trust D b0 [.ref (hw_ad b0 0 0), .int x, .int y, .int z, .int w] I J P N o NO I J := by
  refine hw_MHof (by decide) [(0, .ref _), (1, .int _), (2, .int _), (3, .int _), (4, .int _)] rfl (Nat.le_of_ble_eq_true rfl) ?_
  intro p e s m args below meth c C hr hlk hT
  refine hq_aload_n (q := 0) C dL_trust_0 rfl rfl ?_
  refine hq_iload_n (q := 1) C dL_trust_1 rfl rfl ?_
  refine hq_iload_n (q := 2) C dL_trust_2 rfl rfl ?_
  refine hq_iload_n (q := 3) C dL_trust_3 rfl rfl ?_
  refine hq_iload (q := 4) C dL_trust_4 rfl ?_
  refine hq_cVXv (As := [.int _, .int _, .int _, .int _]) (rm := rX5_trust) (f := 0) (Nc := 1) C (m_X5_trust hlt hw h) wv_X5_trust ml_L_26 rfl rfl rfl Nat.one_pos rfl rfl rfl rfl ⟨Nat.le_of_ble_eq_true rfl, Nat.le_of_ble_eq_true rfl⟩ (Nat.le_of_ble_eq_true rfl) ⟨Nat.le_of_ble_eq_true rfl, Nat.le_of_ble_eq_true rfl⟩ dL_trust_6 (fun n9 => absurd (n9.symm.trans hx9) (by simp)) (fun E9 x9 => ?_)
  cases hx9.symm.trans x9
  refine hq_catch (E := eI) (name := eI) C hT (tableOf []) ⟨0, 10, 11, 14⟩ (tableOf [(0, 10, 17, 18)]) rfl (fun z hz => by cases hz) rfl (by decide) L_14 C.2.2.2.2.2.2.1.2.1.1 (fun q9 => ?_)
  refine hq_astore (L' := [(5, .ref _), (0, .ref _), (1, .int _), (2, .int _), (3, .int _), (4, .int _)]) C dL_trust_11 (by decide) rfl ?_
  refine hq_ldc2 C wc_L_16 dL_trust_13 ?_
  exact hq_lretX C hr hlk dL_trust_16 rfl rfl rfl (Nat.le_of_ble_eq_true rfl) (Nat.le_of_ble_eq_true rfl)
theorem t_L_trust_eI {I : MI} {J : MJ} {x y z w : Int32} (hw : hw_bo w) {nb no nc : Nat} {B : Int} (h : hw_ci I J nb no nc B) (hx9 : e_trust I x y z = some eI) : kL_trust x y z w I J NO I J := fun _ _ _ _ _ _ hlt => m_L_trust_eI hlt hw h hx9
set_option maxHeartbeats 4000000 in
set_option maxRecDepth 100000 in
theorem m_L_trust_eA {l : Launch} {D : va_G} {b0 : Nat} {I : MI} {J : MJ} {P : MI} {N : MJ} {o : Int64} (hlt : l.stackTraces = false) {x y z w : Int32} (hw : hw_bo w) {nb no nc : Nat} {B : Int} (h : hw_ci I J nb no nc B) (hx9 : e_trust I x y z = some eA) : hL l yL_trust wL_trust rL_trust D b0 [.ref (hw_ad b0 0 0), .int x, .int y, .int z, .int w] I J P N o NO I J := by
  refine hw_MHof (by decide) [(0, .ref _), (1, .int _), (2, .int _), (3, .int _), (4, .int _)] rfl (Nat.le_of_ble_eq_true rfl) ?_
  intro p e s m args below meth c C hr hlk hT
  refine hq_aload_n (q := 0) C dL_trust_0 rfl rfl ?_
  refine hq_iload_n (q := 1) C dL_trust_1 rfl rfl ?_
  refine hq_iload_n (q := 2) C dL_trust_2 rfl rfl ?_
  refine hq_iload_n (q := 3) C dL_trust_3 rfl rfl ?_
  refine hq_iload (q := 4) C dL_trust_4 rfl ?_
  refine hq_cVXv (As := [.int _, .int _, .int _, .int _]) (rm := rX5_trust) (f := 0) (Nc := 1) C (m_X5_trust hlt hw h) wv_X5_trust ml_L_26 rfl rfl rfl Nat.one_pos rfl rfl rfl rfl ⟨Nat.le_of_ble_eq_true rfl, Nat.le_of_ble_eq_true rfl⟩ (Nat.le_of_ble_eq_true rfl) ⟨Nat.le_of_ble_eq_true rfl, Nat.le_of_ble_eq_true rfl⟩ dL_trust_6 (fun n9 => absurd (n9.symm.trans hx9) (by simp)) (fun E9 x9 => ?_)
  cases hx9.symm.trans x9
  refine hq_catch (E := eA) (name := eA) C hT (tableOf [(0, 10, 11, 14)]) ⟨0, 10, 17, 18⟩ (tableOf []) rfl (fun z hz => by
      rcases List.mem_cons.mp hz with h9 | h9
      · rw [h9]; exact Or.inr ⟨by decide, eI, L_14, C.2.2.2.2.2.2.1.2.2.1.1⟩
      · cases h9) rfl (by decide) L_18 C.2.2.2.2.2.2.1.2.1.2.1 (fun q9 => ?_)
  refine hq_astore (L' := [(5, .ref _), (0, .ref _), (1, .int _), (2, .int _), (3, .int _), (4, .int _)]) C dL_trust_17 (by decide) rfl ?_
  refine hq_ldc2 C wc_L_16 dL_trust_19 ?_
  exact hq_lretX C hr hlk dL_trust_22 rfl rfl rfl (Nat.le_of_ble_eq_true rfl) (Nat.le_of_ble_eq_true rfl)
theorem t_L_trust_eA {I : MI} {J : MJ} {x y z w : Int32} (hw : hw_bo w) {nb no nc : Nat} {B : Int} (h : hw_ci I J nb no nc B) (hx9 : e_trust I x y z = some eA) : kL_trust x y z w I J NO I J := fun _ _ _ _ _ _ hlt => m_L_trust_eA hlt hw h hx9
abbrev wL_breakWord : Cond := .codeWith yL_breakWord cL_breakWord 3 (some .long) [(0, 6, 7, 14), (0, 6, 12, 20)]
theorem ws_L_breakWord : hw_WS yL_breakWord wL_breakWord 2 := ⟨⟨hw_in 451 (by decide +kernel) rfl, hw_in 450 (by decide +kernel) rfl, hw_in 34 (by decide +kernel) rfl⟩, by decide +kernel⟩
def kL_breakWord (x : Int32) (I : MI) (J : MJ) (r : Int64) (I' : MI) (J' : MJ) : Prop := ∀ (l : Launch) (D : va_G) (b0 : Nat) (P : MI) (N : MJ) (o : Int64), l.stackTraces = false → hL l yL_breakWord wL_breakWord rL_breakWord D b0 [.ref (hw_ad b0 0 0), .int x] I J P N o r I' J'
set_option maxHeartbeats 4000000 in
set_option maxRecDepth 100000 in
theorem m_L_breakWord_n {l : Launch} {D : va_G} {b0 : Nat} {I : MI} {J : MJ} {P : MI} {N : MJ} {o : Int64} (hlt : l.stackTraces = false) {x : Int32} {nb no nc : Nat} {B : Int} (h : hw_ci I J nb no nc B) (hB : B + 3092376453120 ≤ 4611686018427387904) (hx9 : e_breakWord I x = none) : hL l yL_breakWord wL_breakWord rL_breakWord D b0 [.ref (hw_ad b0 0 0), .int x] I J P N o (nI (l_breakWord I J x no).2.2).toInt64 (s_breakWord I J x no).1 (s_breakWord I J x no).2 := by
  refine hw_MHof (by decide) [(0, .ref _), (1, .int _)] rfl (Nat.le_of_ble_eq_true rfl) ?_
  intro p e s m args below meth c C hr hlk hT
  refine hq_aload_n (q := 0) C dL_breakWord_0 rfl rfl ?_
  refine hq_iload_n (q := 1) C dL_breakWord_1 rfl rfl ?_
  refine hq_cVXr (As := [.int _]) (rm := rX5_breakWord) (f := 0) (Nc := 1) C (m_X5_breakWord hlt h hB) wv_X5_breakWord ml_L_30 rfl rfl rfl Nat.one_pos rfl rfl rfl rfl ⟨Nat.le_of_ble_eq_true rfl, Nat.le_of_ble_eq_true rfl⟩ (Nat.le_of_ble_eq_true rfl) ⟨Nat.le_of_ble_eq_true rfl, Nat.le_of_ble_eq_true rfl⟩ dL_breakWord_2 (fun _ => ?_) (fun E9 x9 => absurd (hx9.symm.trans x9) (by simp))
  refine hq_i2l C dL_breakWord_5 ?_
  exact hq_lretX C hr hlk dL_breakWord_6 rfl rfl rfl (Nat.le_of_ble_eq_true rfl) (Nat.le_of_ble_eq_true rfl)
theorem n_L_breakWord {I : MI} {J : MJ} {x : Int32} {nb no nc : Nat} {B : Int} (h : hw_ci I J nb no nc B) (hB : B + 3092376453120 ≤ 4611686018427387904) (hx9 : e_breakWord I x = none) : kL_breakWord x I J (nI (l_breakWord I J x no).2.2).toInt64 (s_breakWord I J x no).1 (s_breakWord I J x no).2 := fun _ _ _ _ _ _ hlt => m_L_breakWord_n hlt h hB hx9
set_option maxHeartbeats 4000000 in
set_option maxRecDepth 100000 in
theorem m_L_breakWord_eI {l : Launch} {D : va_G} {b0 : Nat} {I : MI} {J : MJ} {P : MI} {N : MJ} {o : Int64} (hlt : l.stackTraces = false) {x : Int32} {nb no nc : Nat} {B : Int} (h : hw_ci I J nb no nc B) (hB : B + 3092376453120 ≤ 4611686018427387904) (hx9 : e_breakWord I x = some eI) : hL l yL_breakWord wL_breakWord rL_breakWord D b0 [.ref (hw_ad b0 0 0), .int x] I J P N o NO I J := by
  refine hw_MHof (by decide) [(0, .ref _), (1, .int _)] rfl (Nat.le_of_ble_eq_true rfl) ?_
  intro p e s m args below meth c C hr hlk hT
  refine hq_aload_n (q := 0) C dL_breakWord_0 rfl rfl ?_
  refine hq_iload_n (q := 1) C dL_breakWord_1 rfl rfl ?_
  refine hq_cVXr (As := [.int _]) (rm := rX5_breakWord) (f := 0) (Nc := 1) C (m_X5_breakWord hlt h hB) wv_X5_breakWord ml_L_30 rfl rfl rfl Nat.one_pos rfl rfl rfl rfl ⟨Nat.le_of_ble_eq_true rfl, Nat.le_of_ble_eq_true rfl⟩ (Nat.le_of_ble_eq_true rfl) ⟨Nat.le_of_ble_eq_true rfl, Nat.le_of_ble_eq_true rfl⟩ dL_breakWord_2 (fun n9 => absurd (n9.symm.trans hx9) (by simp)) (fun E9 x9 => ?_)
  cases hx9.symm.trans x9
  refine hq_catch (E := eI) (name := eI) C hT (tableOf []) ⟨0, 6, 7, 14⟩ (tableOf [(0, 6, 12, 20)]) rfl (fun z hz => by cases hz) rfl (by decide) L_14 C.2.2.2.2.2.2.1.2.1.1 (fun q9 => ?_)
  refine hq_astore_n (L' := [(2, .ref _), (0, .ref _), (1, .int _)]) C dL_breakWord_7 rfl (by decide) rfl ?_
  refine hq_ldc2 C wc_L_16 dL_breakWord_8 ?_
  exact hq_lretX C hr hlk dL_breakWord_11 rfl rfl rfl (Nat.le_of_ble_eq_true rfl) (Nat.le_of_ble_eq_true rfl)
theorem t_L_breakWord_eI {I : MI} {J : MJ} {x : Int32} {nb no nc : Nat} {B : Int} (h : hw_ci I J nb no nc B) (hB : B + 3092376453120 ≤ 4611686018427387904) (hx9 : e_breakWord I x = some eI) : kL_breakWord x I J NO I J := fun _ _ _ _ _ _ hlt => m_L_breakWord_eI hlt h hB hx9
set_option maxHeartbeats 4000000 in
set_option maxRecDepth 100000 in
theorem m_L_breakWord_eS {l : Launch} {D : va_G} {b0 : Nat} {I : MI} {J : MJ} {P : MI} {N : MJ} {o : Int64} (hlt : l.stackTraces = false) {x : Int32} {nb no nc : Nat} {B : Int} (h : hw_ci I J nb no nc B) (hB : B + 3092376453120 ≤ 4611686018427387904) (hx9 : e_breakWord I x = some eS) : hL l yL_breakWord wL_breakWord rL_breakWord D b0 [.ref (hw_ad b0 0 0), .int x] I J P N o NO I J := by
  refine hw_MHof (by decide) [(0, .ref _), (1, .int _)] rfl (Nat.le_of_ble_eq_true rfl) ?_
  intro p e s m args below meth c C hr hlk hT
  refine hq_aload_n (q := 0) C dL_breakWord_0 rfl rfl ?_
  refine hq_iload_n (q := 1) C dL_breakWord_1 rfl rfl ?_
  refine hq_cVXr (As := [.int _]) (rm := rX5_breakWord) (f := 0) (Nc := 1) C (m_X5_breakWord hlt h hB) wv_X5_breakWord ml_L_30 rfl rfl rfl Nat.one_pos rfl rfl rfl rfl ⟨Nat.le_of_ble_eq_true rfl, Nat.le_of_ble_eq_true rfl⟩ (Nat.le_of_ble_eq_true rfl) ⟨Nat.le_of_ble_eq_true rfl, Nat.le_of_ble_eq_true rfl⟩ dL_breakWord_2 (fun n9 => absurd (n9.symm.trans hx9) (by simp)) (fun E9 x9 => ?_)
  cases hx9.symm.trans x9
  refine hq_catch (E := eS) (name := eS) C hT (tableOf [(0, 6, 7, 14)]) ⟨0, 6, 12, 20⟩ (tableOf []) rfl (fun z hz => by
      rcases List.mem_cons.mp hz with h9 | h9
      · rw [h9]; exact Or.inr ⟨by decide, eI, L_14, C.2.2.2.2.2.2.1.2.2.1.2.1⟩
      · cases h9) rfl (by decide) L_20 C.2.2.2.2.2.2.1.2.1.2.2 (fun q9 => ?_)
  refine hq_astore_n (L' := [(2, .ref _), (0, .ref _), (1, .int _)]) C dL_breakWord_12 rfl (by decide) rfl ?_
  refine hq_ldc2 C wc_L_16 dL_breakWord_13 ?_
  exact hq_lretX C hr hlk dL_breakWord_16 rfl rfl rfl (Nat.le_of_ble_eq_true rfl) (Nat.le_of_ble_eq_true rfl)
theorem t_L_breakWord_eS {I : MI} {J : MJ} {x : Int32} {nb no nc : Nat} {B : Int} (h : hw_ci I J nb no nc B) (hB : B + 3092376453120 ≤ 4611686018427387904) (hx9 : e_breakWord I x = some eS) : kL_breakWord x I J NO I J := fun _ _ _ _ _ _ hlt => m_L_breakWord_eS hlt h hB hx9
abbrev wL_raid : Cond := .codeWith yL_raid cL_raid 3 (some .long) [(0, 6, 7, 14), (0, 6, 12, 20)]
theorem ws_L_raid : hw_WS yL_raid wL_raid 2 := ⟨⟨hw_in 566 (by decide +kernel) rfl, hw_in 565 (by decide +kernel) rfl, hw_in 34 (by decide +kernel) rfl⟩, by decide +kernel⟩
def kL_raid (x : Int32) (I : MI) (J : MJ) (r : Int64) (I' : MI) (J' : MJ) : Prop := ∀ (l : Launch) (D : va_G) (b0 : Nat) (P : MI) (N : MJ) (o : Int64), l.stackTraces = false → hL l yL_raid wL_raid rL_raid D b0 [.ref (hw_ad b0 0 0), .int x] I J P N o r I' J'
set_option maxHeartbeats 4000000 in
set_option maxRecDepth 100000 in
theorem m_L_raid_n {l : Launch} {D : va_G} {b0 : Nat} {I : MI} {J : MJ} {P : MI} {N : MJ} {o : Int64} (hlt : l.stackTraces = false) {x : Int32} {nb no nc : Nat} {B : Int} (h : hw_ci I J nb no nc B) (hB : B + 3092376453120 ≤ 4611686018427387904) (hx9 : e_raid I x = none) : hL l yL_raid wL_raid rL_raid D b0 [.ref (hw_ad b0 0 0), .int x] I J P N o (J 0 (tn x)).toInt32.toInt64 (s_raid I J x no).1 (s_raid I J x no).2 := by
  refine hw_MHof (by decide) [(0, .ref _), (1, .int _)] rfl (Nat.le_of_ble_eq_true rfl) ?_
  intro p e s m args below meth c C hr hlk hT
  refine hq_aload_n (q := 0) C dL_raid_0 rfl rfl ?_
  refine hq_iload_n (q := 1) C dL_raid_1 rfl rfl ?_
  refine hq_cVXr (As := [.int _]) (rm := rX5_raid) (f := 0) (Nc := 1) C (m_X5_raid hlt h hB) wv_X5_raid ml_L_34 rfl rfl rfl Nat.one_pos rfl rfl rfl rfl ⟨Nat.le_of_ble_eq_true rfl, Nat.le_of_ble_eq_true rfl⟩ (Nat.le_of_ble_eq_true rfl) ⟨Nat.le_of_ble_eq_true rfl, Nat.le_of_ble_eq_true rfl⟩ dL_raid_2 (fun _ => ?_) (fun E9 x9 => absurd (hx9.symm.trans x9) (by simp))
  refine hq_i2l C dL_raid_5 ?_
  exact hq_lretX C hr hlk dL_raid_6 rfl rfl rfl (Nat.le_of_ble_eq_true rfl) (Nat.le_of_ble_eq_true rfl)
theorem n_L_raid {I : MI} {J : MJ} {x : Int32} {nb no nc : Nat} {B : Int} (h : hw_ci I J nb no nc B) (hB : B + 3092376453120 ≤ 4611686018427387904) (hx9 : e_raid I x = none) : kL_raid x I J (J 0 (tn x)).toInt32.toInt64 (s_raid I J x no).1 (s_raid I J x no).2 := fun _ _ _ _ _ _ hlt => m_L_raid_n hlt h hB hx9
set_option maxHeartbeats 4000000 in
set_option maxRecDepth 100000 in
theorem m_L_raid_eI {l : Launch} {D : va_G} {b0 : Nat} {I : MI} {J : MJ} {P : MI} {N : MJ} {o : Int64} (hlt : l.stackTraces = false) {x : Int32} {nb no nc : Nat} {B : Int} (h : hw_ci I J nb no nc B) (hB : B + 3092376453120 ≤ 4611686018427387904) (hx9 : e_raid I x = some eI) : hL l yL_raid wL_raid rL_raid D b0 [.ref (hw_ad b0 0 0), .int x] I J P N o NO I J := by
  refine hw_MHof (by decide) [(0, .ref _), (1, .int _)] rfl (Nat.le_of_ble_eq_true rfl) ?_
  intro p e s m args below meth c C hr hlk hT
  refine hq_aload_n (q := 0) C dL_raid_0 rfl rfl ?_
  refine hq_iload_n (q := 1) C dL_raid_1 rfl rfl ?_
  refine hq_cVXr (As := [.int _]) (rm := rX5_raid) (f := 0) (Nc := 1) C (m_X5_raid hlt h hB) wv_X5_raid ml_L_34 rfl rfl rfl Nat.one_pos rfl rfl rfl rfl ⟨Nat.le_of_ble_eq_true rfl, Nat.le_of_ble_eq_true rfl⟩ (Nat.le_of_ble_eq_true rfl) ⟨Nat.le_of_ble_eq_true rfl, Nat.le_of_ble_eq_true rfl⟩ dL_raid_2 (fun n9 => absurd (n9.symm.trans hx9) (by simp)) (fun E9 x9 => ?_)
  cases hx9.symm.trans x9
  refine hq_catch (E := eI) (name := eI) C hT (tableOf []) ⟨0, 6, 7, 14⟩ (tableOf [(0, 6, 12, 20)]) rfl (fun z hz => by cases hz) rfl (by decide) L_14 C.2.2.2.2.2.2.1.2.1.1 (fun q9 => ?_)
  refine hq_astore_n (L' := [(2, .ref _), (0, .ref _), (1, .int _)]) C dL_raid_7 rfl (by decide) rfl ?_
  refine hq_ldc2 C wc_L_16 dL_raid_8 ?_
  exact hq_lretX C hr hlk dL_raid_11 rfl rfl rfl (Nat.le_of_ble_eq_true rfl) (Nat.le_of_ble_eq_true rfl)
theorem t_L_raid_eI {I : MI} {J : MJ} {x : Int32} {nb no nc : Nat} {B : Int} (h : hw_ci I J nb no nc B) (hB : B + 3092376453120 ≤ 4611686018427387904) (hx9 : e_raid I x = some eI) : kL_raid x I J NO I J := fun _ _ _ _ _ _ hlt => m_L_raid_eI hlt h hB hx9
set_option maxHeartbeats 4000000 in
set_option maxRecDepth 100000 in
theorem m_L_raid_eS {l : Launch} {D : va_G} {b0 : Nat} {I : MI} {J : MJ} {P : MI} {N : MJ} {o : Int64} (hlt : l.stackTraces = false) {x : Int32} {nb no nc : Nat} {B : Int} (h : hw_ci I J nb no nc B) (hB : B + 3092376453120 ≤ 4611686018427387904) (hx9 : e_raid I x = some eS) : hL l yL_raid wL_raid rL_raid D b0 [.ref (hw_ad b0 0 0), .int x] I J P N o NO I J := by
  refine hw_MHof (by decide) [(0, .ref _), (1, .int _)] rfl (Nat.le_of_ble_eq_true rfl) ?_
  intro p e s m args below meth c C hr hlk hT
  refine hq_aload_n (q := 0) C dL_raid_0 rfl rfl ?_
  refine hq_iload_n (q := 1) C dL_raid_1 rfl rfl ?_
  refine hq_cVXr (As := [.int _]) (rm := rX5_raid) (f := 0) (Nc := 1) C (m_X5_raid hlt h hB) wv_X5_raid ml_L_34 rfl rfl rfl Nat.one_pos rfl rfl rfl rfl ⟨Nat.le_of_ble_eq_true rfl, Nat.le_of_ble_eq_true rfl⟩ (Nat.le_of_ble_eq_true rfl) ⟨Nat.le_of_ble_eq_true rfl, Nat.le_of_ble_eq_true rfl⟩ dL_raid_2 (fun n9 => absurd (n9.symm.trans hx9) (by simp)) (fun E9 x9 => ?_)
  cases hx9.symm.trans x9
  refine hq_catch (E := eS) (name := eS) C hT (tableOf [(0, 6, 7, 14)]) ⟨0, 6, 12, 20⟩ (tableOf []) rfl (fun z hz => by
      rcases List.mem_cons.mp hz with h9 | h9
      · rw [h9]; exact Or.inr ⟨by decide, eI, L_14, C.2.2.2.2.2.2.1.2.2.1.2.1⟩
      · cases h9) rfl (by decide) L_20 C.2.2.2.2.2.2.1.2.1.2.2 (fun q9 => ?_)
  refine hq_astore_n (L' := [(2, .ref _), (0, .ref _), (1, .int _)]) C dL_raid_12 rfl (by decide) rfl ?_
  refine hq_ldc2 C wc_L_16 dL_raid_13 ?_
  exact hq_lretX C hr hlk dL_raid_16 rfl rfl rfl (Nat.le_of_ble_eq_true rfl) (Nat.le_of_ble_eq_true rfl)
theorem t_L_raid_eS {I : MI} {J : MJ} {x : Int32} {nb no nc : Nat} {B : Int} (h : hw_ci I J nb no nc B) (hB : B + 3092376453120 ≤ 4611686018427387904) (hx9 : e_raid I x = some eS) : kL_raid x I J NO I J := fun _ _ _ _ _ _ hlt => m_L_raid_eS hlt h hB hx9
abbrev wL_order : Cond := .codeWith yL_order cL_order 7 (some .long) [(0, 12, 13, 14), (0, 12, 19, 18), (0, 12, 25, 20)]
theorem ws_L_order : hw_WS yL_order wL_order 6 := ⟨⟨hw_in 581 (by decide +kernel) rfl, hw_in 580 (by decide +kernel) rfl, hw_in 34 (by decide +kernel) rfl⟩, by decide +kernel⟩
def kL_order (x y z w v : Int32) (I : MI) (J : MJ) (r : Int64) (I' : MI) (J' : MJ) : Prop := ∀ (l : Launch) (D : va_G) (b0 : Nat) (P : MI) (N : MJ) (o : Int64), l.stackTraces = false → hL l yL_order wL_order rL_order D b0 [.ref (hw_ad b0 0 0), .int x, .int y, .int z, .int w, .int v] I J P N o r I' J'
set_option maxHeartbeats 4000000 in
set_option maxRecDepth 100000 in
theorem m_L_order_n {l : Launch} {D : va_G} {b0 : Nat} {I : MI} {J : MJ} {P : MI} {N : MJ} {o : Int64} (hlt : l.stackTraces = false) {x y z w v : Int32} {nb no nc : Nat} {B : Int} (h : hw_ci I J nb no nc B) (hfr : hw_fr I no nc) (hB : B ≤ 4611686018427387904) (hx9 : e_order I J x y z w v = none) : hL l yL_order wL_order rL_order D b0 [.ref (hw_ad b0 0 0), .int x, .int y, .int z, .int w, .int v] I J P N o (nI no).toInt64 (i2_order (sp_fw I J (tn x) (tn y) z).2 x z v no) (j_order (sp_fw I J (tn x) (tn y) z).2 J x z v no) := by
  refine hw_MHof (by decide) [(0, .ref _), (1, .int _), (2, .int _), (3, .int _), (4, .int _), (5, .int _)] rfl (Nat.le_of_ble_eq_true rfl) ?_
  intro p e s m args below meth c C hr hlk hT
  refine hq_aload_n (q := 0) C dL_order_0 rfl rfl ?_
  refine hq_iload_n (q := 1) C dL_order_1 rfl rfl ?_
  refine hq_iload_n (q := 2) C dL_order_2 rfl rfl ?_
  refine hq_iload_n (q := 3) C dL_order_3 rfl rfl ?_
  refine hq_iload (q := 4) C dL_order_4 rfl ?_
  refine hq_iload (q := 5) C dL_order_6 rfl ?_
  refine hq_cVXer (As := [.int _, .int _, .int _, .int _, .int _]) (rm := rX5_order) (f := 0) (Nc := 1) C (m_X5_order hlt h hfr hB) wv_X5_order ml_L_37 rfl rfl rfl Nat.one_pos rfl rfl rfl rfl ⟨Nat.le_of_ble_eq_true rfl, Nat.le_of_ble_eq_true rfl⟩ (Nat.le_of_ble_eq_true rfl) ⟨Nat.le_of_ble_eq_true rfl, Nat.le_of_ble_eq_true rfl⟩ dL_order_8 (fun _ => ?_) (fun E9 x9 => absurd (hx9.symm.trans x9) (by simp))
  refine hq_i2l C dL_order_11 ?_
  exact hq_lretX C hr hlk dL_order_12 rfl rfl rfl (Nat.le_of_ble_eq_true rfl) (Nat.le_of_ble_eq_true rfl)
theorem n_L_order {I : MI} {J : MJ} {x y z w v : Int32} {nb no nc : Nat} {B : Int} (h : hw_ci I J nb no nc B) (hfr : hw_fr I no nc) (hB : B ≤ 4611686018427387904) (hx9 : e_order I J x y z w v = none) : kL_order x y z w v I J (nI no).toInt64 (i2_order (sp_fw I J (tn x) (tn y) z).2 x z v no) (j_order (sp_fw I J (tn x) (tn y) z).2 J x z v no) := fun _ _ _ _ _ _ hlt => m_L_order_n hlt h hfr hB hx9
set_option maxHeartbeats 4000000 in
set_option maxRecDepth 100000 in
theorem m_L_order_eI {l : Launch} {D : va_G} {b0 : Nat} {I : MI} {J : MJ} {P : MI} {N : MJ} {o : Int64} (hlt : l.stackTraces = false) {x y z w v : Int32} {nb no nc : Nat} {B : Int} (h : hw_ci I J nb no nc B) (hfr : hw_fr I no nc) (hB : B ≤ 4611686018427387904) (hx9 : e_order I J x y z w v = some eI) : hL l yL_order wL_order rL_order D b0 [.ref (hw_ad b0 0 0), .int x, .int y, .int z, .int w, .int v] I J P N o NO (x_order I J x y z w v) J := by
  refine hw_MHof (by decide) [(0, .ref _), (1, .int _), (2, .int _), (3, .int _), (4, .int _), (5, .int _)] rfl (Nat.le_of_ble_eq_true rfl) ?_
  intro p e s m args below meth c C hr hlk hT
  refine hq_aload_n (q := 0) C dL_order_0 rfl rfl ?_
  refine hq_iload_n (q := 1) C dL_order_1 rfl rfl ?_
  refine hq_iload_n (q := 2) C dL_order_2 rfl rfl ?_
  refine hq_iload_n (q := 3) C dL_order_3 rfl rfl ?_
  refine hq_iload (q := 4) C dL_order_4 rfl ?_
  refine hq_iload (q := 5) C dL_order_6 rfl ?_
  refine hq_cVXer (As := [.int _, .int _, .int _, .int _, .int _]) (rm := rX5_order) (f := 0) (Nc := 1) C (m_X5_order hlt h hfr hB) wv_X5_order ml_L_37 rfl rfl rfl Nat.one_pos rfl rfl rfl rfl ⟨Nat.le_of_ble_eq_true rfl, Nat.le_of_ble_eq_true rfl⟩ (Nat.le_of_ble_eq_true rfl) ⟨Nat.le_of_ble_eq_true rfl, Nat.le_of_ble_eq_true rfl⟩ dL_order_8 (fun n9 => absurd (n9.symm.trans hx9) (by simp)) (fun E9 x9 => ?_)
  cases hx9.symm.trans x9
  refine hq_catch (E := eI) (name := eI) C hT (tableOf []) ⟨0, 12, 13, 14⟩ (tableOf [(0, 12, 19, 18), (0, 12, 25, 20)]) rfl (fun z hz => by cases hz) rfl (by decide) L_14 C.2.2.2.2.2.2.1.2.1.1 (fun q9 => ?_)
  refine hq_astore (L' := [(6, .ref _), (0, .ref _), (1, .int _), (2, .int _), (3, .int _), (4, .int _), (5, .int _)]) C dL_order_13 (by decide) rfl ?_
  refine hq_ldc2 C wc_L_16 dL_order_15 ?_
  exact hq_lretX C hr hlk dL_order_18 rfl rfl rfl (Nat.le_of_ble_eq_true rfl) (Nat.le_of_ble_eq_true rfl)
theorem t_L_order_eI {I : MI} {J : MJ} {x y z w v : Int32} {nb no nc : Nat} {B : Int} (h : hw_ci I J nb no nc B) (hfr : hw_fr I no nc) (hB : B ≤ 4611686018427387904) (hx9 : e_order I J x y z w v = some eI) : kL_order x y z w v I J NO (x_order I J x y z w v) J := fun _ _ _ _ _ _ hlt => m_L_order_eI hlt h hfr hB hx9
set_option maxHeartbeats 4000000 in
set_option maxRecDepth 100000 in
theorem m_L_order_eA {l : Launch} {D : va_G} {b0 : Nat} {I : MI} {J : MJ} {P : MI} {N : MJ} {o : Int64} (hlt : l.stackTraces = false) {x y z w v : Int32} {nb no nc : Nat} {B : Int} (h : hw_ci I J nb no nc B) (hfr : hw_fr I no nc) (hB : B ≤ 4611686018427387904) (hx9 : e_order I J x y z w v = some eA) : hL l yL_order wL_order rL_order D b0 [.ref (hw_ad b0 0 0), .int x, .int y, .int z, .int w, .int v] I J P N o NO (x_order I J x y z w v) J := by
  refine hw_MHof (by decide) [(0, .ref _), (1, .int _), (2, .int _), (3, .int _), (4, .int _), (5, .int _)] rfl (Nat.le_of_ble_eq_true rfl) ?_
  intro p e s m args below meth c C hr hlk hT
  refine hq_aload_n (q := 0) C dL_order_0 rfl rfl ?_
  refine hq_iload_n (q := 1) C dL_order_1 rfl rfl ?_
  refine hq_iload_n (q := 2) C dL_order_2 rfl rfl ?_
  refine hq_iload_n (q := 3) C dL_order_3 rfl rfl ?_
  refine hq_iload (q := 4) C dL_order_4 rfl ?_
  refine hq_iload (q := 5) C dL_order_6 rfl ?_
  refine hq_cVXer (As := [.int _, .int _, .int _, .int _, .int _]) (rm := rX5_order) (f := 0) (Nc := 1) C (m_X5_order hlt h hfr hB) wv_X5_order ml_L_37 rfl rfl rfl Nat.one_pos rfl rfl rfl rfl ⟨Nat.le_of_ble_eq_true rfl, Nat.le_of_ble_eq_true rfl⟩ (Nat.le_of_ble_eq_true rfl) ⟨Nat.le_of_ble_eq_true rfl, Nat.le_of_ble_eq_true rfl⟩ dL_order_8 (fun n9 => absurd (n9.symm.trans hx9) (by simp)) (fun E9 x9 => ?_)
  cases hx9.symm.trans x9
  refine hq_catch (E := eA) (name := eA) C hT (tableOf [(0, 12, 13, 14)]) ⟨0, 12, 19, 18⟩ (tableOf [(0, 12, 25, 20)]) rfl (fun z hz => by
      rcases List.mem_cons.mp hz with h9 | h9
      · rw [h9]; exact Or.inr ⟨by decide, eI, L_14, C.2.2.2.2.2.2.1.2.2.1.1⟩
      · cases h9) rfl (by decide) L_18 C.2.2.2.2.2.2.1.2.1.2.1 (fun q9 => ?_)
  refine hq_astore (L' := [(6, .ref _), (0, .ref _), (1, .int _), (2, .int _), (3, .int _), (4, .int _), (5, .int _)]) C dL_order_19 (by decide) rfl ?_
  refine hq_ldc2 C wc_L_16 dL_order_21 ?_
  exact hq_lretX C hr hlk dL_order_24 rfl rfl rfl (Nat.le_of_ble_eq_true rfl) (Nat.le_of_ble_eq_true rfl)
theorem t_L_order_eA {I : MI} {J : MJ} {x y z w v : Int32} {nb no nc : Nat} {B : Int} (h : hw_ci I J nb no nc B) (hfr : hw_fr I no nc) (hB : B ≤ 4611686018427387904) (hx9 : e_order I J x y z w v = some eA) : kL_order x y z w v I J NO (x_order I J x y z w v) J := fun _ _ _ _ _ _ hlt => m_L_order_eA hlt h hfr hB hx9
set_option maxHeartbeats 4000000 in
set_option maxRecDepth 100000 in
theorem m_L_order_eS {l : Launch} {D : va_G} {b0 : Nat} {I : MI} {J : MJ} {P : MI} {N : MJ} {o : Int64} (hlt : l.stackTraces = false) {x y z w v : Int32} {nb no nc : Nat} {B : Int} (h : hw_ci I J nb no nc B) (hfr : hw_fr I no nc) (hB : B ≤ 4611686018427387904) (hx9 : e_order I J x y z w v = some eS) : hL l yL_order wL_order rL_order D b0 [.ref (hw_ad b0 0 0), .int x, .int y, .int z, .int w, .int v] I J P N o NO (x_order I J x y z w v) J := by
  refine hw_MHof (by decide) [(0, .ref _), (1, .int _), (2, .int _), (3, .int _), (4, .int _), (5, .int _)] rfl (Nat.le_of_ble_eq_true rfl) ?_
  intro p e s m args below meth c C hr hlk hT
  refine hq_aload_n (q := 0) C dL_order_0 rfl rfl ?_
  refine hq_iload_n (q := 1) C dL_order_1 rfl rfl ?_
  refine hq_iload_n (q := 2) C dL_order_2 rfl rfl ?_
  refine hq_iload_n (q := 3) C dL_order_3 rfl rfl ?_
  refine hq_iload (q := 4) C dL_order_4 rfl ?_
  refine hq_iload (q := 5) C dL_order_6 rfl ?_
  refine hq_cVXer (As := [.int _, .int _, .int _, .int _, .int _]) (rm := rX5_order) (f := 0) (Nc := 1) C (m_X5_order hlt h hfr hB) wv_X5_order ml_L_37 rfl rfl rfl Nat.one_pos rfl rfl rfl rfl ⟨Nat.le_of_ble_eq_true rfl, Nat.le_of_ble_eq_true rfl⟩ (Nat.le_of_ble_eq_true rfl) ⟨Nat.le_of_ble_eq_true rfl, Nat.le_of_ble_eq_true rfl⟩ dL_order_8 (fun n9 => absurd (n9.symm.trans hx9) (by simp)) (fun E9 x9 => ?_)
  cases hx9.symm.trans x9
  refine hq_catch (E := eS) (name := eS) C hT (tableOf [(0, 12, 13, 14), (0, 12, 19, 18)]) ⟨0, 12, 25, 20⟩ (tableOf []) rfl (fun z hz => by
      rcases List.mem_cons.mp hz with h9 | h9
      · rw [h9]; exact Or.inr ⟨by decide, eI, L_14, C.2.2.2.2.2.2.1.2.2.1.2.1⟩
      · rcases List.mem_cons.mp h9 with h8 | h8
        · rw [h8]; exact Or.inr ⟨by decide, eA, L_18, C.2.2.2.2.2.2.1.2.2.1.2.2⟩
        · cases h8) rfl (by decide) L_20 C.2.2.2.2.2.2.1.2.1.2.2 (fun q9 => ?_)
  refine hq_astore (L' := [(6, .ref _), (0, .ref _), (1, .int _), (2, .int _), (3, .int _), (4, .int _), (5, .int _)]) C dL_order_25 (by decide) rfl ?_
  refine hq_ldc2 C wc_L_16 dL_order_27 ?_
  exact hq_lretX C hr hlk dL_order_30 rfl rfl rfl (Nat.le_of_ble_eq_true rfl) (Nat.le_of_ble_eq_true rfl)
theorem t_L_order_eS {I : MI} {J : MJ} {x y z w v : Int32} {nb no nc : Nat} {B : Int} (h : hw_ci I J nb no nc B) (hfr : hw_fr I no nc) (hB : B ≤ 4611686018427387904) (hx9 : e_order I J x y z w v = some eS) : kL_order x y z w v I J NO (x_order I J x y z w v) J := fun _ _ _ _ _ _ hlt => m_L_order_eS hlt h hfr hB hx9
abbrev wL_fetch : Cond := .codeWith yL_fetch cL_fetch 4 (some .long) [(0, 7, 8, 14), (0, 7, 13, 18), (0, 7, 18, 20)]
theorem ws_L_fetch : hw_WS yL_fetch wL_fetch 3 := ⟨⟨hw_in 600 (by decide +kernel) rfl, hw_in 599 (by decide +kernel) rfl, hw_in 34 (by decide +kernel) rfl⟩, by decide +kernel⟩
def kL_fetch (x y : Int32) (I : MI) (J : MJ) (r : Int64) (I' : MI) (J' : MJ) : Prop := ∀ (l : Launch) (D : va_G) (b0 : Nat) (P : MI) (N : MJ) (o : Int64), l.stackTraces = false → hL l yL_fetch wL_fetch rL_fetch D b0 [.ref (hw_ad b0 0 0), .int x, .int y] I J P N o r I' J'
set_option maxHeartbeats 4000000 in
set_option maxRecDepth 100000 in
theorem m_L_fetch_n {l : Launch} {D : va_G} {b0 : Nat} {I : MI} {J : MJ} {P : MI} {N : MJ} {o : Int64} (hlt : l.stackTraces = false) {x y : Int32} {nb no nc : Nat} {B : Int} (h : hw_ci I J nb no nc B) (hx9 : e_fetch I J x y = none) : hL l yL_fetch wL_fetch rL_fetch D b0 [.ref (hw_ad b0 0 0), .int x, .int y] I J P N o (s_fetch I J x y).1.toInt64 (s_fetch I J x y).2.1 (s_fetch I J x y).2.2 := by
  refine hw_MHof (by decide) [(0, .ref _), (1, .int _), (2, .int _)] rfl (Nat.le_of_ble_eq_true rfl) ?_
  intro p e s m args below meth c C hr hlk hT
  refine hq_aload_n (q := 0) C dL_fetch_0 rfl rfl ?_
  refine hq_iload_n (q := 1) C dL_fetch_1 rfl rfl ?_
  refine hq_iload_n (q := 2) C dL_fetch_2 rfl rfl ?_
  refine hq_cVXr (As := [.int _, .int _]) (rm := rX5_fetch) (f := 0) (Nc := 1) C (m_X5_fetch hlt h) wv_X5_fetch ml_L_41 rfl rfl rfl Nat.one_pos rfl rfl rfl rfl ⟨Nat.le_of_ble_eq_true rfl, Nat.le_of_ble_eq_true rfl⟩ (Nat.le_of_ble_eq_true rfl) ⟨Nat.le_of_ble_eq_true rfl, Nat.le_of_ble_eq_true rfl⟩ dL_fetch_3 (fun _ => ?_) (fun E9 x9 => absurd (hx9.symm.trans x9) (by simp))
  refine hq_i2l C dL_fetch_6 ?_
  exact hq_lretX C hr hlk dL_fetch_7 rfl rfl rfl (Nat.le_of_ble_eq_true rfl) (Nat.le_of_ble_eq_true rfl)
theorem n_L_fetch {I : MI} {J : MJ} {x y : Int32} {nb no nc : Nat} {B : Int} (h : hw_ci I J nb no nc B) (hx9 : e_fetch I J x y = none) : kL_fetch x y I J (s_fetch I J x y).1.toInt64 (s_fetch I J x y).2.1 (s_fetch I J x y).2.2 := fun _ _ _ _ _ _ hlt => m_L_fetch_n hlt h hx9
set_option maxHeartbeats 4000000 in
set_option maxRecDepth 100000 in
theorem m_L_fetch_eI {l : Launch} {D : va_G} {b0 : Nat} {I : MI} {J : MJ} {P : MI} {N : MJ} {o : Int64} (hlt : l.stackTraces = false) {x y : Int32} {nb no nc : Nat} {B : Int} (h : hw_ci I J nb no nc B) (hx9 : e_fetch I J x y = some eI) : hL l yL_fetch wL_fetch rL_fetch D b0 [.ref (hw_ad b0 0 0), .int x, .int y] I J P N o NO I J := by
  refine hw_MHof (by decide) [(0, .ref _), (1, .int _), (2, .int _)] rfl (Nat.le_of_ble_eq_true rfl) ?_
  intro p e s m args below meth c C hr hlk hT
  refine hq_aload_n (q := 0) C dL_fetch_0 rfl rfl ?_
  refine hq_iload_n (q := 1) C dL_fetch_1 rfl rfl ?_
  refine hq_iload_n (q := 2) C dL_fetch_2 rfl rfl ?_
  refine hq_cVXr (As := [.int _, .int _]) (rm := rX5_fetch) (f := 0) (Nc := 1) C (m_X5_fetch hlt h) wv_X5_fetch ml_L_41 rfl rfl rfl Nat.one_pos rfl rfl rfl rfl ⟨Nat.le_of_ble_eq_true rfl, Nat.le_of_ble_eq_true rfl⟩ (Nat.le_of_ble_eq_true rfl) ⟨Nat.le_of_ble_eq_true rfl, Nat.le_of_ble_eq_true rfl⟩ dL_fetch_3 (fun n9 => absurd (n9.symm.trans hx9) (by simp)) (fun E9 x9 => ?_)
  cases hx9.symm.trans x9
  refine hq_catch (E := eI) (name := eI) C hT (tableOf []) ⟨0, 7, 8, 14⟩ (tableOf [(0, 7, 13, 18), (0, 7, 18, 20)]) rfl (fun z hz => by cases hz) rfl (by decide) L_14 C.2.2.2.2.2.2.1.2.1.1 (fun q9 => ?_)
  refine hq_astore_n (L' := [(3, .ref _), (0, .ref _), (1, .int _), (2, .int _)]) C dL_fetch_8 rfl (by decide) rfl ?_
  refine hq_ldc2 C wc_L_16 dL_fetch_9 ?_
  exact hq_lretX C hr hlk dL_fetch_12 rfl rfl rfl (Nat.le_of_ble_eq_true rfl) (Nat.le_of_ble_eq_true rfl)
theorem t_L_fetch_eI {I : MI} {J : MJ} {x y : Int32} {nb no nc : Nat} {B : Int} (h : hw_ci I J nb no nc B) (hx9 : e_fetch I J x y = some eI) : kL_fetch x y I J NO I J := fun _ _ _ _ _ _ hlt => m_L_fetch_eI hlt h hx9
set_option maxHeartbeats 4000000 in
set_option maxRecDepth 100000 in
theorem m_L_fetch_eA {l : Launch} {D : va_G} {b0 : Nat} {I : MI} {J : MJ} {P : MI} {N : MJ} {o : Int64} (hlt : l.stackTraces = false) {x y : Int32} {nb no nc : Nat} {B : Int} (h : hw_ci I J nb no nc B) (hx9 : e_fetch I J x y = some eA) : hL l yL_fetch wL_fetch rL_fetch D b0 [.ref (hw_ad b0 0 0), .int x, .int y] I J P N o NO I J := by
  refine hw_MHof (by decide) [(0, .ref _), (1, .int _), (2, .int _)] rfl (Nat.le_of_ble_eq_true rfl) ?_
  intro p e s m args below meth c C hr hlk hT
  refine hq_aload_n (q := 0) C dL_fetch_0 rfl rfl ?_
  refine hq_iload_n (q := 1) C dL_fetch_1 rfl rfl ?_
  refine hq_iload_n (q := 2) C dL_fetch_2 rfl rfl ?_
  refine hq_cVXr (As := [.int _, .int _]) (rm := rX5_fetch) (f := 0) (Nc := 1) C (m_X5_fetch hlt h) wv_X5_fetch ml_L_41 rfl rfl rfl Nat.one_pos rfl rfl rfl rfl ⟨Nat.le_of_ble_eq_true rfl, Nat.le_of_ble_eq_true rfl⟩ (Nat.le_of_ble_eq_true rfl) ⟨Nat.le_of_ble_eq_true rfl, Nat.le_of_ble_eq_true rfl⟩ dL_fetch_3 (fun n9 => absurd (n9.symm.trans hx9) (by simp)) (fun E9 x9 => ?_)
  cases hx9.symm.trans x9
  refine hq_catch (E := eA) (name := eA) C hT (tableOf [(0, 7, 8, 14)]) ⟨0, 7, 13, 18⟩ (tableOf [(0, 7, 18, 20)]) rfl (fun z hz => by
      rcases List.mem_cons.mp hz with h9 | h9
      · rw [h9]; exact Or.inr ⟨by decide, eI, L_14, C.2.2.2.2.2.2.1.2.2.1.1⟩
      · cases h9) rfl (by decide) L_18 C.2.2.2.2.2.2.1.2.1.2.1 (fun q9 => ?_)
  refine hq_astore_n (L' := [(3, .ref _), (0, .ref _), (1, .int _), (2, .int _)]) C dL_fetch_13 rfl (by decide) rfl ?_
  refine hq_ldc2 C wc_L_16 dL_fetch_14 ?_
  exact hq_lretX C hr hlk dL_fetch_17 rfl rfl rfl (Nat.le_of_ble_eq_true rfl) (Nat.le_of_ble_eq_true rfl)
theorem t_L_fetch_eA {I : MI} {J : MJ} {x y : Int32} {nb no nc : Nat} {B : Int} (h : hw_ci I J nb no nc B) (hx9 : e_fetch I J x y = some eA) : kL_fetch x y I J NO I J := fun _ _ _ _ _ _ hlt => m_L_fetch_eA hlt h hx9
set_option maxHeartbeats 4000000 in
set_option maxRecDepth 100000 in
theorem m_L_fetch_eS {l : Launch} {D : va_G} {b0 : Nat} {I : MI} {J : MJ} {P : MI} {N : MJ} {o : Int64} (hlt : l.stackTraces = false) {x y : Int32} {nb no nc : Nat} {B : Int} (h : hw_ci I J nb no nc B) (hx9 : e_fetch I J x y = some eS) : hL l yL_fetch wL_fetch rL_fetch D b0 [.ref (hw_ad b0 0 0), .int x, .int y] I J P N o NO I J := by
  refine hw_MHof (by decide) [(0, .ref _), (1, .int _), (2, .int _)] rfl (Nat.le_of_ble_eq_true rfl) ?_
  intro p e s m args below meth c C hr hlk hT
  refine hq_aload_n (q := 0) C dL_fetch_0 rfl rfl ?_
  refine hq_iload_n (q := 1) C dL_fetch_1 rfl rfl ?_
  refine hq_iload_n (q := 2) C dL_fetch_2 rfl rfl ?_
  refine hq_cVXr (As := [.int _, .int _]) (rm := rX5_fetch) (f := 0) (Nc := 1) C (m_X5_fetch hlt h) wv_X5_fetch ml_L_41 rfl rfl rfl Nat.one_pos rfl rfl rfl rfl ⟨Nat.le_of_ble_eq_true rfl, Nat.le_of_ble_eq_true rfl⟩ (Nat.le_of_ble_eq_true rfl) ⟨Nat.le_of_ble_eq_true rfl, Nat.le_of_ble_eq_true rfl⟩ dL_fetch_3 (fun n9 => absurd (n9.symm.trans hx9) (by simp)) (fun E9 x9 => ?_)
  cases hx9.symm.trans x9
  refine hq_catch (E := eS) (name := eS) C hT (tableOf [(0, 7, 8, 14), (0, 7, 13, 18)]) ⟨0, 7, 18, 20⟩ (tableOf []) rfl (fun z hz => by
      rcases List.mem_cons.mp hz with h9 | h9
      · rw [h9]; exact Or.inr ⟨by decide, eI, L_14, C.2.2.2.2.2.2.1.2.2.1.2.1⟩
      · rcases List.mem_cons.mp h9 with h8 | h8
        · rw [h8]; exact Or.inr ⟨by decide, eA, L_18, C.2.2.2.2.2.2.1.2.2.1.2.2⟩
        · cases h8) rfl (by decide) L_20 C.2.2.2.2.2.2.1.2.1.2.2 (fun q9 => ?_)
  refine hq_astore_n (L' := [(3, .ref _), (0, .ref _), (1, .int _), (2, .int _)]) C dL_fetch_18 rfl (by decide) rfl ?_
  refine hq_ldc2 C wc_L_16 dL_fetch_19 ?_
  exact hq_lretX C hr hlk dL_fetch_22 rfl rfl rfl (Nat.le_of_ble_eq_true rfl) (Nat.le_of_ble_eq_true rfl)
theorem t_L_fetch_eS {I : MI} {J : MJ} {x y : Int32} {nb no nc : Nat} {B : Int} (h : hw_ci I J nb no nc B) (hx9 : e_fetch I J x y = some eS) : kL_fetch x y I J NO I J := fun _ _ _ _ _ _ hlt => m_L_fetch_eS hlt h hx9
abbrev wL_pass : Cond := .codeWith yL_pass cL_pass 3 (some .long) [(0, 6, 7, 18)]
theorem ws_L_pass : hw_WS yL_pass wL_pass 2 := ⟨⟨hw_in 611 (by decide +kernel) rfl, hw_in 610 (by decide +kernel) rfl, hw_in 34 (by decide +kernel) rfl⟩, by decide +kernel⟩
def kL_pass (x : Int32) (I : MI) (J : MJ) (r : Int64) (I' : MI) (J' : MJ) : Prop := ∀ (l : Launch) (D : va_G) (b0 : Nat) (P : MI) (N : MJ) (o : Int64), l.stackTraces = false → hL l yL_pass wL_pass rL_pass D b0 [.ref (hw_ad b0 0 0), .int x] I J P N o r I' J'
set_option maxHeartbeats 4000000 in
set_option maxRecDepth 100000 in
theorem m_L_pass_n {l : Launch} {D : va_G} {b0 : Nat} {I : MI} {J : MJ} {P : MI} {N : MJ} {o : Int64} (hlt : l.stackTraces = false) {x : Int32} {nb no nc : Nat} {B : Int} (h : hw_ci I J nb no nc B) (hx9 : e_pass x = none) : hL l yL_pass wL_pass rL_pass D b0 [.ref (hw_ad b0 0 0), .int x] I J P N o ((s_pass I J x nb no nc).1 3 0).toInt64 (s_pass I J x nb no nc).1 (s_pass I J x nb no nc).2 := by
  refine hw_MHof (by decide) [(0, .ref _), (1, .int _)] rfl (Nat.le_of_ble_eq_true rfl) ?_
  intro p e s m args below meth c C hr hlk hT
  refine hq_aload_n (q := 0) C dL_pass_0 rfl rfl ?_
  refine hq_iload_n (q := 1) C dL_pass_1 rfl rfl ?_
  refine hq_cVXr (As := [.int _]) (rm := rX5_pass) (f := 0) (Nc := 1) C (m_X5_pass hlt h) wv_X5_pass ml_L_44 rfl rfl rfl Nat.one_pos rfl rfl rfl rfl ⟨Nat.le_of_ble_eq_true rfl, Nat.le_of_ble_eq_true rfl⟩ (Nat.le_of_ble_eq_true rfl) ⟨Nat.le_of_ble_eq_true rfl, Nat.le_of_ble_eq_true rfl⟩ dL_pass_2 (fun _ => ?_) (fun E9 x9 => absurd (hx9.symm.trans x9) (by simp))
  refine hq_i2l C dL_pass_5 ?_
  exact hq_lretX C hr hlk dL_pass_6 rfl rfl rfl (Nat.le_of_ble_eq_true rfl) (Nat.le_of_ble_eq_true rfl)
theorem n_L_pass {I : MI} {J : MJ} {x : Int32} {nb no nc : Nat} {B : Int} (h : hw_ci I J nb no nc B) (hx9 : e_pass x = none) : kL_pass x I J ((s_pass I J x nb no nc).1 3 0).toInt64 (s_pass I J x nb no nc).1 (s_pass I J x nb no nc).2 := fun _ _ _ _ _ _ hlt => m_L_pass_n hlt h hx9
set_option maxHeartbeats 4000000 in
set_option maxRecDepth 100000 in
theorem m_L_pass_eA {l : Launch} {D : va_G} {b0 : Nat} {I : MI} {J : MJ} {P : MI} {N : MJ} {o : Int64} (hlt : l.stackTraces = false) {x : Int32} {nb no nc : Nat} {B : Int} (h : hw_ci I J nb no nc B) (hx9 : e_pass x = some eA) : hL l yL_pass wL_pass rL_pass D b0 [.ref (hw_ad b0 0 0), .int x] I J P N o NO I J := by
  refine hw_MHof (by decide) [(0, .ref _), (1, .int _)] rfl (Nat.le_of_ble_eq_true rfl) ?_
  intro p e s m args below meth c C hr hlk hT
  refine hq_aload_n (q := 0) C dL_pass_0 rfl rfl ?_
  refine hq_iload_n (q := 1) C dL_pass_1 rfl rfl ?_
  refine hq_cVXr (As := [.int _]) (rm := rX5_pass) (f := 0) (Nc := 1) C (m_X5_pass hlt h) wv_X5_pass ml_L_44 rfl rfl rfl Nat.one_pos rfl rfl rfl rfl ⟨Nat.le_of_ble_eq_true rfl, Nat.le_of_ble_eq_true rfl⟩ (Nat.le_of_ble_eq_true rfl) ⟨Nat.le_of_ble_eq_true rfl, Nat.le_of_ble_eq_true rfl⟩ dL_pass_2 (fun n9 => absurd (n9.symm.trans hx9) (by simp)) (fun E9 x9 => ?_)
  cases hx9.symm.trans x9
  refine hq_catch (E := eA) (name := eA) C hT (tableOf []) ⟨0, 6, 7, 18⟩ (tableOf []) rfl (fun z hz => by cases hz) rfl (by decide) L_18 C.2.2.2.2.2.2.1.2.1.2.1 (fun q9 => ?_)
  refine hq_astore_n (L' := [(2, .ref _), (0, .ref _), (1, .int _)]) C dL_pass_7 rfl (by decide) rfl ?_
  refine hq_ldc2 C wc_L_16 dL_pass_8 ?_
  exact hq_lretX C hr hlk dL_pass_11 rfl rfl rfl (Nat.le_of_ble_eq_true rfl) (Nat.le_of_ble_eq_true rfl)
theorem t_L_pass_eA {I : MI} {J : MJ} {x : Int32} {nb no nc : Nat} {B : Int} (h : hw_ci I J nb no nc B) (hx9 : e_pass x = some eA) : kL_pass x I J NO I J := fun _ _ _ _ _ _ hlt => m_L_pass_eA hlt h hx9
abbrev wL_pay : Cond := .codeWith yL_pay cL_pay 5 (some .long) [(0, 8, 9, 14), (0, 8, 15, 18), (0, 8, 21, 20)]
theorem ws_L_pay : hw_WS yL_pay wL_pay 4 := ⟨⟨hw_in 652 (by decide +kernel) rfl, hw_in 651 (by decide +kernel) rfl, hw_in 34 (by decide +kernel) rfl⟩, by decide +kernel⟩
def kL_pay (x y z : Int32) (I : MI) (J : MJ) (r : Int64) (I' : MI) (J' : MJ) : Prop := ∀ (l : Launch) (D : va_G) (b0 : Nat) (P : MI) (N : MJ) (o : Int64), l.stackTraces = false → hL l yL_pay wL_pay rL_pay D b0 [.ref (hw_ad b0 0 0), .int x, .int y, .int z] I J P N o r I' J'
set_option maxHeartbeats 4000000 in
set_option maxRecDepth 100000 in
theorem m_L_pay_n {l : Launch} {D : va_G} {b0 : Nat} {I : MI} {J : MJ} {P : MI} {N : MJ} {o : Int64} (hlt : l.stackTraces = false) {x y z : Int32} {nb no nc : Nat} {B : Int} (h : hw_ci I J nb no nc B) (hx9 : e_pay I J x y z = none) : hL l yL_pay wL_pay rL_pay D b0 [.ref (hw_ad b0 0 0), .int x, .int y, .int z] I J P N o (j_pay J x y z 1 (12 * tn x + tn y)).toInt32.toInt64 I (j_pay J x y z) := by
  refine hw_MHof (by decide) [(0, .ref _), (1, .int _), (2, .int _), (3, .int _)] rfl (Nat.le_of_ble_eq_true rfl) ?_
  intro p e s m args below meth c C hr hlk hT
  refine hq_aload_n (q := 0) C dL_pay_0 rfl rfl ?_
  refine hq_iload_n (q := 1) C dL_pay_1 rfl rfl ?_
  refine hq_iload_n (q := 2) C dL_pay_2 rfl rfl ?_
  refine hq_iload_n (q := 3) C dL_pay_3 rfl rfl ?_
  refine hq_cVXr (As := [.int _, .int _, .int _]) (rm := rX5_pay) (f := 0) (Nc := 1) C (m_X5_pay hlt h) wv_X5_pay ml_L_47 rfl rfl rfl Nat.one_pos rfl rfl rfl rfl ⟨Nat.le_of_ble_eq_true rfl, Nat.le_of_ble_eq_true rfl⟩ (Nat.le_of_ble_eq_true rfl) ⟨Nat.le_of_ble_eq_true rfl, Nat.le_of_ble_eq_true rfl⟩ dL_pay_4 (fun _ => ?_) (fun E9 x9 => absurd (hx9.symm.trans x9) (by simp))
  refine hq_i2l C dL_pay_7 ?_
  exact hq_lretX C hr hlk dL_pay_8 rfl rfl rfl (Nat.le_of_ble_eq_true rfl) (Nat.le_of_ble_eq_true rfl)
theorem n_L_pay {I : MI} {J : MJ} {x y z : Int32} {nb no nc : Nat} {B : Int} (h : hw_ci I J nb no nc B) (hx9 : e_pay I J x y z = none) : kL_pay x y z I J (j_pay J x y z 1 (12 * tn x + tn y)).toInt32.toInt64 I (j_pay J x y z) := fun _ _ _ _ _ _ hlt => m_L_pay_n hlt h hx9
set_option maxHeartbeats 4000000 in
set_option maxRecDepth 100000 in
theorem m_L_pay_eI {l : Launch} {D : va_G} {b0 : Nat} {I : MI} {J : MJ} {P : MI} {N : MJ} {o : Int64} (hlt : l.stackTraces = false) {x y z : Int32} {nb no nc : Nat} {B : Int} (h : hw_ci I J nb no nc B) (hx9 : e_pay I J x y z = some eI) : hL l yL_pay wL_pay rL_pay D b0 [.ref (hw_ad b0 0 0), .int x, .int y, .int z] I J P N o NO I J := by
  refine hw_MHof (by decide) [(0, .ref _), (1, .int _), (2, .int _), (3, .int _)] rfl (Nat.le_of_ble_eq_true rfl) ?_
  intro p e s m args below meth c C hr hlk hT
  refine hq_aload_n (q := 0) C dL_pay_0 rfl rfl ?_
  refine hq_iload_n (q := 1) C dL_pay_1 rfl rfl ?_
  refine hq_iload_n (q := 2) C dL_pay_2 rfl rfl ?_
  refine hq_iload_n (q := 3) C dL_pay_3 rfl rfl ?_
  refine hq_cVXr (As := [.int _, .int _, .int _]) (rm := rX5_pay) (f := 0) (Nc := 1) C (m_X5_pay hlt h) wv_X5_pay ml_L_47 rfl rfl rfl Nat.one_pos rfl rfl rfl rfl ⟨Nat.le_of_ble_eq_true rfl, Nat.le_of_ble_eq_true rfl⟩ (Nat.le_of_ble_eq_true rfl) ⟨Nat.le_of_ble_eq_true rfl, Nat.le_of_ble_eq_true rfl⟩ dL_pay_4 (fun n9 => absurd (n9.symm.trans hx9) (by simp)) (fun E9 x9 => ?_)
  cases hx9.symm.trans x9
  refine hq_catch (E := eI) (name := eI) C hT (tableOf []) ⟨0, 8, 9, 14⟩ (tableOf [(0, 8, 15, 18), (0, 8, 21, 20)]) rfl (fun z hz => by cases hz) rfl (by decide) L_14 C.2.2.2.2.2.2.1.2.1.1 (fun q9 => ?_)
  refine hq_astore (L' := [(4, .ref _), (0, .ref _), (1, .int _), (2, .int _), (3, .int _)]) C dL_pay_9 (by decide) rfl ?_
  refine hq_ldc2 C wc_L_16 dL_pay_11 ?_
  exact hq_lretX C hr hlk dL_pay_14 rfl rfl rfl (Nat.le_of_ble_eq_true rfl) (Nat.le_of_ble_eq_true rfl)
theorem t_L_pay_eI {I : MI} {J : MJ} {x y z : Int32} {nb no nc : Nat} {B : Int} (h : hw_ci I J nb no nc B) (hx9 : e_pay I J x y z = some eI) : kL_pay x y z I J NO I J := fun _ _ _ _ _ _ hlt => m_L_pay_eI hlt h hx9
set_option maxHeartbeats 4000000 in
set_option maxRecDepth 100000 in
theorem m_L_pay_eA {l : Launch} {D : va_G} {b0 : Nat} {I : MI} {J : MJ} {P : MI} {N : MJ} {o : Int64} (hlt : l.stackTraces = false) {x y z : Int32} {nb no nc : Nat} {B : Int} (h : hw_ci I J nb no nc B) (hx9 : e_pay I J x y z = some eA) : hL l yL_pay wL_pay rL_pay D b0 [.ref (hw_ad b0 0 0), .int x, .int y, .int z] I J P N o NO I J := by
  refine hw_MHof (by decide) [(0, .ref _), (1, .int _), (2, .int _), (3, .int _)] rfl (Nat.le_of_ble_eq_true rfl) ?_
  intro p e s m args below meth c C hr hlk hT
  refine hq_aload_n (q := 0) C dL_pay_0 rfl rfl ?_
  refine hq_iload_n (q := 1) C dL_pay_1 rfl rfl ?_
  refine hq_iload_n (q := 2) C dL_pay_2 rfl rfl ?_
  refine hq_iload_n (q := 3) C dL_pay_3 rfl rfl ?_
  refine hq_cVXr (As := [.int _, .int _, .int _]) (rm := rX5_pay) (f := 0) (Nc := 1) C (m_X5_pay hlt h) wv_X5_pay ml_L_47 rfl rfl rfl Nat.one_pos rfl rfl rfl rfl ⟨Nat.le_of_ble_eq_true rfl, Nat.le_of_ble_eq_true rfl⟩ (Nat.le_of_ble_eq_true rfl) ⟨Nat.le_of_ble_eq_true rfl, Nat.le_of_ble_eq_true rfl⟩ dL_pay_4 (fun n9 => absurd (n9.symm.trans hx9) (by simp)) (fun E9 x9 => ?_)
  cases hx9.symm.trans x9
  refine hq_catch (E := eA) (name := eA) C hT (tableOf [(0, 8, 9, 14)]) ⟨0, 8, 15, 18⟩ (tableOf [(0, 8, 21, 20)]) rfl (fun z hz => by
      rcases List.mem_cons.mp hz with h9 | h9
      · rw [h9]; exact Or.inr ⟨by decide, eI, L_14, C.2.2.2.2.2.2.1.2.2.1.1⟩
      · cases h9) rfl (by decide) L_18 C.2.2.2.2.2.2.1.2.1.2.1 (fun q9 => ?_)
  refine hq_astore (L' := [(4, .ref _), (0, .ref _), (1, .int _), (2, .int _), (3, .int _)]) C dL_pay_15 (by decide) rfl ?_
  refine hq_ldc2 C wc_L_16 dL_pay_17 ?_
  exact hq_lretX C hr hlk dL_pay_20 rfl rfl rfl (Nat.le_of_ble_eq_true rfl) (Nat.le_of_ble_eq_true rfl)
theorem t_L_pay_eA {I : MI} {J : MJ} {x y z : Int32} {nb no nc : Nat} {B : Int} (h : hw_ci I J nb no nc B) (hx9 : e_pay I J x y z = some eA) : kL_pay x y z I J NO I J := fun _ _ _ _ _ _ hlt => m_L_pay_eA hlt h hx9
set_option maxHeartbeats 4000000 in
set_option maxRecDepth 100000 in
theorem m_L_pay_eS {l : Launch} {D : va_G} {b0 : Nat} {I : MI} {J : MJ} {P : MI} {N : MJ} {o : Int64} (hlt : l.stackTraces = false) {x y z : Int32} {nb no nc : Nat} {B : Int} (h : hw_ci I J nb no nc B) (hx9 : e_pay I J x y z = some eS) : hL l yL_pay wL_pay rL_pay D b0 [.ref (hw_ad b0 0 0), .int x, .int y, .int z] I J P N o NO I J := by
  refine hw_MHof (by decide) [(0, .ref _), (1, .int _), (2, .int _), (3, .int _)] rfl (Nat.le_of_ble_eq_true rfl) ?_
  intro p e s m args below meth c C hr hlk hT
  refine hq_aload_n (q := 0) C dL_pay_0 rfl rfl ?_
  refine hq_iload_n (q := 1) C dL_pay_1 rfl rfl ?_
  refine hq_iload_n (q := 2) C dL_pay_2 rfl rfl ?_
  refine hq_iload_n (q := 3) C dL_pay_3 rfl rfl ?_
  refine hq_cVXr (As := [.int _, .int _, .int _]) (rm := rX5_pay) (f := 0) (Nc := 1) C (m_X5_pay hlt h) wv_X5_pay ml_L_47 rfl rfl rfl Nat.one_pos rfl rfl rfl rfl ⟨Nat.le_of_ble_eq_true rfl, Nat.le_of_ble_eq_true rfl⟩ (Nat.le_of_ble_eq_true rfl) ⟨Nat.le_of_ble_eq_true rfl, Nat.le_of_ble_eq_true rfl⟩ dL_pay_4 (fun n9 => absurd (n9.symm.trans hx9) (by simp)) (fun E9 x9 => ?_)
  cases hx9.symm.trans x9
  refine hq_catch (E := eS) (name := eS) C hT (tableOf [(0, 8, 9, 14), (0, 8, 15, 18)]) ⟨0, 8, 21, 20⟩ (tableOf []) rfl (fun z hz => by
      rcases List.mem_cons.mp hz with h9 | h9
      · rw [h9]; exact Or.inr ⟨by decide, eI, L_14, C.2.2.2.2.2.2.1.2.2.1.2.1⟩
      · rcases List.mem_cons.mp h9 with h8 | h8
        · rw [h8]; exact Or.inr ⟨by decide, eA, L_18, C.2.2.2.2.2.2.1.2.2.1.2.2⟩
        · cases h8) rfl (by decide) L_20 C.2.2.2.2.2.2.1.2.1.2.2 (fun q9 => ?_)
  refine hq_astore (L' := [(4, .ref _), (0, .ref _), (1, .int _), (2, .int _), (3, .int _)]) C dL_pay_21 (by decide) rfl ?_
  refine hq_ldc2 C wc_L_16 dL_pay_23 ?_
  exact hq_lretX C hr hlk dL_pay_26 rfl rfl rfl (Nat.le_of_ble_eq_true rfl) (Nat.le_of_ble_eq_true rfl)
theorem t_L_pay_eS {I : MI} {J : MJ} {x y z : Int32} {nb no nc : Nat} {B : Int} (h : hw_ci I J nb no nc B) (hx9 : e_pay I J x y z = some eS) : kL_pay x y z I J NO I J := fun _ _ _ _ _ _ hlt => m_L_pay_eS hlt h hx9
abbrev wL_deliver : Cond := .codeWith yL_deliver cL_deliver 5 (some .long) [(0, 8, 9, 14), (0, 8, 15, 18), (0, 8, 21, 20)]
theorem ws_L_deliver : hw_WS yL_deliver wL_deliver 4 := ⟨⟨hw_in 659 (by decide +kernel) rfl, hw_in 658 (by decide +kernel) rfl, hw_in 34 (by decide +kernel) rfl⟩, by decide +kernel⟩
def kL_deliver (x y z : Int32) (I : MI) (J : MJ) (r : Int64) (I' : MI) (J' : MJ) : Prop := ∀ (l : Launch) (D : va_G) (b0 : Nat) (P : MI) (N : MJ) (o : Int64), l.stackTraces = false → hL l yL_deliver wL_deliver rL_deliver D b0 [.ref (hw_ad b0 0 0), .int x, .int y, .int z] I J P N o r I' J'
set_option maxHeartbeats 4000000 in
set_option maxRecDepth 100000 in
theorem m_L_deliver_n {l : Launch} {D : va_G} {b0 : Nat} {I : MI} {J : MJ} {P : MI} {N : MJ} {o : Int64} (hlt : l.stackTraces = false) {x y z : Int32} {nb no nc : Nat} {B : Int} (h : hw_ci I J nb no nc B) (hx9 : e_deliver I J x y z = none) : hL l yL_deliver wL_deliver rL_deliver D b0 [.ref (hw_ad b0 0 0), .int x, .int y, .int z] I J P N o (j_deliver J x y z 1 (12 * tn x + tn y)).toInt32.toInt64 I (j_deliver J x y z) := by
  refine hw_MHof (by decide) [(0, .ref _), (1, .int _), (2, .int _), (3, .int _)] rfl (Nat.le_of_ble_eq_true rfl) ?_
  intro p e s m args below meth c C hr hlk hT
  refine hq_aload_n (q := 0) C dL_deliver_0 rfl rfl ?_
  refine hq_iload_n (q := 1) C dL_deliver_1 rfl rfl ?_
  refine hq_iload_n (q := 2) C dL_deliver_2 rfl rfl ?_
  refine hq_iload_n (q := 3) C dL_deliver_3 rfl rfl ?_
  refine hq_cVXr (As := [.int _, .int _, .int _]) (rm := rX5_deliver) (f := 0) (Nc := 1) C (m_X5_deliver hlt h) wv_X5_deliver ml_L_50 rfl rfl rfl Nat.one_pos rfl rfl rfl rfl ⟨Nat.le_of_ble_eq_true rfl, Nat.le_of_ble_eq_true rfl⟩ (Nat.le_of_ble_eq_true rfl) ⟨Nat.le_of_ble_eq_true rfl, Nat.le_of_ble_eq_true rfl⟩ dL_deliver_4 (fun _ => ?_) (fun E9 x9 => absurd (hx9.symm.trans x9) (by simp))
  refine hq_i2l C dL_deliver_7 ?_
  exact hq_lretX C hr hlk dL_deliver_8 rfl rfl rfl (Nat.le_of_ble_eq_true rfl) (Nat.le_of_ble_eq_true rfl)
theorem n_L_deliver {I : MI} {J : MJ} {x y z : Int32} {nb no nc : Nat} {B : Int} (h : hw_ci I J nb no nc B) (hx9 : e_deliver I J x y z = none) : kL_deliver x y z I J (j_deliver J x y z 1 (12 * tn x + tn y)).toInt32.toInt64 I (j_deliver J x y z) := fun _ _ _ _ _ _ hlt => m_L_deliver_n hlt h hx9
set_option maxHeartbeats 4000000 in
set_option maxRecDepth 100000 in
theorem m_L_deliver_eI {l : Launch} {D : va_G} {b0 : Nat} {I : MI} {J : MJ} {P : MI} {N : MJ} {o : Int64} (hlt : l.stackTraces = false) {x y z : Int32} {nb no nc : Nat} {B : Int} (h : hw_ci I J nb no nc B) (hx9 : e_deliver I J x y z = some eI) : hL l yL_deliver wL_deliver rL_deliver D b0 [.ref (hw_ad b0 0 0), .int x, .int y, .int z] I J P N o NO I J := by
  refine hw_MHof (by decide) [(0, .ref _), (1, .int _), (2, .int _), (3, .int _)] rfl (Nat.le_of_ble_eq_true rfl) ?_
  intro p e s m args below meth c C hr hlk hT
  refine hq_aload_n (q := 0) C dL_deliver_0 rfl rfl ?_
  refine hq_iload_n (q := 1) C dL_deliver_1 rfl rfl ?_
  refine hq_iload_n (q := 2) C dL_deliver_2 rfl rfl ?_
  refine hq_iload_n (q := 3) C dL_deliver_3 rfl rfl ?_
  refine hq_cVXr (As := [.int _, .int _, .int _]) (rm := rX5_deliver) (f := 0) (Nc := 1) C (m_X5_deliver hlt h) wv_X5_deliver ml_L_50 rfl rfl rfl Nat.one_pos rfl rfl rfl rfl ⟨Nat.le_of_ble_eq_true rfl, Nat.le_of_ble_eq_true rfl⟩ (Nat.le_of_ble_eq_true rfl) ⟨Nat.le_of_ble_eq_true rfl, Nat.le_of_ble_eq_true rfl⟩ dL_deliver_4 (fun n9 => absurd (n9.symm.trans hx9) (by simp)) (fun E9 x9 => ?_)
  cases hx9.symm.trans x9
  refine hq_catch (E := eI) (name := eI) C hT (tableOf []) ⟨0, 8, 9, 14⟩ (tableOf [(0, 8, 15, 18), (0, 8, 21, 20)]) rfl (fun z hz => by cases hz) rfl (by decide) L_14 C.2.2.2.2.2.2.1.2.1.1 (fun q9 => ?_)
  refine hq_astore (L' := [(4, .ref _), (0, .ref _), (1, .int _), (2, .int _), (3, .int _)]) C dL_deliver_9 (by decide) rfl ?_
  refine hq_ldc2 C wc_L_16 dL_deliver_11 ?_
  exact hq_lretX C hr hlk dL_deliver_14 rfl rfl rfl (Nat.le_of_ble_eq_true rfl) (Nat.le_of_ble_eq_true rfl)
theorem t_L_deliver_eI {I : MI} {J : MJ} {x y z : Int32} {nb no nc : Nat} {B : Int} (h : hw_ci I J nb no nc B) (hx9 : e_deliver I J x y z = some eI) : kL_deliver x y z I J NO I J := fun _ _ _ _ _ _ hlt => m_L_deliver_eI hlt h hx9
set_option maxHeartbeats 4000000 in
set_option maxRecDepth 100000 in
theorem m_L_deliver_eA {l : Launch} {D : va_G} {b0 : Nat} {I : MI} {J : MJ} {P : MI} {N : MJ} {o : Int64} (hlt : l.stackTraces = false) {x y z : Int32} {nb no nc : Nat} {B : Int} (h : hw_ci I J nb no nc B) (hx9 : e_deliver I J x y z = some eA) : hL l yL_deliver wL_deliver rL_deliver D b0 [.ref (hw_ad b0 0 0), .int x, .int y, .int z] I J P N o NO I J := by
  refine hw_MHof (by decide) [(0, .ref _), (1, .int _), (2, .int _), (3, .int _)] rfl (Nat.le_of_ble_eq_true rfl) ?_
  intro p e s m args below meth c C hr hlk hT
  refine hq_aload_n (q := 0) C dL_deliver_0 rfl rfl ?_
  refine hq_iload_n (q := 1) C dL_deliver_1 rfl rfl ?_
  refine hq_iload_n (q := 2) C dL_deliver_2 rfl rfl ?_
  refine hq_iload_n (q := 3) C dL_deliver_3 rfl rfl ?_
  refine hq_cVXr (As := [.int _, .int _, .int _]) (rm := rX5_deliver) (f := 0) (Nc := 1) C (m_X5_deliver hlt h) wv_X5_deliver ml_L_50 rfl rfl rfl Nat.one_pos rfl rfl rfl rfl ⟨Nat.le_of_ble_eq_true rfl, Nat.le_of_ble_eq_true rfl⟩ (Nat.le_of_ble_eq_true rfl) ⟨Nat.le_of_ble_eq_true rfl, Nat.le_of_ble_eq_true rfl⟩ dL_deliver_4 (fun n9 => absurd (n9.symm.trans hx9) (by simp)) (fun E9 x9 => ?_)
  cases hx9.symm.trans x9
  refine hq_catch (E := eA) (name := eA) C hT (tableOf [(0, 8, 9, 14)]) ⟨0, 8, 15, 18⟩ (tableOf [(0, 8, 21, 20)]) rfl (fun z hz => by
      rcases List.mem_cons.mp hz with h9 | h9
      · rw [h9]; exact Or.inr ⟨by decide, eI, L_14, C.2.2.2.2.2.2.1.2.2.1.1⟩
      · cases h9) rfl (by decide) L_18 C.2.2.2.2.2.2.1.2.1.2.1 (fun q9 => ?_)
  refine hq_astore (L' := [(4, .ref _), (0, .ref _), (1, .int _), (2, .int _), (3, .int _)]) C dL_deliver_15 (by decide) rfl ?_
  refine hq_ldc2 C wc_L_16 dL_deliver_17 ?_
  exact hq_lretX C hr hlk dL_deliver_20 rfl rfl rfl (Nat.le_of_ble_eq_true rfl) (Nat.le_of_ble_eq_true rfl)
theorem t_L_deliver_eA {I : MI} {J : MJ} {x y z : Int32} {nb no nc : Nat} {B : Int} (h : hw_ci I J nb no nc B) (hx9 : e_deliver I J x y z = some eA) : kL_deliver x y z I J NO I J := fun _ _ _ _ _ _ hlt => m_L_deliver_eA hlt h hx9
set_option maxHeartbeats 4000000 in
set_option maxRecDepth 100000 in
theorem m_L_deliver_eS {l : Launch} {D : va_G} {b0 : Nat} {I : MI} {J : MJ} {P : MI} {N : MJ} {o : Int64} (hlt : l.stackTraces = false) {x y z : Int32} {nb no nc : Nat} {B : Int} (h : hw_ci I J nb no nc B) (hx9 : e_deliver I J x y z = some eS) : hL l yL_deliver wL_deliver rL_deliver D b0 [.ref (hw_ad b0 0 0), .int x, .int y, .int z] I J P N o NO I J := by
  refine hw_MHof (by decide) [(0, .ref _), (1, .int _), (2, .int _), (3, .int _)] rfl (Nat.le_of_ble_eq_true rfl) ?_
  intro p e s m args below meth c C hr hlk hT
  refine hq_aload_n (q := 0) C dL_deliver_0 rfl rfl ?_
  refine hq_iload_n (q := 1) C dL_deliver_1 rfl rfl ?_
  refine hq_iload_n (q := 2) C dL_deliver_2 rfl rfl ?_
  refine hq_iload_n (q := 3) C dL_deliver_3 rfl rfl ?_
  refine hq_cVXr (As := [.int _, .int _, .int _]) (rm := rX5_deliver) (f := 0) (Nc := 1) C (m_X5_deliver hlt h) wv_X5_deliver ml_L_50 rfl rfl rfl Nat.one_pos rfl rfl rfl rfl ⟨Nat.le_of_ble_eq_true rfl, Nat.le_of_ble_eq_true rfl⟩ (Nat.le_of_ble_eq_true rfl) ⟨Nat.le_of_ble_eq_true rfl, Nat.le_of_ble_eq_true rfl⟩ dL_deliver_4 (fun n9 => absurd (n9.symm.trans hx9) (by simp)) (fun E9 x9 => ?_)
  cases hx9.symm.trans x9
  refine hq_catch (E := eS) (name := eS) C hT (tableOf [(0, 8, 9, 14), (0, 8, 15, 18)]) ⟨0, 8, 21, 20⟩ (tableOf []) rfl (fun z hz => by
      rcases List.mem_cons.mp hz with h9 | h9
      · rw [h9]; exact Or.inr ⟨by decide, eI, L_14, C.2.2.2.2.2.2.1.2.2.1.2.1⟩
      · rcases List.mem_cons.mp h9 with h8 | h8
        · rw [h8]; exact Or.inr ⟨by decide, eA, L_18, C.2.2.2.2.2.2.1.2.2.1.2.2⟩
        · cases h8) rfl (by decide) L_20 C.2.2.2.2.2.2.1.2.1.2.2 (fun q9 => ?_)
  refine hq_astore (L' := [(4, .ref _), (0, .ref _), (1, .int _), (2, .int _), (3, .int _)]) C dL_deliver_21 (by decide) rfl ?_
  refine hq_ldc2 C wc_L_16 dL_deliver_23 ?_
  exact hq_lretX C hr hlk dL_deliver_26 rfl rfl rfl (Nat.le_of_ble_eq_true rfl) (Nat.le_of_ble_eq_true rfl)
theorem t_L_deliver_eS {I : MI} {J : MJ} {x y z : Int32} {nb no nc : Nat} {B : Int} (h : hw_ci I J nb no nc B) (hx9 : e_deliver I J x y z = some eS) : kL_deliver x y z I J NO I J := fun _ _ _ _ _ _ hlt => m_L_deliver_eS hlt h hx9
abbrev wL_courier : Cond := .codeWith yL_courier cL_courier 6 (some .long) [(0, 10, 11, 14), (0, 10, 17, 18), (0, 10, 23, 20)]
theorem ws_L_courier : hw_WS yL_courier wL_courier 5 := ⟨⟨hw_in 666 (by decide +kernel) rfl, hw_in 665 (by decide +kernel) rfl, hw_in 34 (by decide +kernel) rfl⟩, by decide +kernel⟩
def kL_courier (x y z w : Int32) (I : MI) (J : MJ) (r : Int64) (I' : MI) (J' : MJ) : Prop := ∀ (l : Launch) (D : va_G) (b0 : Nat) (P : MI) (N : MJ) (o : Int64), l.stackTraces = false → hL l yL_courier wL_courier rL_courier D b0 [.ref (hw_ad b0 0 0), .int x, .int y, .int z, .int w] I J P N o r I' J'
set_option maxHeartbeats 4000000 in
set_option maxRecDepth 100000 in
theorem m_L_courier_n {l : Launch} {D : va_G} {b0 : Nat} {I : MI} {J : MJ} {P : MI} {N : MJ} {o : Int64} (hlt : l.stackTraces = false) {x y z w : Int32} {nb no nc : Nat} {B : Int} (h : hw_ci I J nb no nc B) (hx9 : e_courier I J x y z w = none) : hL l yL_courier wL_courier rL_courier D b0 [.ref (hw_ad b0 0 0), .int x, .int y, .int z, .int w] I J P N o (I 2 0 + 1 - 1).toInt64 (i_courier I x y z w nc) (uJ J 0 (tn x) (J 0 (tn x) - z.toInt64)) := by
  refine hw_MHof (by decide) [(0, .ref _), (1, .int _), (2, .int _), (3, .int _), (4, .int _)] rfl (Nat.le_of_ble_eq_true rfl) ?_
  intro p e s m args below meth c C hr hlk hT
  refine hq_aload_n (q := 0) C dL_courier_0 rfl rfl ?_
  refine hq_iload_n (q := 1) C dL_courier_1 rfl rfl ?_
  refine hq_iload_n (q := 2) C dL_courier_2 rfl rfl ?_
  refine hq_iload_n (q := 3) C dL_courier_3 rfl rfl ?_
  refine hq_iload (q := 4) C dL_courier_4 rfl ?_
  refine hq_cVXr (As := [.int _, .int _, .int _, .int _]) (rm := rX5_courier) (f := 0) (Nc := 1) C (m_X5_courier hlt h) wv_X5_courier ml_L_53 rfl rfl rfl Nat.one_pos rfl rfl rfl rfl ⟨Nat.le_of_ble_eq_true rfl, Nat.le_of_ble_eq_true rfl⟩ (Nat.le_of_ble_eq_true rfl) ⟨Nat.le_of_ble_eq_true rfl, Nat.le_of_ble_eq_true rfl⟩ dL_courier_6 (fun _ => ?_) (fun E9 x9 => absurd (hx9.symm.trans x9) (by simp))
  refine hq_i2l C dL_courier_9 ?_
  exact hq_lretX C hr hlk dL_courier_10 rfl rfl rfl (Nat.le_of_ble_eq_true rfl) (Nat.le_of_ble_eq_true rfl)
theorem n_L_courier {I : MI} {J : MJ} {x y z w : Int32} {nb no nc : Nat} {B : Int} (h : hw_ci I J nb no nc B) (hx9 : e_courier I J x y z w = none) : kL_courier x y z w I J (I 2 0 + 1 - 1).toInt64 (i_courier I x y z w nc) (uJ J 0 (tn x) (J 0 (tn x) - z.toInt64)) := fun _ _ _ _ _ _ hlt => m_L_courier_n hlt h hx9
set_option maxHeartbeats 4000000 in
set_option maxRecDepth 100000 in
theorem m_L_courier_eI {l : Launch} {D : va_G} {b0 : Nat} {I : MI} {J : MJ} {P : MI} {N : MJ} {o : Int64} (hlt : l.stackTraces = false) {x y z w : Int32} {nb no nc : Nat} {B : Int} (h : hw_ci I J nb no nc B) (hx9 : e_courier I J x y z w = some eI) : hL l yL_courier wL_courier rL_courier D b0 [.ref (hw_ad b0 0 0), .int x, .int y, .int z, .int w] I J P N o NO I J := by
  refine hw_MHof (by decide) [(0, .ref _), (1, .int _), (2, .int _), (3, .int _), (4, .int _)] rfl (Nat.le_of_ble_eq_true rfl) ?_
  intro p e s m args below meth c C hr hlk hT
  refine hq_aload_n (q := 0) C dL_courier_0 rfl rfl ?_
  refine hq_iload_n (q := 1) C dL_courier_1 rfl rfl ?_
  refine hq_iload_n (q := 2) C dL_courier_2 rfl rfl ?_
  refine hq_iload_n (q := 3) C dL_courier_3 rfl rfl ?_
  refine hq_iload (q := 4) C dL_courier_4 rfl ?_
  refine hq_cVXr (As := [.int _, .int _, .int _, .int _]) (rm := rX5_courier) (f := 0) (Nc := 1) C (m_X5_courier hlt h) wv_X5_courier ml_L_53 rfl rfl rfl Nat.one_pos rfl rfl rfl rfl ⟨Nat.le_of_ble_eq_true rfl, Nat.le_of_ble_eq_true rfl⟩ (Nat.le_of_ble_eq_true rfl) ⟨Nat.le_of_ble_eq_true rfl, Nat.le_of_ble_eq_true rfl⟩ dL_courier_6 (fun n9 => absurd (n9.symm.trans hx9) (by simp)) (fun E9 x9 => ?_)
  cases hx9.symm.trans x9
  refine hq_catch (E := eI) (name := eI) C hT (tableOf []) ⟨0, 10, 11, 14⟩ (tableOf [(0, 10, 17, 18), (0, 10, 23, 20)]) rfl (fun z hz => by cases hz) rfl (by decide) L_14 C.2.2.2.2.2.2.1.2.1.1 (fun q9 => ?_)
  refine hq_astore (L' := [(5, .ref _), (0, .ref _), (1, .int _), (2, .int _), (3, .int _), (4, .int _)]) C dL_courier_11 (by decide) rfl ?_
  refine hq_ldc2 C wc_L_16 dL_courier_13 ?_
  exact hq_lretX C hr hlk dL_courier_16 rfl rfl rfl (Nat.le_of_ble_eq_true rfl) (Nat.le_of_ble_eq_true rfl)
theorem t_L_courier_eI {I : MI} {J : MJ} {x y z w : Int32} {nb no nc : Nat} {B : Int} (h : hw_ci I J nb no nc B) (hx9 : e_courier I J x y z w = some eI) : kL_courier x y z w I J NO I J := fun _ _ _ _ _ _ hlt => m_L_courier_eI hlt h hx9
set_option maxHeartbeats 4000000 in
set_option maxRecDepth 100000 in
theorem m_L_courier_eA {l : Launch} {D : va_G} {b0 : Nat} {I : MI} {J : MJ} {P : MI} {N : MJ} {o : Int64} (hlt : l.stackTraces = false) {x y z w : Int32} {nb no nc : Nat} {B : Int} (h : hw_ci I J nb no nc B) (hx9 : e_courier I J x y z w = some eA) : hL l yL_courier wL_courier rL_courier D b0 [.ref (hw_ad b0 0 0), .int x, .int y, .int z, .int w] I J P N o NO I J := by
  refine hw_MHof (by decide) [(0, .ref _), (1, .int _), (2, .int _), (3, .int _), (4, .int _)] rfl (Nat.le_of_ble_eq_true rfl) ?_
  intro p e s m args below meth c C hr hlk hT
  refine hq_aload_n (q := 0) C dL_courier_0 rfl rfl ?_
  refine hq_iload_n (q := 1) C dL_courier_1 rfl rfl ?_
  refine hq_iload_n (q := 2) C dL_courier_2 rfl rfl ?_
  refine hq_iload_n (q := 3) C dL_courier_3 rfl rfl ?_
  refine hq_iload (q := 4) C dL_courier_4 rfl ?_
  refine hq_cVXr (As := [.int _, .int _, .int _, .int _]) (rm := rX5_courier) (f := 0) (Nc := 1) C (m_X5_courier hlt h) wv_X5_courier ml_L_53 rfl rfl rfl Nat.one_pos rfl rfl rfl rfl ⟨Nat.le_of_ble_eq_true rfl, Nat.le_of_ble_eq_true rfl⟩ (Nat.le_of_ble_eq_true rfl) ⟨Nat.le_of_ble_eq_true rfl, Nat.le_of_ble_eq_true rfl⟩ dL_courier_6 (fun n9 => absurd (n9.symm.trans hx9) (by simp)) (fun E9 x9 => ?_)
  cases hx9.symm.trans x9
  refine hq_catch (E := eA) (name := eA) C hT (tableOf [(0, 10, 11, 14)]) ⟨0, 10, 17, 18⟩ (tableOf [(0, 10, 23, 20)]) rfl (fun z hz => by
      rcases List.mem_cons.mp hz with h9 | h9
      · rw [h9]; exact Or.inr ⟨by decide, eI, L_14, C.2.2.2.2.2.2.1.2.2.1.1⟩
      · cases h9) rfl (by decide) L_18 C.2.2.2.2.2.2.1.2.1.2.1 (fun q9 => ?_)
  refine hq_astore (L' := [(5, .ref _), (0, .ref _), (1, .int _), (2, .int _), (3, .int _), (4, .int _)]) C dL_courier_17 (by decide) rfl ?_
  refine hq_ldc2 C wc_L_16 dL_courier_19 ?_
  exact hq_lretX C hr hlk dL_courier_22 rfl rfl rfl (Nat.le_of_ble_eq_true rfl) (Nat.le_of_ble_eq_true rfl)
theorem t_L_courier_eA {I : MI} {J : MJ} {x y z w : Int32} {nb no nc : Nat} {B : Int} (h : hw_ci I J nb no nc B) (hx9 : e_courier I J x y z w = some eA) : kL_courier x y z w I J NO I J := fun _ _ _ _ _ _ hlt => m_L_courier_eA hlt h hx9
set_option maxHeartbeats 4000000 in
set_option maxRecDepth 100000 in
theorem m_L_courier_eS {l : Launch} {D : va_G} {b0 : Nat} {I : MI} {J : MJ} {P : MI} {N : MJ} {o : Int64} (hlt : l.stackTraces = false) {x y z w : Int32} {nb no nc : Nat} {B : Int} (h : hw_ci I J nb no nc B) (hx9 : e_courier I J x y z w = some eS) : hL l yL_courier wL_courier rL_courier D b0 [.ref (hw_ad b0 0 0), .int x, .int y, .int z, .int w] I J P N o NO I J := by
  refine hw_MHof (by decide) [(0, .ref _), (1, .int _), (2, .int _), (3, .int _), (4, .int _)] rfl (Nat.le_of_ble_eq_true rfl) ?_
  intro p e s m args below meth c C hr hlk hT
  refine hq_aload_n (q := 0) C dL_courier_0 rfl rfl ?_
  refine hq_iload_n (q := 1) C dL_courier_1 rfl rfl ?_
  refine hq_iload_n (q := 2) C dL_courier_2 rfl rfl ?_
  refine hq_iload_n (q := 3) C dL_courier_3 rfl rfl ?_
  refine hq_iload (q := 4) C dL_courier_4 rfl ?_
  refine hq_cVXr (As := [.int _, .int _, .int _, .int _]) (rm := rX5_courier) (f := 0) (Nc := 1) C (m_X5_courier hlt h) wv_X5_courier ml_L_53 rfl rfl rfl Nat.one_pos rfl rfl rfl rfl ⟨Nat.le_of_ble_eq_true rfl, Nat.le_of_ble_eq_true rfl⟩ (Nat.le_of_ble_eq_true rfl) ⟨Nat.le_of_ble_eq_true rfl, Nat.le_of_ble_eq_true rfl⟩ dL_courier_6 (fun n9 => absurd (n9.symm.trans hx9) (by simp)) (fun E9 x9 => ?_)
  cases hx9.symm.trans x9
  refine hq_catch (E := eS) (name := eS) C hT (tableOf [(0, 10, 11, 14), (0, 10, 17, 18)]) ⟨0, 10, 23, 20⟩ (tableOf []) rfl (fun z hz => by
      rcases List.mem_cons.mp hz with h9 | h9
      · rw [h9]; exact Or.inr ⟨by decide, eI, L_14, C.2.2.2.2.2.2.1.2.2.1.2.1⟩
      · rcases List.mem_cons.mp h9 with h8 | h8
        · rw [h8]; exact Or.inr ⟨by decide, eA, L_18, C.2.2.2.2.2.2.1.2.2.1.2.2⟩
        · cases h8) rfl (by decide) L_20 C.2.2.2.2.2.2.1.2.1.2.2 (fun q9 => ?_)
  refine hq_astore (L' := [(5, .ref _), (0, .ref _), (1, .int _), (2, .int _), (3, .int _), (4, .int _)]) C dL_courier_23 (by decide) rfl ?_
  refine hq_ldc2 C wc_L_16 dL_courier_25 ?_
  exact hq_lretX C hr hlk dL_courier_28 rfl rfl rfl (Nat.le_of_ble_eq_true rfl) (Nat.le_of_ble_eq_true rfl)
theorem t_L_courier_eS {I : MI} {J : MJ} {x y z w : Int32} {nb no nc : Nat} {B : Int} (h : hw_ci I J nb no nc B) (hx9 : e_courier I J x y z w = some eS) : kL_courier x y z w I J NO I J := fun _ _ _ _ _ _ hlt => m_L_courier_eS hlt h hx9
abbrev wL_rob : Cond := .codeWith yL_rob cL_rob 3 (some .long) [(0, 6, 7, 14), (0, 6, 12, 20)]
theorem ws_L_rob : hw_WS yL_rob wL_rob 2 := ⟨⟨hw_in 673 (by decide +kernel) rfl, hw_in 672 (by decide +kernel) rfl, hw_in 34 (by decide +kernel) rfl⟩, by decide +kernel⟩
def kL_rob (x : Int32) (I : MI) (J : MJ) (r : Int64) (I' : MI) (J' : MJ) : Prop := ∀ (l : Launch) (D : va_G) (b0 : Nat) (P : MI) (N : MJ) (o : Int64), l.stackTraces = false → hL l yL_rob wL_rob rL_rob D b0 [.ref (hw_ad b0 0 0), .int x] I J P N o r I' J'
set_option maxHeartbeats 4000000 in
set_option maxRecDepth 100000 in
theorem m_L_rob_n {l : Launch} {D : va_G} {b0 : Nat} {I : MI} {J : MJ} {P : MI} {N : MJ} {o : Int64} (hlt : l.stackTraces = false) {x : Int32} {nb no nc : Nat} {B : Int} (h : hw_ci I J nb no nc B) (hx9 : e_rob I x = none) : hL l yL_rob wL_rob rL_rob D b0 [.ref (hw_ad b0 0 0), .int x] I J P N o (I 24 (tn x)).toInt64 (i_rob I x) J := by
  refine hw_MHof (by decide) [(0, .ref _), (1, .int _)] rfl (Nat.le_of_ble_eq_true rfl) ?_
  intro p e s m args below meth c C hr hlk hT
  refine hq_aload_n (q := 0) C dL_rob_0 rfl rfl ?_
  refine hq_iload_n (q := 1) C dL_rob_1 rfl rfl ?_
  refine hq_cVXr (As := [.int _]) (rm := rX5_rob) (f := 0) (Nc := 1) C (m_X5_rob hlt h) wv_X5_rob ml_L_57 rfl rfl rfl Nat.one_pos rfl rfl rfl rfl ⟨Nat.le_of_ble_eq_true rfl, Nat.le_of_ble_eq_true rfl⟩ (Nat.le_of_ble_eq_true rfl) ⟨Nat.le_of_ble_eq_true rfl, Nat.le_of_ble_eq_true rfl⟩ dL_rob_2 (fun _ => ?_) (fun E9 x9 => absurd (hx9.symm.trans x9) (by simp))
  refine hq_i2l C dL_rob_5 ?_
  exact hq_lretX C hr hlk dL_rob_6 rfl rfl rfl (Nat.le_of_ble_eq_true rfl) (Nat.le_of_ble_eq_true rfl)
theorem n_L_rob {I : MI} {J : MJ} {x : Int32} {nb no nc : Nat} {B : Int} (h : hw_ci I J nb no nc B) (hx9 : e_rob I x = none) : kL_rob x I J (I 24 (tn x)).toInt64 (i_rob I x) J := fun _ _ _ _ _ _ hlt => m_L_rob_n hlt h hx9
set_option maxHeartbeats 4000000 in
set_option maxRecDepth 100000 in
theorem m_L_rob_eI {l : Launch} {D : va_G} {b0 : Nat} {I : MI} {J : MJ} {P : MI} {N : MJ} {o : Int64} (hlt : l.stackTraces = false) {x : Int32} {nb no nc : Nat} {B : Int} (h : hw_ci I J nb no nc B) (hx9 : e_rob I x = some eI) : hL l yL_rob wL_rob rL_rob D b0 [.ref (hw_ad b0 0 0), .int x] I J P N o NO I J := by
  refine hw_MHof (by decide) [(0, .ref _), (1, .int _)] rfl (Nat.le_of_ble_eq_true rfl) ?_
  intro p e s m args below meth c C hr hlk hT
  refine hq_aload_n (q := 0) C dL_rob_0 rfl rfl ?_
  refine hq_iload_n (q := 1) C dL_rob_1 rfl rfl ?_
  refine hq_cVXr (As := [.int _]) (rm := rX5_rob) (f := 0) (Nc := 1) C (m_X5_rob hlt h) wv_X5_rob ml_L_57 rfl rfl rfl Nat.one_pos rfl rfl rfl rfl ⟨Nat.le_of_ble_eq_true rfl, Nat.le_of_ble_eq_true rfl⟩ (Nat.le_of_ble_eq_true rfl) ⟨Nat.le_of_ble_eq_true rfl, Nat.le_of_ble_eq_true rfl⟩ dL_rob_2 (fun n9 => absurd (n9.symm.trans hx9) (by simp)) (fun E9 x9 => ?_)
  cases hx9.symm.trans x9
  refine hq_catch (E := eI) (name := eI) C hT (tableOf []) ⟨0, 6, 7, 14⟩ (tableOf [(0, 6, 12, 20)]) rfl (fun z hz => by cases hz) rfl (by decide) L_14 C.2.2.2.2.2.2.1.2.1.1 (fun q9 => ?_)
  refine hq_astore_n (L' := [(2, .ref _), (0, .ref _), (1, .int _)]) C dL_rob_7 rfl (by decide) rfl ?_
  refine hq_ldc2 C wc_L_16 dL_rob_8 ?_
  exact hq_lretX C hr hlk dL_rob_11 rfl rfl rfl (Nat.le_of_ble_eq_true rfl) (Nat.le_of_ble_eq_true rfl)
theorem t_L_rob_eI {I : MI} {J : MJ} {x : Int32} {nb no nc : Nat} {B : Int} (h : hw_ci I J nb no nc B) (hx9 : e_rob I x = some eI) : kL_rob x I J NO I J := fun _ _ _ _ _ _ hlt => m_L_rob_eI hlt h hx9
set_option maxHeartbeats 4000000 in
set_option maxRecDepth 100000 in
theorem m_L_rob_eS {l : Launch} {D : va_G} {b0 : Nat} {I : MI} {J : MJ} {P : MI} {N : MJ} {o : Int64} (hlt : l.stackTraces = false) {x : Int32} {nb no nc : Nat} {B : Int} (h : hw_ci I J nb no nc B) (hx9 : e_rob I x = some eS) : hL l yL_rob wL_rob rL_rob D b0 [.ref (hw_ad b0 0 0), .int x] I J P N o NO I J := by
  refine hw_MHof (by decide) [(0, .ref _), (1, .int _)] rfl (Nat.le_of_ble_eq_true rfl) ?_
  intro p e s m args below meth c C hr hlk hT
  refine hq_aload_n (q := 0) C dL_rob_0 rfl rfl ?_
  refine hq_iload_n (q := 1) C dL_rob_1 rfl rfl ?_
  refine hq_cVXr (As := [.int _]) (rm := rX5_rob) (f := 0) (Nc := 1) C (m_X5_rob hlt h) wv_X5_rob ml_L_57 rfl rfl rfl Nat.one_pos rfl rfl rfl rfl ⟨Nat.le_of_ble_eq_true rfl, Nat.le_of_ble_eq_true rfl⟩ (Nat.le_of_ble_eq_true rfl) ⟨Nat.le_of_ble_eq_true rfl, Nat.le_of_ble_eq_true rfl⟩ dL_rob_2 (fun n9 => absurd (n9.symm.trans hx9) (by simp)) (fun E9 x9 => ?_)
  cases hx9.symm.trans x9
  refine hq_catch (E := eS) (name := eS) C hT (tableOf [(0, 6, 7, 14)]) ⟨0, 6, 12, 20⟩ (tableOf []) rfl (fun z hz => by
      rcases List.mem_cons.mp hz with h9 | h9
      · rw [h9]; exact Or.inr ⟨by decide, eI, L_14, C.2.2.2.2.2.2.1.2.2.1.2.1⟩
      · cases h9) rfl (by decide) L_20 C.2.2.2.2.2.2.1.2.1.2.2 (fun q9 => ?_)
  refine hq_astore_n (L' := [(2, .ref _), (0, .ref _), (1, .int _)]) C dL_rob_12 rfl (by decide) rfl ?_
  refine hq_ldc2 C wc_L_16 dL_rob_13 ?_
  exact hq_lretX C hr hlk dL_rob_16 rfl rfl rfl (Nat.le_of_ble_eq_true rfl) (Nat.le_of_ble_eq_true rfl)
theorem t_L_rob_eS {I : MI} {J : MJ} {x : Int32} {nb no nc : Nat} {B : Int} (h : hw_ci I J nb no nc B) (hx9 : e_rob I x = some eS) : kL_rob x I J NO I J := fun _ _ _ _ _ _ hlt => m_L_rob_eS hlt h hx9
abbrev wL_lawOf : Cond := .codeWith yL_lawOf cL_lawOf 4 (some .long) [(0, 7, 8, 14), (0, 7, 13, 18)]
theorem ws_L_lawOf : hw_WS yL_lawOf wL_lawOf 3 := ⟨⟨hw_in 691 (by decide +kernel) rfl, hw_in 690 (by decide +kernel) rfl, hw_in 34 (by decide +kernel) rfl⟩, by decide +kernel⟩
def kL_lawOf (x y : Int32) (I : MI) (J : MJ) (r : Int64) (I' : MI) (J' : MJ) : Prop := ∀ (l : Launch) (D : va_G) (b0 : Nat) (P : MI) (N : MJ) (o : Int64), l.stackTraces = false → hL l yL_lawOf wL_lawOf rL_lawOf D b0 [.ref (hw_ad b0 0 0), .int x, .int y] I J P N o r I' J'
set_option maxHeartbeats 4000000 in
set_option maxRecDepth 100000 in
theorem m_L_lawOf_n {l : Launch} {D : va_G} {b0 : Nat} {I : MI} {J : MJ} {P : MI} {N : MJ} {o : Int64} (hlt : l.stackTraces = false) {x y : Int32} (hx9 : e_law x y = none) : hL l yL_lawOf wL_lawOf rL_lawOf D b0 [.ref (hw_ad b0 0 0), .int x, .int y] I J P N o (I 29 (tn x)).toInt64 (uI I 28 (tn x) y) J := by
  refine hw_MHof (by decide) [(0, .ref _), (1, .int _), (2, .int _)] rfl (Nat.le_of_ble_eq_true rfl) ?_
  intro p e s m args below meth c C hr hlk hT
  refine hq_aload_n (q := 0) C dL_lawOf_0 rfl rfl ?_
  refine hq_iload_n (q := 1) C dL_lawOf_1 rfl rfl ?_
  refine hq_iload_n (q := 2) C dL_lawOf_2 rfl rfl ?_
  refine hq_cVXr (As := [.int _, .int _]) (rm := rX5_law) (f := 0) (Nc := 1) C (m_X5_law hlt) wv_X5_law ml_L_60 rfl rfl rfl Nat.one_pos rfl rfl rfl rfl ⟨Nat.le_of_ble_eq_true rfl, Nat.le_of_ble_eq_true rfl⟩ (Nat.le_of_ble_eq_true rfl) ⟨Nat.le_of_ble_eq_true rfl, Nat.le_of_ble_eq_true rfl⟩ dL_lawOf_3 (fun _ => ?_) (fun E9 x9 => absurd (hx9.symm.trans x9) (by simp))
  refine hq_i2l C dL_lawOf_6 ?_
  exact hq_lretX C hr hlk dL_lawOf_7 rfl rfl rfl (Nat.le_of_ble_eq_true rfl) (Nat.le_of_ble_eq_true rfl)
theorem n_L_lawOf {I : MI} {J : MJ} {x y : Int32} (hx9 : e_law x y = none) : kL_lawOf x y I J (I 29 (tn x)).toInt64 (uI I 28 (tn x) y) J := fun _ _ _ _ _ _ hlt => m_L_lawOf_n hlt  hx9
set_option maxHeartbeats 4000000 in
set_option maxRecDepth 100000 in
theorem m_L_lawOf_eI {l : Launch} {D : va_G} {b0 : Nat} {I : MI} {J : MJ} {P : MI} {N : MJ} {o : Int64} (hlt : l.stackTraces = false) {x y : Int32} (hx9 : e_law x y = some eI) : hL l yL_lawOf wL_lawOf rL_lawOf D b0 [.ref (hw_ad b0 0 0), .int x, .int y] I J P N o NO I J := by
  refine hw_MHof (by decide) [(0, .ref _), (1, .int _), (2, .int _)] rfl (Nat.le_of_ble_eq_true rfl) ?_
  intro p e s m args below meth c C hr hlk hT
  refine hq_aload_n (q := 0) C dL_lawOf_0 rfl rfl ?_
  refine hq_iload_n (q := 1) C dL_lawOf_1 rfl rfl ?_
  refine hq_iload_n (q := 2) C dL_lawOf_2 rfl rfl ?_
  refine hq_cVXr (As := [.int _, .int _]) (rm := rX5_law) (f := 0) (Nc := 1) C (m_X5_law hlt) wv_X5_law ml_L_60 rfl rfl rfl Nat.one_pos rfl rfl rfl rfl ⟨Nat.le_of_ble_eq_true rfl, Nat.le_of_ble_eq_true rfl⟩ (Nat.le_of_ble_eq_true rfl) ⟨Nat.le_of_ble_eq_true rfl, Nat.le_of_ble_eq_true rfl⟩ dL_lawOf_3 (fun n9 => absurd (n9.symm.trans hx9) (by simp)) (fun E9 x9 => ?_)
  cases hx9.symm.trans x9
  refine hq_catch (E := eI) (name := eI) C hT (tableOf []) ⟨0, 7, 8, 14⟩ (tableOf [(0, 7, 13, 18)]) rfl (fun z hz => by cases hz) rfl (by decide) L_14 C.2.2.2.2.2.2.1.2.1.1 (fun q9 => ?_)
  refine hq_astore_n (L' := [(3, .ref _), (0, .ref _), (1, .int _), (2, .int _)]) C dL_lawOf_8 rfl (by decide) rfl ?_
  refine hq_ldc2 C wc_L_16 dL_lawOf_9 ?_
  exact hq_lretX C hr hlk dL_lawOf_12 rfl rfl rfl (Nat.le_of_ble_eq_true rfl) (Nat.le_of_ble_eq_true rfl)
theorem t_L_lawOf_eI {I : MI} {J : MJ} {x y : Int32} (hx9 : e_law x y = some eI) : kL_lawOf x y I J NO I J := fun _ _ _ _ _ _ hlt => m_L_lawOf_eI hlt  hx9
set_option maxHeartbeats 4000000 in
set_option maxRecDepth 100000 in
theorem m_L_lawOf_eA {l : Launch} {D : va_G} {b0 : Nat} {I : MI} {J : MJ} {P : MI} {N : MJ} {o : Int64} (hlt : l.stackTraces = false) {x y : Int32} (hx9 : e_law x y = some eA) : hL l yL_lawOf wL_lawOf rL_lawOf D b0 [.ref (hw_ad b0 0 0), .int x, .int y] I J P N o NO I J := by
  refine hw_MHof (by decide) [(0, .ref _), (1, .int _), (2, .int _)] rfl (Nat.le_of_ble_eq_true rfl) ?_
  intro p e s m args below meth c C hr hlk hT
  refine hq_aload_n (q := 0) C dL_lawOf_0 rfl rfl ?_
  refine hq_iload_n (q := 1) C dL_lawOf_1 rfl rfl ?_
  refine hq_iload_n (q := 2) C dL_lawOf_2 rfl rfl ?_
  refine hq_cVXr (As := [.int _, .int _]) (rm := rX5_law) (f := 0) (Nc := 1) C (m_X5_law hlt) wv_X5_law ml_L_60 rfl rfl rfl Nat.one_pos rfl rfl rfl rfl ⟨Nat.le_of_ble_eq_true rfl, Nat.le_of_ble_eq_true rfl⟩ (Nat.le_of_ble_eq_true rfl) ⟨Nat.le_of_ble_eq_true rfl, Nat.le_of_ble_eq_true rfl⟩ dL_lawOf_3 (fun n9 => absurd (n9.symm.trans hx9) (by simp)) (fun E9 x9 => ?_)
  cases hx9.symm.trans x9
  refine hq_catch (E := eA) (name := eA) C hT (tableOf [(0, 7, 8, 14)]) ⟨0, 7, 13, 18⟩ (tableOf []) rfl (fun z hz => by
      rcases List.mem_cons.mp hz with h9 | h9
      · rw [h9]; exact Or.inr ⟨by decide, eI, L_14, C.2.2.2.2.2.2.1.2.2.1.1⟩
      · cases h9) rfl (by decide) L_18 C.2.2.2.2.2.2.1.2.1.2.1 (fun q9 => ?_)
  refine hq_astore_n (L' := [(3, .ref _), (0, .ref _), (1, .int _), (2, .int _)]) C dL_lawOf_13 rfl (by decide) rfl ?_
  refine hq_ldc2 C wc_L_16 dL_lawOf_14 ?_
  exact hq_lretX C hr hlk dL_lawOf_17 rfl rfl rfl (Nat.le_of_ble_eq_true rfl) (Nat.le_of_ble_eq_true rfl)
theorem t_L_lawOf_eA {I : MI} {J : MJ} {x y : Int32} (hx9 : e_law x y = some eA) : kL_lawOf x y I J NO I J := fun _ _ _ _ _ _ hlt => m_L_lawOf_eA hlt  hx9
abbrev wL_list : Cond := .codeWith yL_list cL_list 3 (some .long) [(0, 13, 14, 14)]
theorem ws_L_list : hw_WS yL_list wL_list 2 := ⟨⟨hw_in 574 (by decide +kernel) rfl, hw_in 573 (by decide +kernel) rfl, hw_in 34 (by decide +kernel) rfl⟩, by decide +kernel⟩
def kL_list (x : Int32) (I : MI) (J : MJ) (r : Int64) (I' : MI) (J' : MJ) : Prop := ∀ (l : Launch) (D : va_G) (b0 : Nat) (P : MI) (N : MJ) (o : Int64), l.stackTraces = false → hL l yL_list wL_list rL_list D b0 [.ref (hw_ad b0 0 0), .int x] I J P N o r I' J'
set_option maxHeartbeats 4000000 in
set_option maxRecDepth 100000 in
theorem m_L_list_n {l : Launch} {D : va_G} {b0 : Nat} {I : MI} {J : MJ} {P : MI} {N : MJ} {o : Int64} (hlt : l.stackTraces = false) {x : Int32} (hx9 : e_list x = none) : hL l yL_list wL_list rL_list D b0 [.ref (hw_ad b0 0 0), .int x] I J P N o (if (if I 30 (tn x) = 0 then (1 : Int32) else 0) = 0 then 0 else 1) (i_list I x) J := by
  refine hw_MHof (by decide) [(0, .ref _), (1, .int _)] rfl (Nat.le_of_ble_eq_true rfl) ?_
  intro p e s m args below meth c C hr hlk hT
  refine hq_aload_n (q := 0) C dL_list_0 rfl rfl ?_
  refine hq_iload_n (q := 1) C dL_list_1 rfl rfl ?_
  refine hq_cVXr (As := [.int _]) (rm := rX5_list) (f := 0) (Nc := 1) C (m_X5_list hlt) wv_X5_list ml_L_63 rfl rfl rfl Nat.one_pos rfl rfl rfl rfl ⟨Nat.le_of_ble_eq_true rfl, Nat.le_of_ble_eq_true rfl⟩ (Nat.le_of_ble_eq_true rfl) ⟨Nat.le_of_ble_eq_true rfl, Nat.le_of_ble_eq_true rfl⟩ dL_list_2 (fun _ => ?_) (fun E9 x9 => absurd (hx9.symm.trans x9) (by simp))
  refine hq_if_eq (tgt := 12) C dL_list_5 (by decide) (fun c_5 => ?_) (fun c_5 => ?_)
  · refine hq_lconst (y := 0) C dL_list_12 rfl ?_
    exact hq_lretX C hr hlk dL_list_13 rfl (by simp [c_5]) rfl (Nat.le_of_ble_eq_true rfl) (Nat.le_of_ble_eq_true rfl)
  · refine hq_lconst (y := 1) C dL_list_8 rfl ?_
    refine hq_goto (tgt := 13) C dL_list_9 (by decide) ?_
    exact hq_lretX C hr hlk dL_list_13 rfl (by simp [c_5]) rfl (Nat.le_of_ble_eq_true rfl) (Nat.le_of_ble_eq_true rfl)
theorem n_L_list {I : MI} {J : MJ} {x : Int32} (hx9 : e_list x = none) : kL_list x I J (if (if I 30 (tn x) = 0 then (1 : Int32) else 0) = 0 then 0 else 1) (i_list I x) J := fun _ _ _ _ _ _ hlt => m_L_list_n hlt  hx9
set_option maxHeartbeats 4000000 in
set_option maxRecDepth 100000 in
theorem m_L_list_eI {l : Launch} {D : va_G} {b0 : Nat} {I : MI} {J : MJ} {P : MI} {N : MJ} {o : Int64} (hlt : l.stackTraces = false) {x : Int32} (hx9 : e_list x = some eI) : hL l yL_list wL_list rL_list D b0 [.ref (hw_ad b0 0 0), .int x] I J P N o NO I J := by
  refine hw_MHof (by decide) [(0, .ref _), (1, .int _)] rfl (Nat.le_of_ble_eq_true rfl) ?_
  intro p e s m args below meth c C hr hlk hT
  refine hq_aload_n (q := 0) C dL_list_0 rfl rfl ?_
  refine hq_iload_n (q := 1) C dL_list_1 rfl rfl ?_
  refine hq_cVXr (As := [.int _]) (rm := rX5_list) (f := 0) (Nc := 1) C (m_X5_list hlt) wv_X5_list ml_L_63 rfl rfl rfl Nat.one_pos rfl rfl rfl rfl ⟨Nat.le_of_ble_eq_true rfl, Nat.le_of_ble_eq_true rfl⟩ (Nat.le_of_ble_eq_true rfl) ⟨Nat.le_of_ble_eq_true rfl, Nat.le_of_ble_eq_true rfl⟩ dL_list_2 (fun n9 => absurd (n9.symm.trans hx9) (by simp)) (fun E9 x9 => ?_)
  cases hx9.symm.trans x9
  refine hq_catch (E := eI) (name := eI) C hT (tableOf []) ⟨0, 13, 14, 14⟩ (tableOf []) rfl (fun z hz => by cases hz) rfl (by decide) L_14 C.2.2.2.2.2.2.1.2.1.1 (fun q9 => ?_)
  refine hq_astore_n (L' := [(2, .ref _), (0, .ref _), (1, .int _)]) C dL_list_14 rfl (by decide) rfl ?_
  refine hq_ldc2 C wc_L_16 dL_list_15 ?_
  exact hq_lretX C hr hlk dL_list_18 rfl rfl rfl (Nat.le_of_ble_eq_true rfl) (Nat.le_of_ble_eq_true rfl)
theorem t_L_list_eI {I : MI} {J : MJ} {x : Int32} (hx9 : e_list x = some eI) : kL_list x I J NO I J := fun _ _ _ _ _ _ hlt => m_L_list_eI hlt  hx9
abbrev wL_brokerOf : Cond := .codeWith yL_brokerOf cL_brokerOf 4 (some .long) [(0, 6, 7, 14), (0, 6, 12, 18)]
theorem ws_L_brokerOf : hw_WS yL_brokerOf wL_brokerOf 3 := ⟨⟨hw_in 748 (by decide +kernel) rfl, hw_in 747 (by decide +kernel) rfl, hw_in 34 (by decide +kernel) rfl⟩, by decide +kernel⟩
def kL_brokerOf (x y : Int32) (I : MI) (J : MJ) (r : Int64) (I' : MI) (J' : MJ) : Prop := ∀ (l : Launch) (D : va_G) (b0 : Nat) (P : MI) (N : MJ) (o : Int64), l.stackTraces = false → hL l yL_brokerOf wL_brokerOf rL_brokerOf D b0 [.ref (hw_ad b0 0 0), .int x, .int y] I J P N o r I' J'
set_option maxHeartbeats 4000000 in
set_option maxRecDepth 100000 in
theorem m_L_brokerOf_n {l : Launch} {D : va_G} {b0 : Nat} {I : MI} {J : MJ} {P : MI} {N : MJ} {o : Int64} (hlt : l.stackTraces = false) {x y : Int32} {nb no nc : Nat} {B : Int} (h : hw_ci I J nb no nc B) (hx9 : e_brokerOf I x y = none) : hL l yL_brokerOf wL_brokerOf rL_brokerOf D b0 [.ref (hw_ad b0 0 0), .int x, .int y] I J P N o (r_brokerOf I J x y nb) I J := by
  refine hw_MHof (by decide) [(0, .ref _), (1, .int _), (2, .int _)] rfl (Nat.le_of_ble_eq_true rfl) ?_
  intro p e s m args below meth c C hr hlk hT
  refine hq_aload_n (q := 0) C dL_brokerOf_0 rfl rfl ?_
  refine hq_iload_n (q := 1) C dL_brokerOf_1 rfl rfl ?_
  refine hq_iload_n (q := 2) C dL_brokerOf_2 rfl rfl ?_
  refine hq_cVXr (As := [.int _, .int _]) (rm := rX5_brokerOf) (f := 0) (Nc := 1) C (m_X5_brokerOf hlt h) wv_X5_brokerOf ml_L_67 rfl rfl rfl Nat.one_pos rfl rfl rfl rfl ⟨Nat.le_of_ble_eq_true rfl, Nat.le_of_ble_eq_true rfl⟩ (Nat.le_of_ble_eq_true rfl) ⟨Nat.le_of_ble_eq_true rfl, Nat.le_of_ble_eq_true rfl⟩ dL_brokerOf_3 (fun _ => ?_) (fun E9 x9 => absurd (hx9.symm.trans x9) (by simp))
  exact hq_lretX C hr hlk dL_brokerOf_6 rfl rfl rfl (Nat.le_of_ble_eq_true rfl) (Nat.le_of_ble_eq_true rfl)
theorem n_L_brokerOf {I : MI} {J : MJ} {x y : Int32} {nb no nc : Nat} {B : Int} (h : hw_ci I J nb no nc B) (hx9 : e_brokerOf I x y = none) : kL_brokerOf x y I J (r_brokerOf I J x y nb) I J := fun _ _ _ _ _ _ hlt => m_L_brokerOf_n hlt h hx9
set_option maxHeartbeats 4000000 in
set_option maxRecDepth 100000 in
theorem m_L_brokerOf_eI {l : Launch} {D : va_G} {b0 : Nat} {I : MI} {J : MJ} {P : MI} {N : MJ} {o : Int64} (hlt : l.stackTraces = false) {x y : Int32} {nb no nc : Nat} {B : Int} (h : hw_ci I J nb no nc B) (hx9 : e_brokerOf I x y = some eI) : hL l yL_brokerOf wL_brokerOf rL_brokerOf D b0 [.ref (hw_ad b0 0 0), .int x, .int y] I J P N o NO I J := by
  refine hw_MHof (by decide) [(0, .ref _), (1, .int _), (2, .int _)] rfl (Nat.le_of_ble_eq_true rfl) ?_
  intro p e s m args below meth c C hr hlk hT
  refine hq_aload_n (q := 0) C dL_brokerOf_0 rfl rfl ?_
  refine hq_iload_n (q := 1) C dL_brokerOf_1 rfl rfl ?_
  refine hq_iload_n (q := 2) C dL_brokerOf_2 rfl rfl ?_
  refine hq_cVXr (As := [.int _, .int _]) (rm := rX5_brokerOf) (f := 0) (Nc := 1) C (m_X5_brokerOf hlt h) wv_X5_brokerOf ml_L_67 rfl rfl rfl Nat.one_pos rfl rfl rfl rfl ⟨Nat.le_of_ble_eq_true rfl, Nat.le_of_ble_eq_true rfl⟩ (Nat.le_of_ble_eq_true rfl) ⟨Nat.le_of_ble_eq_true rfl, Nat.le_of_ble_eq_true rfl⟩ dL_brokerOf_3 (fun n9 => absurd (n9.symm.trans hx9) (by simp)) (fun E9 x9 => ?_)
  cases hx9.symm.trans x9
  refine hq_catch (E := eI) (name := eI) C hT (tableOf []) ⟨0, 6, 7, 14⟩ (tableOf [(0, 6, 12, 18)]) rfl (fun z hz => by cases hz) rfl (by decide) L_14 C.2.2.2.2.2.2.1.2.1.1 (fun q9 => ?_)
  refine hq_astore_n (L' := [(3, .ref _), (0, .ref _), (1, .int _), (2, .int _)]) C dL_brokerOf_7 rfl (by decide) rfl ?_
  refine hq_ldc2 C wc_L_16 dL_brokerOf_8 ?_
  exact hq_lretX C hr hlk dL_brokerOf_11 rfl rfl rfl (Nat.le_of_ble_eq_true rfl) (Nat.le_of_ble_eq_true rfl)
theorem t_L_brokerOf_eI {I : MI} {J : MJ} {x y : Int32} {nb no nc : Nat} {B : Int} (h : hw_ci I J nb no nc B) (hx9 : e_brokerOf I x y = some eI) : kL_brokerOf x y I J NO I J := fun _ _ _ _ _ _ hlt => m_L_brokerOf_eI hlt h hx9
set_option maxHeartbeats 4000000 in
set_option maxRecDepth 100000 in
theorem m_L_brokerOf_eA {l : Launch} {D : va_G} {b0 : Nat} {I : MI} {J : MJ} {P : MI} {N : MJ} {o : Int64} (hlt : l.stackTraces = false) {x y : Int32} {nb no nc : Nat} {B : Int} (h : hw_ci I J nb no nc B) (hx9 : e_brokerOf I x y = some eA) : hL l yL_brokerOf wL_brokerOf rL_brokerOf D b0 [.ref (hw_ad b0 0 0), .int x, .int y] I J P N o NO I J := by
  refine hw_MHof (by decide) [(0, .ref _), (1, .int _), (2, .int _)] rfl (Nat.le_of_ble_eq_true rfl) ?_
  intro p e s m args below meth c C hr hlk hT
  refine hq_aload_n (q := 0) C dL_brokerOf_0 rfl rfl ?_
  refine hq_iload_n (q := 1) C dL_brokerOf_1 rfl rfl ?_
  refine hq_iload_n (q := 2) C dL_brokerOf_2 rfl rfl ?_
  refine hq_cVXr (As := [.int _, .int _]) (rm := rX5_brokerOf) (f := 0) (Nc := 1) C (m_X5_brokerOf hlt h) wv_X5_brokerOf ml_L_67 rfl rfl rfl Nat.one_pos rfl rfl rfl rfl ⟨Nat.le_of_ble_eq_true rfl, Nat.le_of_ble_eq_true rfl⟩ (Nat.le_of_ble_eq_true rfl) ⟨Nat.le_of_ble_eq_true rfl, Nat.le_of_ble_eq_true rfl⟩ dL_brokerOf_3 (fun n9 => absurd (n9.symm.trans hx9) (by simp)) (fun E9 x9 => ?_)
  cases hx9.symm.trans x9
  refine hq_catch (E := eA) (name := eA) C hT (tableOf [(0, 6, 7, 14)]) ⟨0, 6, 12, 18⟩ (tableOf []) rfl (fun z hz => by
      rcases List.mem_cons.mp hz with h9 | h9
      · rw [h9]; exact Or.inr ⟨by decide, eI, L_14, C.2.2.2.2.2.2.1.2.2.1.1⟩
      · cases h9) rfl (by decide) L_18 C.2.2.2.2.2.2.1.2.1.2.1 (fun q9 => ?_)
  refine hq_astore_n (L' := [(3, .ref _), (0, .ref _), (1, .int _), (2, .int _)]) C dL_brokerOf_12 rfl (by decide) rfl ?_
  refine hq_ldc2 C wc_L_16 dL_brokerOf_13 ?_
  exact hq_lretX C hr hlk dL_brokerOf_16 rfl rfl rfl (Nat.le_of_ble_eq_true rfl) (Nat.le_of_ble_eq_true rfl)
theorem t_L_brokerOf_eA {I : MI} {J : MJ} {x y : Int32} {nb no nc : Nat} {B : Int} (h : hw_ci I J nb no nc B) (hx9 : e_brokerOf I x y = some eA) : kL_brokerOf x y I J NO I J := fun _ _ _ _ _ _ hlt => m_L_brokerOf_eA hlt h hx9
abbrev wL_debt : Cond := .codeWith yL_debt cL_debt 5 (some .long) [(0, 7, 8, 14)]
theorem ws_L_debt : hw_WS yL_debt wL_debt 4 := ⟨⟨hw_in 730 (by decide +kernel) rfl, hw_in 729 (by decide +kernel) rfl, hw_in 34 (by decide +kernel) rfl⟩, by decide +kernel⟩
def kL_debt (x y z : Int32) (I : MI) (J : MJ) (r : Int64) (I' : MI) (J' : MJ) : Prop := ∀ (l : Launch) (D : va_G) (b0 : Nat) (P : MI) (N : MJ) (o : Int64), l.stackTraces = false → hL l yL_debt wL_debt rL_debt D b0 [.ref (hw_ad b0 0 0), .int x, .int y, .int z] I J P N o r I' J'
set_option maxHeartbeats 4000000 in
set_option maxRecDepth 100000 in
theorem m_L_debt_n {l : Launch} {D : va_G} {b0 : Nat} {I : MI} {J : MJ} {P : MI} {N : MJ} {o : Int64} (hlt : l.stackTraces = false) {x y z : Int32} {nb no nc : Nat} {B : Int} (h : hw_ci I J nb no nc B) (hx9 : e_debt I x y = none) : hL l yL_debt wL_debt rL_debt D b0 [.ref (hw_ad b0 0 0), .int x, .int y, .int z] I J P N o (r_debt J x y z) I J := by
  refine hw_MHof (by decide) [(0, .ref _), (1, .int _), (2, .int _), (3, .int _)] rfl (Nat.le_of_ble_eq_true rfl) ?_
  intro p e s m args below meth c C hr hlk hT
  refine hq_aload_n (q := 0) C dL_debt_0 rfl rfl ?_
  refine hq_iload_n (q := 1) C dL_debt_1 rfl rfl ?_
  refine hq_iload_n (q := 2) C dL_debt_2 rfl rfl ?_
  refine hq_iload_n (q := 3) C dL_debt_3 rfl rfl ?_
  refine hq_cVXr (As := [.int _, .int _, .int _]) (rm := rX5_debt) (f := 0) (Nc := 1) C (m_X5_debt hlt h) wv_X5_debt ml_L_71 rfl rfl rfl Nat.one_pos rfl rfl rfl rfl ⟨Nat.le_of_ble_eq_true rfl, Nat.le_of_ble_eq_true rfl⟩ (Nat.le_of_ble_eq_true rfl) ⟨Nat.le_of_ble_eq_true rfl, Nat.le_of_ble_eq_true rfl⟩ dL_debt_4 (fun _ => ?_) (fun E9 x9 => absurd (hx9.symm.trans x9) (by simp))
  exact hq_lretX C hr hlk dL_debt_7 rfl rfl rfl (Nat.le_of_ble_eq_true rfl) (Nat.le_of_ble_eq_true rfl)
theorem n_L_debt {I : MI} {J : MJ} {x y z : Int32} {nb no nc : Nat} {B : Int} (h : hw_ci I J nb no nc B) (hx9 : e_debt I x y = none) : kL_debt x y z I J (r_debt J x y z) I J := fun _ _ _ _ _ _ hlt => m_L_debt_n hlt h hx9
set_option maxHeartbeats 4000000 in
set_option maxRecDepth 100000 in
theorem m_L_debt_eI {l : Launch} {D : va_G} {b0 : Nat} {I : MI} {J : MJ} {P : MI} {N : MJ} {o : Int64} (hlt : l.stackTraces = false) {x y z : Int32} {nb no nc : Nat} {B : Int} (h : hw_ci I J nb no nc B) (hx9 : e_debt I x y = some eI) : hL l yL_debt wL_debt rL_debt D b0 [.ref (hw_ad b0 0 0), .int x, .int y, .int z] I J P N o NO I J := by
  refine hw_MHof (by decide) [(0, .ref _), (1, .int _), (2, .int _), (3, .int _)] rfl (Nat.le_of_ble_eq_true rfl) ?_
  intro p e s m args below meth c C hr hlk hT
  refine hq_aload_n (q := 0) C dL_debt_0 rfl rfl ?_
  refine hq_iload_n (q := 1) C dL_debt_1 rfl rfl ?_
  refine hq_iload_n (q := 2) C dL_debt_2 rfl rfl ?_
  refine hq_iload_n (q := 3) C dL_debt_3 rfl rfl ?_
  refine hq_cVXr (As := [.int _, .int _, .int _]) (rm := rX5_debt) (f := 0) (Nc := 1) C (m_X5_debt hlt h) wv_X5_debt ml_L_71 rfl rfl rfl Nat.one_pos rfl rfl rfl rfl ⟨Nat.le_of_ble_eq_true rfl, Nat.le_of_ble_eq_true rfl⟩ (Nat.le_of_ble_eq_true rfl) ⟨Nat.le_of_ble_eq_true rfl, Nat.le_of_ble_eq_true rfl⟩ dL_debt_4 (fun n9 => absurd (n9.symm.trans hx9) (by simp)) (fun E9 x9 => ?_)
  cases hx9.symm.trans x9
  refine hq_catch (E := eI) (name := eI) C hT (tableOf []) ⟨0, 7, 8, 14⟩ (tableOf []) rfl (fun z hz => by cases hz) rfl (by decide) L_14 C.2.2.2.2.2.2.1.2.1.1 (fun q9 => ?_)
  refine hq_astore (L' := [(4, .ref _), (0, .ref _), (1, .int _), (2, .int _), (3, .int _)]) C dL_debt_8 (by decide) rfl ?_
  refine hq_ldc2 C wc_L_16 dL_debt_10 ?_
  exact hq_lretX C hr hlk dL_debt_13 rfl rfl rfl (Nat.le_of_ble_eq_true rfl) (Nat.le_of_ble_eq_true rfl)
theorem t_L_debt_eI {I : MI} {J : MJ} {x y z : Int32} {nb no nc : Nat} {B : Int} (h : hw_ci I J nb no nc B) (hx9 : e_debt I x y = some eI) : kL_debt x y z I J NO I J := fun _ _ _ _ _ _ hlt => m_L_debt_eI hlt h hx9
abbrev wL_way : Cond := .codeWith yL_way cL_way 6 (some .long) [(0, 10, 11, 14), (0, 10, 17, 18)]
theorem ws_L_way : hw_WS yL_way wL_way 5 := ⟨⟨hw_in 698 (by decide +kernel) rfl, hw_in 697 (by decide +kernel) rfl, hw_in 34 (by decide +kernel) rfl⟩, by decide +kernel⟩
def kL_way (x y z w : Int32) (I : MI) (J : MJ) (r : Int64) (I' : MI) (J' : MJ) : Prop := ∀ (l : Launch) (D : va_G) (b0 : Nat) (P : MI) (N : MJ) (o : Int64), l.stackTraces = false → hL l yL_way wL_way rL_way D b0 [.ref (hw_ad b0 0 0), .int x, .int y, .int z, .int w] I J P N o r I' J'
set_option maxHeartbeats 4000000 in
set_option maxRecDepth 100000 in
theorem m_L_way_n {l : Launch} {D : va_G} {b0 : Nat} {I : MI} {J : MJ} {P : MI} {N : MJ} {o : Int64} (hlt : l.stackTraces = false) {x y z w : Int32} {nb no nc : Nat} {B : Int} (h : hw_ci I J nb no nc B) (hB : B ≤ 4611686018427387904) (hx9 : e_way I x y z w = none) : hL l yL_way wL_way rL_way D b0 [.ref (hw_ad b0 0 0), .int x, .int y, .int z, .int w] I J P N o (r_way I J x y z w).toInt64 (sp_fw I J (tn x) (tn y) z).2 J := by
  refine hw_MHof (by decide) [(0, .ref _), (1, .int _), (2, .int _), (3, .int _), (4, .int _)] rfl (Nat.le_of_ble_eq_true rfl) ?_
  intro p e s m args below meth c C hr hlk hT
  refine hq_aload_n (q := 0) C dL_way_0 rfl rfl ?_
  refine hq_iload_n (q := 1) C dL_way_1 rfl rfl ?_
  refine hq_iload_n (q := 2) C dL_way_2 rfl rfl ?_
  refine hq_iload_n (q := 3) C dL_way_3 rfl rfl ?_
  refine hq_iload (q := 4) C dL_way_4 rfl ?_
  refine hq_cVXr (As := [.int _, .int _, .int _, .int _]) (rm := rX5_way) (f := 0) (Nc := 1) C (m_X5_way hlt h hB) wv_X5_way ml_L_79 rfl rfl rfl Nat.one_pos rfl rfl rfl rfl ⟨Nat.le_of_ble_eq_true rfl, Nat.le_of_ble_eq_true rfl⟩ (Nat.le_of_ble_eq_true rfl) ⟨Nat.le_of_ble_eq_true rfl, Nat.le_of_ble_eq_true rfl⟩ dL_way_6 (fun _ => ?_) (fun E9 x9 => absurd (hx9.symm.trans x9) (by simp))
  refine hq_i2l C dL_way_9 ?_
  exact hq_lretX C hr hlk dL_way_10 rfl rfl rfl (Nat.le_of_ble_eq_true rfl) (Nat.le_of_ble_eq_true rfl)
theorem n_L_way {I : MI} {J : MJ} {x y z w : Int32} {nb no nc : Nat} {B : Int} (h : hw_ci I J nb no nc B) (hB : B ≤ 4611686018427387904) (hx9 : e_way I x y z w = none) : kL_way x y z w I J (r_way I J x y z w).toInt64 (sp_fw I J (tn x) (tn y) z).2 J := fun _ _ _ _ _ _ hlt => m_L_way_n hlt h hB hx9
set_option maxHeartbeats 4000000 in
set_option maxRecDepth 100000 in
theorem m_L_way_eI {l : Launch} {D : va_G} {b0 : Nat} {I : MI} {J : MJ} {P : MI} {N : MJ} {o : Int64} (hlt : l.stackTraces = false) {x y z w : Int32} {nb no nc : Nat} {B : Int} (h : hw_ci I J nb no nc B) (hB : B ≤ 4611686018427387904) (hx9 : e_way I x y z w = some eI) : hL l yL_way wL_way rL_way D b0 [.ref (hw_ad b0 0 0), .int x, .int y, .int z, .int w] I J P N o NO I J := by
  refine hw_MHof (by decide) [(0, .ref _), (1, .int _), (2, .int _), (3, .int _), (4, .int _)] rfl (Nat.le_of_ble_eq_true rfl) ?_
  intro p e s m args below meth c C hr hlk hT
  refine hq_aload_n (q := 0) C dL_way_0 rfl rfl ?_
  refine hq_iload_n (q := 1) C dL_way_1 rfl rfl ?_
  refine hq_iload_n (q := 2) C dL_way_2 rfl rfl ?_
  refine hq_iload_n (q := 3) C dL_way_3 rfl rfl ?_
  refine hq_iload (q := 4) C dL_way_4 rfl ?_
  refine hq_cVXr (As := [.int _, .int _, .int _, .int _]) (rm := rX5_way) (f := 0) (Nc := 1) C (m_X5_way hlt h hB) wv_X5_way ml_L_79 rfl rfl rfl Nat.one_pos rfl rfl rfl rfl ⟨Nat.le_of_ble_eq_true rfl, Nat.le_of_ble_eq_true rfl⟩ (Nat.le_of_ble_eq_true rfl) ⟨Nat.le_of_ble_eq_true rfl, Nat.le_of_ble_eq_true rfl⟩ dL_way_6 (fun n9 => absurd (n9.symm.trans hx9) (by simp)) (fun E9 x9 => ?_)
  cases hx9.symm.trans x9
  refine hq_catch (E := eI) (name := eI) C hT (tableOf []) ⟨0, 10, 11, 14⟩ (tableOf [(0, 10, 17, 18)]) rfl (fun z hz => by cases hz) rfl (by decide) L_14 C.2.2.2.2.2.2.1.2.1.1 (fun q9 => ?_)
  refine hq_astore (L' := [(5, .ref _), (0, .ref _), (1, .int _), (2, .int _), (3, .int _), (4, .int _)]) C dL_way_11 (by decide) rfl ?_
  refine hq_ldc2 C wc_L_16 dL_way_13 ?_
  exact hq_lretX C hr hlk dL_way_16 rfl rfl rfl (Nat.le_of_ble_eq_true rfl) (Nat.le_of_ble_eq_true rfl)
theorem t_L_way_eI {I : MI} {J : MJ} {x y z w : Int32} {nb no nc : Nat} {B : Int} (h : hw_ci I J nb no nc B) (hB : B ≤ 4611686018427387904) (hx9 : e_way I x y z w = some eI) : kL_way x y z w I J NO I J := fun _ _ _ _ _ _ hlt => m_L_way_eI hlt h hB hx9
set_option maxHeartbeats 4000000 in
set_option maxRecDepth 100000 in
theorem m_L_way_eA {l : Launch} {D : va_G} {b0 : Nat} {I : MI} {J : MJ} {P : MI} {N : MJ} {o : Int64} (hlt : l.stackTraces = false) {x y z w : Int32} {nb no nc : Nat} {B : Int} (h : hw_ci I J nb no nc B) (hB : B ≤ 4611686018427387904) (hx9 : e_way I x y z w = some eA) : hL l yL_way wL_way rL_way D b0 [.ref (hw_ad b0 0 0), .int x, .int y, .int z, .int w] I J P N o NO I J := by
  refine hw_MHof (by decide) [(0, .ref _), (1, .int _), (2, .int _), (3, .int _), (4, .int _)] rfl (Nat.le_of_ble_eq_true rfl) ?_
  intro p e s m args below meth c C hr hlk hT
  refine hq_aload_n (q := 0) C dL_way_0 rfl rfl ?_
  refine hq_iload_n (q := 1) C dL_way_1 rfl rfl ?_
  refine hq_iload_n (q := 2) C dL_way_2 rfl rfl ?_
  refine hq_iload_n (q := 3) C dL_way_3 rfl rfl ?_
  refine hq_iload (q := 4) C dL_way_4 rfl ?_
  refine hq_cVXr (As := [.int _, .int _, .int _, .int _]) (rm := rX5_way) (f := 0) (Nc := 1) C (m_X5_way hlt h hB) wv_X5_way ml_L_79 rfl rfl rfl Nat.one_pos rfl rfl rfl rfl ⟨Nat.le_of_ble_eq_true rfl, Nat.le_of_ble_eq_true rfl⟩ (Nat.le_of_ble_eq_true rfl) ⟨Nat.le_of_ble_eq_true rfl, Nat.le_of_ble_eq_true rfl⟩ dL_way_6 (fun n9 => absurd (n9.symm.trans hx9) (by simp)) (fun E9 x9 => ?_)
  cases hx9.symm.trans x9
  refine hq_catch (E := eA) (name := eA) C hT (tableOf [(0, 10, 11, 14)]) ⟨0, 10, 17, 18⟩ (tableOf []) rfl (fun z hz => by
      rcases List.mem_cons.mp hz with h9 | h9
      · rw [h9]; exact Or.inr ⟨by decide, eI, L_14, C.2.2.2.2.2.2.1.2.2.1.1⟩
      · cases h9) rfl (by decide) L_18 C.2.2.2.2.2.2.1.2.1.2.1 (fun q9 => ?_)
  refine hq_astore (L' := [(5, .ref _), (0, .ref _), (1, .int _), (2, .int _), (3, .int _), (4, .int _)]) C dL_way_17 (by decide) rfl ?_
  refine hq_ldc2 C wc_L_16 dL_way_19 ?_
  exact hq_lretX C hr hlk dL_way_22 rfl rfl rfl (Nat.le_of_ble_eq_true rfl) (Nat.le_of_ble_eq_true rfl)
theorem t_L_way_eA {I : MI} {J : MJ} {x y z w : Int32} {nb no nc : Nat} {B : Int} (h : hw_ci I J nb no nc B) (hB : B ≤ 4611686018427387904) (hx9 : e_way I x y z w = some eA) : kL_way x y z w I J NO I J := fun _ _ _ _ _ _ hlt => m_L_way_eA hlt h hB hx9
abbrev wL_wayOf : Cond := .codeWith yL_wayOf cL_wayOf 4 (some .long) [(0, 7, 8, 14)]
theorem ws_L_wayOf : hw_WS yL_wayOf wL_wayOf 3 := ⟨⟨hw_in 709 (by decide +kernel) rfl, hw_in 708 (by decide +kernel) rfl, hw_in 34 (by decide +kernel) rfl⟩, by decide +kernel⟩
def kL_wayOf (x y : Int32) (I : MI) (J : MJ) (r : Int64) (I' : MI) (J' : MJ) : Prop := ∀ (l : Launch) (D : va_G) (b0 : Nat) (P : MI) (N : MJ) (o : Int64), l.stackTraces = false → hL l yL_wayOf wL_wayOf rL_wayOf D b0 [.ref (hw_ad b0 0 0), .int x, .int y] I J P N o r I' J'
set_option maxHeartbeats 4000000 in
set_option maxRecDepth 100000 in
theorem m_L_wayOf_n {l : Launch} {D : va_G} {b0 : Nat} {I : MI} {J : MJ} {P : MI} {N : MJ} {o : Int64} (hlt : l.stackTraces = false) {x y : Int32} {nb no nc : Nat} {B : Int} (h : hw_ci I J nb no nc B) (hx9 : e_wayOf I x y = none) : hL l yL_wayOf wL_wayOf rL_wayOf D b0 [.ref (hw_ad b0 0 0), .int x, .int y] I J P N o (r_wayOf I x y).toInt64 I J := by
  refine hw_MHof (by decide) [(0, .ref _), (1, .int _), (2, .int _)] rfl (Nat.le_of_ble_eq_true rfl) ?_
  intro p e s m args below meth c C hr hlk hT
  refine hq_aload_n (q := 0) C dL_wayOf_0 rfl rfl ?_
  refine hq_iload_n (q := 1) C dL_wayOf_1 rfl rfl ?_
  refine hq_iload_n (q := 2) C dL_wayOf_2 rfl rfl ?_
  refine hq_cVXr (As := [.int _, .int _]) (rm := rX5_wayOf) (f := 0) (Nc := 1) C (m_X5_wayOf hlt h) wv_X5_wayOf ml_L_82 rfl rfl rfl Nat.one_pos rfl rfl rfl rfl ⟨Nat.le_of_ble_eq_true rfl, Nat.le_of_ble_eq_true rfl⟩ (Nat.le_of_ble_eq_true rfl) ⟨Nat.le_of_ble_eq_true rfl, Nat.le_of_ble_eq_true rfl⟩ dL_wayOf_3 (fun _ => ?_) (fun E9 x9 => absurd (hx9.symm.trans x9) (by simp))
  refine hq_i2l C dL_wayOf_6 ?_
  exact hq_lretX C hr hlk dL_wayOf_7 rfl rfl rfl (Nat.le_of_ble_eq_true rfl) (Nat.le_of_ble_eq_true rfl)
theorem n_L_wayOf {I : MI} {J : MJ} {x y : Int32} {nb no nc : Nat} {B : Int} (h : hw_ci I J nb no nc B) (hx9 : e_wayOf I x y = none) : kL_wayOf x y I J (r_wayOf I x y).toInt64 I J := fun _ _ _ _ _ _ hlt => m_L_wayOf_n hlt h hx9
set_option maxHeartbeats 4000000 in
set_option maxRecDepth 100000 in
theorem m_L_wayOf_eI {l : Launch} {D : va_G} {b0 : Nat} {I : MI} {J : MJ} {P : MI} {N : MJ} {o : Int64} (hlt : l.stackTraces = false) {x y : Int32} {nb no nc : Nat} {B : Int} (h : hw_ci I J nb no nc B) (hx9 : e_wayOf I x y = some eI) : hL l yL_wayOf wL_wayOf rL_wayOf D b0 [.ref (hw_ad b0 0 0), .int x, .int y] I J P N o NO I J := by
  refine hw_MHof (by decide) [(0, .ref _), (1, .int _), (2, .int _)] rfl (Nat.le_of_ble_eq_true rfl) ?_
  intro p e s m args below meth c C hr hlk hT
  refine hq_aload_n (q := 0) C dL_wayOf_0 rfl rfl ?_
  refine hq_iload_n (q := 1) C dL_wayOf_1 rfl rfl ?_
  refine hq_iload_n (q := 2) C dL_wayOf_2 rfl rfl ?_
  refine hq_cVXr (As := [.int _, .int _]) (rm := rX5_wayOf) (f := 0) (Nc := 1) C (m_X5_wayOf hlt h) wv_X5_wayOf ml_L_82 rfl rfl rfl Nat.one_pos rfl rfl rfl rfl ⟨Nat.le_of_ble_eq_true rfl, Nat.le_of_ble_eq_true rfl⟩ (Nat.le_of_ble_eq_true rfl) ⟨Nat.le_of_ble_eq_true rfl, Nat.le_of_ble_eq_true rfl⟩ dL_wayOf_3 (fun n9 => absurd (n9.symm.trans hx9) (by simp)) (fun E9 x9 => ?_)
  cases hx9.symm.trans x9
  refine hq_catch (E := eI) (name := eI) C hT (tableOf []) ⟨0, 7, 8, 14⟩ (tableOf []) rfl (fun z hz => by cases hz) rfl (by decide) L_14 C.2.2.2.2.2.2.1.2.1.1 (fun q9 => ?_)
  refine hq_astore_n (L' := [(3, .ref _), (0, .ref _), (1, .int _), (2, .int _)]) C dL_wayOf_8 rfl (by decide) rfl ?_
  refine hq_ldc2 C wc_L_16 dL_wayOf_9 ?_
  exact hq_lretX C hr hlk dL_wayOf_12 rfl rfl rfl (Nat.le_of_ble_eq_true rfl) (Nat.le_of_ble_eq_true rfl)
theorem t_L_wayOf_eI {I : MI} {J : MJ} {x y : Int32} {nb no nc : Nat} {B : Int} (h : hw_ci I J nb no nc B) (hx9 : e_wayOf I x y = some eI) : kL_wayOf x y I J NO I J := fun _ _ _ _ _ _ hlt => m_L_wayOf_eI hlt h hx9
abbrev wL_orderOf : Cond := .codeWith yL_orderOf cL_orderOf 4 (some .long) [(0, 7, 8, 14), (0, 7, 13, 18)]
theorem ws_L_orderOf : hw_WS yL_orderOf wL_orderOf 3 := ⟨⟨hw_in 720 (by decide +kernel) rfl, hw_in 719 (by decide +kernel) rfl, hw_in 34 (by decide +kernel) rfl⟩, by decide +kernel⟩
def kL_orderOf (x y : Int32) (I : MI) (J : MJ) (r : Int64) (I' : MI) (J' : MJ) : Prop := ∀ (l : Launch) (D : va_G) (b0 : Nat) (P : MI) (N : MJ) (o : Int64), l.stackTraces = false → hL l yL_orderOf wL_orderOf rL_orderOf D b0 [.ref (hw_ad b0 0 0), .int x, .int y] I J P N o r I' J'
set_option maxHeartbeats 4000000 in
set_option maxRecDepth 100000 in
theorem m_L_orderOf_n {l : Launch} {D : va_G} {b0 : Nat} {I : MI} {J : MJ} {P : MI} {N : MJ} {o : Int64} (hlt : l.stackTraces = false) {x y : Int32} {nb no nc : Nat} {B : Int} (h : hw_ci I J nb no nc B) (hx9 : e_orderOf I x y = none) : hL l yL_orderOf wL_orderOf rL_orderOf D b0 [.ref (hw_ad b0 0 0), .int x, .int y] I J P N o (r_orderOf I x y).toInt64 I J := by
  refine hw_MHof (by decide) [(0, .ref _), (1, .int _), (2, .int _)] rfl (Nat.le_of_ble_eq_true rfl) ?_
  intro p e s m args below meth c C hr hlk hT
  refine hq_aload_n (q := 0) C dL_orderOf_0 rfl rfl ?_
  refine hq_iload_n (q := 1) C dL_orderOf_1 rfl rfl ?_
  refine hq_iload_n (q := 2) C dL_orderOf_2 rfl rfl ?_
  refine hq_cVXr (As := [.int _, .int _]) (rm := rX5_orderOf) (f := 0) (Nc := 1) C (m_X5_orderOf hlt h) wv_X5_orderOf ml_L_85 rfl rfl rfl Nat.one_pos rfl rfl rfl rfl ⟨Nat.le_of_ble_eq_true rfl, Nat.le_of_ble_eq_true rfl⟩ (Nat.le_of_ble_eq_true rfl) ⟨Nat.le_of_ble_eq_true rfl, Nat.le_of_ble_eq_true rfl⟩ dL_orderOf_3 (fun _ => ?_) (fun E9 x9 => absurd (hx9.symm.trans x9) (by simp))
  refine hq_i2l C dL_orderOf_6 ?_
  exact hq_lretX C hr hlk dL_orderOf_7 rfl rfl rfl (Nat.le_of_ble_eq_true rfl) (Nat.le_of_ble_eq_true rfl)
theorem n_L_orderOf {I : MI} {J : MJ} {x y : Int32} {nb no nc : Nat} {B : Int} (h : hw_ci I J nb no nc B) (hx9 : e_orderOf I x y = none) : kL_orderOf x y I J (r_orderOf I x y).toInt64 I J := fun _ _ _ _ _ _ hlt => m_L_orderOf_n hlt h hx9
set_option maxHeartbeats 4000000 in
set_option maxRecDepth 100000 in
theorem m_L_orderOf_eI {l : Launch} {D : va_G} {b0 : Nat} {I : MI} {J : MJ} {P : MI} {N : MJ} {o : Int64} (hlt : l.stackTraces = false) {x y : Int32} {nb no nc : Nat} {B : Int} (h : hw_ci I J nb no nc B) (hx9 : e_orderOf I x y = some eI) : hL l yL_orderOf wL_orderOf rL_orderOf D b0 [.ref (hw_ad b0 0 0), .int x, .int y] I J P N o NO I J := by
  refine hw_MHof (by decide) [(0, .ref _), (1, .int _), (2, .int _)] rfl (Nat.le_of_ble_eq_true rfl) ?_
  intro p e s m args below meth c C hr hlk hT
  refine hq_aload_n (q := 0) C dL_orderOf_0 rfl rfl ?_
  refine hq_iload_n (q := 1) C dL_orderOf_1 rfl rfl ?_
  refine hq_iload_n (q := 2) C dL_orderOf_2 rfl rfl ?_
  refine hq_cVXr (As := [.int _, .int _]) (rm := rX5_orderOf) (f := 0) (Nc := 1) C (m_X5_orderOf hlt h) wv_X5_orderOf ml_L_85 rfl rfl rfl Nat.one_pos rfl rfl rfl rfl ⟨Nat.le_of_ble_eq_true rfl, Nat.le_of_ble_eq_true rfl⟩ (Nat.le_of_ble_eq_true rfl) ⟨Nat.le_of_ble_eq_true rfl, Nat.le_of_ble_eq_true rfl⟩ dL_orderOf_3 (fun n9 => absurd (n9.symm.trans hx9) (by simp)) (fun E9 x9 => ?_)
  cases hx9.symm.trans x9
  refine hq_catch (E := eI) (name := eI) C hT (tableOf []) ⟨0, 7, 8, 14⟩ (tableOf [(0, 7, 13, 18)]) rfl (fun z hz => by cases hz) rfl (by decide) L_14 C.2.2.2.2.2.2.1.2.1.1 (fun q9 => ?_)
  refine hq_astore_n (L' := [(3, .ref _), (0, .ref _), (1, .int _), (2, .int _)]) C dL_orderOf_8 rfl (by decide) rfl ?_
  refine hq_ldc2 C wc_L_16 dL_orderOf_9 ?_
  exact hq_lretX C hr hlk dL_orderOf_12 rfl rfl rfl (Nat.le_of_ble_eq_true rfl) (Nat.le_of_ble_eq_true rfl)
theorem t_L_orderOf_eI {I : MI} {J : MJ} {x y : Int32} {nb no nc : Nat} {B : Int} (h : hw_ci I J nb no nc B) (hx9 : e_orderOf I x y = some eI) : kL_orderOf x y I J NO I J := fun _ _ _ _ _ _ hlt => m_L_orderOf_eI hlt h hx9
set_option maxHeartbeats 4000000 in
set_option maxRecDepth 100000 in
theorem m_L_orderOf_eA {l : Launch} {D : va_G} {b0 : Nat} {I : MI} {J : MJ} {P : MI} {N : MJ} {o : Int64} (hlt : l.stackTraces = false) {x y : Int32} {nb no nc : Nat} {B : Int} (h : hw_ci I J nb no nc B) (hx9 : e_orderOf I x y = some eA) : hL l yL_orderOf wL_orderOf rL_orderOf D b0 [.ref (hw_ad b0 0 0), .int x, .int y] I J P N o NO I J := by
  refine hw_MHof (by decide) [(0, .ref _), (1, .int _), (2, .int _)] rfl (Nat.le_of_ble_eq_true rfl) ?_
  intro p e s m args below meth c C hr hlk hT
  refine hq_aload_n (q := 0) C dL_orderOf_0 rfl rfl ?_
  refine hq_iload_n (q := 1) C dL_orderOf_1 rfl rfl ?_
  refine hq_iload_n (q := 2) C dL_orderOf_2 rfl rfl ?_
  refine hq_cVXr (As := [.int _, .int _]) (rm := rX5_orderOf) (f := 0) (Nc := 1) C (m_X5_orderOf hlt h) wv_X5_orderOf ml_L_85 rfl rfl rfl Nat.one_pos rfl rfl rfl rfl ⟨Nat.le_of_ble_eq_true rfl, Nat.le_of_ble_eq_true rfl⟩ (Nat.le_of_ble_eq_true rfl) ⟨Nat.le_of_ble_eq_true rfl, Nat.le_of_ble_eq_true rfl⟩ dL_orderOf_3 (fun n9 => absurd (n9.symm.trans hx9) (by simp)) (fun E9 x9 => ?_)
  cases hx9.symm.trans x9
  refine hq_catch (E := eA) (name := eA) C hT (tableOf [(0, 7, 8, 14)]) ⟨0, 7, 13, 18⟩ (tableOf []) rfl (fun z hz => by
      rcases List.mem_cons.mp hz with h9 | h9
      · rw [h9]; exact Or.inr ⟨by decide, eI, L_14, C.2.2.2.2.2.2.1.2.2.1.1⟩
      · cases h9) rfl (by decide) L_18 C.2.2.2.2.2.2.1.2.1.2.1 (fun q9 => ?_)
  refine hq_astore_n (L' := [(3, .ref _), (0, .ref _), (1, .int _), (2, .int _)]) C dL_orderOf_13 rfl (by decide) rfl ?_
  refine hq_ldc2 C wc_L_16 dL_orderOf_14 ?_
  exact hq_lretX C hr hlk dL_orderOf_17 rfl rfl rfl (Nat.le_of_ble_eq_true rfl) (Nat.le_of_ble_eq_true rfl)
theorem t_L_orderOf_eA {I : MI} {J : MJ} {x y : Int32} {nb no nc : Nat} {B : Int} (h : hw_ci I J nb no nc B) (hx9 : e_orderOf I x y = some eA) : kL_orderOf x y I J NO I J := fun _ _ _ _ _ _ hlt => m_L_orderOf_eA hlt h hx9
abbrev wL_sum : Cond := .codeWith yL_sum cL_sum 3 (some .long) [(0, 5, 6, 18)]
theorem ws_L_sum : hw_WS yL_sum wL_sum 2 := ⟨⟨hw_in 727 (by decide +kernel) rfl, hw_in 726 (by decide +kernel) rfl, hw_in 34 (by decide +kernel) rfl⟩, by decide +kernel⟩
def kL_sum (x : Int32) (I : MI) (J : MJ) (r : Int64) (I' : MI) (J' : MJ) : Prop := ∀ (l : Launch) (D : va_G) (b0 : Nat) (P : MI) (N : MJ) (o : Int64), l.stackTraces = false → hL l yL_sum wL_sum rL_sum D b0 [.ref (hw_ad b0 0 0), .int x] I J P N o r I' J'
set_option maxHeartbeats 4000000 in
set_option maxRecDepth 100000 in
theorem m_L_sum_n {l : Launch} {D : va_G} {b0 : Nat} {I : MI} {J : MJ} {P : MI} {N : MJ} {o : Int64} (hlt : l.stackTraces = false) {x : Int32} {nb no nc : Nat} {B : Int} (h : hw_ci I J nb no nc B) (hx9 : e_sum x = none) : hL l yL_sum wL_sum rL_sum D b0 [.ref (hw_ad b0 0 0), .int x] I J P N o (r_sum I J x nb no nc) I J := by
  refine hw_MHof (by decide) [(0, .ref _), (1, .int _)] rfl (Nat.le_of_ble_eq_true rfl) ?_
  intro p e s m args below meth c C hr hlk hT
  refine hq_aload_n (q := 0) C dL_sum_0 rfl rfl ?_
  refine hq_iload_n (q := 1) C dL_sum_1 rfl rfl ?_
  refine hq_cVXr (As := [.int _]) (rm := rX5_sum) (f := 0) (Nc := 1) C (m_X5_sum hlt h) wv_X5_sum ml_L_88 rfl rfl rfl Nat.one_pos rfl rfl rfl rfl ⟨Nat.le_of_ble_eq_true rfl, Nat.le_of_ble_eq_true rfl⟩ (Nat.le_of_ble_eq_true rfl) ⟨Nat.le_of_ble_eq_true rfl, Nat.le_of_ble_eq_true rfl⟩ dL_sum_2 (fun _ => ?_) (fun E9 x9 => absurd (hx9.symm.trans x9) (by simp))
  exact hq_lretX C hr hlk dL_sum_5 rfl rfl rfl (Nat.le_of_ble_eq_true rfl) (Nat.le_of_ble_eq_true rfl)
theorem n_L_sum {I : MI} {J : MJ} {x : Int32} {nb no nc : Nat} {B : Int} (h : hw_ci I J nb no nc B) (hx9 : e_sum x = none) : kL_sum x I J (r_sum I J x nb no nc) I J := fun _ _ _ _ _ _ hlt => m_L_sum_n hlt h hx9
set_option maxHeartbeats 4000000 in
set_option maxRecDepth 100000 in
theorem m_L_sum_eA {l : Launch} {D : va_G} {b0 : Nat} {I : MI} {J : MJ} {P : MI} {N : MJ} {o : Int64} (hlt : l.stackTraces = false) {x : Int32} {nb no nc : Nat} {B : Int} (h : hw_ci I J nb no nc B) (hx9 : e_sum x = some eA) : hL l yL_sum wL_sum rL_sum D b0 [.ref (hw_ad b0 0 0), .int x] I J P N o NO I J := by
  refine hw_MHof (by decide) [(0, .ref _), (1, .int _)] rfl (Nat.le_of_ble_eq_true rfl) ?_
  intro p e s m args below meth c C hr hlk hT
  refine hq_aload_n (q := 0) C dL_sum_0 rfl rfl ?_
  refine hq_iload_n (q := 1) C dL_sum_1 rfl rfl ?_
  refine hq_cVXr (As := [.int _]) (rm := rX5_sum) (f := 0) (Nc := 1) C (m_X5_sum hlt h) wv_X5_sum ml_L_88 rfl rfl rfl Nat.one_pos rfl rfl rfl rfl ⟨Nat.le_of_ble_eq_true rfl, Nat.le_of_ble_eq_true rfl⟩ (Nat.le_of_ble_eq_true rfl) ⟨Nat.le_of_ble_eq_true rfl, Nat.le_of_ble_eq_true rfl⟩ dL_sum_2 (fun n9 => absurd (n9.symm.trans hx9) (by simp)) (fun E9 x9 => ?_)
  cases hx9.symm.trans x9
  refine hq_catch (E := eA) (name := eA) C hT (tableOf []) ⟨0, 5, 6, 18⟩ (tableOf []) rfl (fun z hz => by cases hz) rfl (by decide) L_18 C.2.2.2.2.2.2.1.2.1.2.1 (fun q9 => ?_)
  refine hq_astore_n (L' := [(2, .ref _), (0, .ref _), (1, .int _)]) C dL_sum_6 rfl (by decide) rfl ?_
  refine hq_ldc2 C wc_L_16 dL_sum_7 ?_
  exact hq_lretX C hr hlk dL_sum_10 rfl rfl rfl (Nat.le_of_ble_eq_true rfl) (Nat.le_of_ble_eq_true rfl)
theorem t_L_sum_eA {I : MI} {J : MJ} {x : Int32} {nb no nc : Nat} {B : Int} (h : hw_ci I J nb no nc B) (hx9 : e_sum x = some eA) : kL_sum x I J NO I J := fun _ _ _ _ _ _ hlt => m_L_sum_eA hlt h hx9
