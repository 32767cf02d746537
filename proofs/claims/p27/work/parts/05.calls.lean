/-! CONTRACTS hw_M (returns), hw_MX (returns or throws), and the rows of calls, returns and throws. -/
def hw_Q (D : va_G) (b0 : Nat) (xb : Bool) (n : Nat) (r : Option Value) (v : VF) : Array Value → State → Outcome → State → Prop := fun _ st o t => o = .returned r ∧ hw_HP D b0 n v t.heap ∧ hw_Z xb b0 n t.heap.size ∧ va_F (fun q => b0 ≤ q) st t
/-- y, called with av where the cells hold v, returns r, and the cells hold v' then -/
def hw_M (l : Launch) (y : MethodName) (bytes : ByteArray) (maxL : Nat) (ret : Option FieldType) (rm : Room) (D : va_G) (b0 : Nat) (xb : Bool) (n : Nat) (av : List Value) (v : VF) (xb' : Bool) (n' : Nat) (r : Option Value) (v' : VF) (mc ms : Nat) : Prop :=
  Met l y (Cond.code y bytes maxL ret :: hw_TB) rm (va_Pc av (hw_PW D b0 xb n v)) (hw_Q D b0 xb' n' r v') mc ms (fun q => b0 ≤ q)
def hw_XC (D : va_G) (b0 n : Nat) (ex : Option String) (v : VF) : String → State → State → Prop := fun E st t => ex = some E ∧ hw_HP D b0 n v t.heap ∧ hw_Z false b0 n t.heap.size ∧ va_F (fun q => b0 ≤ q) st t
def hw_QX (D : va_G) (b0 n : Nat) (ex : Option String) (r : Option Value) (v : VF) : Array Value → State → Outcome → State → Prop := fun a st o t => ex = none ∧ hw_Q D b0 false n r v a st o t
/-- y, called with av where the cells hold v, throws ex (the cells hold v still), or, where ex is none, returns r, and the cells hold v' then -/
def hw_MX (l : Launch) (y : MethodName) (w : Cond) (rm : Room) (D : va_G) (b0 n : Nat) (av : List Value) (v : VF) (ex : Option String) (r : Option Value) (v' : VF) (mc ms : Nat) : Prop :=
  vx_Met l y (w :: hw_TB) rm (va_Pc av (hw_PW D b0 false n v)) (hw_QX D b0 n ex r v') (hw_XC D b0 n ex v) mc ms (fun q => b0 ≤ q)
theorem hw_blind {D : va_G} {b0 : Nat} {xb : Bool} {n : Nat} {av : List Value} {v : VF} : FrameBlind (va_Pc av (hw_PW D b0 xb n v)) := by
  intro a U g mk h
  obtain ⟨h0, h1, h2, h3, h4, h5, h6⟩ := h
  exact ⟨h0, va_K.moved (u := U) (U := U.calling g mk a) (Vm.Alike.refl U.vm) h1, hw_XW.warm (s := U) (U := U.calling g mk a) (State.WarmedH.refl U) h2, vx_Zq.moved (u := U) (U := U.calling g mk a) (Vm.Alike.refl U.vm) h3, vx_Zq.moved (u := U) (U := U.calling g mk a) (Vm.Alike.refl U.vm) h4, h5, h6⟩
theorem hw_goodIn {ws : List Cond} (h : ∀ w ∈ ws, w ∈ hw_TB) : GoodIn hw_TB ws := fun w hw => ⟨h w hw, good_of_word (hw_TBg (h w hw))⟩
/-- what is known of a method that is called on an object of class Cn -/
def hw_WV (Cn : String) (y : MethodName) (w : Cond) (k : Nat) : Prop := (w ∈ hw_TB ∧ Cond.instanceMethod y ∈ hw_TB ∧ Cond.selects Cn y y ∈ hw_TB ∧ Cond.initialized Cn ∈ hw_TB) ∧ (y.cls = Cn ∧ y.cls ≠ "java/lang/invoke/MethodHandle" ∧ y.cls ≠ "java/lang/invoke/VarHandle" ∧ (parseMethodDescriptor y.desc).map (fun d => d.parameters.length) = some k)
def hw_WS (y : MethodName) (w : Cond) (k : Nat) : Prop := (w ∈ hw_TB ∧ Cond.static y ∈ hw_TB ∧ Cond.initialized y.cls ∈ hw_TB) ∧ (y.cls ≠ "java/lang/invoke/MethodHandle" ∧ y.cls ≠ "java/lang/invoke/VarHandle" ∧ (parseMethodDescriptor y.desc).map (fun d => d.parameters.length) = some k)
def hw_WI (y : MethodName) (w : Cond) (k : Nat) : Prop := (w ∈ hw_TB ∧ Cond.instanceMethod y ∈ hw_TB ∧ Cond.initialized y.cls ∈ hw_TB) ∧ (y.name = "<init>" ∧ y.cls ≠ "java/lang/invoke/MethodHandle" ∧ y.cls ≠ "java/lang/invoke/VarHandle" ∧ (parseMethodDescriptor y.desc).map (fun d => d.parameters.length) = some k)
section HC
variable {p : Program} {l : Launch} {e : Env} {R : Room} {s : State} {m : MethodId} {args : Array Value} {below : List Frame} {meth : Method} {c : Code} {Q : State → Prop}
variable {D : va_G} {b0 nL : Nat} {xb xb' : Bool} {ka kb n n' : Nat} {pc : Nat} {L L' : List (Nat × Value)} {st st0 : List Value} {v v' : VF} {cc : ByteArray} {own : String}
variable {y : MethodName} {bytes : ByteArray} {maxL idx k mc ms : Nat} {ret : Option FieldType} {rm : Room} {As : List Value} {r : Option Value} {Cn : String} {ex : Option String} {v0 : VF} {Qc : Array Value → State → Outcome → State → Prop} {XC : String → State → State → Prop}
theorem hw_goodV (hw : hw_WV Cn y (Cond.code y bytes maxL ret) k) (hl : Cond.methodLink own idx y ∈ hw_TB) : GoodIn hw_TB (wsV own idx Cn y (Cond.code y bytes maxL ret :: hw_TB)) := by
  refine hw_goodIn fun w h => ?_
  unfold wsV at h
  rcases List.mem_append.mp h with h | h
  · simp only [List.mem_cons, List.mem_nil_iff, or_false] at h
    rcases h with rfl | rfl | rfl | rfl
    · exact hl
    · exact hw.1.2.1
    · exact hw.1.2.2.1
    · exact hw.1.2.2.2
  · rcases List.mem_cons.mp h with rfl | h
    · exact hw.1.1
    · exact h
theorem hw_goodS {w9 : Cond} (hw : hw_WS y w9 k) (hl : Cond.methodLink own idx y ∈ hw_TB) : GoodIn hw_TB (va_wsS own idx y (w9 :: hw_TB)) := by
  refine hw_goodIn fun w h => ?_
  unfold va_wsS at h
  rcases List.mem_append.mp h with h | h
  · simp only [List.mem_cons, List.mem_nil_iff, or_false] at h
    rcases h with rfl | rfl | rfl
    · exact hl
    · exact hw.1.2.1
    · exact hw.1.2.2
  · rcases List.mem_cons.mp h with rfl | h
    · exact hw.1.1
    · exact h
theorem hw_goodC {w9 : Cond} (h9 : w9 ∈ hw_TB) : GoodIn hw_TB (w9 :: hw_TB) := hw_goodIn fun w h => by
  rcases List.mem_cons.mp h with rfl | h
  · exact h9
  · exact h
/-- the world as it is when a callee begins -/
theorem hw_next (C : hw_C p s m args c D b0 cc own nL) {U : State} {H : Heap} {locs : List Loc} (hU : U.heap = H) (hW : s.WarmedH U.vm) (hH : hw_HP D b0 n v H) (hZ : hw_Z xb b0 n H.size) (hS : va_S (fun q => b0 ≤ q) s.heap H locs) : hw_PW D b0 xb n v U := by
  obtain ⟨-, -, -, -, -, h1, h2, h3, h4, -⟩ := C
  have hq : ∀ a : Nat, a < s.heap.size → ¬ (fun q => b0 ≤ q) a → H[a]? = s.heap[a]? := hS.2.1
  refine ⟨va_K.moved hW.alike h1, hw_XW.warm hW h2, ?_, ?_, by rw [hU]; exact hH, by rw [hU]; exact hZ⟩
  · rw [hU]; exact vx_Zq.moved hW.alike (h3.kept hq)
  · rw [hU]; exact vx_Zq.moved hW.alike (h4.kept hq)
theorem hw_recv (C : hw_C p s m args c D b0 cc own nL) {f i : Nat} {T : u_T} {N : Nat} {H : Heap} (hH : hw_HP D b0 n v H) (ho : hw_ob f = true) (hcl : vwCl[hw_kc f]? = some (Cn, T, N)) (hi : i < hw_cnt f) (hn : hw_pos f i < n) : ∃ cellB : Cell, H[hw_ad b0 f i]? = some cellB ∧ cellB.vm.isStatics = false ∧ s.vm.findClass Cn = some cellB.cls := by
  obtain ⟨cell, q1, q2, q3, q4⟩ := (hH f i hi hn).1 ho
  exact ⟨cell, q1, by rw [q3]; rfl, by rw [q2]; exact (C.2.2.2.2.2.1.1 _ _ hcl).2.1⟩
/-- behind a call that returns -/
theorem hw_after {H : Heap} {locs : List Loc} {ls : Array Slot} {a : Array Value} (hr : va_Run p l e R s m args below meth c H locs ka kb mc ms (F0 m pc ls st0) st (hw_Q D b0 xb' n' r v' a) (fun q => b0 ≤ q)) (hS : va_S (fun q => b0 ≤ q) s.heap H locs) (hl : lv_has ls nL L)
    (kk : hw_V p l e R s m args below meth c Q D b0 nL xb' (ka + mc) (kb + ms) n' (pc + 3) L (r.toList ++ st) v') : W p l e R s m args below meth c H locs ka kb Q (F0 m pc ls st0) := by
  intro T hT X
  obtain ⟨w, st₀, t, T', L9, h0, X', hL, e1, e2, ⟨hv, hH1, hZ1, hF⟩, stp⟩ := hr T hT X
  cases hv
  have hz : H.size ≤ t.heap.size := by rw [← h0]; exact hF.1
  have hk : ∀ q : Nat, q < H.size → ¬ b0 ≤ q → t.heap[q]? = H[q]? := fun q h1 h2 => by
    have := hF.2 q (by rw [h0]; exact h1) h2
    rw [this, h0]
  obtain ⟨t2, a1, b1⟩ := kk T'.heap (locs ++ L9) ls (by rw [e1]; exact hH1) (by rw [e1]; exact hZ1)
    ⟨Nat.le_trans hS.1 (by rw [e1]; exact hz), fun q h1 h2 => by rw [e1, hk q (Nat.lt_of_lt_of_le h1 hS.1) h2]; exact hS.2.1 q h1 h2, fun q hq => by
      rcases List.mem_append.mp hq with h | h
      · exact hS.2.2 q h
      · exact hL q h⟩ hl T' rfl X'
  exact ⟨t2, stp t2 a1, b1⟩
theorem hq_callV (C : hw_C p s m args c D b0 cc own nL) {f i : Nat} {T : u_T} {N : Nat} (hM : hw_M l y bytes maxL ret rm D b0 xb n (.ref (hw_ad b0 f i) :: As) v xb' n' r v' mc ms) (hw : hw_WV Cn y (Cond.code y bytes maxL ret) k) (hl9 : Cond.methodLink own idx y ∈ hw_TB) (ho : hw_ob f = true) (hcl : vwCl[hw_kc f]? = some (Cn, T, N)) (hi : i < hw_cnt f) (hn : hw_pos f i < n)
    (hlen : As.length = k) (hst : st0 = As.reverse ++ .ref (hw_ad b0 f i) :: st) (hrc : rm.cells = mc) (hrs : rm.slots = ms) (hR : rm.frames + 1 ≤ R.frames ∧ 8 + (maxL + 11) + rm.locals ≤ R.locals) (hroom : (st.map fun v => v.category).sum ≤ 8) (hf : ka + mc ≤ R.cells ∧ kb + ms ≤ R.slots) (hdg : decode cc pc = .ok (.invokevirtual idx, 3))
    (kk : hw_V p l e R s m args below meth c Q D b0 nL xb' (ka + mc) (kb + ms) n' (pc + 3) L (r.toList ++ st) v') : hw_V p l e R s m args below meth c Q D b0 nL xb ka kb n pc L st0 v := by
  intro H locs ls hH hZ hS hl
  refine hw_after (va_runV (Ts := hw_TB) ⟨C.1, C.2.1, C.2.2.1, C.2.2.2.1, C.2.2.2.2.1⟩ hM (cwV k C.2.2.2.2.1 (hw_goodV hw hl9) rfl hrc hrs hw.2 hR) ⟨hw_blind, hw_recv C hH ho hcl hi hn, fun U hU hW => ⟨rfl, hw_next C hU hW hH hZ hS⟩⟩ rfl hlen hl.1 hst (lv_room hroom) hdg hf) hS hl kk
theorem hq_callS (C : hw_C p s m args c D b0 cc own nL) (hM : hw_M l y bytes maxL ret rm D b0 xb n As v xb' n' r v' mc ms) (hw : hw_WS y (Cond.code y bytes maxL ret) k) (hl9 : Cond.methodLink own idx y ∈ hw_TB)
    (hlen : As.length = k) (hst : st0 = As.reverse ++ st) (hrc : rm.cells = mc) (hrs : rm.slots = ms) (hR : rm.frames + 1 ≤ R.frames ∧ 8 + (maxL + 11) + rm.locals ≤ R.locals) (hroom : (st.map fun v => v.category).sum ≤ 8) (hf : ka + mc ≤ R.cells ∧ kb + ms ≤ R.slots) (hdg : decode cc pc = .ok (.invokestatic idx, 3))
    (kk : hw_V p l e R s m args below meth c Q D b0 nL xb' (ka + mc) (kb + ms) n' (pc + 3) L (r.toList ++ st) v') : hw_V p l e R s m args below meth c Q D b0 nL xb ka kb n pc L st0 v := by
  intro H locs ls hH hZ hS hl
  refine hw_after (va_runS (Ts := hw_TB) ⟨C.1, C.2.1, C.2.2.1, C.2.2.2.1, C.2.2.2.2.1⟩ hM (va_cwS k C.2.2.2.2.1 (hw_goodS hw hl9) rfl hrc hrs hw.2 hR) ⟨hw_blind, fun U hU hW => ⟨rfl, hw_next C hU hW hH hZ hS⟩⟩ rfl hlen hl.1 hst (lv_room hroom) hdg hf) hS hl kk
theorem hq_callI (C : hw_C p s m args c D b0 cc own nL) {b : Nat} (hM : hw_M l y bytes maxL none rm D b0 xb n (.ref b :: As) v xb' n' none v' mc ms) (hw : hw_WI y (Cond.code y bytes maxL none) k) (hl9 : Cond.methodLink own idx y ∈ hw_TB)
    (hlen : As.length = k) (hst : st0 = As.reverse ++ .ref b :: st) (hrc : rm.cells = mc) (hrs : rm.slots = ms) (hR : rm.frames + 1 ≤ R.frames ∧ 8 + (maxL + 11) + rm.locals ≤ R.locals) (hroom : (st.map fun v => v.category).sum ≤ 8) (hf : ka + mc ≤ R.cells ∧ kb + ms ≤ R.slots) (hdg : decode cc pc = .ok (.invokespecial idx, 3))
    (kk : hw_V p l e R s m args below meth c Q D b0 nL xb' (ka + mc) (kb + ms) n' (pc + 3) L st v') : hw_V p l e R s m args below meth c Q D b0 nL xb ka kb n pc L st0 v := by
  intro H locs ls hH hZ hS hl
  have ht := C.2.2.2.2.1
  refine hw_after (va_runI (Ts := hw_TB) ⟨C.1, C.2.1, C.2.2.1, C.2.2.2.1, C.2.2.2.2.1⟩ hM (cwI k ht (hw_goodC hw.1.1) rfl hrc hrs (ht _ hw.1.2.2) (ht _ hl9) (ht _ hw.1.2.1) hw.2.1 hw.2.2 hR) ⟨hw_blind, fun U hU hW => ⟨rfl, hw_next C hU hW hH hZ hS⟩⟩ rfl hlen hl.1 hst (lv_room hroom) hdg hf) hS hl kk
/-! ends of a body that returns -/
theorem hq_iret (C : hw_C p s m args c D b0 cc own nL) {x z : Int32} (hr : meth.sig.returnType = some .int) (hlk : meth.locks = false) (hdg : decode cc pc = .ok (.ireturn, 1)) (hx : x = z) (hv : v = v') : hw_V p l e R s m args below meth c (MQ below (hw_Q D b0 xb n (some (.int z)) v') args s ka kb (fun q => b0 ≤ q)) D b0 nL xb ka kb n pc L [.int x] v := by
  intro H locs ls hH hZ hS hl
  subst hx hv
  exact W.iret (hlocks := hlk) C.1 C.2.1 hr (fun t ht hW => ⟨rfl, by rw [ht]; exact hH, by rw [ht]; exact hZ, hS.F ht⟩) hS.2.2 hdg
theorem hq_zret (C : hw_C p s m args c D b0 cc own nL) {x z : Int32} (hr : meth.sig.returnType = some .boolean) (hlk : meth.locks = false) (hdg : decode cc pc = .ok (.ireturn, 1)) (hnar : narrow .boolean (.int x) = .int x) (hx : x = z) (hv : v = v') : hw_V p l e R s m args below meth c (MQ below (hw_Q D b0 xb n (some (.int z)) v') args s ka kb (fun q => b0 ≤ q)) D b0 nL xb ka kb n pc L [.int x] v := by
  intro H locs ls hH hZ hS hl
  subst hx hv
  exact W.zret (hlocks := hlk) C.1 C.2.1 hr hnar (fun t ht hW => ⟨rfl, by rw [ht]; exact hH, by rw [ht]; exact hZ, hS.F ht⟩) hS.2.2 hdg
theorem hq_lret (C : hw_C p s m args c D b0 cc own nL) {x z : Int64} (hr : meth.sig.returnType = some .long) (hlk : meth.locks = false) (hdg : decode cc pc = .ok (.lreturn, 1)) (hx : x = z) (hv : v = v') : hw_V p l e R s m args below meth c (MQ below (hw_Q D b0 xb n (some (.long z)) v') args s ka kb (fun q => b0 ≤ q)) D b0 nL xb ka kb n pc L [.long x] v := by
  intro H locs ls hH hZ hS hl
  subst hx hv
  exact W.lret (hlocks := hlk) C.1 C.2.1 hr (fun t ht hW => ⟨rfl, by rw [ht]; exact hH, by rw [ht]; exact hZ, hS.F ht⟩) hS.2.2 hdg
theorem hq_vret (C : hw_C p s m args c D b0 cc own nL) (hr : meth.sig.returnType = none) (hlk : meth.locks = false) (hdg : decode cc pc = .ok (.return_, 1)) (hv : v = v') : hw_V p l e R s m args below meth c (MQ below (hw_Q D b0 xb n none v') args s ka kb (fun q => b0 ≤ q)) D b0 nL xb ka kb n pc L [] v := by
  intro H locs ls hH hZ hS hl
  subst hv
  exact W.vret (hlocks := hlk) C.1 C.2.1 hr (fun t ht hW => ⟨rfl, by rw [ht]; exact hH, by rw [ht]; exact hZ, hS.F ht⟩) hS.2.2 hdg
/-- a contract out of the walk of its body -/
theorem hw_Mof {av : List Value} (hy : plainName y.cls = true) (Ls : List (Nat × Value)) (hLs : lv_args 0 av = Ls) (hml : (lg_sl av).length ≤ maxL)
    (body : ∀ (p : Program) (e : Env) (s : State) (m : MethodId) (args : Array Value) (below : List Frame) (meth : Method) (c : Code), hw_C p s m args c D b0 bytes y.cls maxL → meth.sig.returnType = ret → meth.locks = false → meth.name = y.name →
      hw_V p l e rm s m args below meth c (MQ below (hw_Q D b0 xb' n' r v') args s mc ms (fun q => b0 ≤ q)) D b0 maxL xb 0 0 n 0 Ls [] v) : hw_M l y bytes maxL ret rm D b0 xb n av v xb' n' r v' mc ms := by
  refine Met.ofW (cc := bytes) (maxL := maxL) (ret := ret) hy rfl ?_
  intro p e s m args below meth c s₁ B hml9 hv9
  obtain ⟨rfl, h1, h2, h3, h4, h5, h6⟩ := hv9
  have hts := atoms_spec (ws := Cond.code y bytes maxL ret :: hw_TB) B.pre
  have C : hw_C p s m av.toArray c D b0 bytes y.cls maxL := ⟨B.exec, B.bytes, hml9, findClass_of_methodNamed B.named, fun w hw => hts w (List.mem_cons_of_mem _ hw), h1, h2, h3, h4, Nat.le_trans (Nat.le_add_right _ _) h6.1⟩
  rw [lg_entry_eq]
  have hl := lv_entry av (n := maxL) hml
  rw [hLs] at hl
  exact body p e s m av.toArray below meth c C B.returns B.notSynchronized (name_of_methodNamed B.named B.method).1 s.heap [] _ h5 h6 va_S.rf hl
/-! throwing -/
def hw_T (p : Program) (l : Launch) (e : Env) (R : Room) (s : State) (m : MethodId) (args : Array Value) (below : List Frame) (meth : Method) (c : Code) (Q : State → Prop) (D : va_G) (b0 nL : Nat) (ka kb n : Nat) (E : String) (pc : Nat) (L : List (Nat × Value)) (st : List Value) (v : VF) : Prop :=
  ∀ (H : Heap) (locs : List Loc) (ls : Array Slot) (q : Addr) (ce : Cell), hw_HP D b0 n v H → hw_Z false b0 n H.size → va_S (fun q => b0 ≤ q) s.heap H locs → lv_has ls nL L → H[q]? = some ce → ce.vm = .none → s.vm.findClass E = some ce.cls → vx_W p l e R s m args below meth c H locs ka kb Q (F0 m pc ls st) q
/-- behind a call that returns or throws -/
theorem hw_afterX {H : Heap} {locs : List Loc} {ls : Array Slot} {a : Array Value} (hr : vx_Run p l e R s m args below meth c H locs ka kb mc ms (F0 m pc ls st0) st (hw_QX D b0 n ex r v' a) (hw_XC D b0 n ex v) (fun q => b0 ≤ q)) (hS : va_S (fun q => b0 ≤ q) s.heap H locs) (hl : lv_has ls nL L)
    (kk : ex = none → hw_V p l e R s m args below meth c Q D b0 nL false (ka + mc) (kb + ms) n (pc + 3) L (r.toList ++ st) v') (kx : ∀ E, ex = some E → hw_T p l e R s m args below meth c Q D b0 nL (ka + mc) (kb + ms) n E pc L st v) : W p l e R s m args below meth c H locs ka kb Q (F0 m pc ls st0) := by
  have tr : ∀ (st₀ t T' : State) (L9 : List Loc), st₀.heap = H → T'.heap = t.heap → (∀ q ∈ L9, b0 ≤ q.base) → va_F (fun q => b0 ≤ q) st₀ t → va_S (fun q => b0 ≤ q) s.heap T'.heap (locs ++ L9) := by
    intro st₀ t T' L9 h0 e1 hL hF
    have hz : H.size ≤ t.heap.size := by rw [← h0]; exact hF.1
    have hk : ∀ q : Nat, q < H.size → ¬ b0 ≤ q → t.heap[q]? = H[q]? := fun q h1 h2 => by
      have := hF.2 q (by rw [h0]; exact h1) h2
      rw [this, h0]
    exact ⟨Nat.le_trans hS.1 (by rw [e1]; exact hz), fun q h1 h2 => by rw [e1, hk q (Nat.lt_of_lt_of_le h1 hS.1) h2]; exact hS.2.1 q h1 h2, fun q hq => by
      rcases List.mem_append.mp hq with h | h
      · exact hS.2.2 q h
      · exact hL q h⟩
  intro T hT X
  rcases hr T hT X with ⟨w, st₀, t, T', L9, h0, X', hL, e1, e2, ⟨hn, hv, hH1, hZ1, hF⟩, stp⟩ | ⟨q, st₀, t, T', L9, E, ce, h0, X', hL, e1, e2, ⟨hE, hH1, hZ1, hF⟩, hce, hcv, hcl, stp⟩
  · cases hv
    obtain ⟨t2, a1, b1⟩ := kk hn T'.heap (locs ++ L9) ls (by rw [e1]; exact hH1) (by rw [e1]; exact hZ1) (tr st₀ t T' L9 h0 e1 hL hF) hl T' rfl X'
    exact ⟨t2, stp t2 a1, b1⟩
  · obtain ⟨t2, a1, b1⟩ := kx E hE T'.heap (locs ++ L9) ls q ce (by rw [e1]; exact hH1) (by rw [e1]; exact hZ1) (tr st₀ t T' L9 h0 e1 hL hF) hl (by rw [e1]; exact hce) hcv hcl T' rfl X'
    exact ⟨t2, stp.trans a1, b1⟩
theorem hq_callVX (C : hw_C p s m args c D b0 cc own nL) {f i : Nat} {T : u_T} {N : Nat} (hM : hw_MX l y (Cond.code y bytes maxL ret) rm D b0 n (.ref (hw_ad b0 f i) :: As) v ex r v' mc ms) (hw : hw_WV Cn y (Cond.code y bytes maxL ret) k) (hl9 : Cond.methodLink own idx y ∈ hw_TB) (ho : hw_ob f = true) (hcl : vwCl[hw_kc f]? = some (Cn, T, N)) (hi : i < hw_cnt f) (hn : hw_pos f i < n)
    (hlen : As.length = k) (hst : st0 = As.reverse ++ .ref (hw_ad b0 f i) :: st) (hrc : rm.cells = mc) (hrs : rm.slots = ms) (hR : rm.frames + 1 ≤ R.frames ∧ 8 + (maxL + 11) + rm.locals ≤ R.locals) (hroom : (st.map fun v => v.category).sum ≤ 8) (hf : ka + mc ≤ R.cells ∧ kb + ms ≤ R.slots) (hdg : decode cc pc = .ok (.invokevirtual idx, 3))
    (kk : ex = none → hw_V p l e R s m args below meth c Q D b0 nL false (ka + mc) (kb + ms) n (pc + 3) L (r.toList ++ st) v') (kx : ∀ E, ex = some E → hw_T p l e R s m args below meth c Q D b0 nL (ka + mc) (kb + ms) n E pc L st v) : hw_V p l e R s m args below meth c Q D b0 nL false ka kb n pc L st0 v := by
  intro H locs ls hH hZ hS hl
  refine hw_afterX (vx_runV (Ts := hw_TB) ⟨C.1, C.2.1, C.2.2.1, C.2.2.2.1, C.2.2.2.2.1⟩ hM (cwV k C.2.2.2.2.1 (hw_goodV hw hl9) rfl hrc hrs hw.2 hR) ⟨hw_blind, hw_recv C hH ho hcl hi hn, fun U hU hW => ⟨rfl, hw_next C hU hW hH hZ hS⟩⟩ rfl hlen hl.1 hst (lv_room hroom) hdg hf) hS hl kk kx
theorem hq_callSX (C : hw_C p s m args c D b0 cc own nL) (hM : hw_MX l y (Cond.code y bytes maxL ret) rm D b0 n As v ex r v' mc ms) (hw : hw_WS y (Cond.code y bytes maxL ret) k) (hl9 : Cond.methodLink own idx y ∈ hw_TB)
    (hlen : As.length = k) (hst : st0 = As.reverse ++ st) (hrc : rm.cells = mc) (hrs : rm.slots = ms) (hR : rm.frames + 1 ≤ R.frames ∧ 8 + (maxL + 11) + rm.locals ≤ R.locals) (hroom : (st.map fun v => v.category).sum ≤ 8) (hf : ka + mc ≤ R.cells ∧ kb + ms ≤ R.slots) (hdg : decode cc pc = .ok (.invokestatic idx, 3))
    (kk : ex = none → hw_V p l e R s m args below meth c Q D b0 nL false (ka + mc) (kb + ms) n (pc + 3) L (r.toList ++ st) v') (kx : ∀ E, ex = some E → hw_T p l e R s m args below meth c Q D b0 nL (ka + mc) (kb + ms) n E pc L st v) : hw_V p l e R s m args below meth c Q D b0 nL false ka kb n pc L st0 v := by
  intro H locs ls hH hZ hS hl
  refine hw_afterX (vx_runS (Ts := hw_TB) ⟨C.1, C.2.1, C.2.2.1, C.2.2.2.1, C.2.2.2.2.1⟩ hM (va_cwS k C.2.2.2.2.1 (hw_goodS hw hl9) rfl hrc hrs hw.2 hR) ⟨hw_blind, fun U hU hW => ⟨rfl, hw_next C hU hW hH hZ hS⟩⟩ rfl hlen hl.1 hst (lv_room hroom) hdg hf) hS hl kk kx
theorem hq_callSXW (C : hw_C p s m args c D b0 cc own nL) {hh : List (Nat × Nat × Nat × Nat)} (hM : hw_MX l y (Cond.codeWith y bytes maxL ret hh) rm D b0 n As v ex r v' mc ms) (hw : hw_WS y (Cond.codeWith y bytes maxL ret hh) k) (hl9 : Cond.methodLink own idx y ∈ hw_TB)
    (hlen : As.length = k) (hst : st0 = As.reverse ++ st) (hrc : rm.cells = mc) (hrs : rm.slots = ms) (hR : rm.frames + 1 ≤ R.frames ∧ 8 + (maxL + 11) + rm.locals ≤ R.locals) (hroom : (st.map fun v => v.category).sum ≤ 8) (hf : ka + mc ≤ R.cells ∧ kb + ms ≤ R.slots) (hdg : decode cc pc = .ok (.invokestatic idx, 3))
    (kk : ex = none → hw_V p l e R s m args below meth c Q D b0 nL false (ka + mc) (kb + ms) n (pc + 3) L (r.toList ++ st) v') (kx : ∀ E, ex = some E → hw_T p l e R s m args below meth c Q D b0 nL (ka + mc) (kb + ms) n E pc L st v) : hw_V p l e R s m args below meth c Q D b0 nL false ka kb n pc L st0 v := by
  intro H locs ls hH hZ hS hl
  refine hw_afterX (vx_runSX (Ts := hw_TB) (hh := hh) ⟨C.1, C.2.1, C.2.2.1, C.2.2.2.1, C.2.2.2.2.1⟩ hM (vx_cwSW k C.2.2.2.2.1 (hw_goodS hw hl9) rfl hrc hrs hw.2 hR) ⟨hw_blind, fun U hU hW => ⟨rfl, hw_next C hU hW hH hZ hS⟩⟩ rfl hlen hl.1 hst (lv_room hroom) hdg hf) hS hl kk kx
/-- thrown on: nothing catches it here -/
theorem hq_out {E : String} (ht : ∀ x ∈ c.exceptionTable.toList, False) (hlk : meth.locks = false) (hE : ex = some E) (hv : v = v0) (hc : ka ≤ mc) (hs : kb ≤ ms) : hw_T p l e R s m args below meth c (vx_MQ below Qc (hw_XC D b0 n ex v0) args s mc ms (fun q => b0 ≤ q)) D b0 nL ka kb n E pc L st v := by
  intro H locs ls q ce hH hZ hS hl hce hcv hcl
  subst hv
  exact vx_out (fun x hx => (ht x hx).elim) hlk hce hcv hcl (fun t ht hA => ⟨hE, by rw [ht]; exact hH, by rw [ht]; exact hZ, hS.F ht⟩) hS.2.2 hc hs
/-! ends of a body that may throw, where it returns -/
theorem hq_retX (h : hw_V p l e R s m args below meth c (MQ below (hw_QX D b0 n ex r v') args s ka kb (fun q => b0 ≤ q)) D b0 nL xb ka kb n pc L st v) : hw_V p l e R s m args below meth c (vx_MQ below (hw_QX D b0 n ex r v') XC args s ka kb (fun q => b0 ≤ q)) D b0 nL xb ka kb n pc L st v := fun H locs ls hH hZ hS hl => vx_ret (h H locs ls hH hZ hS hl)
theorem hq_iretX (C : hw_C p s m args c D b0 cc own nL) {x z : Int32} (hr : meth.sig.returnType = some .int) (hlk : meth.locks = false) (hdg : decode cc pc = .ok (.ireturn, 1)) (he : ex = none) (hx : x = z) (hv : v = v') (hc : ka ≤ mc) (hs : kb ≤ ms) : hw_V p l e R s m args below meth c (vx_MQ below (hw_QX D b0 n ex (some (.int z)) v') XC args s mc ms (fun q => b0 ≤ q)) D b0 nL false ka kb n pc L [.int x] v := by
  refine hq_widen hc hs (hq_retX fun H locs ls hH hZ hS hl => ?_)
  subst hx hv
  exact W.iret (hlocks := hlk) C.1 C.2.1 hr (fun t ht hW => ⟨he, rfl, by rw [ht]; exact hH, by rw [ht]; exact hZ, hS.F ht⟩) hS.2.2 hdg
theorem hq_zretX (C : hw_C p s m args c D b0 cc own nL) {x z : Int32} (hr : meth.sig.returnType = some .boolean) (hlk : meth.locks = false) (hdg : decode cc pc = .ok (.ireturn, 1)) (he : ex = none) (hnar : narrow .boolean (.int x) = .int x) (hx : x = z) (hv : v = v') (hc : ka ≤ mc) (hs : kb ≤ ms) : hw_V p l e R s m args below meth c (vx_MQ below (hw_QX D b0 n ex (some (.int z)) v') XC args s mc ms (fun q => b0 ≤ q)) D b0 nL false ka kb n pc L [.int x] v := by
  refine hq_widen hc hs (hq_retX fun H locs ls hH hZ hS hl => ?_)
  subst hx hv
  exact W.zret (hlocks := hlk) C.1 C.2.1 hr hnar (fun t ht hW => ⟨he, rfl, by rw [ht]; exact hH, by rw [ht]; exact hZ, hS.F ht⟩) hS.2.2 hdg
theorem hq_lretX (C : hw_C p s m args c D b0 cc own nL) {x z : Int64} (hr : meth.sig.returnType = some .long) (hlk : meth.locks = false) (hdg : decode cc pc = .ok (.lreturn, 1)) (he : ex = none) (hx : x = z) (hv : v = v') (hc : ka ≤ mc) (hs : kb ≤ ms) : hw_V p l e R s m args below meth c (vx_MQ below (hw_QX D b0 n ex (some (.long z)) v') XC args s mc ms (fun q => b0 ≤ q)) D b0 nL false ka kb n pc L [.long x] v := by
  refine hq_widen hc hs (hq_retX fun H locs ls hH hZ hS hl => ?_)
  subst hx hv
  exact W.lret (hlocks := hlk) C.1 C.2.1 hr (fun t ht hW => ⟨he, rfl, by rw [ht]; exact hH, by rw [ht]; exact hZ, hS.F ht⟩) hS.2.2 hdg
theorem hq_vretX (C : hw_C p s m args c D b0 cc own nL) (hr : meth.sig.returnType = none) (hlk : meth.locks = false) (hdg : decode cc pc = .ok (.return_, 1)) (he : ex = none) (hv : v = v') (hc : ka ≤ mc) (hs : kb ≤ ms) : hw_V p l e R s m args below meth c (vx_MQ below (hw_QX D b0 n ex none v') XC args s mc ms (fun q => b0 ≤ q)) D b0 nL false ka kb n pc L [] v := by
  refine hq_widen hc hs (hq_retX fun H locs ls hH hZ hS hl => ?_)
  subst hv
  exact W.vret (hlocks := hlk) C.1 C.2.1 hr (fun t ht hW => ⟨he, rfl, by rw [ht]; exact hH, by rw [ht]; exact hZ, hS.F ht⟩) hS.2.2 hdg
theorem hw_MXof {av : List Value} (hy : plainName y.cls = true) (Ls : List (Nat × Value)) (hLs : lv_args 0 av = Ls) (hml : (lg_sl av).length ≤ maxL)
    (body : ∀ (p : Program) (e : Env) (s : State) (m : MethodId) (args : Array Value) (below : List Frame) (meth : Method) (c : Code), hw_C p s m args c D b0 bytes y.cls maxL → meth.sig.returnType = ret → meth.locks = false → (∀ x ∈ c.exceptionTable.toList, False) →
      hw_V p l e rm s m args below meth c (vx_MQ below (hw_QX D b0 n ex r v') (hw_XC D b0 n ex v) args s mc ms (fun q => b0 ≤ q)) D b0 maxL false 0 0 n 0 Ls [] v) : hw_MX l y (Cond.code y bytes maxL ret) rm D b0 n av v ex r v' mc ms := by
  refine vx_ofW (cc := bytes) (maxL := maxL) (ret := ret) hy rfl ?_
  intro p e s m args below meth c s₁ B hml9 ht9 hv9
  obtain ⟨rfl, h1, h2, h3, h4, h5, h6⟩ := hv9
  have hts := atoms_spec (ws := Cond.code y bytes maxL ret :: hw_TB) B.pre
  have C : hw_C p s m av.toArray c D b0 bytes y.cls maxL := ⟨B.exec, B.bytes, hml9, findClass_of_methodNamed B.named, fun w hw => hts w (List.mem_cons_of_mem _ hw), h1, h2, h3, h4, Nat.le_trans (Nat.le_add_right _ _) h6.1⟩
  rw [lg_entry_eq]
  have hl := lv_entry av (n := maxL) hml
  rw [hLs] at hl
  exact body p e s m av.toArray below meth c C B.returns B.notSynchronized ht9 s.heap [] _ h5 h6 va_S.rf hl
end HC
