/-! THE JUDGEMENT hw_V: at pc, with the listed locals L, the stack st and the cells' values v, the machine comes to Q. -/
def hw_TB : List Cond := lw_tbl.filter goodWord
theorem hw_in {w : Cond} (i : Nat) (h : lw_tbl[i]? = some w) (g : goodWord w = true) : w ∈ hw_TB := List.mem_filter.mpr ⟨List.mem_of_getElem? h, g⟩
theorem hw_TBg {w : Cond} (h : w ∈ hw_TB) : goodWord w = true := (List.mem_filter.mp h).2
def hw_tys (D : va_G) : List (ClassId × FieldType) := [(D.1 10, .int), (D.1 11, .long), (D.1 12, .boolean), (D.1 13, .object "HundiHall$Broker"), (D.1 14, .object "HundiHall$Order"), (D.1 15, .object "HundiHall$Courier"), (D.1 16, .array .long)]
def hw_OK (D : va_G) (f q : Nat) (V : Nat → Value) (H : Heap) : Prop := (hw_ob f = true → t_OB q (D.1 (hw_kc f)) (hw_sz f) (D.2 (hw_kc f)) H V) ∧ (hw_ob f = false → H[q]? = some (arrV (D.1 (hw_kc f)) (hw_sz f) V))
theorem hw_OK.kept {D : va_G} {f q : Nat} {V : Nat → Value} {H H1 : Heap} (h : hw_OK D f q V H) (hq : H1[q]? = H[q]?) : hw_OK D f q V H1 := ⟨fun a => (h.1 a).kept hq, fun a => hq.trans (h.2 a)⟩
theorem hw_arrV {cA : ClassId} {N : Nat} {f g : Nat → Value} (h : ∀ j, j < N → f j = g j) : arrV cA N f = arrV cA N g := by
  unfold arrV
  congr 1
  congr 1
  funext j
  exact h j.val j.isLt
theorem hw_OK.to {D : va_G} {f q : Nat} {V V' : Nat → Value} {H : Heap} (h : hw_OK D f q V H) (hv : ∀ j, j < hw_sz f → V j = V' j) : hw_OK D f q V' H := ⟨fun a => (h.1 a).to hv, fun a => (h.2 a).trans (congrArg some (hw_arrV hv))⟩
def hw_HP (D : va_G) (b0 n : Nat) (v : VF) (H : Heap) : Prop := ∀ f i, i < hw_cnt f → hw_pos f i < n → hw_OK D f (hw_ad b0 f i) (v f i) H
def hw_Z (xb : Bool) (b0 n z : Nat) : Prop := b0 + n ≤ z ∧ (xb = true → z = b0 + n)
theorem hw_HP.to {D : va_G} {b0 n : Nat} {v v' : VF} {H : Heap} (h : hw_HP D b0 n v H) (hv : ∀ f i j, i < hw_cnt f → j < hw_sz f → hw_pos f i < n → v f i j = v' f i j) : hw_HP D b0 n v' H := fun f i hi hn => (h f i hi hn).to (fun j hj => hv f i j hi hj hn)
theorem hw_HP.kept {D : va_G} {b0 n : Nat} {v : VF} {H H1 : Heap} (h : hw_HP D b0 n v H) (hq : ∀ q, b0 ≤ q → q < b0 + n → H1[q]? = H[q]?) : hw_HP D b0 n v H1 := fun f i hi hn => (h f i hi hn).kept (hq _ (Nat.le_add_right _ _) (Nat.add_lt_add_left hn _))
theorem hw_HP.put {D : va_G} {b0 n f i j : Nat} {v v' : VF} {x : Value} {H H1 : Heap} (h : hw_HP D b0 n v H) (hU : hw_U v f i j x v') (hi : i < hw_cnt f) (hc : hw_OK D f (hw_ad b0 f i) (updV (v f i) j x) H1) (oq : ∀ q, q ≠ hw_ad b0 f i → H1[q]? = H[q]?) : hw_HP D b0 n v' H1 := by
  intro f' i' hi' hn'
  by_cases e : f' = f ∧ i' = i
  · obtain ⟨rfl, rfl⟩ := e
    refine hc.to (fun j' hj' => ?_)
    rw [hU f' i' j' hi' hj']
    by_cases z : j' = j
    · subst z; simp [updV]
    · simp [updV, z]
  · have ha : hw_ad b0 f' i' ≠ hw_ad b0 f i := fun z => e (hw_inj hi' hi (by unfold hw_ad at z; omega))
    refine ((h f' i' hi' hn').kept (oq _ ha)).to (fun j' hj' => ?_)
    rw [hU f' i' j' hi' hj', if_neg (fun z => e ⟨z.1, z.2.1⟩)]
def hw_str (k : Nat) (t : String) (U : State) : Prop := ∃ a, vk_R RX5 k t a U
/-- what else is known of the world: the classes of exceptions, the texts -/
def hw_XW (U : State) : Prop := (va_Nw (.declares (Bundle.initS "java/lang/RuntimeException")) U ∧ va_Nw (.declares (Bundle.initS "java/lang/Exception")) U ∧ va_Nw (.declares (Bundle.initS "java/lang/Throwable")) U) ∧
  (va_Nw (.castable "java/lang/IndexOutOfBoundsException" "java/lang/IndexOutOfBoundsException") U ∧ va_Nw (.castable "java/lang/IllegalArgumentException" "java/lang/IllegalArgumentException") U ∧ va_Nw (.castable "java/lang/IllegalStateException" "java/lang/IllegalStateException") U) ∧
  (va_Nc "java/lang/IllegalArgumentException" "java/lang/IndexOutOfBoundsException" U ∧ va_Nc "java/lang/IllegalStateException" "java/lang/IndexOutOfBoundsException" U ∧ va_Nc "java/lang/IllegalStateException" "java/lang/IllegalArgumentException" U) ∧
  (hw_str 248 "there is no such one" U ∧ hw_str 253 "a place is not below 0" U ∧ hw_str 257 "out of range" U ∧ hw_str 262 "not possible now" U ∧ hw_str 265 "both are the same broker" U)
abbrev hw_zU (b0 : Nat) (U : State) (H : Heap) : Prop := vx_Zq Bundle.tN "UNASSIGNED_STACK" Bundle.steD (fun q => b0 ≤ q) U H
abbrev hw_zN (b0 : Nat) (U : State) (H : Heap) : Prop := vx_Zq Bundle.tN "SUPPRESSED_SENTINEL" Bundle.listD (fun q => b0 ≤ q) U H
/-- a method's start: the world, the cells -/
def hw_PW (D : va_G) (b0 : Nat) (xb : Bool) (n : Nat) (v : VF) (U : State) : Prop := va_K D vwCl (hw_tys D) U ∧ hw_XW U ∧ hw_zU b0 U U.heap ∧ hw_zN b0 U U.heap ∧ hw_HP D b0 n v U.heap ∧ hw_Z xb b0 n U.heap.size
theorem hw_str.warm {k : Nat} {t : String} {s U : State} (hW : s.WarmedH U.vm) (h : hw_str k t s) : hw_str k t U := by
  obtain ⟨a, h⟩ := h
  exact ⟨a, vk_R.warm hW h⟩
theorem hw_XW.warm {s U : State} (hW : s.WarmedH U.vm) (h : hw_XW s) : hw_XW U := by
  obtain ⟨⟨h2, h3, h4⟩, ⟨h5, h6, h7⟩, ⟨h8, h9, h10⟩, ⟨k1, k2, k3, k4, k5⟩⟩ := h
  exact ⟨⟨va_Nw.warmD hW h2, va_Nw.warmD hW h3, va_Nw.warmD hW h4⟩, ⟨va_Nw.warmC hW h5, va_Nw.warmC hW h6, va_Nw.warmC hW h7⟩, ⟨h8.moved hW.alike, h9.moved hW.alike, h10.moved hW.alike⟩, ⟨k1.warm hW, k2.warm hW, k3.warm hW, k4.warm hW, k5.warm hW⟩⟩
section HW
variable {p : Program} {l : Launch} {e : Env} {R : Room} {s : State} {m : MethodId} {args : Array Value} {below : List Frame} {meth : Method} {c : Code} {Q : State → Prop}
variable {D : va_G} {b0 nL : Nat} {xb : Bool} {ka kb n : Nat} {pc : Nat} {L L' : List (Nat × Value)} {st : List Value} {v : VF} {cc : ByteArray} {own : String}
def hw_V (p : Program) (l : Launch) (e : Env) (R : Room) (s : State) (m : MethodId) (args : Array Value) (below : List Frame) (meth : Method) (c : Code) (Q : State → Prop) (D : va_G) (b0 nL : Nat) (xb : Bool) (ka kb n : Nat) (pc : Nat) (L : List (Nat × Value)) (st : List Value) (v : VF) : Prop :=
  ∀ (H : Heap) (locs : List Loc) (ls : Array Slot), hw_HP D b0 n v H → hw_Z xb b0 n H.size → va_S (fun q => b0 ≤ q) s.heap H locs → lv_has ls nL L → W p l e R s m args below meth c H locs ka kb Q (F0 m pc ls st)
def hw_C (p : Program) (s : State) (m : MethodId) (args : Array Value) (c : Code) (D : va_G) (b0 : Nat) (cc : ByteArray) (own : String) (nL : Nat) : Prop :=
  p.tables.exec = Jvm.exec ∧ c.code = cc ∧ c.maxLocals = nL ∧ s.vm.findClass own = some m.cls ∧ (∀ w ∈ hw_TB, w.before args s = true) ∧ va_K D vwCl (hw_tys D) s ∧ hw_XW s ∧ hw_zU b0 s s.heap ∧ hw_zN b0 s s.heap ∧ b0 ≤ s.heap.size
theorem hq_iconst (C : hw_C p s m args c D b0 cc own nL) {w : Int} {y : Int32} (hdg : decode cc pc = .ok (.iconst w, 1)) (hv : Int32.ofInt w = y) (k : hw_V p l e R s m args below meth c Q D b0 nL xb ka kb n (pc + 1) L (.int y :: st) v) : hw_V p l e R s m args below meth c Q D b0 nL xb ka kb n pc L st v := fun H locs ls hH hZ hS hl => lv_iconst C.1 C.2.1 hdg hv (k H locs ls hH hZ hS hl)
theorem hq_bipush (C : hw_C p s m args c D b0 cc own nL) {w : Int} {y : Int32} (hdg : decode cc pc = .ok (.bipush w, 2)) (hv : (Int8.ofInt w).toInt32 = y) (k : hw_V p l e R s m args below meth c Q D b0 nL xb ka kb n (pc + 2) L (.int y :: st) v) : hw_V p l e R s m args below meth c Q D b0 nL xb ka kb n pc L st v := fun H locs ls hH hZ hS hl => lv_bipush C.1 C.2.1 hdg hv (k H locs ls hH hZ hS hl)
theorem hq_sipush (C : hw_C p s m args c D b0 cc own nL) {w : Int} {y : Int32} (hdg : decode cc pc = .ok (.sipush w, 3)) (hv : (Int16.ofInt w).toInt32 = y) (k : hw_V p l e R s m args below meth c Q D b0 nL xb ka kb n (pc + 3) L (.int y :: st) v) : hw_V p l e R s m args below meth c Q D b0 nL xb ka kb n pc L st v := fun H locs ls hH hZ hS hl => lv_sipush C.1 C.2.1 hdg hv (k H locs ls hH hZ hS hl)
theorem hq_lconst (C : hw_C p s m args c D b0 cc own nL) {w : Fin 2} {y : Int64} (hdg : decode cc pc = .ok (.lconst w, 1)) (hv : Int64.ofNat (w : Nat) = y) (k : hw_V p l e R s m args below meth c Q D b0 nL xb ka kb n (pc + 1) L (.long y :: st) v) : hw_V p l e R s m args below meth c Q D b0 nL xb ka kb n pc L st v := fun H locs ls hH hZ hS hl => lv_lconst C.1 C.2.1 hdg hv (k H locs ls hH hZ hS hl)
theorem hq_iadd (C : hw_C p s m args c D b0 cc own nL) {x y : Int32} (hdg : decode cc pc = .ok (.iadd, 1))  (k : hw_V p l e R s m args below meth c Q D b0 nL xb ka kb n (pc + 1) L (.int (x + y) :: st) v) : hw_V p l e R s m args below meth c Q D b0 nL xb ka kb n pc L (.int y :: .int x :: st) v := fun H locs ls hH hZ hS hl => lv_iadd C.1 C.2.1 hdg  (k H locs ls hH hZ hS hl)
theorem hq_isub (C : hw_C p s m args c D b0 cc own nL) {x y : Int32} (hdg : decode cc pc = .ok (.isub, 1))  (k : hw_V p l e R s m args below meth c Q D b0 nL xb ka kb n (pc + 1) L (.int (x - y) :: st) v) : hw_V p l e R s m args below meth c Q D b0 nL xb ka kb n pc L (.int y :: .int x :: st) v := fun H locs ls hH hZ hS hl => lv_isub C.1 C.2.1 hdg  (k H locs ls hH hZ hS hl)
theorem hq_imul (C : hw_C p s m args c D b0 cc own nL) {x y : Int32} (hdg : decode cc pc = .ok (.imul, 1))  (k : hw_V p l e R s m args below meth c Q D b0 nL xb ka kb n (pc + 1) L (.int (x * y) :: st) v) : hw_V p l e R s m args below meth c Q D b0 nL xb ka kb n pc L (.int y :: .int x :: st) v := fun H locs ls hH hZ hS hl => lv_imul C.1 C.2.1 hdg  (k H locs ls hH hZ hS hl)
theorem hq_iand (C : hw_C p s m args c D b0 cc own nL) {x y : Int32} (hdg : decode cc pc = .ok (.iand, 1))  (k : hw_V p l e R s m args below meth c Q D b0 nL xb ka kb n (pc + 1) L (.int (x &&& y) :: st) v) : hw_V p l e R s m args below meth c Q D b0 nL xb ka kb n pc L (.int y :: .int x :: st) v := fun H locs ls hH hZ hS hl => lv_iand C.1 C.2.1 hdg  (k H locs ls hH hZ hS hl)
theorem hq_ior (C : hw_C p s m args c D b0 cc own nL) {x y : Int32} (hdg : decode cc pc = .ok (.ior, 1))  (k : hw_V p l e R s m args below meth c Q D b0 nL xb ka kb n (pc + 1) L (.int (x ||| y) :: st) v) : hw_V p l e R s m args below meth c Q D b0 nL xb ka kb n pc L (.int y :: .int x :: st) v := fun H locs ls hH hZ hS hl => lv_ior C.1 C.2.1 hdg  (k H locs ls hH hZ hS hl)
theorem hq_ishl (C : hw_C p s m args c D b0 cc own nL) {x y : Int32} (hdg : decode cc pc = .ok (.ishl, 1))  (k : hw_V p l e R s m args below meth c Q D b0 nL xb ka kb n (pc + 1) L (.int (x <<< (y &&& 31)) :: st) v) : hw_V p l e R s m args below meth c Q D b0 nL xb ka kb n pc L (.int y :: .int x :: st) v := fun H locs ls hH hZ hS hl => lv_ishl C.1 C.2.1 hdg  (k H locs ls hH hZ hS hl)
theorem hq_ishr (C : hw_C p s m args c D b0 cc own nL) {x y : Int32} (hdg : decode cc pc = .ok (.ishr, 1))  (k : hw_V p l e R s m args below meth c Q D b0 nL xb ka kb n (pc + 1) L (.int (x >>> (y &&& 31)) :: st) v) : hw_V p l e R s m args below meth c Q D b0 nL xb ka kb n pc L (.int y :: .int x :: st) v := fun H locs ls hH hZ hS hl => lv_ishr C.1 C.2.1 hdg  (k H locs ls hH hZ hS hl)
theorem hq_idiv (C : hw_C p s m args c D b0 cc own nL) {x y : Int32} (hdg : decode cc pc = .ok (.idiv, 1)) (hne : ¬ y = 0) (k : hw_V p l e R s m args below meth c Q D b0 nL xb ka kb n (pc + 1) L (.int (x / y) :: st) v) : hw_V p l e R s m args below meth c Q D b0 nL xb ka kb n pc L (.int y :: .int x :: st) v := fun H locs ls hH hZ hS hl => lv_idiv C.1 C.2.1 hdg hne (k H locs ls hH hZ hS hl)
theorem hq_ldiv (C : hw_C p s m args c D b0 cc own nL) {x y : Int64} (hdg : decode cc pc = .ok (.ldiv, 1)) (hne : ¬ y = 0) (k : hw_V p l e R s m args below meth c Q D b0 nL xb ka kb n (pc + 1) L (.long (x / y) :: st) v) : hw_V p l e R s m args below meth c Q D b0 nL xb ka kb n pc L (.long y :: .long x :: st) v := fun H locs ls hH hZ hS hl => lv_ldiv C.1 C.2.1 hdg hne (k H locs ls hH hZ hS hl)
theorem hq_ineg (C : hw_C p s m args c D b0 cc own nL) {x : Int32} (hdg : decode cc pc = .ok (.ineg, 1))  (k : hw_V p l e R s m args below meth c Q D b0 nL xb ka kb n (pc + 1) L (.int (-x) :: st) v) : hw_V p l e R s m args below meth c Q D b0 nL xb ka kb n pc L (.int x :: st) v := fun H locs ls hH hZ hS hl => lv_ineg C.1 C.2.1 hdg  (k H locs ls hH hZ hS hl)
theorem hq_lneg (C : hw_C p s m args c D b0 cc own nL) {x : Int64} (hdg : decode cc pc = .ok (.lneg, 1))  (k : hw_V p l e R s m args below meth c Q D b0 nL xb ka kb n (pc + 1) L (.long (-x) :: st) v) : hw_V p l e R s m args below meth c Q D b0 nL xb ka kb n pc L (.long x :: st) v := fun H locs ls hH hZ hS hl => lv_lneg C.1 C.2.1 hdg  (k H locs ls hH hZ hS hl)
theorem hq_ladd (C : hw_C p s m args c D b0 cc own nL) {x y : Int64} (hdg : decode cc pc = .ok (.ladd, 1))  (k : hw_V p l e R s m args below meth c Q D b0 nL xb ka kb n (pc + 1) L (.long (x + y) :: st) v) : hw_V p l e R s m args below meth c Q D b0 nL xb ka kb n pc L (.long y :: .long x :: st) v := fun H locs ls hH hZ hS hl => lv_ladd C.1 C.2.1 hdg  (k H locs ls hH hZ hS hl)
theorem hq_lsub (C : hw_C p s m args c D b0 cc own nL) {x y : Int64} (hdg : decode cc pc = .ok (.lsub, 1))  (k : hw_V p l e R s m args below meth c Q D b0 nL xb ka kb n (pc + 1) L (.long (x - y) :: st) v) : hw_V p l e R s m args below meth c Q D b0 nL xb ka kb n pc L (.long y :: .long x :: st) v := fun H locs ls hH hZ hS hl => lv_lsub C.1 C.2.1 hdg  (k H locs ls hH hZ hS hl)
theorem hq_lmul (C : hw_C p s m args c D b0 cc own nL) {x y : Int64} (hdg : decode cc pc = .ok (.lmul, 1))  (k : hw_V p l e R s m args below meth c Q D b0 nL xb ka kb n (pc + 1) L (.long (x * y) :: st) v) : hw_V p l e R s m args below meth c Q D b0 nL xb ka kb n pc L (.long y :: .long x :: st) v := fun H locs ls hH hZ hS hl => lv_lmul C.1 C.2.1 hdg  (k H locs ls hH hZ hS hl)
theorem hq_lcmp (C : hw_C p s m args c D b0 cc own nL) {x y : Int64} (hdg : decode cc pc = .ok (.lcmp, 1))  (k : hw_V p l e R s m args below meth c Q D b0 nL xb ka kb n (pc + 1) L (.int (lg_cmp x y) :: st) v) : hw_V p l e R s m args below meth c Q D b0 nL xb ka kb n pc L (.long y :: .long x :: st) v := fun H locs ls hH hZ hS hl => W.lcmp C.1 C.2.1 hdg  (k H locs ls hH hZ hS hl)
theorem hq_i2l (C : hw_C p s m args c D b0 cc own nL) {x : Int32} (hdg : decode cc pc = .ok (.i2l, 1))  (k : hw_V p l e R s m args below meth c Q D b0 nL xb ka kb n (pc + 1) L (.long x.toInt64 :: st) v) : hw_V p l e R s m args below meth c Q D b0 nL xb ka kb n pc L (.int x :: st) v := fun H locs ls hH hZ hS hl => lv_i2l C.1 C.2.1 hdg rfl (k H locs ls hH hZ hS hl)
theorem hq_l2i (C : hw_C p s m args c D b0 cc own nL) {x : Int64} (hdg : decode cc pc = .ok (.l2i, 1))  (k : hw_V p l e R s m args below meth c Q D b0 nL xb ka kb n (pc + 1) L (.int x.toInt32 :: st) v) : hw_V p l e R s m args below meth c Q D b0 nL xb ka kb n pc L (.long x :: st) v := fun H locs ls hH hZ hS hl => lv_l2i C.1 C.2.1 hdg rfl (k H locs ls hH hZ hS hl)
theorem hq_dup (C : hw_C p s m args c D b0 cc own nL) {va : Value} (hdg : decode cc pc = .ok (.dup, 1)) (hva : va.category = 1) (k : hw_V p l e R s m args below meth c Q D b0 nL xb ka kb n (pc + 1) L (va :: va :: st) v) : hw_V p l e R s m args below meth c Q D b0 nL xb ka kb n pc L (va :: st) v := fun H locs ls hH hZ hS hl => lv_dup C.1 C.2.1 hdg hva (k H locs ls hH hZ hS hl)
theorem hq_pop (C : hw_C p s m args c D b0 cc own nL) {va : Value} (hdg : decode cc pc = .ok (.pop, 1)) (hva : va.category = 1) (k : hw_V p l e R s m args below meth c Q D b0 nL xb ka kb n (pc + 1) L st v) : hw_V p l e R s m args below meth c Q D b0 nL xb ka kb n pc L (va :: st) v := fun H locs ls hH hZ hS hl => lv_pop C.1 C.2.1 hdg hva (k H locs ls hH hZ hS hl)
theorem hq_dup2 (C : hw_C p s m args c D b0 cc own nL) {va vb : Value} (hdg : decode cc pc = .ok (.dup2, 1)) (hva : va.category = 1) (hvb : vb.category = 1) (k : hw_V p l e R s m args below meth c Q D b0 nL xb ka kb n (pc + 1) L (va :: vb :: va :: vb :: st) v) : hw_V p l e R s m args below meth c Q D b0 nL xb ka kb n pc L (va :: vb :: st) v := fun H locs ls hH hZ hS hl => lv_dup2_11 C.1 C.2.1 hdg hva hvb (k H locs ls hH hZ hS hl)
theorem hq_dup_x1 (C : hw_C p s m args c D b0 cc own nL) {va vb : Value} (hdg : decode cc pc = .ok (.dup_x1, 1)) (hva : va.category = 1) (hvb : vb.category = 1) (k : hw_V p l e R s m args below meth c Q D b0 nL xb ka kb n (pc + 1) L (va :: vb :: va :: st) v) : hw_V p l e R s m args below meth c Q D b0 nL xb ka kb n pc L (va :: vb :: st) v := fun H locs ls hH hZ hS hl => lv_dup_x1 C.1 C.2.1 hdg hva hvb (k H locs ls hH hZ hS hl)
theorem hq_ldc (C : hw_C p s m args c D b0 cc own nL) {i : Nat} {y : Int32} (hcst : Cond.constant own i y ∈ hw_TB) (hdg : decode cc pc = .ok (.ldc i, 2)) (k : hw_V p l e R s m args below meth c Q D b0 nL xb ka kb n (pc + 2) L (.int y :: st) v) : hw_V p l e R s m args below meth c Q D b0 nL xb ka kb n pc L st v := fun H locs ls hH hZ hS hl => lv_ldc C.1 C.2.1 C.2.2.2.1 (C.2.2.2.2.1 _ hcst) hdg (k H locs ls hH hZ hS hl)
theorem hq_ldc2 (C : hw_C p s m args c D b0 cc own nL) {i : Nat} {y : Int64} (hcst : Cond.constantLong own i y ∈ hw_TB) (hdg : decode cc pc = .ok (.ldc2_w i, 3)) (k : hw_V p l e R s m args below meth c Q D b0 nL xb ka kb n (pc + 3) L (.long y :: st) v) : hw_V p l e R s m args below meth c Q D b0 nL xb ka kb n pc L st v := fun H locs ls hH hZ hS hl => lv_ldc2 C.1 C.2.1 C.2.2.2.1 (C.2.2.2.2.1 _ hcst) hdg (k H locs ls hH hZ hS hl)
theorem hq_iload_n (C : hw_C p s m args c D b0 cc own nL) {w : Fin 4} {i q : Nat} {x : Int32} (hdg : decode cc pc = .ok (.iload_n w, 1)) (hi : (w : Nat) = i) (hq : L[q]? = some (i, .int x)) (k : hw_V p l e R s m args below meth c Q D b0 nL xb ka kb n (pc + 1) L (.int x :: st) v) : hw_V p l e R s m args below meth c Q D b0 nL xb ka kb n pc L st v := fun H locs ls hH hZ hS hl => lv_iload_n C.1 C.2.1 hdg hi (lv_at hl q hq) (k H locs ls hH hZ hS hl)
theorem hq_iload (C : hw_C p s m args c D b0 cc own nL) {i q : Nat} {x : Int32} (hdg : decode cc pc = .ok (.iload i, 2)) (hq : L[q]? = some (i, .int x)) (k : hw_V p l e R s m args below meth c Q D b0 nL xb ka kb n (pc + 2) L (.int x :: st) v) : hw_V p l e R s m args below meth c Q D b0 nL xb ka kb n pc L st v := fun H locs ls hH hZ hS hl => lv_iload C.1 C.2.1 hdg (lv_at hl q hq) (k H locs ls hH hZ hS hl)
theorem hq_istore_n (C : hw_C p s m args c D b0 cc own nL) {w : Fin 4} {i : Nat} {x : Int32} (hdg : decode cc pc = .ok (.istore_n w, 1)) (hi : (w : Nat) = i) (hn : i < nL) (hL : (i, Value.int x) :: L.filter (fun q => !(q.1 == i) && !(q.1 + 1 == i && q.2.category == 2)) = L') (k : hw_V p l e R s m args below meth c Q D b0 nL xb ka kb n (pc + 1) L' st v) : hw_V p l e R s m args below meth c Q D b0 nL xb ka kb n pc L (.int x :: st) v := fun H locs ls hH hZ hS hl => lv_istore_n C.1 C.2.1 hdg hi hl hn hL (fun ls hl => k H locs ls hH hZ hS hl)
theorem hq_istore (C : hw_C p s m args c D b0 cc own nL) {i : Nat} {x : Int32} (hdg : decode cc pc = .ok (.istore i, 2)) (hn : i < nL) (hL : (i, Value.int x) :: L.filter (fun q => !(q.1 == i) && !(q.1 + 1 == i && q.2.category == 2)) = L') (k : hw_V p l e R s m args below meth c Q D b0 nL xb ka kb n (pc + 2) L' st v) : hw_V p l e R s m args below meth c Q D b0 nL xb ka kb n pc L (.int x :: st) v := fun H locs ls hH hZ hS hl => lv_istore C.1 C.2.1 hdg hl hn hL (fun ls hl => k H locs ls hH hZ hS hl)
theorem hq_lload_n (C : hw_C p s m args c D b0 cc own nL) {w : Fin 4} {i q : Nat} {x : Int64} (hdg : decode cc pc = .ok (.lload_n w, 1)) (hi : (w : Nat) = i) (hq : L[q]? = some (i, .long x)) (k : hw_V p l e R s m args below meth c Q D b0 nL xb ka kb n (pc + 1) L (.long x :: st) v) : hw_V p l e R s m args below meth c Q D b0 nL xb ka kb n pc L st v := fun H locs ls hH hZ hS hl => lv_lload_n C.1 C.2.1 hdg hi (lv_at hl q hq) (k H locs ls hH hZ hS hl)
theorem hq_lload (C : hw_C p s m args c D b0 cc own nL) {i q : Nat} {x : Int64} (hdg : decode cc pc = .ok (.lload i, 2)) (hq : L[q]? = some (i, .long x)) (k : hw_V p l e R s m args below meth c Q D b0 nL xb ka kb n (pc + 2) L (.long x :: st) v) : hw_V p l e R s m args below meth c Q D b0 nL xb ka kb n pc L st v := fun H locs ls hH hZ hS hl => lv_lload C.1 C.2.1 hdg (lv_at hl q hq) (k H locs ls hH hZ hS hl)
theorem hq_lstore_n (C : hw_C p s m args c D b0 cc own nL) {w : Fin 4} {i : Nat} {x : Int64} (hdg : decode cc pc = .ok (.lstore_n w, 1)) (hi : (w : Nat) = i) (hn : i + 1 < nL) (hL : (i, Value.long x) :: L.filter (fun q => !(q.1 == i) && (!(q.1 == i + 1) && !(q.1 + 1 == i && q.2.category == 2))) = L') (k : hw_V p l e R s m args below meth c Q D b0 nL xb ka kb n (pc + 1) L' st v) : hw_V p l e R s m args below meth c Q D b0 nL xb ka kb n pc L (.long x :: st) v := fun H locs ls hH hZ hS hl => lv_lstore_n C.1 C.2.1 hdg hi hl hn hL (fun ls hl => k H locs ls hH hZ hS hl)
theorem hq_lstore (C : hw_C p s m args c D b0 cc own nL) {i : Nat} {x : Int64} (hdg : decode cc pc = .ok (.lstore i, 2)) (hn : i + 1 < nL) (hL : (i, Value.long x) :: L.filter (fun q => !(q.1 == i) && (!(q.1 == i + 1) && !(q.1 + 1 == i && q.2.category == 2))) = L') (k : hw_V p l e R s m args below meth c Q D b0 nL xb ka kb n (pc + 2) L' st v) : hw_V p l e R s m args below meth c Q D b0 nL xb ka kb n pc L (.long x :: st) v := fun H locs ls hH hZ hS hl => lv_lstore C.1 C.2.1 hdg hl hn hL (fun ls hl => k H locs ls hH hZ hS hl)
theorem hq_aload_n (C : hw_C p s m args c D b0 cc own nL) {w : Fin 4} {i q : Nat} {x : Nat} (hdg : decode cc pc = .ok (.aload_n w, 1)) (hi : (w : Nat) = i) (hq : L[q]? = some (i, .ref x)) (k : hw_V p l e R s m args below meth c Q D b0 nL xb ka kb n (pc + 1) L (.ref x :: st) v) : hw_V p l e R s m args below meth c Q D b0 nL xb ka kb n pc L st v := fun H locs ls hH hZ hS hl => lv_aload_n C.1 C.2.1 hdg hi (lv_at hl q hq) (k H locs ls hH hZ hS hl)
theorem hq_aload (C : hw_C p s m args c D b0 cc own nL) {i q : Nat} {x : Nat} (hdg : decode cc pc = .ok (.aload i, 2)) (hq : L[q]? = some (i, .ref x)) (k : hw_V p l e R s m args below meth c Q D b0 nL xb ka kb n (pc + 2) L (.ref x :: st) v) : hw_V p l e R s m args below meth c Q D b0 nL xb ka kb n pc L st v := fun H locs ls hH hZ hS hl => lv_aload C.1 C.2.1 hdg (lv_at hl q hq) (k H locs ls hH hZ hS hl)
theorem hq_astore_n (C : hw_C p s m args c D b0 cc own nL) {w : Fin 4} {i : Nat} {x : Nat} (hdg : decode cc pc = .ok (.astore_n w, 1)) (hi : (w : Nat) = i) (hn : i < nL) (hL : (i, Value.ref x) :: L.filter (fun q => !(q.1 == i) && !(q.1 + 1 == i && q.2.category == 2)) = L') (k : hw_V p l e R s m args below meth c Q D b0 nL xb ka kb n (pc + 1) L' st v) : hw_V p l e R s m args below meth c Q D b0 nL xb ka kb n pc L (.ref x :: st) v := fun H locs ls hH hZ hS hl => lv_astore_n C.1 C.2.1 hdg hi hl hn hL (fun ls hl => k H locs ls hH hZ hS hl)
theorem hq_astore (C : hw_C p s m args c D b0 cc own nL) {i : Nat} {x : Nat} (hdg : decode cc pc = .ok (.astore i, 2)) (hn : i < nL) (hL : (i, Value.ref x) :: L.filter (fun q => !(q.1 == i) && !(q.1 + 1 == i && q.2.category == 2)) = L') (k : hw_V p l e R s m args below meth c Q D b0 nL xb ka kb n (pc + 2) L' st v) : hw_V p l e R s m args below meth c Q D b0 nL xb ka kb n pc L (.ref x :: st) v := fun H locs ls hH hZ hS hl => lv_astore C.1 C.2.1 hdg hl hn hL (fun ls hl => k H locs ls hH hZ hS hl)
theorem hq_iinc (C : hw_C p s m args c D b0 cc own nL) {i q : Nat} {w : Int} {x y : Int32} (hdg : decode cc pc = .ok (.iinc i w, 3)) (hq : L[q]? = some (i, .int x)) (hv : x + Int32.ofInt w = y) (hn : i < nL) (hL : (i, Value.int y) :: L.filter (fun q => !(q.1 == i) && !(q.1 + 1 == i && q.2.category == 2)) = L') (k : hw_V p l e R s m args below meth c Q D b0 nL xb ka kb n (pc + 3) L' st v) : hw_V p l e R s m args below meth c Q D b0 nL xb ka kb n pc L st v := fun H locs ls hH hZ hS hl => lv_iinc C.1 C.2.1 hdg hl hq hv hn hL (fun ls hl => k H locs ls hH hZ hS hl)
theorem hq_perm (ks : List Nat) (h : lv_pick L ks = L') (k : hw_V p l e R s m args below meth c Q D b0 nL xb ka kb n pc L' st v) : hw_V p l e R s m args below meth c Q D b0 nL xb ka kb n pc L st v := fun H locs ls hH hZ hS hl => k H locs ls hH hZ hS (lv_sub hl ks h)
theorem hq_widen {ka' kb' : Nat} (h1 : ka ≤ ka') (h2 : kb ≤ kb') (k : hw_V p l e R s m args below meth c Q D b0 nL xb ka' kb' n pc L st v) : hw_V p l e R s m args below meth c Q D b0 nL xb ka kb n pc L st v := fun H locs ls hH hZ hS hl => W.widen h1 h2 (k H locs ls hH hZ hS hl)
theorem hq_to {v' : VF} (hv : ∀ f i j, i < hw_cnt f → j < hw_sz f → hw_pos f i < n → v f i j = v' f i j) (k : hw_V p l e R s m args below meth c Q D b0 nL xb ka kb n pc L st v') : hw_V p l e R s m args below meth c Q D b0 nL xb ka kb n pc L st v := fun H locs ls hH hZ hS hl => k H locs ls (hH.to hv) hZ hS hl
theorem hq_if_eq (C : hw_C p s m args c D b0 cc own nL) {x : Int32} {off : Int} {tgt : Nat} (hdg : decode cc pc = .ok (.ifCond .eq off, 3)) (ht : (pc : Int) + off = (tgt : Int)) (kt : x = 0 → hw_V p l e R s m args below meth c Q D b0 nL xb ka kb n tgt L st v) (kf : ¬ x = 0 → hw_V p l e R s m args below meth c Q D b0 nL xb ka kb n (pc + 3) L st v) : hw_V p l e R s m args below meth c Q D b0 nL xb ka kb n pc L (.int x :: st) v := fun H locs ls hH hZ hS hl => lv_if_eq C.1 C.2.1 hdg ht (fun z => kt z H locs ls hH hZ hS hl) (fun z => kf z H locs ls hH hZ hS hl)
theorem hq_if_ne (C : hw_C p s m args c D b0 cc own nL) {x : Int32} {off : Int} {tgt : Nat} (hdg : decode cc pc = .ok (.ifCond .ne off, 3)) (ht : (pc : Int) + off = (tgt : Int)) (kt : ¬ x = 0 → hw_V p l e R s m args below meth c Q D b0 nL xb ka kb n tgt L st v) (kf : x = 0 → hw_V p l e R s m args below meth c Q D b0 nL xb ka kb n (pc + 3) L st v) : hw_V p l e R s m args below meth c Q D b0 nL xb ka kb n pc L (.int x :: st) v := fun H locs ls hH hZ hS hl => lv_if_ne C.1 C.2.1 hdg ht (fun z => kt z H locs ls hH hZ hS hl) (fun z => kf z H locs ls hH hZ hS hl)
theorem hq_if_lt (C : hw_C p s m args c D b0 cc own nL) {x : Int32} {off : Int} {tgt : Nat} (hdg : decode cc pc = .ok (.ifCond .lt off, 3)) (ht : (pc : Int) + off = (tgt : Int)) (kt : x < 0 → hw_V p l e R s m args below meth c Q D b0 nL xb ka kb n tgt L st v) (kf : ¬ x < 0 → hw_V p l e R s m args below meth c Q D b0 nL xb ka kb n (pc + 3) L st v) : hw_V p l e R s m args below meth c Q D b0 nL xb ka kb n pc L (.int x :: st) v := fun H locs ls hH hZ hS hl => lv_if_lt C.1 C.2.1 hdg ht (fun z => kt z H locs ls hH hZ hS hl) (fun z => kf z H locs ls hH hZ hS hl)
theorem hq_if_ge (C : hw_C p s m args c D b0 cc own nL) {x : Int32} {off : Int} {tgt : Nat} (hdg : decode cc pc = .ok (.ifCond .ge off, 3)) (ht : (pc : Int) + off = (tgt : Int)) (kt : 0 ≤ x → hw_V p l e R s m args below meth c Q D b0 nL xb ka kb n tgt L st v) (kf : ¬ 0 ≤ x → hw_V p l e R s m args below meth c Q D b0 nL xb ka kb n (pc + 3) L st v) : hw_V p l e R s m args below meth c Q D b0 nL xb ka kb n pc L (.int x :: st) v := fun H locs ls hH hZ hS hl => lv_if_ge C.1 C.2.1 hdg ht (fun z => kt z H locs ls hH hZ hS hl) (fun z => kf z H locs ls hH hZ hS hl)
theorem hq_if_gt (C : hw_C p s m args c D b0 cc own nL) {x : Int32} {off : Int} {tgt : Nat} (hdg : decode cc pc = .ok (.ifCond .gt off, 3)) (ht : (pc : Int) + off = (tgt : Int)) (kt : 0 < x → hw_V p l e R s m args below meth c Q D b0 nL xb ka kb n tgt L st v) (kf : ¬ 0 < x → hw_V p l e R s m args below meth c Q D b0 nL xb ka kb n (pc + 3) L st v) : hw_V p l e R s m args below meth c Q D b0 nL xb ka kb n pc L (.int x :: st) v := fun H locs ls hH hZ hS hl => lv_if_gt C.1 C.2.1 hdg ht (fun z => kt z H locs ls hH hZ hS hl) (fun z => kf z H locs ls hH hZ hS hl)
theorem hq_if_le (C : hw_C p s m args c D b0 cc own nL) {x : Int32} {off : Int} {tgt : Nat} (hdg : decode cc pc = .ok (.ifCond .le off, 3)) (ht : (pc : Int) + off = (tgt : Int)) (kt : x ≤ 0 → hw_V p l e R s m args below meth c Q D b0 nL xb ka kb n tgt L st v) (kf : ¬ x ≤ 0 → hw_V p l e R s m args below meth c Q D b0 nL xb ka kb n (pc + 3) L st v) : hw_V p l e R s m args below meth c Q D b0 nL xb ka kb n pc L (.int x :: st) v := fun H locs ls hH hZ hS hl => lv_if_le C.1 C.2.1 hdg ht (fun z => kt z H locs ls hH hZ hS hl) (fun z => kf z H locs ls hH hZ hS hl)
theorem hq_icmp_eq (C : hw_C p s m args c D b0 cc own nL) {x y : Int32} {off : Int} {tgt : Nat} (hdg : decode cc pc = .ok (.if_icmp .eq off, 3)) (ht : (pc : Int) + off = (tgt : Int)) (kt : x = y → hw_V p l e R s m args below meth c Q D b0 nL xb ka kb n tgt L st v) (kf : ¬ x = y → hw_V p l e R s m args below meth c Q D b0 nL xb ka kb n (pc + 3) L st v) : hw_V p l e R s m args below meth c Q D b0 nL xb ka kb n pc L (.int y :: .int x :: st) v := fun H locs ls hH hZ hS hl => lv_icmp_eq C.1 C.2.1 hdg ht (fun z => kt z H locs ls hH hZ hS hl) (fun z => kf z H locs ls hH hZ hS hl)
theorem hq_icmp_ne (C : hw_C p s m args c D b0 cc own nL) {x y : Int32} {off : Int} {tgt : Nat} (hdg : decode cc pc = .ok (.if_icmp .ne off, 3)) (ht : (pc : Int) + off = (tgt : Int)) (kt : ¬ x = y → hw_V p l e R s m args below meth c Q D b0 nL xb ka kb n tgt L st v) (kf : x = y → hw_V p l e R s m args below meth c Q D b0 nL xb ka kb n (pc + 3) L st v) : hw_V p l e R s m args below meth c Q D b0 nL xb ka kb n pc L (.int y :: .int x :: st) v := fun H locs ls hH hZ hS hl => lv_icmp_ne C.1 C.2.1 hdg ht (fun z => kt z H locs ls hH hZ hS hl) (fun z => kf z H locs ls hH hZ hS hl)
theorem hq_icmp_lt (C : hw_C p s m args c D b0 cc own nL) {x y : Int32} {off : Int} {tgt : Nat} (hdg : decode cc pc = .ok (.if_icmp .lt off, 3)) (ht : (pc : Int) + off = (tgt : Int)) (kt : x < y → hw_V p l e R s m args below meth c Q D b0 nL xb ka kb n tgt L st v) (kf : ¬ x < y → hw_V p l e R s m args below meth c Q D b0 nL xb ka kb n (pc + 3) L st v) : hw_V p l e R s m args below meth c Q D b0 nL xb ka kb n pc L (.int y :: .int x :: st) v := fun H locs ls hH hZ hS hl => lv_icmp_lt C.1 C.2.1 hdg ht (fun z => kt z H locs ls hH hZ hS hl) (fun z => kf z H locs ls hH hZ hS hl)
theorem hq_icmp_ge (C : hw_C p s m args c D b0 cc own nL) {x y : Int32} {off : Int} {tgt : Nat} (hdg : decode cc pc = .ok (.if_icmp .ge off, 3)) (ht : (pc : Int) + off = (tgt : Int)) (kt : y ≤ x → hw_V p l e R s m args below meth c Q D b0 nL xb ka kb n tgt L st v) (kf : ¬ y ≤ x → hw_V p l e R s m args below meth c Q D b0 nL xb ka kb n (pc + 3) L st v) : hw_V p l e R s m args below meth c Q D b0 nL xb ka kb n pc L (.int y :: .int x :: st) v := fun H locs ls hH hZ hS hl => lv_icmp_ge C.1 C.2.1 hdg ht (fun z => kt z H locs ls hH hZ hS hl) (fun z => kf z H locs ls hH hZ hS hl)
theorem hq_icmp_gt (C : hw_C p s m args c D b0 cc own nL) {x y : Int32} {off : Int} {tgt : Nat} (hdg : decode cc pc = .ok (.if_icmp .gt off, 3)) (ht : (pc : Int) + off = (tgt : Int)) (kt : y < x → hw_V p l e R s m args below meth c Q D b0 nL xb ka kb n tgt L st v) (kf : ¬ y < x → hw_V p l e R s m args below meth c Q D b0 nL xb ka kb n (pc + 3) L st v) : hw_V p l e R s m args below meth c Q D b0 nL xb ka kb n pc L (.int y :: .int x :: st) v := fun H locs ls hH hZ hS hl => lv_icmp_gt C.1 C.2.1 hdg ht (fun z => kt z H locs ls hH hZ hS hl) (fun z => kf z H locs ls hH hZ hS hl)
theorem hq_icmp_le (C : hw_C p s m args c D b0 cc own nL) {x y : Int32} {off : Int} {tgt : Nat} (hdg : decode cc pc = .ok (.if_icmp .le off, 3)) (ht : (pc : Int) + off = (tgt : Int)) (kt : x ≤ y → hw_V p l e R s m args below meth c Q D b0 nL xb ka kb n tgt L st v) (kf : ¬ x ≤ y → hw_V p l e R s m args below meth c Q D b0 nL xb ka kb n (pc + 3) L st v) : hw_V p l e R s m args below meth c Q D b0 nL xb ka kb n pc L (.int y :: .int x :: st) v := fun H locs ls hH hZ hS hl => lv_icmp_le C.1 C.2.1 hdg ht (fun z => kt z H locs ls hH hZ hS hl) (fun z => kf z H locs ls hH hZ hS hl)
theorem hq_goto (C : hw_C p s m args c D b0 cc own nL) {off : Int} {tgt : Nat} (hdg : decode cc pc = .ok (.goto off, 3)) (ht : (pc : Int) + off = (tgt : Int)) (k : hw_V p l e R s m args below meth c Q D b0 nL xb ka kb n tgt L st v) : hw_V p l e R s m args below meth c Q D b0 nL xb ka kb n pc L st v := fun H locs ls hH hZ hS hl => lv_goto C.1 C.2.1 hdg ht (k H locs ls hH hZ hS hl)
theorem hq_tsIn (C : hw_C p s m args c D b0 cc own nL) {dflt lo hi : Int} {offs : Array Int} {len : Nat} {x : Int32} {off : Int} {tgt : Nat} (hdg : decode cc pc = .ok (.tableswitch dflt lo hi offs, len)) (h1 : ¬ x.toInt < lo) (h2 : ¬ hi < x.toInt) (ho : offs[(x.toInt - lo).toNat]? = some off) (ht : (pc : Int) + off = (tgt : Int)) (k : hw_V p l e R s m args below meth c Q D b0 nL xb ka kb n tgt L st v) : hw_V p l e R s m args below meth c Q D b0 nL xb ka kb n pc L (.int x :: st) v := fun H locs ls hH hZ hS hl => lv_tableIn C.1 C.2.1 hdg h1 h2 ho ht (k H locs ls hH hZ hS hl)
theorem hq_tsOut (C : hw_C p s m args c D b0 cc own nL) {dflt lo hi : Int} {offs : Array Int} {len : Nat} {x : Int32} {tgt : Nat} (hdg : decode cc pc = .ok (.tableswitch dflt lo hi offs, len)) (h : x.toInt < lo ∨ hi < x.toInt) (ht : (pc : Int) + dflt = (tgt : Int)) (k : hw_V p l e R s m args below meth c Q D b0 nL xb ka kb n tgt L st v) : hw_V p l e R s m args below meth c Q D b0 nL xb ka kb n pc L (.int x :: st) v := fun H locs ls hH hZ hS hl => lv_tableOut C.1 C.2.1 hdg h ht (k H locs ls hH hZ hS hl)
/-- class ci of vwCl: its words are among ours, its fields' types, their names apart -/
def hw_CF (ci : Nat) : Prop := ∃ (Cn : String) (T : u_T) (N : Nat) (ty : Nat → FieldType), vwCl[ci]? = some (Cn, T, N) ∧ (∀ w ∈ u_ws Cn T N, w ∈ hw_TB) ∧ (∀ k, k < N → parseFieldDescriptor (T k).2.2.1 = some (ty k)) ∧ ∀ a, a < N → ∀ b, b < N → a ≠ b → (T a).2.1 ≠ (T b).2.1
theorem hw_uws {Cn : String} {T : u_T} {N : Nat} (h : ∀ w ∈ u_ws Cn T N, w ∈ lw_tbl) : ∀ w ∈ u_ws Cn T N, w ∈ hw_TB := by
  intro w hw
  refine List.mem_filter.mpr ⟨h w hw, ?_⟩
  obtain ⟨k, -, rfl⟩ := List.mem_map.mp hw
  unfold u_lay
  split <;> rfl
theorem hw_cf : ∀ ci, ci < 6 → hw_CF ci := by
  intro ci h
  match ci, h with
  | 0, _ => exact ⟨_, _, _, _, rfl, hw_uws inX0, tyX0_ok, nmX0⟩
  | 1, _ => exact ⟨_, _, _, _, rfl, hw_uws inX1, tyX1_ok, nmX1⟩
  | 2, _ => exact ⟨_, _, _, _, rfl, hw_uws inX2, tyX2_ok, nmX2⟩
  | 3, _ => exact ⟨_, _, _, _, rfl, hw_uws inX3, tyX3_ok, nmX3⟩
  | 4, _ => exact ⟨_, _, _, _, rfl, hw_uws inX4, tyX4_ok, nmX4⟩
  | 5, _ => exact ⟨_, _, _, _, rfl, hw_uws inX5, tyX5_ok, nmX5⟩
set_option maxRecDepth 100000 in
theorem hw_szN0 : ∀ f, f < 52 → hw_ob f = true → (vwCl.map (fun q => q.2.2))[hw_kc f]? = some (hw_sz f) := by decide +kernel
theorem hw_szN (f : Nat) (hf : f < 52) (ho : hw_ob f = true) (Cn : String) (T : u_T) (N : Nat) (h : vwCl[hw_kc f]? = some (Cn, T, N)) : hw_sz f ≤ N := by
  have a := hw_szN0 f hf ho
  rw [List.getElem?_map, h] at a
  cases a
  exact Nat.le_refl _
/-- a field's link in the pool of a class -/
def hw_FL (own : String) (idx ci j : Nat) (ty : FieldType) (fin : Bool) : Prop := ∃ (Cn : String) (T : u_T) (N : Nat), vwCl[ci]? = some (Cn, T, N) ∧ j < N ∧ Cond.fieldLink own idx (T j).1 (T j).2.1 (T j).2.2.1 ∈ hw_TB ∧ parseFieldDescriptor (T j).2.2.1 = some ty ∧ (T j).2.2.2 = fin ∧ (fin = true → (T j).1 = own)
def hw_FR (own : String) (idx ci j : Nat) : Prop := ∃ (Cn : String) (T : u_T) (N : Nat), vwCl[ci]? = some (Cn, T, N) ∧ j < N ∧ Cond.fieldLink own idx (T j).1 (T j).2.1 (T j).2.2.1 ∈ hw_TB
theorem hq_get (C : hw_C p s m args c D b0 cc own nL) {f i j idx ci : Nat} {y : Value} (hL : hw_FR own idx ci j) (hdg : decode cc pc = .ok (.getfield idx, 3)) (ho : hw_ob f = true) (hci : hw_kc f = ci) (hj : j < hw_sz f) (hi : i < hw_cnt f) (hn : hw_pos f i < n) (hv : v f i j = y) (k : hw_V p l e R s m args below meth c Q D b0 nL xb ka kb n (pc + 3) L (y :: st) v) : hw_V p l e R s m args below meth c Q D b0 nL xb ka kb n pc L (.ref (hw_ad b0 f i) :: st) v := by
  intro H locs ls hH hZ hS hl
  subst hci
  obtain ⟨Cn, T, N, e1, e2, e3⟩ := hL
  have hlt : hw_kc f < 6 := (List.getElem?_eq_some_iff.mp e1).1
  obtain ⟨Cn', T', N', ty', g1, g2, g3, g4⟩ := hw_cf _ hlt
  cases e1.symm.trans g1
  obtain ⟨cell, q1, q2, q3, q4⟩ := (hH f i hi hn).1 ho
  obtain ⟨hSl, hfc, kC, hkC, hkind⟩ := C.2.2.2.2.2.1.1 _ _ e1
  obtain ⟨cf, kf, fi, fd, hfd, hsl⟩ := hSl j e2
  refine W.getf C.1 C.2.1 C.2.2.2.1 (C.2.2.2.2.1 _ e3) hfd (u_facts hfc hkC (u_lays C.2.2.2.2.1 g2 e2) hfd).1 q1 (by rw [q3]; exact fun h => by cases h) (v := y) ?_ rfl rfl hdg (k H locs ls hH hZ hS hl)
  rw [hsl, q4 j hj, hv]
theorem hq_put (C : hw_C p s m args c D b0 cc own nL) {f i j idx ci : Nat} {ty : FieldType} {y : Value} {v' : VF} (hL : hw_FL own idx ci j ty false) (hdg : decode cc pc = .ok (.putfield idx, 3)) (ho : hw_ob f = true) (hci : hw_kc f = ci) (hj : j < hw_sz f) (hi : i < hw_cnt f) (hn : hw_pos f i < n) (hnar : narrow ty y = y) (hfit : fits ty y = true) (hU : hw_U v f i j y v') (k : hw_V p l e R s m args below meth c Q D b0 nL xb ka kb n (pc + 3) L st v') : hw_V p l e R s m args below meth c Q D b0 nL xb ka kb n pc L (y :: .ref (hw_ad b0 f i) :: st) v := by
  intro H locs ls hH hZ hS hl
  subst hci
  obtain ⟨Cn, T, N, e1, e2, e3, e4, e5, -⟩ := hL
  have hlt : hw_kc f < 6 := (List.getElem?_eq_some_iff.mp e1).1
  obtain ⟨Cn', T', N', ty', g1, g2, g3, g4⟩ := hw_cf _ hlt
  cases e1.symm.trans g1
  have hap := va_apart (own := own) C.2.2.2.2.1 g2 ty' g3 g4 C.2.2.2.2.2.1 e1
  have hNsz : N = hw_sz f ∨ hw_sz f ≤ N := by
    rcases Nat.lt_or_ge N (hw_sz f) with z | z
    · exact absurd (hw_szN f (hw_lt hi) ho _ _ _ e1) (by omega)
    · exact Or.inr z
  obtain ⟨cell, q1, q2, q3, q4⟩ := (hH f i hi hn).1 ho
  obtain ⟨hSl, hfc, kC, hkC, hkind⟩ := C.2.2.2.2.2.1.1 _ _ e1
  obtain ⟨cf, kf, fi, fd, hfd, hsl⟩ := hSl j e2
  have hlay := C.2.2.2.2.1 _ (g2 _ (u_in_lay e2))
  unfold u_lay at hlay
  rw [if_neg (by rw [e5]; decide)] at hlay
  have hst := (u_facts hfc hkC (u_lays C.2.2.2.2.1 g2 e2) hfd).1
  have h6 := u_store hfc hkC hkind hlay hfd e4 hnar hfit
  have hsz : ∀ a b, a < hw_sz f → b < hw_sz f → a ≠ b → D.2 (hw_kc f) a ≠ D.2 (hw_kc f) b := fun a b ha hb => hap a b (by rcases hNsz with z | z <;> omega) (by rcases hNsz with z | z <;> omega)
  refine W.putK C.1 C.2.1 (f := fd) ⟨C.2.2.2.1, C.2.2.2.2.1 _ e3, ⟨_, _, _, hfd⟩, hst⟩ (by rw [q2]; exact h6) q1 q3 (by rw [hsl]; exact k2_hasslot (q4 j hj)) rfl rfl hdg fun H' a1 a2 a3 => ?_
  rw [hsl] at a1 ⊢
  exact k H' _ ls (hH.put hU hi ⟨fun _ => ⟨_, a1, q2, q3, t_set q4 hsz hj y⟩, fun z => (by rw [ho] at z; cases z)⟩ a3) (by rw [a2]; exact hZ) (hS.put a2 a3 (Nat.le_add_right _ _)) hl
set_option maxRecDepth 100000 in
theorem hw_sz31 : ∀ f, f < 52 → hw_sz f ≤ 480 := by decide +kernel
theorem hq_iald (C : hw_C p s m args c D b0 cc own nL) {f i a : Nat} {x : Int32} {y : Value} (hdg : decode cc pc = .ok (.iaload, 1)) (hkc : hw_kc f = 10) (ho : hw_ob f = false) (hx : x = nI a) (ha : a < hw_sz f) (hi : i < hw_cnt f) (hn : hw_pos f i < n) (hv : v f i a = y) (k : hw_V p l e R s m args below meth c Q D b0 nL xb ka kb n (pc + 1) L (y :: st) v) : hw_V p l e R s m args below meth c Q D b0 nL xb ka kb n pc L (.int x :: .ref (hw_ad b0 f i) :: st) v := by
  intro H locs ls hH hZ hS hl
  have h1 := (hH f i hi hn).2 ho
  rw [hkc] at h1
  have ha31 : a < 2 ^ 31 := Nat.lt_of_lt_of_le ha (Nat.le_trans (hw_sz31 f (hw_lt hi)) (by decide))
  have hcl : x.toNatClampNeg = a := by rw [hx, nI_clamp ha31]
  have hin : ¬ (x < 0 ∨ hw_sz f ≤ x.toNatClampNeg) := by
    rw [hcl, hx]
    rintro (z | z)
    · exact nI_pos ha31 z
    · omega
  exact W.iald (v := y) C.1 C.2.1 h1 ((C.2.2.2.2.2.1.2 0 _ rfl).1 _ _) (fun q => by cases q) (by rw [arrV_size]; exact hin) (by rw [hcl, arrV_read _ _ ha, hv]) rfl rfl hdg (k H locs ls hH hZ hS hl)
theorem hq_zald (C : hw_C p s m args c D b0 cc own nL) {f i a : Nat} {x : Int32} {y : Value} (hdg : decode cc pc = .ok (.baload, 1)) (hkc : hw_kc f = 12) (ho : hw_ob f = false) (hx : x = nI a) (ha : a < hw_sz f) (hi : i < hw_cnt f) (hn : hw_pos f i < n) (hv : v f i a = y) (k : hw_V p l e R s m args below meth c Q D b0 nL xb ka kb n (pc + 1) L (y :: st) v) : hw_V p l e R s m args below meth c Q D b0 nL xb ka kb n pc L (.int x :: .ref (hw_ad b0 f i) :: st) v := by
  intro H locs ls hH hZ hS hl
  have h1 := (hH f i hi hn).2 ho
  rw [hkc] at h1
  have ha31 : a < 2 ^ 31 := Nat.lt_of_lt_of_le ha (Nat.le_trans (hw_sz31 f (hw_lt hi)) (by decide))
  have hcl : x.toNatClampNeg = a := by rw [hx, nI_clamp ha31]
  have hin : ¬ (x < 0 ∨ hw_sz f ≤ x.toNatClampNeg) := by
    rw [hcl, hx]
    rintro (z | z)
    · exact nI_pos ha31 z
    · omega
  exact W.zald (v := y) C.1 C.2.1 h1 ((C.2.2.2.2.2.1.2 2 _ rfl).1 _ _) (fun q => by cases q) (by rw [arrV_size]; exact hin) (by rw [hcl, arrV_read _ _ ha, hv]) rfl rfl hdg (k H locs ls hH hZ hS hl)
theorem hq_lald (C : hw_C p s m args c D b0 cc own nL) {f i a : Nat} {x : Int32} {y : Value} (hdg : decode cc pc = .ok (.laload, 1)) (hkc : hw_kc f = 11) (ho : hw_ob f = false) (hx : x = nI a) (ha : a < hw_sz f) (hi : i < hw_cnt f) (hn : hw_pos f i < n) (hv : v f i a = y) (k : hw_V p l e R s m args below meth c Q D b0 nL xb ka kb n (pc + 1) L (y :: st) v) : hw_V p l e R s m args below meth c Q D b0 nL xb ka kb n pc L (.int x :: .ref (hw_ad b0 f i) :: st) v := by
  intro H locs ls hH hZ hS hl
  have h1 := (hH f i hi hn).2 ho
  rw [hkc] at h1
  have ha31 : a < 2 ^ 31 := Nat.lt_of_lt_of_le ha (Nat.le_trans (hw_sz31 f (hw_lt hi)) (by decide))
  have hcl : x.toNatClampNeg = a := by rw [hx, nI_clamp ha31]
  have hin : ¬ (x < 0 ∨ hw_sz f ≤ x.toNatClampNeg) := by
    rw [hcl, hx]
    rintro (z | z)
    · exact nI_pos ha31 z
    · omega
  exact W.lald (v := y) C.1 C.2.1 h1 ((C.2.2.2.2.2.1.2 1 _ rfl).1 _ _) (fun q => by cases q) (by rw [arrV_size]; exact hin) (by rw [hcl, arrV_read _ _ ha, hv]) rfl rfl hdg (k H locs ls hH hZ hS hl)
theorem hq_aaldB (C : hw_C p s m args c D b0 cc own nL) {f i a : Nat} {x : Int32} {y : Value} (hdg : decode cc pc = .ok (.aaload, 1)) (hkc : hw_kc f = 13) (ho : hw_ob f = false) (hx : x = nI a) (ha : a < hw_sz f) (hi : i < hw_cnt f) (hn : hw_pos f i < n) (hv : v f i a = y) (k : hw_V p l e R s m args below meth c Q D b0 nL xb ka kb n (pc + 1) L (y :: st) v) : hw_V p l e R s m args below meth c Q D b0 nL xb ka kb n pc L (.int x :: .ref (hw_ad b0 f i) :: st) v := by
  intro H locs ls hH hZ hS hl
  have h1 := (hH f i hi hn).2 ho
  rw [hkc] at h1
  have ha31 : a < 2 ^ 31 := Nat.lt_of_lt_of_le ha (Nat.le_trans (hw_sz31 f (hw_lt hi)) (by decide))
  have hcl : x.toNatClampNeg = a := by rw [hx, nI_clamp ha31]
  have hin : ¬ (x < 0 ∨ hw_sz f ≤ x.toNatClampNeg) := by
    rw [hcl, hx]
    rintro (z | z)
    · exact nI_pos ha31 z
    · omega
  exact W.aald (v := y) (ty := .object "HundiHall$Broker") C.1 C.2.1 h1 ((C.2.2.2.2.2.1.2 3 _ rfl).1 _ _) rfl (fun q => by cases q) (by rw [arrV_size]; exact hin) (by rw [hcl, arrV_read _ _ ha, hv]) rfl rfl hdg (k H locs ls hH hZ hS hl)
theorem hq_aaldO (C : hw_C p s m args c D b0 cc own nL) {f i a : Nat} {x : Int32} {y : Value} (hdg : decode cc pc = .ok (.aaload, 1)) (hkc : hw_kc f = 14) (ho : hw_ob f = false) (hx : x = nI a) (ha : a < hw_sz f) (hi : i < hw_cnt f) (hn : hw_pos f i < n) (hv : v f i a = y) (k : hw_V p l e R s m args below meth c Q D b0 nL xb ka kb n (pc + 1) L (y :: st) v) : hw_V p l e R s m args below meth c Q D b0 nL xb ka kb n pc L (.int x :: .ref (hw_ad b0 f i) :: st) v := by
  intro H locs ls hH hZ hS hl
  have h1 := (hH f i hi hn).2 ho
  rw [hkc] at h1
  have ha31 : a < 2 ^ 31 := Nat.lt_of_lt_of_le ha (Nat.le_trans (hw_sz31 f (hw_lt hi)) (by decide))
  have hcl : x.toNatClampNeg = a := by rw [hx, nI_clamp ha31]
  have hin : ¬ (x < 0 ∨ hw_sz f ≤ x.toNatClampNeg) := by
    rw [hcl, hx]
    rintro (z | z)
    · exact nI_pos ha31 z
    · omega
  exact W.aald (v := y) (ty := .object "HundiHall$Order") C.1 C.2.1 h1 ((C.2.2.2.2.2.1.2 4 _ rfl).1 _ _) rfl (fun q => by cases q) (by rw [arrV_size]; exact hin) (by rw [hcl, arrV_read _ _ ha, hv]) rfl rfl hdg (k H locs ls hH hZ hS hl)
theorem hq_aaldC (C : hw_C p s m args c D b0 cc own nL) {f i a : Nat} {x : Int32} {y : Value} (hdg : decode cc pc = .ok (.aaload, 1)) (hkc : hw_kc f = 15) (ho : hw_ob f = false) (hx : x = nI a) (ha : a < hw_sz f) (hi : i < hw_cnt f) (hn : hw_pos f i < n) (hv : v f i a = y) (k : hw_V p l e R s m args below meth c Q D b0 nL xb ka kb n (pc + 1) L (y :: st) v) : hw_V p l e R s m args below meth c Q D b0 nL xb ka kb n pc L (.int x :: .ref (hw_ad b0 f i) :: st) v := by
  intro H locs ls hH hZ hS hl
  have h1 := (hH f i hi hn).2 ho
  rw [hkc] at h1
  have ha31 : a < 2 ^ 31 := Nat.lt_of_lt_of_le ha (Nat.le_trans (hw_sz31 f (hw_lt hi)) (by decide))
  have hcl : x.toNatClampNeg = a := by rw [hx, nI_clamp ha31]
  have hin : ¬ (x < 0 ∨ hw_sz f ≤ x.toNatClampNeg) := by
    rw [hcl, hx]
    rintro (z | z)
    · exact nI_pos ha31 z
    · omega
  exact W.aald (v := y) (ty := .object "HundiHall$Courier") C.1 C.2.1 h1 ((C.2.2.2.2.2.1.2 5 _ rfl).1 _ _) rfl (fun q => by cases q) (by rw [arrV_size]; exact hin) (by rw [hcl, arrV_read _ _ ha, hv]) rfl rfl hdg (k H locs ls hH hZ hS hl)
theorem hq_aaldJ (C : hw_C p s m args c D b0 cc own nL) {f i a : Nat} {x : Int32} {y : Value} (hdg : decode cc pc = .ok (.aaload, 1)) (hkc : hw_kc f = 16) (ho : hw_ob f = false) (hx : x = nI a) (ha : a < hw_sz f) (hi : i < hw_cnt f) (hn : hw_pos f i < n) (hv : v f i a = y) (k : hw_V p l e R s m args below meth c Q D b0 nL xb ka kb n (pc + 1) L (y :: st) v) : hw_V p l e R s m args below meth c Q D b0 nL xb ka kb n pc L (.int x :: .ref (hw_ad b0 f i) :: st) v := by
  intro H locs ls hH hZ hS hl
  have h1 := (hH f i hi hn).2 ho
  rw [hkc] at h1
  have ha31 : a < 2 ^ 31 := Nat.lt_of_lt_of_le ha (Nat.le_trans (hw_sz31 f (hw_lt hi)) (by decide))
  have hcl : x.toNatClampNeg = a := by rw [hx, nI_clamp ha31]
  have hin : ¬ (x < 0 ∨ hw_sz f ≤ x.toNatClampNeg) := by
    rw [hcl, hx]
    rintro (z | z)
    · exact nI_pos ha31 z
    · omega
  exact W.aald (v := y) (ty := .array .long) C.1 C.2.1 h1 ((C.2.2.2.2.2.1.2 6 _ rfl).1 _ _) rfl (fun q => by cases q) (by rw [arrV_size]; exact hin) (by rw [hcl, arrV_read _ _ ha, hv]) rfl rfl hdg (k H locs ls hH hZ hS hl)
theorem hq_iast (C : hw_C p s m args c D b0 cc own nL) {f i a : Nat} {x : Int32} {y : Int32} {v' : VF} (hdg : decode cc pc = .ok (.iastore, 1)) (hkc : hw_kc f = 10) (ho : hw_ob f = false) (hx : x = nI a) (ha : a < hw_sz f) (hi : i < hw_cnt f) (hn : hw_pos f i < n) (hU : hw_U v f i a (.int y) v') (k : hw_V p l e R s m args below meth c Q D b0 nL xb ka kb n (pc + 1) L st v') : hw_V p l e R s m args below meth c Q D b0 nL xb ka kb n pc L (.int y :: .int x :: .ref (hw_ad b0 f i) :: st) v := by
  intro H locs ls hH hZ hS hl
  have h1 := (hH f i hi hn).2 ho
  rw [hkc] at h1
  have ha31 : a < 2 ^ 31 := Nat.lt_of_lt_of_le ha (Nat.le_trans (hw_sz31 f (hw_lt hi)) (by decide))
  have hcl : x.toNatClampNeg = a := by rw [hx, nI_clamp ha31]
  have hin : ¬ (x < 0 ∨ hw_sz f ≤ x.toNatClampNeg) := by
    rw [hcl, hx]
    rintro (z | z)
    · exact nI_pos ha31 z
    · omega
  refine W.iast C.1 C.2.1 h1 ((C.2.2.2.2.2.1.2 0 _ rfl).1 _ _) (fun q => by cases q) (by rw [arrV_size]; exact hin) rfl rfl hdg fun H' a1 a2 a3 => ?_
  rw [hcl] at a1 ⊢
  rw [arrV_store] at a1
  exact k H' _ ls (hH.put hU hi ⟨fun z => (by rw [ho] at z; cases z), fun _ => (by rw [hkc]; exact a1)⟩ a3) (by rw [a2]; exact hZ) (hS.put a2 a3 (Nat.le_add_right _ _)) hl
theorem hq_zast (C : hw_C p s m args c D b0 cc own nL) {f i a : Nat} {x : Int32} {y : Int32} {v' : VF} (hdg : decode cc pc = .ok (.bastore, 1)) (hkc : hw_kc f = 12) (ho : hw_ob f = false) (hx : x = nI a) (ha : a < hw_sz f) (hi : i < hw_cnt f) (hn : hw_pos f i < n) (hnar : narrow .boolean (.int y) = .int y) (hU : hw_U v f i a (.int y) v') (k : hw_V p l e R s m args below meth c Q D b0 nL xb ka kb n (pc + 1) L st v') : hw_V p l e R s m args below meth c Q D b0 nL xb ka kb n pc L (.int y :: .int x :: .ref (hw_ad b0 f i) :: st) v := by
  intro H locs ls hH hZ hS hl
  have h1 := (hH f i hi hn).2 ho
  rw [hkc] at h1
  have ha31 : a < 2 ^ 31 := Nat.lt_of_lt_of_le ha (Nat.le_trans (hw_sz31 f (hw_lt hi)) (by decide))
  have hcl : x.toNatClampNeg = a := by rw [hx, nI_clamp ha31]
  have hin : ¬ (x < 0 ∨ hw_sz f ≤ x.toNatClampNeg) := by
    rw [hcl, hx]
    rintro (z | z)
    · exact nI_pos ha31 z
    · omega
  refine W.zast C.1 C.2.1 h1 ((C.2.2.2.2.2.1.2 2 _ rfl).1 _ _) (fun q => by cases q) (by rw [arrV_size]; exact hin) rfl rfl hdg fun H' a1 a2 a3 => ?_
  rw [hcl] at a1 ⊢
  rw [hnar] at a1
  rw [arrV_store] at a1
  exact k H' _ ls (hH.put hU hi ⟨fun z => (by rw [ho] at z; cases z), fun _ => (by rw [hkc]; exact a1)⟩ a3) (by rw [a2]; exact hZ) (hS.put a2 a3 (Nat.le_add_right _ _)) hl
theorem hq_last (C : hw_C p s m args c D b0 cc own nL) {f i a : Nat} {x : Int32} {y : Int64} {v' : VF} (hdg : decode cc pc = .ok (.lastore, 1)) (hkc : hw_kc f = 11) (ho : hw_ob f = false) (hx : x = nI a) (ha : a < hw_sz f) (hi : i < hw_cnt f) (hn : hw_pos f i < n) (hU : hw_U v f i a (.long y) v') (k : hw_V p l e R s m args below meth c Q D b0 nL xb ka kb n (pc + 1) L st v') : hw_V p l e R s m args below meth c Q D b0 nL xb ka kb n pc L (.long y :: .int x :: .ref (hw_ad b0 f i) :: st) v := by
  intro H locs ls hH hZ hS hl
  have h1 := (hH f i hi hn).2 ho
  rw [hkc] at h1
  have ha31 : a < 2 ^ 31 := Nat.lt_of_lt_of_le ha (Nat.le_trans (hw_sz31 f (hw_lt hi)) (by decide))
  have hcl : x.toNatClampNeg = a := by rw [hx, nI_clamp ha31]
  have hin : ¬ (x < 0 ∨ hw_sz f ≤ x.toNatClampNeg) := by
    rw [hcl, hx]
    rintro (z | z)
    · exact nI_pos ha31 z
    · omega
  refine W.last C.1 C.2.1 h1 ((C.2.2.2.2.2.1.2 1 _ rfl).1 _ _) (fun q => by cases q) (by rw [arrV_size]; exact hin) rfl rfl hdg fun H' a1 a2 a3 => ?_
  rw [hcl] at a1 ⊢
  rw [arrV_store] at a1
  exact k H' _ ls (hH.put hU hi ⟨fun z => (by rw [ho] at z; cases z), fun _ => (by rw [hkc]; exact a1)⟩ a3) (by rw [a2]; exact hZ) (hS.put a2 a3 (Nat.le_add_right _ _)) hl
end HW
