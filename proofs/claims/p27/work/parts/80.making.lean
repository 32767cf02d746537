/-! rows that make: new objects, arrays, final fields, elements of arrays of objects -/
theorem hw_io : Cond.instanceMethod Lib.objectInit ∈ hw_TB := hw_in 54 (by decide +kernel) rfl
theorem hw_co : Cond.code Lib.objectInit ⟨#[0xb1]⟩ 1 none ∈ hw_TB := hw_in 55 (by decide +kernel) rfl
section HN
variable {p : Program} {l : Launch} {e : Env} {R : Room} {s : State} {m : MethodId} {args : Array Value} {below : List Frame} {meth : Method} {c : Code} {Q : State → Prop}
variable {D : va_G} {b0 nL : Nat} {xb xb' : Bool} {ka kb n n' : Nat} {pc : Nat} {L L' : List (Nat × Value)} {st st0 : List Value} {v v' : VF} {cc : ByteArray} {own : String}
variable {y : MethodName} {bytes : ByteArray} {maxL idx k mc ms : Nat} {ret : Option FieldType} {rm : Room} {As : List Value} {r : Option Value}
theorem hq_objInit (C : hw_C p s m args c D b0 cc own nL) {a : Nat} (hlink : Cond.methodLink own idx Lib.objectInit ∈ hw_TB) (hdg : decode cc pc = .ok (.invokespecial idx, 3)) (hf : 1 ≤ R.frames) (hlo : (st.map fun v => v.category).sum + 12 ≤ R.locals) (k : hw_V p l e R s m args below meth c Q D b0 nL xb ka kb n (pc + 3) L st v) : hw_V p l e R s m args below meth c Q D b0 nL xb ka kb n pc L (.ref a :: st) v := fun H locs ls hH hZ hS hl =>
  W.objInit C.1 C.2.1 C.2.2.2.1 (C.2.2.2.2.1 _ hlink) (C.2.2.2.2.1 _ hw_io) (C.2.2.2.2.1 _ hw_co) rfl (hl.1.trans C.2.2.1.symm) rfl hdg hf (by show 2 * 0 + (st.map fun v => v.category).sum + 12 ≤ R.locals; omega) (k H locs ls hH hZ hS hl)
/-- a cell more -/
theorem hw_more {H H1 : Heap} {locs : List Loc} {f i : Nat} (hH : hw_HP D b0 n v H) (hZ : hw_Z true b0 n H.size) (hS : va_S (fun q => b0 ≤ q) s.heap H locs) (hi : i < hw_cnt f) (hp : hw_pos f i = n) (z1 : H1.size = hw_ad b0 f i + 1) (o1 : ∀ q, q < hw_ad b0 f i → H1[q]? = H[q]?) (hc : hw_OK D f (hw_ad b0 f i) (v f i) H1) : hw_HP D b0 (n + 1) v H1 ∧ hw_Z true b0 (n + 1) H1.size ∧ va_S (fun q => b0 ≤ q) s.heap H1 locs := by
  have hz : H.size = b0 + n := hZ.2 rfl
  have ea : hw_ad b0 f i = H.size := by unfold hw_ad; omega
  rw [ea] at z1 o1
  refine ⟨fun f' i' hi' hn' => ?_, ⟨by omega, fun _ => by omega⟩, Nat.le_trans hS.1 (by omega), fun q h1 h2 => (o1 q (Nat.lt_of_lt_of_le h1 hS.1)).trans (hS.2.1 q h1 h2), hS.2.2⟩
  by_cases e : hw_pos f' i' = n
  · obtain ⟨rfl, rfl⟩ := hw_inj hi' hi (e.trans hp.symm)
    exact hc
  · exact (hH f' i' hi' (by omega)).kept (o1 _ (by unfold hw_ad; omega))
theorem hq_new (C : hw_C p s m args c D b0 cc own nL) {f i : Nat} {Cn : String} {T : u_T} {N : Nat} (ci : Nat) (hkc : hw_kc f = ci) (hci : ci < 6) (hcl : vwCl[ci]? = some (Cn, T, N)) (ho : hw_ob f = true) (hp : hw_pos f i = n) (hi : i < hw_cnt f) (hlink : Cond.classLink own idx Cn ∈ hw_TB) (hins : Cond.instantiable Cn N ∈ hw_TB) (hini : Cond.initialized Cn ∈ hw_TB) (hdg : decode cc pc = .ok (.new idx, 3))
    (hv : ∀ ty : Nat → FieldType, (∀ k, k < N → parseFieldDescriptor (T k).2.2.1 = some (ty k)) → ∀ j, j < hw_sz f → defaultValue (ty j) = v f i j) (hc : ka + 1 ≤ R.cells) (hs : kb + N ≤ R.slots) (k : hw_V p l e R s m args below meth c Q D b0 nL true (ka + 1) (kb + N) (n + 1) (pc + 3) L (.ref (hw_ad b0 f i) :: st) v) : hw_V p l e R s m args below meth c Q D b0 nL true ka kb n pc L st v := by
  intro H locs ls hH hZ hS hl
  subst hkc
  obtain ⟨Cn', T', N', ty', g1, g2, g3, g4⟩ := hw_cf _ hci
  cases hcl.symm.trans g1
  have hz : H.size = b0 + n := hZ.2 rfl
  have ea : H.size = hw_ad b0 f i := by unfold hw_ad; omega
  have hKn := C.2.2.2.2.2.1.1 _ _ hcl
  have hsz := hw_szN f (hw_lt hi) ho _ _ _ hcl
  refine W.newcK C.1 C.2.1 C.2.2.2.1 (C.2.2.2.2.1 _ hlink) (C.2.2.2.2.1 _ hins) (C.2.2.2.2.1 _ hini) rfl hdg hc hs hKn.2.1 ea fun H1 kC hkC e1 z1 o1 => ?_
  obtain ⟨cell, c1, c2, c3, c4⟩ := u_born ty' C.2.2.2.2.1 g2 hKn hkC e1 g3
  obtain ⟨h1, h2, h3⟩ := hw_more (s := s) hH hZ hS hi hp z1 o1 ⟨fun _ => ⟨cell, c1, c2, c3, fun j hj => by rw [c4 j (by omega)]; exact congrArg some (hv ty' g3 j hj)⟩, fun z => by rw [ho] at z; cases z⟩
  exact k H1 _ ls h1 h2 h3 hl
theorem hw_tyA {D : va_G} {s : State} {cA : ClassId} {atype : ArrayType} (h : va_RA s cA (newarray.typeOf atype)) : s.vm.findClass ("[" ++ (newarray.typeOf atype).toString) = some cA := by cases atype <;> exact h
theorem hq_newa (C : hw_C p s m args c D b0 cc own nL) {f i N : Nat} {x : Int32} {atype : ArrayType} (t0 : Nat) (ht : (hw_tys D)[t0]? = some (D.1 (hw_kc f), newarray.typeOf atype)) (harr : Cond.arrayClass (newarray.typeOf atype) ∈ hw_TB) (ho : hw_ob f = false) (hsz : hw_sz f = N) (hp : hw_pos f i = n) (hi : i < hw_cnt f) (hx : x = nI N) (hN : N ≤ 480) (hcb : componentBytes (newarray.typeOf atype) ≤ 8) (hdg : decode cc pc = .ok (.newarray atype, 2))
    (hv : ∀ j, j < N → defaultValue (newarray.typeOf atype) = v f i j) (hc : ka + 1 ≤ R.cells) (hs : kb + N ≤ R.slots) (k : hw_V p l e R s m args below meth c Q D b0 nL true (ka + 1) (kb + N) (n + 1) (pc + 2) L (.ref (hw_ad b0 f i) :: st) v) : hw_V p l e R s m args below meth c Q D b0 nL true ka kb n pc L (.int x :: st) v := by
  intro H locs ls hH hZ hS hl
  have hz : H.size = b0 + n := hZ.2 rfl
  have ea : H.size = hw_ad b0 f i := by unfold hw_ad; omega
  have hra := hw_tyA (D := D) (C.2.2.2.2.2.1.2 t0 _ ht).2
  have hbytes : N * componentBytes (newarray.typeOf atype) ≤ 536870912 := Nat.le_trans (Nat.mul_le_mul hN hcb) (by decide)
  refine va_newaK C.1 C.2.1 (C.2.2.2.2.1 _ harr) rfl hdg rfl (by rw [hx]; exact nI_pos (by omega)) (by rw [hx]; exact nI_clamp (by omega)) hbytes hc hs ea fun H1 cA e1 z1 o1 hAr hNm => ?_
  cases hra.symm.trans hNm
  obtain ⟨h1, h2, h3⟩ := hw_more (s := s) hH hZ hS hi hp z1 o1 ⟨fun z => (by rw [ho] at z; cases z), fun _ => (by rw [e1, hsz]; exact congrArg some (hw_arrV hv))⟩
  exact k H1 _ ls h1 h2 h3 hl
theorem hq_anew (C : hw_C p s m args c D b0 cc own nL) {f i N : Nat} {x : Int32} {Cn : String} (t0 : Nat) (ht : (hw_tys D)[t0]? = some (D.1 (hw_kc f), .object Cn)) (hlink : Cond.classLink own idx Cn ∈ hw_TB) (hover : va_AO Cn s) (ho : hw_ob f = false) (hsz : hw_sz f = N) (hp : hw_pos f i = n) (hi : i < hw_cnt f) (hx : x = nI N) (hN : N ≤ 480) (hdg : decode cc pc = .ok (.anewarray idx, 3))
    (hv : ∀ j, j < N → Value.null = v f i j) (hc : ka + 1 ≤ R.cells) (hs : kb + N ≤ R.slots) (k : hw_V p l e R s m args below meth c Q D b0 nL true (ka + 1) (kb + N) (n + 1) (pc + 3) L (.ref (hw_ad b0 f i) :: st) v) : hw_V p l e R s m args below meth c Q D b0 nL true ka kb n pc L (.int x :: st) v := by
  intro H locs ls hH hZ hS hl
  have hz : H.size = b0 + n := hZ.2 rfl
  have ea : H.size = hw_ad b0 f i := by unfold hw_ad; omega
  obtain ⟨kA, comp, r1, r2, r3, r4⟩ := (C.2.2.2.2.2.1.2 t0 _ ht).2
  have hcl : x.toNatClampNeg = N := by rw [hx]; exact nI_clamp (by omega)
  refine W.anew C.1 C.2.1 C.2.2.2.1 (C.2.2.2.2.1 _ hlink) (va_AO.use hover) rfl hdg rfl (by rw [hx]; exact nI_pos (by omega)) (by rw [hcl]; omega) hc (by rw [hcl]; exact hs) fun cA kA' comp' f1 f2 f3 f4 => ?_
  cases r4.symm.trans f1
  rw [hcl, ea]
  generalize hH1 : H.push ({ cls := D.1 (hw_kc f), slots := Array.replicate N .null, vm := .none } : Cell) = H1
  have z1 : H1.size = hw_ad b0 f i + 1 := by rw [← hH1, Array.size_push, ea]
  have e1 : H1[hw_ad b0 f i]? = some (arrV (D.1 (hw_kc f)) N (fun _ => .null)) := by rw [← hH1, ← ea, Array.getElem?_push_size, ← arrV_new]
  have o1 : ∀ q : Nat, q < hw_ad b0 f i → H1[q]? = H[q]? := fun q hq => by rw [← hH1, Array.getElem?_push, if_neg (by omega)]
  obtain ⟨h1, h2, h3⟩ := hw_more (s := s) hH hZ hS hi hp z1 o1 ⟨fun z => (by rw [ho] at z; cases z), fun _ => (by rw [e1, hsz]; exact congrArg some (hw_arrV hv))⟩
  exact k H1 _ ls h1 h2 h3 hl
theorem hq_putF (C : hw_C p s m args c D b0 cc own nL) {f i j ci : Nat} {ty : FieldType} {z : Value} {v' : VF} (hL : hw_FL own idx ci j ty true) (hin2 : meth.name = "<init>") (hdg : decode cc pc = .ok (.putfield idx, 3)) (ho : hw_ob f = true) (hci : hw_kc f = ci) (hj : j < hw_sz f) (hi : i < hw_cnt f) (hn : hw_pos f i < n) (hnar : narrow ty z = z) (hfit : fits ty z = true) (hU : hw_U v f i j z v') (k : hw_V p l e R s m args below meth c Q D b0 nL xb ka kb n (pc + 3) L st v') : hw_V p l e R s m args below meth c Q D b0 nL xb ka kb n pc L (z :: .ref (hw_ad b0 f i) :: st) v := by
  intro H locs ls hH hZ hS hl
  subst hci
  obtain ⟨Cn, T, N, e1, e2, e3, e4, e5, e6⟩ := hL
  have hlt : hw_kc f < 6 := (List.getElem?_eq_some_iff.mp e1).1
  obtain ⟨Cn', T', N', ty', g1, g2, g3, g4⟩ := hw_cf _ hlt
  cases e1.symm.trans g1
  have hap := va_apart (own := own) C.2.2.2.2.1 g2 ty' g3 g4 C.2.2.2.2.2.1 e1
  have hNsz := hw_szN f (hw_lt hi) ho _ _ _ e1
  obtain ⟨cell, q1, q2, q3, q4⟩ := (hH f i hi hn).1 ho
  obtain ⟨hSl, hfc, kC, hkC, hkind⟩ := C.2.2.2.2.2.1.1 _ _ e1
  obtain ⟨cf, kf, fi, fd, hfd, hsl⟩ := hSl j e2
  have hlay := C.2.2.2.2.1 _ (g2 _ (u_in_lay e2))
  unfold u_lay at hlay
  rw [if_pos e5] at hlay
  have hst := (u_facts hfc hkC (u_lays C.2.2.2.2.1 g2 e2) hfd).1
  have hcf : m.cls = cf := by
    obtain ⟨_, _, c', _, _, _, -, -, hf', -, -, -, hown2, -⟩ := Cond.laysFinal_spec hlay
    have e1' : c' = cf := by have := hfd.symm.trans hf'; simp at this; exact this.1.symm
    rw [e6 rfl] at hown2
    rw [← e1']; exact Option.some.inj (C.2.2.2.1.symm.trans hown2)
  have h6 := u_fits hfc hkC hkind (Or.inr hlay) hfd e4 hnar hfit
  have hsz : ∀ a b, a < hw_sz f → b < hw_sz f → a ≠ b → D.2 (hw_kc f) a ≠ D.2 (hw_kc f) b := fun a b ha hb => hap a b (by omega) (by omega)
  refine W.putFinK C.1 C.2.1 C.2.2.2.1 (C.2.2.2.2.1 _ e3) hfd hst hcf hin2 (by rw [q2]; exact h6) q1 q3 (by rw [hsl]; exact k2_hasslot (q4 j hj)) rfl rfl hdg fun H' a1 a2 a3 => ?_
  rw [hsl] at a1 ⊢
  exact k H' _ ls (hH.put hU hi ⟨fun _ => ⟨_, a1, q2, q3, t_set q4 hsz hj z⟩, fun z => (by rw [ho] at z; cases z)⟩ a3) (by rw [a2]; exact hZ) (hS.put a2 a3 (Nat.le_add_right _ _)) hl
theorem hq_aast (C : hw_C p s m args c D b0 cc own nL) {f i a f2 i2 ci : Nat} {x : Int32} {q : vw_C} {v' : VF} (t0 : Nat) (ht : (hw_tys D)[t0]? = some (D.1 (hw_kc f), .object q.1)) (hcl : vwCl[ci]? = some q) (hdg : decode cc pc = .ok (.aastore, 1)) (ho : hw_ob f = false) (hx : x = nI a) (ha : a < hw_sz f) (ha2 : a < 2 ^ 31) (hi : i < hw_cnt f) (hn : hw_pos f i < n) (ho2 : hw_ob f2 = true) (hci : hw_kc f2 = ci) (hi2 : i2 < hw_cnt f2) (hn2 : hw_pos f2 i2 < n) (hU : hw_U v f i a (.ref (hw_ad b0 f2 i2)) v') (k : hw_V p l e R s m args below meth c Q D b0 nL xb ka kb n (pc + 1) L st v') : hw_V p l e R s m args below meth c Q D b0 nL xb ka kb n pc L (.ref (hw_ad b0 f2 i2) :: .int x :: .ref (hw_ad b0 f i) :: st) v := by
  intro H locs ls hH hZ hS hl
  subst hci
  have hA := (hH f i hi hn).2 ho
  obtain ⟨cellV, g1, g2, g3, -⟩ := (hH f2 i2 hi2 hn2).1 ho2
  have hcls := (C.2.2.2.2.2.1.1 _ _ hcl).2
  obtain ⟨kA, comp, k1, k2, k3, -⟩ := (C.2.2.2.2.2.1.2 t0 _ ht).2
  have hcomp : comp = D.1 (hw_kc f2) := Option.some.inj (k3.symm.trans hcls.1)
  subst hcomp
  obtain ⟨kC, hkC, -⟩ := hcls.2
  have hxa : x.toNatClampNeg = a := by rw [hx]; exact nI_clamp ha2
  refine W.aast C.1 C.2.1 hA (fun q h => by cases h) (fun h => by cases h) k1 k2 rfl hkC ⟨by rw [hx]; exact nI_pos ha2, by show _ < (arrV _ _ _).slots.size; rw [arrV_size, hxa]; exact ha⟩ g1 (fun q h => by rw [g3] at h; cases h) (by rw [g2]; exact hkC) (by rw [g2]; exact va_assign hcls) rfl rfl hdg fun H1 e1 z1 oq => ?_
  refine k H1 _ ls (hH.put hU hi ⟨fun z => (by rw [ho] at z; cases z), fun _ => ?_⟩ oq) (by rw [z1]; exact hZ) (hS.put z1 oq (Nat.le_add_right _ _)) hl
  rw [e1, hxa, arrV_store]
/-! constructors that only nest mates may call -/
theorem hq_callIN (C : hw_C p s m args c D b0 cc own nL) {b : Nat} {host : String} (hM : hw_M l y bytes maxL none rm D b0 xb n (.ref b :: As) v xb' n' none v' mc ms) (hw : hw_WI y (Cond.code y bytes maxL none) k) (hl9 : va_Nw (.methodLinkNest own idx y host) s)
    (hlen : As.length = k) (hst : st0 = As.reverse ++ .ref b :: st) (hrc : rm.cells = mc) (hrs : rm.slots = ms) (hR : rm.frames + 1 ≤ R.frames ∧ 8 + (maxL + 11) + rm.locals ≤ R.locals) (hroom : (st.map fun v => v.category).sum ≤ 8) (hf : ka + mc ≤ R.cells ∧ kb + ms ≤ R.slots) (hdg : decode cc pc = .ok (.invokespecial idx, 3))
    (kk : hw_V p l e R s m args below meth c Q D b0 nL xb' (ka + mc) (kb + ms) n' (pc + 3) L st v') : hw_V p l e R s m args below meth c Q D b0 nL xb ka kb n pc L st0 v := by
  intro H locs ls hH hZ hS hl
  have ht := C.2.2.2.2.1
  refine hw_after (va_runIN (Ts := hw_TB) ⟨C.1, C.2.1, C.2.2.1, C.2.2.2.1, C.2.2.2.2.1⟩ hM ⟨va_cnB k ht (hw_goodC hw.1.1) rfl hrc hrs hl9 (ht _ hw.1.2.2) hw.2.2 hR, hw.2.1, ht _ hw.1.2.1⟩ ⟨hw_blind, fun U hU hW => ⟨rfl, hw_next C hU hW hH hZ hS⟩⟩ rfl hlen hl.1 hst (lv_room hroom) hdg hf) hS hl kk
end HN
/-! contracts that ask one thing more of the world -/
def hw_Mz (Z : State → Prop) (l : Launch) (y : MethodName) (bytes : ByteArray) (maxL : Nat) (rm : Room) (D : va_G) (b0 : Nat) (n : Nat) (av : List Value) (v : VF) (n' : Nat) (v' : VF) (mc ms : Nat) : Prop :=
  Met l y (Cond.code y bytes maxL none :: hw_TB) rm (va_Pc av (fun U => hw_PW D b0 true n v U ∧ Z U)) (hw_Q D b0 true n' none v') mc ms (fun q => b0 ≤ q)
def hw_Zw (Z : State → Prop) : Prop := ∀ s U : State, s.WarmedH U.vm → Z s → Z U
section HNZ
variable {p : Program} {l : Launch} {e : Env} {R : Room} {s : State} {m : MethodId} {args : Array Value} {below : List Frame} {meth : Method} {c : Code} {Q : State → Prop}
variable {D : va_G} {b0 nL : Nat} {ka kb n n' : Nat} {pc : Nat} {L L' : List (Nat × Value)} {st st0 : List Value} {v v' : VF} {cc : ByteArray} {own : String}
variable {y : MethodName} {bytes : ByteArray} {maxL idx k mc ms : Nat} {rm : Room} {As : List Value} {Z : State → Prop}
theorem hw_blindZ (hz : hw_Zw Z) {av : List Value} : FrameBlind (va_Pc av (fun U => hw_PW D b0 true n v U ∧ Z U)) := by
  intro a U g mk h
  obtain ⟨h0, h1, h2⟩ := h
  exact ⟨h0, (hw_blind a U g mk ⟨h0, h1⟩).2, hz U (U.calling g mk a) (State.WarmedH.refl U) h2⟩
theorem hq_callINz (C : hw_C p s m args c D b0 cc own nL) (hz : hw_Zw Z) (hZs : Z s) {b : Nat} {host : String} (hM : hw_Mz Z l y bytes maxL rm D b0 n (.ref b :: As) v n' v' mc ms) (hw : hw_WI y (Cond.code y bytes maxL none) k) (hl9 : va_Nw (.methodLinkNest own idx y host) s)
    (hlen : As.length = k) (hst : st0 = As.reverse ++ .ref b :: st) (hrc : rm.cells = mc) (hrs : rm.slots = ms) (hR : rm.frames + 1 ≤ R.frames ∧ 8 + (maxL + 11) + rm.locals ≤ R.locals) (hroom : (st.map fun v => v.category).sum ≤ 8) (hf : ka + mc ≤ R.cells ∧ kb + ms ≤ R.slots) (hdg : decode cc pc = .ok (.invokespecial idx, 3))
    (kk : hw_V p l e R s m args below meth c Q D b0 nL true (ka + mc) (kb + ms) n' (pc + 3) L st v') : hw_V p l e R s m args below meth c Q D b0 nL true ka kb n pc L st0 v := by
  intro H locs ls hH hZ hS hl
  have ht := C.2.2.2.2.1
  refine hw_after (va_runIN (Ts := hw_TB) ⟨C.1, C.2.1, C.2.2.1, C.2.2.2.1, C.2.2.2.2.1⟩ hM ⟨va_cnB k ht (hw_goodC hw.1.1) rfl hrc hrs hl9 (ht _ hw.1.2.2) hw.2.2 hR, hw.2.1, ht _ hw.1.2.1⟩ ⟨hw_blindZ hz, fun U hU hW => ⟨rfl, hw_next C hU hW hH hZ hS, hz s U hW hZs⟩⟩ rfl hlen hl.1 hst (lv_room hroom) hdg hf) hS hl kk
theorem hq_callIz (C : hw_C p s m args c D b0 cc own nL) (hz : hw_Zw Z) (hZs : Z s) {b : Nat} (hM : hw_Mz Z l y bytes maxL rm D b0 n (.ref b :: As) v n' v' mc ms) (hw : hw_WI y (Cond.code y bytes maxL none) k) (hl9 : Cond.methodLink own idx y ∈ hw_TB)
    (hlen : As.length = k) (hst : st0 = As.reverse ++ .ref b :: st) (hrc : rm.cells = mc) (hrs : rm.slots = ms) (hR : rm.frames + 1 ≤ R.frames ∧ 8 + (maxL + 11) + rm.locals ≤ R.locals) (hroom : (st.map fun v => v.category).sum ≤ 8) (hf : ka + mc ≤ R.cells ∧ kb + ms ≤ R.slots) (hdg : decode cc pc = .ok (.invokespecial idx, 3))
    (kk : hw_V p l e R s m args below meth c Q D b0 nL true (ka + mc) (kb + ms) n' (pc + 3) L st v') : hw_V p l e R s m args below meth c Q D b0 nL true ka kb n pc L st0 v := by
  intro H locs ls hH hZ hS hl
  have ht := C.2.2.2.2.1
  refine hw_after (va_runI (Ts := hw_TB) ⟨C.1, C.2.1, C.2.2.1, C.2.2.2.1, C.2.2.2.2.1⟩ hM (cwI k ht (hw_goodC hw.1.1) rfl hrc hrs (ht _ hw.1.2.2) (ht _ hl9) (ht _ hw.1.2.1) hw.2.1 hw.2.2 hR) ⟨hw_blindZ hz, fun U hU hW => ⟨rfl, hw_next C hU hW hH hZ hS, hz s U hW hZs⟩⟩ rfl hlen hl.1 hst (lv_room hroom) hdg hf) hS hl kk
theorem hw_Mzof {av : List Value} (hy : plainName y.cls = true) (Ls : List (Nat × Value)) (hLs : lv_args 0 av = Ls) (hml : (lg_sl av).length ≤ maxL)
    (body : ∀ (p : Program) (e : Env) (s : State) (m : MethodId) (args : Array Value) (below : List Frame) (meth : Method) (c : Code), hw_C p s m args c D b0 bytes y.cls maxL → meth.sig.returnType = none → meth.locks = false → meth.name = y.name → Z s →
      hw_V p l e rm s m args below meth c (MQ below (hw_Q D b0 true n' none v') args s mc ms (fun q => b0 ≤ q)) D b0 maxL true 0 0 n 0 Ls [] v) : hw_Mz Z l y bytes maxL rm D b0 n av v n' v' mc ms := by
  refine Met.ofW (cc := bytes) (maxL := maxL) (ret := none) hy rfl ?_
  intro p e s m args below meth c s₁ B hml9 hv9
  obtain ⟨rfl, ⟨h1, h2, h3, h4, h5, h6⟩, h7⟩ := hv9
  have hts := atoms_spec (ws := Cond.code y bytes maxL none :: hw_TB) B.pre
  have C : hw_C p s m av.toArray c D b0 bytes y.cls maxL := ⟨B.exec, B.bytes, hml9, findClass_of_methodNamed B.named, fun w hw => hts w (List.mem_cons_of_mem _ hw), h1, h2, h3, h4, Nat.le_trans (Nat.le_add_right _ _) h6.1⟩
  rw [lg_entry_eq]
  have hl := lv_entry av (n := maxL) hml
  rw [hLs] at hl
  exact body p e s m av.toArray below meth c C B.returns B.notSynchronized (name_of_methodNamed B.named B.method).1 h7 s.heap [] _ h5 h6 va_S.rf hl
end HNZ
