/-! 'throw new E("text")' -/
def hw_NM : List String := ["java/lang/RuntimeException", "java/lang/Exception"]
def hw_B (cls : String) : List Cond := [.declares (Bundle.initS "java/lang/RuntimeException"), .declares (Bundle.initS "java/lang/Exception"), .declares (Bundle.initS "java/lang/Throwable"), .castable cls cls]
def hw_TH (own : String) (ik ic : Nat) (cls : String) : Prop := Bundle.fit cls = true ∧ Cond.classLink own ik cls ∈ hw_TB ∧ Cond.initialized cls ∈ hw_TB ∧ (∀ w ∈ (vx_atS own ic cls hw_NM).filter goodWord, w ∈ lw_tbl) ∧ (∀ w ∈ (vx_atS own ic cls hw_NM).filter (fun w => !goodWord w), w ∈ hw_B cls) ∧ (∀ w ∈ Cond.classLink own ik cls :: Cond.initialized cls :: vx_atS own ic cls hw_NM, vx_ot w = true)
section HH
variable {p : Program} {l : Launch} {e : Env} {R : Room} {s : State} {m : MethodId} {args : Array Value} {below : List Frame} {meth : Method} {c : Code}
variable {D : va_G} {b0 nL : Nat} {ka kb n : Nat} {pc : Nat} {L : List (Nat × Value)} {v v0 : VF} {cc : ByteArray} {own : String} {mc ms : Nat} {ex : Option String} {Qc : Array Value → State → Outcome → State → Prop}
theorem hw_hat (C : hw_C p s m args c D b0 cc own nL) {ik ic : Nat} {cls : String} (h : hw_TH own ik ic cls) (hc : va_Nw (.castable cls cls) s) : ∀ w ∈ vx_atS own ic cls hw_NM, w.before args s = true := by
  obtain ⟨-, -, -, h4, h5, -⟩ := h
  have hX := C.2.2.2.2.2.2.1.1
  refine vx_hat (fun w hw => C.2.2.2.2.1 w (List.mem_filter.mpr ⟨h4 w hw, (List.mem_filter.mp hw).2⟩)) h5 ?_
  exact vx_c (va_Nw.use rfl hX.1) (vx_c (va_Nw.use rfl hX.2.1) (vx_c (va_Nw.use rfl hX.2.2) (vx_c (va_Nw.use rfl hc) vx_n)))
theorem hw_thx {t : State} {H : Heap} {locs : List Loc} {cls : String} (he : ex = some cls) (hH : hw_HP D b0 n v H) (hZ : hw_Z false b0 n H.size) (hS : va_S (fun q => b0 ≤ q) s.heap H locs) (h1 : H.size ≤ t.heap.size) (h2 : ∀ q : Nat, q < H.size → t.heap[q]? = H[q]?) : hw_XC D b0 n ex v cls s t :=
  ⟨he, hH.kept (fun q _ hq => h2 q (Nat.lt_of_lt_of_le hq hZ.1)), ⟨Nat.le_trans hZ.1 h1, fun z => by cases z⟩, Nat.le_trans hS.1 h1, fun q a b => (h2 q (Nat.lt_of_lt_of_le a hS.1)).trans (hS.2.1 q a b)⟩
theorem hq_throw (C : hw_C p s m args c D b0 cc own nL) {ik is ic : Nat} {cls text : String} (hlt : l.stackTraces = false) (ht : ∀ x ∈ c.exceptionTable.toList, False) (hlk : meth.locks = false) (h : hw_TH own ik ic cls) (hc : va_Nw (.castable cls cls) s) (hs9 : ∃ a, vk_R own is text a s)
    (d0 : decode cc pc = .ok (.new ik, 3)) (d3 : decode cc (pc + 3) = .ok (.dup, 1)) (d4 : decode cc (pc + 4) = .ok (.ldc is, 2)) (d6 : decode cc (pc + 6) = .ok (.invokespecial ic, 3)) (d9 : decode cc (pc + 9) = .ok (.athrow, 1))
    (hR : 5 < R.frames ∧ 82 ≤ R.locals) (hk : ka + 1 ≤ R.cells ∧ kb + 6 ≤ R.slots) (hm : ka + 1 ≤ mc ∧ kb + 6 ≤ ms) (he : ex = some cls) (hv : v = v0) : hw_V p l e R s m args below meth c (vx_MQ below Qc (hw_XC D b0 n ex v0) args s mc ms (fun q => b0 ≤ q)) D b0 nL false ka kb n pc L [] v := by
  intro H locs ls hH hZ hS hl
  subst hv
  obtain ⟨sa, hstr⟩ := hs9
  refine vx_throwS (names := hw_NM) (A := fun q => b0 ≤ q) C.1 C.2.1 hlt C.2.2.2.1 h.1 (by decide +kernel) (C.2.2.2.2.1 _ h.2.1) (C.2.2.2.2.1 _ h.2.2.1) hstr (hw_hat C h hc) h.2.2.2.2.2 C.2.2.2.2.2.2.2.1 C.2.2.2.2.2.2.2.2.1 hS (hl.1.trans C.2.2.1.symm) d0 d3 d4 d6 d9 (fun x hx => (ht x hx).elim) hR.1 ?_ hk.1 hk.2 hlk (fun t _ h1 h2 => hw_thx he hH hZ hS h1 h2) hS.2.2 hm.1 hm.2
  exact hR.2
theorem hq_throwW (C : hw_C p s m args c D b0 cc own nL) {ik is ic : Nat} {cls text : String} (hlt : l.stackTraces = false) (ht : ∀ x ∈ c.exceptionTable.toList, False) (hlk : meth.locks = false) (h : hw_TH own ik ic cls) (hc : va_Nw (.castable cls cls) s) (hs9 : ∃ a, vk_R own is text a s)
    (d0 : decode cc pc = .ok (.new ik, 3)) (d3 : decode cc (pc + 3) = .ok (.dup, 1)) (d4 : decode cc (pc + 4) = .ok (.ldc_w is, 3)) (d6 : decode cc (pc + 7) = .ok (.invokespecial ic, 3)) (d9 : decode cc (pc + 10) = .ok (.athrow, 1))
    (hR : 5 < R.frames ∧ 82 ≤ R.locals) (hk : ka + 1 ≤ R.cells ∧ kb + 6 ≤ R.slots) (hm : ka + 1 ≤ mc ∧ kb + 6 ≤ ms) (he : ex = some cls) (hv : v = v0) : hw_V p l e R s m args below meth c (vx_MQ below Qc (hw_XC D b0 n ex v0) args s mc ms (fun q => b0 ≤ q)) D b0 nL false ka kb n pc L [] v := by
  intro H locs ls hH hZ hS hl
  subst hv
  obtain ⟨sa, hstr⟩ := hs9
  refine vx_throwSW (names := hw_NM) (A := fun q => b0 ≤ q) C.1 C.2.1 hlt C.2.2.2.1 h.1 (by decide +kernel) (C.2.2.2.2.1 _ h.2.1) (C.2.2.2.2.1 _ h.2.2.1) hstr (hw_hat C h hc) h.2.2.2.2.2 C.2.2.2.2.2.2.2.1 C.2.2.2.2.2.2.2.2.1 hS (hl.1.trans C.2.2.1.symm) d0 d3 d4 d6 d9 (fun x hx => (ht x hx).elim) hR.1 ?_ hk.1 hk.2 hlk (fun t _ h1 h2 => hw_thx he hH hZ hS h1 h2) hS.2.2 hm.1 hm.2
  exact hR.2
end HH
theorem th_I : hw_TH RX5 246 250 "java/lang/IndexOutOfBoundsException" := ⟨by decide +kernel, hw_in 394 (by decide +kernel) rfl, hw_in 45 (by decide +kernel) rfl, by decide +kernel, by decide +kernel, by decide +kernel⟩
theorem th_A : hw_TH RX5 255 259 "java/lang/IllegalArgumentException" := ⟨by decide +kernel, hw_in 279 (by decide +kernel) rfl, hw_in 44 (by decide +kernel) rfl, by decide +kernel, by decide +kernel, by decide +kernel⟩
theorem th_S : hw_TH RX5 260 264 "java/lang/IllegalStateException" := ⟨by decide +kernel, hw_in 413 (by decide +kernel) rfl, hw_in 46 (by decide +kernel) rfl, by decide +kernel, by decide +kernel, by decide +kernel⟩
