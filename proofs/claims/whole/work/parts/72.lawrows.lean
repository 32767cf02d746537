/-! the law's own rows: the script, the calls, the comparisons -/
/-- the script of L9 ints xs at b, ahead of all that is made -/
def lwX (s : State) (b0 b L9 : Nat) (xs : Nat → Int32) : Prop := va_X b L9 xs s s.heap ∧ b < s.heap.size ∧ ¬ b0 ≤ b ∧ L9 ≤ 3072
abbrev lL (b0 b i : Nat) : List (Nat × Value) := [(0, .ref b), (1, .ref (hw_ad b0 0 0)), (2, .ref (hw_ad b0 26 0)), (3, .ref (hw_ad b0 59 0)), (4, .int (nI i))]
def gA (pc : Nat) (j : Int) : Prop := decode code pc = .ok (.aload_n 0, 1) ∧ decode code (pc + 1) = .ok (.iload 4, 2) ∧ decode code (pc + 3) = .ok (.iconst j, 1) ∧ decode code (pc + 4) = .ok (.iadd, 1) ∧ decode code (pc + 5) = .ok (.iaload, 1)
def gB (pc : Nat) : Prop := decode code pc = .ok (.ifCond .eq 7, 3) ∧ decode code (pc + 3) = .ok (.iconst 1, 1) ∧ decode code (pc + 4) = .ok (.goto 4, 3) ∧ decode code (pc + 7) = .ok (.iconst 0, 1)
def gT (pc : Nat) : Prop := decode code pc = .ok (.aload_n 2, 1) ∧ decode code (pc + 1) = .ok (.invokevirtual 99, 3) ∧ decode code (pc + 4) = .ok (.iload 5, 2) ∧ decode code (pc + 6) = .ok (.if_icmp .eq 5, 3)
def gI (pc : Nat) (off : Int) : Prop := (decode code pc = .ok (.iload 5, 2) ∧ decode code (pc + 2) = .ok (.ifCond .ne 15, 3) ∧ decode code (pc + 5) = .ok (.aload_n 3, 1) ∧ decode code (pc + 6) = .ok (.iconst 0, 1) ∧ decode code (pc + 7) = .ok (.laload, 1)) ∧ (decode code (pc + 8) = .ok (.iload 6, 2) ∧ decode code (pc + 10) = .ok (.i2l, 1) ∧ decode code (pc + 11) = .ok (.lcmp, 1) ∧ decode code (pc + 12) = .ok (.ifCond .eq 5, 3) ∧ decode code (pc + 17) = .ok (.goto off, 3))
def gL (pc : Nat) (off : Int) : Prop := (decode code pc = .ok (.iload 5, 2) ∧ decode code (pc + 2) = .ok (.ifCond .ne 14, 3) ∧ decode code (pc + 5) = .ok (.aload_n 3, 1) ∧ decode code (pc + 6) = .ok (.iconst 0, 1) ∧ decode code (pc + 7) = .ok (.laload, 1)) ∧ (decode code (pc + 8) = .ok (.lload 6, 2) ∧ decode code (pc + 10) = .ok (.lcmp, 1) ∧ decode code (pc + 11) = .ok (.ifCond .eq 5, 3) ∧ decode code (pc + 16) = .ok (.goto off, 3))
def gZ (pc : Nat) (off : Int) : Prop := (decode code pc = .ok (.iload 5, 2) ∧ decode code (pc + 2) = .ok (.ifCond .ne 22, 3) ∧ decode code (pc + 5) = .ok (.aload_n 3, 1) ∧ decode code (pc + 6) = .ok (.iconst 0, 1) ∧ decode code (pc + 7) = .ok (.laload, 1)) ∧ (decode code (pc + 8) = .ok (.iload 6, 2) ∧ decode code (pc + 10) = .ok (.ifCond .eq 7, 3) ∧ decode code (pc + 13) = .ok (.lconst 1, 1) ∧ decode code (pc + 14) = .ok (.goto 4, 3) ∧ decode code (pc + 17) = .ok (.lconst 0, 1)) ∧ (decode code (pc + 18) = .ok (.lcmp, 1) ∧ decode code (pc + 19) = .ok (.ifCond .eq 5, 3) ∧ decode code (pc + 24) = .ok (.goto off, 3))
section LW
variable {p : Program} {l : Launch} {e : Env} {s : State} {m : MethodId} {args : Array Value} {below : List Frame} {meth : Method} {c : Code} {Q : State → Prop} {D : va_G} {b0 b L9 ka kb pc : Nat} {xs : Nat → Int32} {L : List (Nat × Value)} {st : List Value} {v : VF} {I : MI} {J : MJ} {P : MI} {N : MJ} {o : Int64} {q0 q2 q3 q4 q5 q6 : Nat} {e9 : Int32}
theorem lw_arg (C : hw_C p s m args c D b0 code RL 8) (X : lwX s b0 b L9 xs) {i j : Nat} {w : Int} (hj : Int32.ofInt w = nI j) (d : gA pc w) (h0 : L[q0]? = some (0, .ref b)) (h4 : L[q4]? = some (4, .int (nI i))) (hi : i + j < L9) (k : hw_V p l e room_1 s m args below meth c Q D b0 8 false ka kb 271 (pc + 6) L (.int (xs (i + j)) :: st) v) : hw_V p l e room_1 s m args below meth c Q D b0 8 false ka kb 271 pc L st v := by
  obtain ⟨hX, hbl, hbA, hL⟩ := X
  refine hq_aload_n (q := q0) C d.1 rfl h0 ?_
  refine hq_iload (q := q4) C d.2.1 h4 ?_
  refine hq_iconst (y := nI j) C d.2.2.1 hj ?_
  refine hq_iadd C d.2.2.2.1 ?_
  rw [nI_add]
  intro H locs ls hH hZ hS hl
  refine va_sld C.1 C.2.1 hX hbl hbA hS (vp_in_nI hi (by omega)) d.2.2.2.2 ?_
  rw [nI_clamp (by omega)]
  exact k H locs ls hH hZ hS hl
/-- an int of the script as a truth -/
theorem lw_bool (C : hw_C p s m args c D b0 code RL 8) {x : Int32} (d : gB pc) (k : ∀ w : Int32, hw_bo w → w = (if x = 0 then 0 else 1) → hw_V p l e room_1 s m args below meth c Q D b0 8 false ka kb 271 (pc + 8) L (.int w :: st) v) : hw_V p l e room_1 s m args below meth c Q D b0 8 false ka kb 271 pc L (.int x :: st) v := by
  refine hq_if_eq (tgt := pc + 7) C d.1 (by omega) (fun z => ?_) (fun z => ?_)
  · refine hq_iconst (y := 0) C d.2.2.2 (by decide) ?_
    exact k 0 (Or.inl rfl) (if_pos z).symm
  · refine hq_iconst (y := 1) C d.2.1 (by decide) ?_
    refine hq_goto (tgt := pc + 8) C d.2.2.1 (by omega) ?_
    exact k 1 (Or.inr rfl) (if_neg z).symm
theorem lw_call (C : hw_C p s m args c D b0 code RL 8) {y : MethodName} {bytes : ByteArray} {maxL idx k9 : Nat} {rm : Room} {hh : List (Nat × Nat × Nat × Nat)} {As st0 : List Value} {I' : MI} {J' : MJ} {o' : Int64} {r : Int32} (hM : hL l y (Cond.codeWith y bytes maxL (some .int) hh) rm D b0 As I J P N o r I' J' o') (hw : hw_WS y (Cond.codeWith y bytes maxL (some .int) hh) k9) (hl9 : Cond.methodLink RL idx y ∈ hw_TB) (hlen : As.length = k9) (hst : st0 = As.reverse ++ st) (hR : rm.frames + 1 ≤ 12 ∧ 8 + (maxL + 11) + rm.locals ≤ 442) (hroom : (st.map fun v => v.category).sum ≤ 8) (hrm : rm.cells ≤ 9 ∧ rm.slots ≤ 54) (hf : ka + 9 ≤ 601024 ∧ kb + 54 ≤ 7293034) (hdg : decode code pc = .ok (.invokestatic idx, 3))
    (kk : hw_V p l e room_1 s m args below meth c Q D b0 8 false (ka + 9) (kb + 54) 271 (pc + 3) L (.int r :: st) (hw_vl b0 I' J' P N o')) : hw_V p l e room_1 s m args below meth c Q D b0 8 false ka kb 271 pc L st0 (hw_vl b0 I J P N o) := by
  obtain ⟨h1, h2⟩ := hrm
  refine hq_callSXW C hM hw hl9 hlen hst rfl rfl hR hroom ⟨by show ka + rm.cells ≤ 601024; omega, by show kb + rm.slots ≤ 7293034; omega⟩ hdg (fun _ => ?_) (fun E z => by cases z)
  exact hq_widen (by omega) (by omega) kk
theorem lw_thr (C : hw_C p s m args c D b0 code RL 8) (d : gT pc) (h2 : L[q2]? = some (2, .ref (hw_ad b0 26 0))) (h5 : L[q5]? = some (5, .int e9)) (he : P 40 0 = e9) (hf : ka + 9 ≤ 601024 ∧ kb + 54 ≤ 7293034) (k : hw_V p l e room_1 s m args below meth c Q D b0 8 false (ka + 9) (kb + 54) 271 (pc + 11) L [] (hw_vl b0 I J P N o)) : hw_V p l e room_1 s m args below meth c Q D b0 8 false (ka + 9) (kb + 54) 271 pc L [] (hw_vl b0 I J P N o) := by
  refine hq_aload_n (q := q2) C d.1 rfl h2 ?_
  refine hq_cVr (As := []) (rm := rX6_thrown) (f := 26) (Nc := 1) C m_X6_thrown wv_X6_thrown ml_L_99 rfl rfl rfl Nat.one_pos rfl rfl rfl rfl ⟨Nat.le_of_ble_eq_true rfl, Nat.le_of_ble_eq_true rfl⟩ (Nat.le_of_ble_eq_true rfl) hf d.2.1 ?_
  refine hq_iload (q := q5) C d.2.2.1 h5 ?_
  exact hq_icmp_eq (tgt := pc + 11) C d.2.2.2 (by omega) (fun _ => k) (fun z => absurd he z)
theorem lw_endI (C : hw_C p s m args c D b0 code RL 8) {off : Int} {r : Int32} (d : gI pc off) (ht : ((pc + 17 : Nat) : Int) + off = (1727 : Nat)) (h3 : L[q3]? = some (3, .ref (hw_ad b0 59 0))) (h5 : L[q5]? = some (5, .int e9)) (h6 : L[q6]? = some (6, .int r)) (ho : e9 = 0 → o = r.toInt64) (k : hw_V p l e room_1 s m args below meth c Q D b0 8 false ka kb 271 1727 L [] (hw_vl b0 I J P N o)) : hw_V p l e room_1 s m args below meth c Q D b0 8 false ka kb 271 pc L [] (hw_vl b0 I J P N o) := by
  have hg : hw_V p l e room_1 s m args below meth c Q D b0 8 false ka kb 271 (pc + 17) L [] (hw_vl b0 I J P N o) := hq_goto (tgt := 1727) C d.2.2.2.2.2 ht k
  refine hq_iload (q := q5) C d.1.1 h5 ?_
  refine hq_if_ne (tgt := pc + 17) C d.1.2.1 (by omega) (fun _ => hg) (fun z => ?_)
  refine hq_aload_n (q := q3) C d.1.2.2.1 rfl h3 ?_
  refine hq_iconst (y := nI 0) C d.1.2.2.2.1 (by decide) ?_
  refine hq_laldo C d.1.2.2.2.2 rfl ?_
  refine hq_iload (q := q6) C d.2.1 h6 ?_
  refine hq_i2l C d.2.2.1 ?_
  refine hq_lcmp C d.2.2.2.1 ?_
  exact hq_if_eq (tgt := pc + 17) C d.2.2.2.2.1 (by omega) (fun _ => hg) (fun q => absurd ((lg_cmp_eq _ _).mpr (ho z)) q)
theorem lw_endL (C : hw_C p s m args c D b0 code RL 8) {off : Int} {r : Int64} (d : gL pc off) (ht : ((pc + 16 : Nat) : Int) + off = (1727 : Nat)) (h3 : L[q3]? = some (3, .ref (hw_ad b0 59 0))) (h5 : L[q5]? = some (5, .int e9)) (h6 : L[q6]? = some (6, .long r)) (ho : e9 = 0 → o = r) (k : hw_V p l e room_1 s m args below meth c Q D b0 8 false ka kb 271 1727 L [] (hw_vl b0 I J P N o)) : hw_V p l e room_1 s m args below meth c Q D b0 8 false ka kb 271 pc L [] (hw_vl b0 I J P N o) := by
  have hg : hw_V p l e room_1 s m args below meth c Q D b0 8 false ka kb 271 (pc + 16) L [] (hw_vl b0 I J P N o) := hq_goto (tgt := 1727) C d.2.2.2.2 ht k
  refine hq_iload (q := q5) C d.1.1 h5 ?_
  refine hq_if_ne (tgt := pc + 16) C d.1.2.1 (by omega) (fun _ => hg) (fun z => ?_)
  refine hq_aload_n (q := q3) C d.1.2.2.1 rfl h3 ?_
  refine hq_iconst (y := nI 0) C d.1.2.2.2.1 (by decide) ?_
  refine hq_laldo C d.1.2.2.2.2 rfl ?_
  refine hq_lload (q := q6) C d.2.1 h6 ?_
  refine hq_lcmp C d.2.2.1 ?_
  exact hq_if_eq (tgt := pc + 16) C d.2.2.2.1 (by omega) (fun _ => hg) (fun q => absurd ((lg_cmp_eq _ _).mpr (ho z)) q)
theorem lw_endZ (C : hw_C p s m args c D b0 code RL 8) {off : Int} {r : Int32} (d : gZ pc off) (ht : ((pc + 24 : Nat) : Int) + off = (1727 : Nat)) (h3 : L[q3]? = some (3, .ref (hw_ad b0 59 0))) (h5 : L[q5]? = some (5, .int e9)) (h6 : L[q6]? = some (6, .int r)) (ho : e9 = 0 → o = if r = 0 then 0 else 1) (k : hw_V p l e room_1 s m args below meth c Q D b0 8 false ka kb 271 1727 L [] (hw_vl b0 I J P N o)) : hw_V p l e room_1 s m args below meth c Q D b0 8 false ka kb 271 pc L [] (hw_vl b0 I J P N o) := by
  have hg : hw_V p l e room_1 s m args below meth c Q D b0 8 false ka kb 271 (pc + 24) L [] (hw_vl b0 I J P N o) := hq_goto (tgt := 1727) C d.2.2.2.2 ht k
  have hc : ∀ y : Int64, o = y → hw_V p l e room_1 s m args below meth c Q D b0 8 false ka kb 271 (pc + 18) L [.long y, .long o] (hw_vl b0 I J P N o) := fun y z => by
    refine hq_lcmp C d.2.2.1 ?_
    exact hq_if_eq (tgt := pc + 24) C d.2.2.2.1 (by omega) (fun _ => hg) (fun q => absurd ((lg_cmp_eq _ _).mpr z) q)
  refine hq_iload (q := q5) C d.1.1 h5 ?_
  refine hq_if_ne (tgt := pc + 24) C d.1.2.1 (by omega) (fun _ => hg) (fun z => ?_)
  refine hq_aload_n (q := q3) C d.1.2.2.1 rfl h3 ?_
  refine hq_iconst (y := nI 0) C d.1.2.2.2.1 (by decide) ?_
  refine hq_laldo C d.1.2.2.2.2 rfl ?_
  refine hq_iload (q := q6) C d.2.1.1 h6 ?_
  refine hq_if_eq (tgt := pc + 17) C d.2.1.2.1 (by omega) (fun q => ?_) (fun q => ?_)
  · refine hq_lconst (y := 0) C d.2.1.2.2.2.2 (by decide) ?_
    exact hc 0 ((ho z).trans (if_pos q))
  · refine hq_lconst (y := 1) C d.2.1.2.2.1 (by decide) ?_
    refine hq_goto (tgt := pc + 18) C d.2.1.2.2.2.1 (by omega) ?_
    exact hc 1 ((ho z).trans (if_neg q))
end LW
/-- how a call of the law goes on: k + 1 calls made, the answers alike -/
def lwK (p : Program) (l : Launch) (e : Env) (s : State) (m : MethodId) (args : Array Value) (below : List Frame) (meth : Method) (c : Code) (Q : State → Prop) (D : va_G) (b0 b ka kb i k : Nat) : Prop := ∀ (nb no nc : Nat) (I : MI) (J : MJ) (P : MI) (N : MJ) (o : Int64), IV k nb no nc I J P N → hw_V p l e room_1 s m args below meth c Q D b0 8 false ka kb 271 1727 (lL b0 b i) [] (hw_vl b0 I J P N o)
