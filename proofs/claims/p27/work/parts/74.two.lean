/-! two halls: the second one's cells are a hall of its own, 237 further on -/
theorem hw_n0 : hw_n 0 = 474 := if_pos rfl
theorem hw_n1 : hw_n 1 = 237 := if_neg (by decide)
def hw_mv (d : Nat × Nat) : Nat × Nat := if d.1 < 2 then (d.1 + 2, d.2) else (4, d.2 + 26)
set_option maxRecDepth 100000 in
theorem tw_tb : ∀ f, f < 26 → (hw_ob (f + 26) = hw_ob f ∧ hw_kc (f + 26) = hw_kc f ∧ hw_sz (f + 26) = hw_sz f) ∧ (hw_cnt (f + 26) = hw_cnt f ∧ hw_off (f + 26) = hw_off f + 237 ∧ hw_st (f + 26) = hw_st f ∧ hw_wd (f + 26) = hw_wd f) := by decide +kernel
set_option maxRecDepth 100000 in
theorem tw_ds : ∀ f, f < 26 → ∀ j, j < hw_sz f → hw_ds (f + 26) j = hw_mv (hw_ds f j) ∧ ((hw_ds f j).1 = 0 ∨ (hw_ds f j).1 = 1 ∨ ((hw_ds f j).1 = 4 ∧ (hw_ds f j).2 < 26)) := by decide +kernel
theorem tw_pos {f i : Nat} (hf : f < 26) : hw_pos (f + 26) i = hw_pos f i + 237 := by
  obtain ⟨-, -, h5, h6, -⟩ := tw_tb f hf
  unfold hw_pos
  rw [h5, h6]
  omega
theorem tw_ad {b0 f i : Nat} (hf : f < 26) : hw_ad b0 (f + 26) i = hw_ad (b0 + 237) f i := by
  unfold hw_ad
  rw [tw_pos hf]
  omega
theorem tw_vl {b0 : Nat} {I X : MI} {J Y : MJ} {P : MI} {N : MJ} {f i j : Nat} (hf : f < 26) (hj : j < hw_sz f) : hw_vl b0 I J P N 0 (f + 26) i j = hw_vl (b0 + 237) P N X Y 1 f i j := by
  obtain ⟨⟨h1, -, -⟩, -, -, -, h7⟩ := tw_tb f hf
  obtain ⟨d1, d2⟩ := tw_ds f hf j hj
  have hix : hw_ix (f + 26) i j = hw_ix f i j := by unfold hw_ix; rw [h1, h7]
  unfold hw_vl
  rw [d1, hix]
  generalize hw_ds f j = d at d2
  obtain ⟨t, g⟩ := d
  dsimp only at d2
  rcases d2 with rfl | rfl | ⟨rfl, hg⟩
  · rfl
  · rfl
  · exact congrArg Value.ref (tw_ad hg)
theorem tw_keep {b0 : Nat} {I : MI} {J : MJ} {P P' : MI} {N N' : MJ} {f i j : Nat} (hf : f < 26) (hj : j < hw_sz f) : hw_vl b0 I J P N 0 f i j = hw_vl b0 I J P' N' 0 f i j := by
  obtain ⟨-, d2⟩ := tw_ds f hf j hj
  unfold hw_vl
  generalize hw_ds f j = d at d2
  obtain ⟨t, g⟩ := d
  dsimp only at d2
  rcases d2 with rfl | rfl | ⟨rfl, hg⟩ <;> rfl
theorem tw_lt {f i : Nat} (hi : i < hw_cnt f) (hn : hw_pos f i < 237) : f < 26 := by
  rcases Nat.lt_or_ge f 26 with q | q
  · exact q
  · obtain ⟨g, rfl⟩ : ∃ g, f = g + 26 := ⟨f - 26, by omega⟩
    have := hw_lt hi
    rw [tw_pos (by omega)] at hn
    omega
theorem tw_OK {D : va_G} {b0 f i : Nat} {V : Nat → Value} {H : Heap} (hf : f < 26) : hw_OK D (f + 26) (hw_ad b0 (f + 26) i) V H ↔ hw_OK D f (hw_ad (b0 + 237) f i) V H := by
  obtain ⟨⟨h1, h2, h3⟩, -⟩ := tw_tb f hf
  unfold hw_OK
  rw [h1, h2, h3, tw_ad hf]
theorem tw_HP {D : va_G} {b0 : Nat} {I X : MI} {J Y : MJ} {P : MI} {N : MJ} {H : Heap} (h : hw_HP D b0 474 (hw_vl b0 I J P N 0) H) : hw_HP D (b0 + 237) 237 (hw_vl (b0 + 237) P N X Y 1) H := by
  intro f i hi hn
  have hf := tw_lt hi hn
  obtain ⟨-, h4, -⟩ := tw_tb f hf
  have k := (tw_OK hf).mp (h (f + 26) i (by rw [h4]; exact hi) (by rw [tw_pos hf]; omega))
  exact k.to (fun j hj => tw_vl hf hj)
theorem tw_back {D : va_G} {b0 : Nat} {I X : MI} {J Y : MJ} {P P' : MI} {N N' : MJ} {H H1 : Heap} (h : hw_HP D b0 474 (hw_vl b0 I J P N 0) H) (hk : ∀ q, q < b0 + 237 → H1[q]? = H[q]?) (h1 : hw_HP D (b0 + 237) 237 (hw_vl (b0 + 237) P' N' X Y 1) H1) : hw_HP D b0 474 (hw_vl b0 I J P' N' 0) H1 := by
  intro f i hi hn
  by_cases hf : f < 26
  · have hp := hw_cn_ok f hf i hi
    exact ((h f i hi (by omega)).kept (hk _ (by unfold hw_ad; omega))).to (fun j hj => tw_keep hf hj)
  · obtain ⟨g, rfl⟩ : ∃ g, f = g + 26 := ⟨f - 26, by omega⟩
    have hg : g < 26 := by have := hw_lt hi; omega
    obtain ⟨-, h4, -⟩ := tw_tb g hg
    have hn' : hw_pos g i < 237 := by rw [tw_pos hg] at hn; omega
    exact (tw_OK hg).mpr ((h1 g i (by rw [← h4]; exact hi) hn').to (fun j hj => (tw_vl hg hj).symm))
section TW
variable {p : Program} {l : Launch} {e : Env} {R : Room} {s : State} {m : MethodId} {args : Array Value} {below : List Frame} {meth : Method} {c : Code} {Q : State → Prop}
variable {D : va_G} {b0 nL : Nat} {ka kb : Nat} {pc : Nat} {L : List (Nat × Value)} {st st0 : List Value} {cc : ByteArray} {own : String} {v0 : VF} {I X : MI} {J Y : MJ} {P P' : MI} {N N' : MJ}
variable {y : MethodName} {bytes : ByteArray} {maxL idx k9 mc ms : Nat} {rm : Room} {hh : List (Nat × Nat × Nat × Nat)} {As : List Value} {r : Option Value} {q : Int64} {Cn : String}
theorem hw_nextp (C : hw_C p s m args c D b0 cc own nL) {U : State} {H : Heap} {locs : List Loc} (hU : U.heap = H) (hW : s.WarmedH U.vm) (hH : hw_HP D b0 474 (hw_vl b0 I J P N 0) H) (hZ : hw_Z false b0 474 H.size) (hS : va_S (fun q => b0 ≤ q) s.heap H locs) : hw_PW D (b0 + 237) false 237 (hw_vl (b0 + 237) P N X Y 1) U := by
  obtain ⟨h1, h2, h3, h4, h5, h6⟩ := hw_next C hU hW hH hZ hS
  exact ⟨h1, h2, vx_Zq.narrow h3 (fun q hq => Nat.le_trans (Nat.le_add_right b0 237) hq), vx_Zq.narrow h4 (fun q hq => Nat.le_trans (Nat.le_add_right b0 237) hq), tw_HP h5, ⟨by have := h6.1; omega, fun z => by cases z⟩⟩
theorem hw_goonp {H : Heap} {locs L9 : List Loc} {ls : Array Slot} {st₀ t T' : State} (hH : hw_HP D b0 474 (hw_vl b0 I J P N 0) H) (hZ : hw_Z false b0 474 H.size) (hS : va_S (fun q => b0 ≤ q) s.heap H locs) (h0 : st₀.heap = H) (e1 : T'.heap = t.heap) (hL : ∀ q ∈ L9, b0 + 237 ≤ q.base) (hH1 : hw_HP D (b0 + 237) 237 (hw_vl (b0 + 237) P' N' X Y 1) t.heap) (hF : va_F (fun q => b0 + 237 ≤ q) st₀ t) : hw_HP D b0 474 (hw_vl b0 I J P' N' 0) T'.heap ∧ hw_Z false b0 474 T'.heap.size ∧ va_S (fun q => b0 ≤ q) s.heap T'.heap (locs ++ L9) := by
  have hz : H.size ≤ t.heap.size := by rw [← h0]; exact hF.1
  have hk : ∀ q : Nat, q < H.size → ¬ b0 + 237 ≤ q → t.heap[q]? = H[q]? := fun q h1 h2 => by
    have := hF.2 q (by rw [h0]; exact h1) h2
    rw [this, h0]
  have hz1 := hZ.1
  refine ⟨?_, ?_, ?_, ?_, ?_⟩
  · rw [e1]
    exact tw_back hH (fun q hq => hk q (by omega) (by omega)) hH1
  · rw [e1]
    exact ⟨by omega, fun z => by cases z⟩
  · rw [e1]
    exact Nat.le_trans hS.1 hz
  · intro q h1 h2
    have h2' : ¬ b0 ≤ q := h2
    rw [e1, hk q (Nat.lt_of_lt_of_le h1 hS.1) (by omega)]
    exact hS.2.1 q h1 h2
  · intro q hq
    rcases List.mem_append.mp hq with h | h
    · exact hS.2.2 q h
    · exact Nat.le_trans (Nat.le_add_right b0 237) (hL q h)
theorem hw_afterp {H : Heap} {locs : List Loc} {ls : Array Slot} {a : Array Value} (hr : vx_Run p l e R s m args below meth c H locs ka kb mc ms (F0 m pc ls st0) st (hw_QX D (b0 + 237) 237 none r (hw_vl (b0 + 237) P' N' X Y 1) a) (hw_XC D (b0 + 237) 237 none v0) (fun q => b0 + 237 ≤ q)) (hH : hw_HP D b0 474 (hw_vl b0 I J P N 0) H) (hZ : hw_Z false b0 474 H.size) (hS : va_S (fun q => b0 ≤ q) s.heap H locs) (hl : lv_has ls nL L)
    (kk : hw_V p l e R s m args below meth c Q D b0 nL false (ka + mc) (kb + ms) 474 (pc + 3) L (r.toList ++ st) (hw_vl b0 I J P' N' 0)) : W p l e R s m args below meth c H locs ka kb Q (F0 m pc ls st0) := by
  intro T hT X9
  rcases hr T hT X9 with ⟨w, st₀, t, T', L9, h0, X', hL, e1, e2, ⟨-, hv, hH1, hZ1, hF⟩, stp⟩ | ⟨q, st₀, t, T', L9, E, ce, h0, X', hL, e1, e2, ⟨hE, -⟩, hce, hcv, hcl, stp⟩
  · cases hv
    obtain ⟨g1, g2, g3⟩ := hw_goonp (ls := ls) hH hZ hS h0 e1 hL hH1 hF
    obtain ⟨t2, a1, b1⟩ := kk T'.heap (locs ++ L9) ls g1 g2 g3 hl T' rfl X'
    exact ⟨t2, stp t2 a1, b1⟩
  · cases hE
/-- a wrapper is called on the second hall -/
theorem hq_cSLp (C : hw_C p s m args c D b0 cc own nL) (hM : hL l y (Cond.codeWith y bytes maxL (some .long) hh) rm D (b0 + 237) As P N X Y 1 q P' N') (hw : hw_WS y (Cond.codeWith y bytes maxL (some .long) hh) k9) (hl9 : Cond.methodLink own idx y ∈ hw_TB) (hlen : As.length = k9) (hst : st0 = As.reverse ++ st) (hrc : rm.cells = mc) (hrs : rm.slots = ms) (hR : rm.frames + 1 ≤ R.frames ∧ 8 + (maxL + 11) + rm.locals ≤ R.locals) (hroom : (st.map fun v => v.category).sum ≤ 8) (hf : ka + mc ≤ R.cells ∧ kb + ms ≤ R.slots) (hdg : decode cc pc = .ok (.invokestatic idx, 3))
    (kk : hw_V p l e R s m args below meth c Q D b0 nL false (ka + mc) (kb + ms) (hw_n 0) (pc + 3) L (.long q :: st) (hw_vl b0 I J P' N' 0)) : hw_V p l e R s m args below meth c Q D b0 nL false ka kb (hw_n 0) pc L st0 (hw_vl b0 I J P N 0) := by
  subst hrc hrs
  unfold hL at hM
  rw [hw_n1] at hM
  rw [hw_n0] at kk ⊢
  intro H locs ls hH hZ hS hl
  exact hw_afterp (r := some (.long q)) (vx_runSX (Ts := hw_TB) (hh := hh) ⟨C.1, C.2.1, C.2.2.1, C.2.2.2.1, C.2.2.2.2.1⟩ hM (vx_cwSW k9 C.2.2.2.2.1 (hw_goodS hw hl9) rfl rfl rfl hw.2 hR) ⟨hw_blind, fun U hU hW => ⟨rfl, hw_nextp C hU hW hH hZ hS⟩⟩ rfl hlen hl.1 hst (lv_room hroom) hdg hf) hH hZ hS hl kk
/-- act is called on the second hall -/
theorem hq_cSAp (C : hw_C p s m args c D b0 cc own nL) (hM : hL l y (Cond.code y bytes maxL (some .long)) rm D (b0 + 237) As P N X Y 1 q P' N') (hw : hw_WS y (Cond.code y bytes maxL (some .long)) k9) (hl9 : Cond.methodLink own idx y ∈ hw_TB) (hlen : As.length = k9) (hst : st0 = As.reverse ++ st) (hrc : rm.cells = mc) (hrs : rm.slots = ms) (hR : rm.frames + 1 ≤ R.frames ∧ 8 + (maxL + 11) + rm.locals ≤ R.locals) (hroom : (st.map fun v => v.category).sum ≤ 8) (hf : ka + mc ≤ R.cells ∧ kb + ms ≤ R.slots) (hdg : decode cc pc = .ok (.invokestatic idx, 3))
    (kk : hw_V p l e R s m args below meth c Q D b0 nL false (ka + mc) (kb + ms) (hw_n 0) (pc + 3) L (.long q :: st) (hw_vl b0 I J P' N' 0)) : hw_V p l e R s m args below meth c Q D b0 nL false ka kb (hw_n 0) pc L st0 (hw_vl b0 I J P N 0) := by
  subst hrc hrs
  unfold hL at hM
  rw [hw_n1] at hM
  rw [hw_n0] at kk ⊢
  intro H locs ls hH hZ hS hl
  exact hw_afterp (r := some (.long q)) (vx_runS (Ts := hw_TB) ⟨C.1, C.2.1, C.2.2.1, C.2.2.2.1, C.2.2.2.2.1⟩ hM (va_cwS k9 C.2.2.2.2.1 (hw_goodS hw hl9) rfl rfl rfl hw.2 hR) ⟨hw_blind, fun U hU hW => ⟨rfl, hw_nextp C hU hW hH hZ hS⟩⟩ rfl hlen hl.1 hst (lv_room hroom) hdg hf) hH hZ hS hl kk
theorem hq_cVp (C : hw_C p s m args c D b0 cc own nL) {ret : Option FieldType} {x : Value} (hM : hM l y bytes maxL ret rm D (b0 + 237) (.ref (hw_ad (b0 + 237) 0 0) :: As) P N X Y 1 (some x) P' N' X Y 1) (hw : hw_WV RX5 y (Cond.code y bytes maxL ret) k9) (hl9 : Cond.methodLink own idx y ∈ hw_TB) (hlen : As.length = k9) (hst : st0 = As.reverse ++ .ref (hw_ad (b0 + 237) 0 0) :: st) (hrc : rm.cells = 0) (hrs : rm.slots = 0) (hR : rm.frames + 1 ≤ R.frames ∧ 8 + (maxL + 11) + rm.locals ≤ R.locals) (hroom : (st.map fun v => v.category).sum ≤ 8) (hf : ka + 0 ≤ R.cells ∧ kb + 0 ≤ R.slots) (hdg : decode cc pc = .ok (.invokevirtual idx, 3))
    (kk : hw_V p l e R s m args below meth c Q D b0 nL false ka kb (hw_n 0) (pc + 3) L (x :: st) (hw_vl b0 I J P' N' 0)) : hw_V p l e R s m args below meth c Q D b0 nL false ka kb (hw_n 0) pc L st0 (hw_vl b0 I J P N 0) := by
  have hM' : hw_M l y bytes maxL ret rm D (b0 + 237) false (hw_n 1) (.ref (hw_ad (b0 + 237) 0 0) :: As) (hw_vl (b0 + 237) P N X Y 1) false (hw_n 1) (some x) (hw_vl (b0 + 237) P' N' X Y 1) 0 0 := hM
  rw [hw_n1] at hM'
  rw [hw_n0] at kk ⊢
  intro H locs ls hH hZ hS hl
  have hrv := hw_recv C (f := 26) (i := 0) hH rfl rfl (by decide) (by decide)
  rw [show hw_ad b0 26 0 = hw_ad (b0 + 237) 0 0 from tw_ad (f := 0) (by decide)] at hrv
  intro T hT X9
  obtain ⟨w, st₀, t, T', L9, h0, X', hL, e1, e2, ⟨hv, hH1, hZ1, hF⟩, stp⟩ := va_runV (Ts := hw_TB) ⟨C.1, C.2.1, C.2.2.1, C.2.2.2.1, C.2.2.2.2.1⟩ hM' (cwV k9 C.2.2.2.2.1 (hw_goodV hw hl9) rfl hrc hrs hw.2 hR) ⟨hw_blind, hrv, fun U hU hW => ⟨rfl, hw_nextp C hU hW hH hZ hS⟩⟩ rfl hlen hl.1 hst (lv_room hroom) hdg hf T hT X9
  cases hv
  obtain ⟨g1, g2, g3⟩ := hw_goonp (ls := ls) hH hZ hS h0 e1 hL hH1 hF
  obtain ⟨t2, a1, b1⟩ := kk T'.heap (locs ++ L9) ls g1 g2 g3 hl T' rfl X'
  exact ⟨t2, stp t2 a1, b1⟩
/-- act, or another method of the law that throws nothing, is called on the first hall -/
theorem hq_cSAr (C : hw_C p s m args c D b0 cc own nL) {I' : MI} {J' : MJ} {o : Int64} (hM : hL l y (Cond.code y bytes maxL (some .long)) rm D b0 As I J P N o q I' J') (hw : hw_WS y (Cond.code y bytes maxL (some .long)) k9) (hl9 : Cond.methodLink own idx y ∈ hw_TB) (hlen : As.length = k9) (hst : st0 = As.reverse ++ st) (hrc : rm.cells = mc) (hrs : rm.slots = ms) (hR : rm.frames + 1 ≤ R.frames ∧ 8 + (maxL + 11) + rm.locals ≤ R.locals) (hroom : (st.map fun v => v.category).sum ≤ 8) (hf : ka + mc ≤ R.cells ∧ kb + ms ≤ R.slots) (hdg : decode cc pc = .ok (.invokestatic idx, 3))
    (kk : hw_V p l e R s m args below meth c Q D b0 nL false (ka + mc) (kb + ms) (hw_n o) (pc + 3) L (.long q :: st) (hw_vl b0 I' J' P N o)) : hw_V p l e R s m args below meth c Q D b0 nL false ka kb (hw_n o) pc L st0 (hw_vl b0 I J P N o) := by
  subst hrc hrs
  exact hq_callSX C hM hw hl9 hlen hst rfl rfl hR hroom hf hdg (fun _ => kk) (fun E z => by cases z)
end TW
