/-! the law makes its two halls -/
theorem cl_L_9 : Cond.classLink RL 9 "HundiHall" ∈ hw_TB := hw_in 48 (by decide +kernel) rfl
theorem in_X5 : Cond.instantiable "HundiHall" 14 ∈ hw_TB := hw_in 49 (by decide +kernel) rfl
theorem ii_X5 : Cond.initialized "HundiHall" ∈ hw_TB := hw_in 35 (by decide +kernel) rfl
/-- the cells: the first hall made, the second one's at the time t of its own -/
def mk2 (b0 t : Nat) : VF := fun f i j => if f < 26 then cv b0 223 f i j else cv (b0 + 237) t (f - 26) i j
theorem mk2_a {b0 t f i j : Nat} (h : f < 26) : mk2 b0 t f i j = cv b0 223 f i j := if_pos h
theorem mk2_b {b0 t f i j : Nat} : mk2 b0 t (f + 26) i j = cv (b0 + 237) t f i j := by
  unfold mk2
  rw [if_neg (by omega), Nat.add_sub_cancel]
theorem tw_o {b0 : Nat} {I : MI} {J : MJ} {P P' : MI} {N N' : MJ} {o o' : Int64} {f i j : Nat} (hf : f < 26) (hj : j < hw_sz f) : hw_vl b0 I J P N o f i j = hw_vl b0 I J P' N' o' f i j := by
  obtain ⟨-, d2⟩ := tw_ds f hf j hj
  unfold hw_vl
  generalize hw_ds f j = d at d2
  obtain ⟨t, g⟩ := d
  dsimp only at d2
  rcases d2 with rfl | rfl | ⟨rfl, hg⟩ <;> rfl
section LM
variable {p : Program} {l : Launch} {e : Env} {s : State} {m : MethodId} {args : Array Value} {below : List Frame} {meth : Method} {c : Code} {Q : State → Prop} {D : va_G} {b0 b nL : Nat} {R : Room} {ka kb pc idx t t' : Nat} {L : List (Nat × Value)} {st st0 : List Value} {cc : ByteArray} {own : String} {y : MethodName} {bytes : ByteArray} {maxL k9 mc ms n' : Nat} {rm : Room} {Z : State → Prop}
/-- the second hall's constructor -/
theorem hq_callIzp (C : hw_C p s m args c D b0 cc own nL) (hz : hw_Zw Z) (hZs : Z s) (hM : hw_Mz Z l y bytes maxL rm D (b0 + 237) 1 [.ref (hw_ad (b0 + 237) 0 0)] (cv (b0 + 237) t) 237 (cv (b0 + 237) t') mc ms) (hw : hw_WI y (Cond.code y bytes maxL none) 0) (hl9 : Cond.methodLink own idx y ∈ hw_TB)
    (hst : st0 = .ref (hw_ad (b0 + 237) 0 0) :: st) (hrc : rm.cells = mc) (hrs : rm.slots = ms) (hR : rm.frames + 1 ≤ R.frames ∧ 8 + (maxL + 11) + rm.locals ≤ R.locals) (hroom : (st.map fun v => v.category).sum ≤ 8) (hf : ka + mc ≤ R.cells ∧ kb + ms ≤ R.slots) (hdg : decode cc pc = .ok (.invokespecial idx, 3))
    (kk : hw_V p l e R s m args below meth c Q D b0 nL true (ka + mc) (kb + ms) 474 (pc + 3) L st (mk2 b0 t')) : hw_V p l e R s m args below meth c Q D b0 nL true ka kb 238 pc L st0 (mk2 b0 t) := by
  intro H locs ls hH hZ hS hl
  have ht := C.2.2.2.2.1
  have hz1 : H.size = b0 + 238 := hZ.2 rfl
  have hH2 : hw_HP D (b0 + 237) 1 (cv (b0 + 237) t) H := by
    intro f i hi hn
    have hf26 := tw_lt hi (show hw_pos f i < 237 by omega)
    obtain ⟨-, h4, -⟩ := tw_tb f hf26
    have k := (tw_OK hf26).mp (hH (f + 26) i (by rw [h4]; exact hi) (by rw [tw_pos hf26]; omega))
    exact k.to (fun j hj => mk2_b)
  have nxt : ∀ U : State, U.heap = H → s.WarmedH U.vm → hw_PW D (b0 + 237) true 1 (cv (b0 + 237) t) U := fun U hU hW => by
    obtain ⟨h1, h2, h3, h4, h5, h6⟩ := hw_next C hU hW hH hZ hS
    exact ⟨h1, h2, vx_Zq.narrow h3 (fun q hq => Nat.le_trans (Nat.le_add_right b0 237) hq), vx_Zq.narrow h4 (fun q hq => Nat.le_trans (Nat.le_add_right b0 237) hq), by rw [hU]; exact hH2, by rw [hU, hz1]; omega, fun _ => by rw [hU, hz1]⟩
  intro T hT X9
  obtain ⟨w, st₀, t9, T', L9, h0, X', hL, e1, e2, ⟨hv, hH1, hZ1, hF⟩, stp⟩ := va_runI (Ts := hw_TB) (As := []) ⟨C.1, C.2.1, C.2.2.1, C.2.2.2.1, C.2.2.2.2.1⟩ hM (cwI 0 ht (hw_goodC hw.1.1) rfl hrc hrs (ht _ hw.1.2.2) (ht _ hl9) (ht _ hw.1.2.1) hw.2.1 hw.2.2 hR) ⟨hw_blindZ hz, fun U hU hW => ⟨rfl, nxt U hU hW, hz s U hW hZs⟩⟩ rfl rfl hl.1 hst (lv_room hroom) hdg hf T hT X9
  cases hv
  have hk : ∀ q : Nat, q < H.size → ¬ b0 + 237 ≤ q → t9.heap[q]? = H[q]? := fun q h1 h2 => by
    have := hF.2 q (by rw [h0]; exact h1) h2
    rw [this, h0]
  have hz9 : t9.heap.size = b0 + 237 + 237 := hZ1.2 rfl
  have g1 : hw_HP D b0 474 (mk2 b0 t') t9.heap := by
    intro f i hi hn
    by_cases hf26 : f < 26
    · have hp := hw_cn_ok f hf26 i hi
      refine ((hH f i hi (by omega)).kept (hk _ (by unfold hw_ad; omega) (by unfold hw_ad; omega))).to (fun j hj => ?_)
      rw [mk2_a hf26, mk2_a hf26]
    · obtain ⟨g, rfl⟩ : ∃ g, f = g + 26 := ⟨f - 26, by omega⟩
      have hg : g < 26 := by have := hw_lt hi; omega
      obtain ⟨-, h4, -⟩ := tw_tb g hg
      have hn' : hw_pos g i < 237 := by rw [tw_pos hg] at hn; omega
      exact (tw_OK hg).mpr ((hH1 g i (by rw [← h4]; exact hi) hn').to (fun j hj => mk2_b.symm))
  obtain ⟨t2, a1, b1⟩ := kk T'.heap (locs ++ L9) ls (by rw [e1]; exact g1) (by rw [e1, hz9]; exact ⟨by omega, fun _ => by omega⟩)
    ⟨Nat.le_trans hS.1 (by rw [e1]; omega), fun q h1 h2 => by
      have h2' : ¬ b0 ≤ q := h2
      rw [e1, hk q (Nat.lt_of_lt_of_le h1 hS.1) (by omega)]
      exact hS.2.1 q h1 h2, fun q hq => by
      rcases List.mem_append.mp hq with h | h
      · exact hS.2.2 q h
      · exact Nat.le_trans (Nat.le_add_right b0 237) (hL q h)⟩ hl T' rfl X'
  exact ⟨t2, stp t2 a1, b1⟩
/-- both made: numbers from here on -/
theorem hq_made2 (k : hw_V p l e R s m args below meth c Q D b0 nL false ka kb (hw_n 0) pc L st (hw_vl b0 i_0 j_0 i_0 j_0 0)) : hw_V p l e R s m args below meth c Q D b0 nL true ka kb 474 pc L st (mk2 b0 223) := fun H locs ls hH hZ hS hl => by
  rw [hw_n0] at k
  refine k H locs ls (hH.to fun f i j hi hj _ => ?_) ⟨hZ.1, fun z => by cases z⟩ hS hl
  by_cases hf : f < 26
  · rw [mk2_a hf]
    exact cv_at (hs_end f hf i hi j hj)
  · obtain ⟨g, rfl⟩ : ∃ g, f = g + 26 := ⟨f - 26, by omega⟩
    have hg : g < 26 := by have := hw_lt hi; omega
    obtain ⟨⟨-, -, h3⟩, h4, -⟩ := tw_tb g hg
    rw [h3] at hj
    rw [h4] at hi
    rw [mk2_b, cv_at (hs_end g hg i hi j hj), tw_vl (X := i_0) (Y := j_0) hg hj]
    exact tw_o hg hj
end LM
theorem new5 (b1 : Nat) (ty : Nat → FieldType) (hty : ∀ k, k < 14 → parseFieldDescriptor (TX5 k).2.2.1 = some (ty k)) (j : Nat) (hj : j < 14) : defaultValue (ty j) = cv b1 1 0 0 j :=
  (df_X5 ty hty j hj).trans (cv_d (b0 := b1) (t := 1) (f := 0) (i := 0) (j := j) ⟨by decide, by decide⟩ (by decide) hj (by
      rcases (show j = 0 ∨ j = 1 ∨ j = 2 ∨ j = 3 ∨ j = 4 ∨ j = 5 ∨ j = 6 ∨ j = 7 ∨ j = 8 ∨ j = 9 ∨ j = 10 ∨ j = 11 ∨ j = 12 ∨ j = 13 by omega) with rfl | rfl | rfl | rfl | rfl | rfl | rfl | rfl | rfl | rfl | rfl | rfl | rfl | rfl
      · exact Or.inr (by show 1 ≤ 1 + 0 * 0; omega)
      · exact Or.inr (by show 1 ≤ 38 + 0 * 0; omega)
      · exact Or.inr (by show 1 ≤ 159 + 0 * 0; omega)
      · exact Or.inr (by show 1 ≤ 202 + 0 * 0; omega)
      · exact Or.inr (by show 1 ≤ 211 + 0 * 0; omega)
      · exact Or.inr (by show 1 ≤ 212 + 0 * 0; omega)
      · exact Or.inr (by show 1 ≤ 221 + 0 * 0; omega)
      · exact Or.inr (by show 1 ≤ 222 + 0 * 0; omega)
      · exact Or.inl rfl
      · exact Or.inl rfl
      · exact Or.inl rfl
      · exact Or.inl rfl
      · exact Or.inl rfl
      · exact Or.inl rfl)).symm
set_option maxRecDepth 100000 in
theorem law_make {p : Program} {l : Launch} {e : Env} {s : State} {m : MethodId} {args : Array Value} {below : List Frame} {meth : Method} {c : Code} {Q : State → Prop} {D : va_G} {b0 b : Nat} (C : hw_C p s m args c D b0 code RL 12) (hz : zH s) (k : hw_V p l e room_1 s m args below meth c Q D b0 12 false 500 5500 (hw_n 0) 21 [(5, .int (nI 0)), (3, .long (gm 0 0 i_0 j_0)), (2, .ref (hw_ad (b0 + 237) 0 0)), (1, .ref (hw_ad b0 0 0)), (0, .ref b)] [] (hw_vl b0 i_0 j_0 i_0 j_0 0)) : hw_V p l e room_1 s m args below meth c Q D b0 12 true 0 0 0 0 [(0, .ref b)] [] (cv b0 1) := by
  rw [gm_0] at k
  refine hq_new (f := 0) (i := 0) C 5 rfl (by decide) rfl rfl rfl (by decide) cl_L_9 in_X5 ii_X5 dL_law_0 (fun ty hty j hj => new5 b0 ty hty j hj) (Nat.le_of_ble_eq_true rfl) (Nat.le_of_ble_eq_true rfl) ?_
  refine hq_dup C dL_law_3 rfl ?_
  refine hq_callIz (As := []) (rm := rN_X5) C zH_w hz mN_X5 wi_X5 ml_L_159 rfl rfl rfl rfl ⟨Nat.le_of_ble_eq_true rfl, Nat.le_of_ble_eq_true rfl⟩ (Nat.le_of_ble_eq_true rfl) ⟨Nat.le_of_ble_eq_true rfl, Nat.le_of_ble_eq_true rfl⟩ dL_law_4 ?_
  refine hq_astore_n (L' := [(1, .ref (hw_ad b0 0 0)), (0, .ref b)]) C dL_law_7 rfl (by decide) rfl ?_
  refine hq_to (v' := mk2 b0 1) (fun f i j hi hj hn => (mk2_a (tw_lt hi hn)).symm) ?_
  refine hq_new (f := 26) (i := 0) C 5 rfl (by decide) rfl rfl rfl (by decide) cl_L_9 in_X5 ii_X5 dL_law_8 (fun ty hty j hj => (new5 (b0 + 237) ty hty j hj).trans (mk2_b (f := 0)).symm) (Nat.le_of_ble_eq_true rfl) (Nat.le_of_ble_eq_true rfl) ?_
  rw [show hw_ad b0 26 0 = hw_ad (b0 + 237) 0 0 from tw_ad (f := 0) (by decide)]
  refine hq_dup C dL_law_11 rfl ?_
  refine hq_callIzp (rm := rN_X5) C zH_w hz mN_X5 wi_X5 ml_L_159 rfl rfl rfl ⟨Nat.le_of_ble_eq_true rfl, Nat.le_of_ble_eq_true rfl⟩ (Nat.le_of_ble_eq_true rfl) ⟨Nat.le_of_ble_eq_true rfl, Nat.le_of_ble_eq_true rfl⟩ dL_law_12 ?_
  refine hq_astore_n (L' := [(2, .ref (hw_ad (b0 + 237) 0 0)), (1, .ref (hw_ad b0 0 0)), (0, .ref b)]) C dL_law_15 rfl (by decide) rfl ?_
  refine hq_made2 ?_
  refine hq_widen (ka' := 500) (kb' := 5500) (Nat.le_of_ble_eq_true rfl) (Nat.le_of_ble_eq_true rfl) ?_
  refine hq_lconst (y := 0) C dL_law_16 rfl ?_
  refine hq_lstore_n (L' := [(3, .long 0), (2, .ref (hw_ad (b0 + 237) 0 0)), (1, .ref (hw_ad b0 0 0)), (0, .ref b)]) C dL_law_17 rfl (by decide) rfl ?_
  refine hq_iconst (y := nI 0) C dL_law_18 (by decide) ?_
  refine hq_istore (L' := [(5, .int (nI 0)), (3, .long 0), (2, .ref (hw_ad (b0 + 237) 0 0)), (1, .ref (hw_ad b0 0 0)), (0, .ref b)]) C dL_law_19 (by decide) rfl ?_
  exact k
