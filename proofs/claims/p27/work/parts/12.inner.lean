def hw_ok (x : Int32) : Prop := ∃ b : Nat, b < 12 ∧ x = nI b
theorem hw_ok.x {x : Int32} (h : hw_ok x) : x = nI x.toNatClampNeg := by
  obtain ⟨b, h1, h2⟩ := h
  rw [h2, nI_clamp (by omega)]
theorem hw_ok.b {x : Int32} (h : hw_ok x) : x.toNatClampNeg < 12 := by
  obtain ⟨b, h1, h2⟩ := h
  rw [h2, nI_clamp (by omega)]
  exact h1
/-- the way of order o: n + 1 brokers -/
def hw_wy (I : MI) (o n : Nat) : Prop := n < 12 ∧ I 19 o = nI (n + 1) ∧ ∀ k, k ≤ n → hw_ok (I 20 (12 * o + k))
def sx_ix (i c : Int32) : Option String := if i < 0 then some eI else if i < c then none else some eI
def sx_pl (i : Int32) : Option String := if 0 ≤ i then none else some eI
def sx_rg (x a b : Int32) : Option String := if x < a then some eA else if x ≤ b then none else some eA
def sx_st (x : Int32) : Option String := if ¬ x = 0 then none else some eS
def sx_two (I : MI) (a b : Int32) : Option String := hx_or (sx_ix a (I 0 0)) (hx_or (sx_ix b (I 0 0)) (if ¬ a = b then none else some eA))
theorem hq_lmin {p : Program} {l : Launch} {e : Env} {R : Room} {s : State} {m : MethodId} {args : Array Value} {below : List Frame} {meth : Method} {c : Code} {Q : State → Prop} {D : va_G} {b0 nL : Nat} {xb : Bool} {ka kb n : Nat} {pc : Nat} {L : List (Nat × Value)} {st : List Value} {v : VF} {cc : ByteArray} (C : hw_C p s m args c D b0 cc RX5 nL) {x y : Int64} (hdg : decode cc pc = .ok (.invokestatic 328, 3)) (hf : 1 ≤ R.frames) (hlo : (st.map fun v => v.category).sum + 15 ≤ R.locals) (hc : ka ≤ R.cells) (hs : kb ≤ R.slots) (k : hw_V p l e R s m args below meth c Q D b0 nL xb ka kb n (pc + 3) L (.long (if y < x then y else x) :: st) v) : hw_V p l e R s m args below meth c Q D b0 nL xb ka kb n pc L (.long y :: .long x :: st) v := fun H locs ls hH hZ hS hl =>
  va_mmin_long C.1 C.2.1 (C.2.2.1.trans hl.1.symm) C.2.2.2.1 (C.2.2.2.2.1 _ (hw_in 686 (by decide +kernel) rfl)) (C.2.2.2.2.1 _ (hw_in 687 (by decide +kernel) rfl)) (C.2.2.2.2.1 _ (hw_in 47 (by decide +kernel) rfl)) (C.2.2.2.2.1 _ (hw_in 688 (by decide +kernel) rfl)) hf hlo hc hs hdg (k H locs ls hH hZ hS hl)
set_option maxHeartbeats 4000000 in
set_option maxRecDepth 100000 in
theorem m_X5_requireIndex {l : Launch} {D : va_G} {b0 : Nat} {I : MI} {J : MJ} {P : MI} {N : MJ} {o : Int64} {x y : Int32} (hlt : l.stackTraces = false) : hX l yX5_requireIndex wX5_requireIndex rX5_requireIndex D b0 [.int x, .int y] I J P N o (sx_ix x y) none I J P N o := by
  refine hw_MXof (by decide) [(0, .int _), (1, .int _)] rfl (Nat.le_of_ble_eq_true rfl) ?_
  intro p e s m args below meth c C hr hlk ht
  refine hq_iload_n (q := 0) C dX5_requireIndex_0 rfl rfl ?_
  refine hq_if_lt (tgt := 9) C dX5_requireIndex_1 (by decide) (fun c_1 => ?_) (fun c_1 => ?_)
  · exact hq_throw C hlt ht hlk th_I C.2.2.2.2.2.2.1.2.1.1 C.2.2.2.2.2.2.1.2.2.2.1 dX5_requireIndex_9 dX5_requireIndex_12 dX5_requireIndex_13 dX5_requireIndex_15 dX5_requireIndex_18 ⟨Nat.le_of_ble_eq_true rfl, Nat.le_of_ble_eq_true rfl⟩ ⟨Nat.le_of_ble_eq_true rfl, Nat.le_of_ble_eq_true rfl⟩ ⟨Nat.le_of_ble_eq_true rfl, Nat.le_of_ble_eq_true rfl⟩ (by simp [sx_ix, c_1]) rfl
  · refine hq_iload_n (q := 0) C dX5_requireIndex_4 rfl rfl ?_
    refine hq_iload_n (q := 1) C dX5_requireIndex_5 rfl rfl ?_
    refine hq_icmp_lt (tgt := 19) C dX5_requireIndex_6 (by decide) (fun c_6 => ?_) (fun c_6 => ?_)
    · exact hq_vretX C hr hlk dX5_requireIndex_19 (by simp [sx_ix, c_1, c_6]) rfl (Nat.le_of_ble_eq_true rfl) (Nat.le_of_ble_eq_true rfl)
    · exact hq_throw C hlt ht hlk th_I C.2.2.2.2.2.2.1.2.1.1 C.2.2.2.2.2.2.1.2.2.2.1 dX5_requireIndex_9 dX5_requireIndex_12 dX5_requireIndex_13 dX5_requireIndex_15 dX5_requireIndex_18 ⟨Nat.le_of_ble_eq_true rfl, Nat.le_of_ble_eq_true rfl⟩ ⟨Nat.le_of_ble_eq_true rfl, Nat.le_of_ble_eq_true rfl⟩ ⟨Nat.le_of_ble_eq_true rfl, Nat.le_of_ble_eq_true rfl⟩ (by simp [sx_ix, c_1, c_6]) rfl
set_option maxHeartbeats 4000000 in
set_option maxRecDepth 100000 in
theorem m_X5_requirePlace {l : Launch} {D : va_G} {b0 : Nat} {I : MI} {J : MJ} {P : MI} {N : MJ} {o : Int64} {x : Int32} (hlt : l.stackTraces = false) : hX l yX5_requirePlace wX5_requirePlace rX5_requirePlace D b0 [.int x] I J P N o (sx_pl x) none I J P N o := by
  refine hw_MXof (by decide) [(0, .int _)] rfl (Nat.le_of_ble_eq_true rfl) ?_
  intro p e s m args below meth c C hr hlk ht
  refine hq_iload_n (q := 0) C dX5_requirePlace_0 rfl rfl ?_
  refine hq_if_ge (tgt := 14) C dX5_requirePlace_1 (by decide) (fun c_1 => ?_) (fun c_1 => ?_)
  · exact hq_vretX C hr hlk dX5_requirePlace_14 (by simp [sx_pl, c_1]) rfl (Nat.le_of_ble_eq_true rfl) (Nat.le_of_ble_eq_true rfl)
  · exact hq_throw C hlt ht hlk th_I C.2.2.2.2.2.2.1.2.1.1 C.2.2.2.2.2.2.1.2.2.2.2.1 dX5_requirePlace_4 dX5_requirePlace_7 dX5_requirePlace_8 dX5_requirePlace_10 dX5_requirePlace_13 ⟨Nat.le_of_ble_eq_true rfl, Nat.le_of_ble_eq_true rfl⟩ ⟨Nat.le_of_ble_eq_true rfl, Nat.le_of_ble_eq_true rfl⟩ ⟨Nat.le_of_ble_eq_true rfl, Nat.le_of_ble_eq_true rfl⟩ (by simp [sx_pl, c_1]) rfl
set_option maxHeartbeats 4000000 in
set_option maxRecDepth 100000 in
theorem m_X5_requireRange {l : Launch} {D : va_G} {b0 : Nat} {I : MI} {J : MJ} {P : MI} {N : MJ} {o : Int64} {x y z : Int32} (hlt : l.stackTraces = false) : hX l yX5_requireRange wX5_requireRange rX5_requireRange D b0 [.int x, .int y, .int z] I J P N o (sx_rg x y z) none I J P N o := by
  refine hw_MXof (by decide) [(0, .int _), (1, .int _), (2, .int _)] rfl (Nat.le_of_ble_eq_true rfl) ?_
  intro p e s m args below meth c C hr hlk ht
  refine hq_iload_n (q := 0) C dX5_requireRange_0 rfl rfl ?_
  refine hq_iload_n (q := 1) C dX5_requireRange_1 rfl rfl ?_
  refine hq_icmp_lt (tgt := 10) C dX5_requireRange_2 (by decide) (fun c_2 => ?_) (fun c_2 => ?_)
  · exact hq_throwW C hlt ht hlk th_A C.2.2.2.2.2.2.1.2.1.2.1 C.2.2.2.2.2.2.1.2.2.2.2.2.1 dX5_requireRange_10 dX5_requireRange_13 dX5_requireRange_14 dX5_requireRange_17 dX5_requireRange_20 ⟨Nat.le_of_ble_eq_true rfl, Nat.le_of_ble_eq_true rfl⟩ ⟨Nat.le_of_ble_eq_true rfl, Nat.le_of_ble_eq_true rfl⟩ ⟨Nat.le_of_ble_eq_true rfl, Nat.le_of_ble_eq_true rfl⟩ (by simp [sx_rg, c_2]) rfl
  · refine hq_iload_n (q := 0) C dX5_requireRange_5 rfl rfl ?_
    refine hq_iload_n (q := 2) C dX5_requireRange_6 rfl rfl ?_
    refine hq_icmp_le (tgt := 21) C dX5_requireRange_7 (by decide) (fun c_7 => ?_) (fun c_7 => ?_)
    · exact hq_vretX C hr hlk dX5_requireRange_21 (by simp [sx_rg, c_2, c_7]) rfl (Nat.le_of_ble_eq_true rfl) (Nat.le_of_ble_eq_true rfl)
    · exact hq_throwW C hlt ht hlk th_A C.2.2.2.2.2.2.1.2.1.2.1 C.2.2.2.2.2.2.1.2.2.2.2.2.1 dX5_requireRange_10 dX5_requireRange_13 dX5_requireRange_14 dX5_requireRange_17 dX5_requireRange_20 ⟨Nat.le_of_ble_eq_true rfl, Nat.le_of_ble_eq_true rfl⟩ ⟨Nat.le_of_ble_eq_true rfl, Nat.le_of_ble_eq_true rfl⟩ ⟨Nat.le_of_ble_eq_true rfl, Nat.le_of_ble_eq_true rfl⟩ (by simp [sx_rg, c_2, c_7]) rfl
set_option maxHeartbeats 4000000 in
set_option maxRecDepth 100000 in
theorem m_X5_requireState {l : Launch} {D : va_G} {b0 : Nat} {I : MI} {J : MJ} {P : MI} {N : MJ} {o : Int64} {x : Int32} (hlt : l.stackTraces = false) : hX l yX5_requireState wX5_requireState rX5_requireState D b0 [.int x] I J P N o (sx_st x) none I J P N o := by
  refine hw_MXof (by decide) [(0, .int _)] rfl (Nat.le_of_ble_eq_true rfl) ?_
  intro p e s m args below meth c C hr hlk ht
  refine hq_iload_n (q := 0) C dX5_requireState_0 rfl rfl ?_
  refine hq_if_ne (tgt := 15) C dX5_requireState_1 (by decide) (fun c_1 => ?_) (fun c_1 => ?_)
  · exact hq_vretX C hr hlk dX5_requireState_15 (by simp [sx_st, c_1]) rfl (Nat.le_of_ble_eq_true rfl) (Nat.le_of_ble_eq_true rfl)
  · exact hq_throwW C hlt ht hlk th_S C.2.2.2.2.2.2.1.2.1.2.2 C.2.2.2.2.2.2.1.2.2.2.2.2.2.1 dX5_requireState_4 dX5_requireState_7 dX5_requireState_8 dX5_requireState_11 dX5_requireState_14 ⟨Nat.le_of_ble_eq_true rfl, Nat.le_of_ble_eq_true rfl⟩ ⟨Nat.le_of_ble_eq_true rfl, Nat.le_of_ble_eq_true rfl⟩ ⟨Nat.le_of_ble_eq_true rfl, Nat.le_of_ble_eq_true rfl⟩ (by simp [sx_st, c_1]) rfl
set_option maxHeartbeats 4000000 in
set_option maxRecDepth 100000 in
theorem m_X5_requireTwoBrokers {l : Launch} {D : va_G} {b0 : Nat} {I : MI} {J : MJ} {P : MI} {N : MJ} {o : Int64} {x y : Int32} (hlt : l.stackTraces = false) : hX l yX5_requireTwoBrokers wX5_requireTwoBrokers rX5_requireTwoBrokers D b0 [.ref (hw_ad b0 0 0), .int x, .int y] I J P N o (sx_two I x y) none I J P N o := by
  refine hw_MXof (by decide) [(0, .ref _), (1, .int _), (2, .int _)] rfl (Nat.le_of_ble_eq_true rfl) ?_
  intro p e s m args below meth c C hr hlk ht
  refine hq_iload_n (q := 1) C dX5_requireTwoBrokers_0 rfl rfl ?_
  refine hq_aload_n (q := 0) C dX5_requireTwoBrokers_1 rfl rfl ?_
  refine hq_getI (f := 0) (g := 0) (Nc := 1) (Ns := 14) C fr_X5_66 dX5_requireTwoBrokers_2 rfl rfl rfl rfl rfl (by decide) Nat.one_pos ?_
  refine hq_cSXv (As := [.int _, .int _]) (rm := rX5_requireIndex) (Cn := "") C (m_X5_requireIndex hlt) ws_X5_requireIndex ml_X5_58 rfl rfl rfl rfl ⟨Nat.le_of_ble_eq_true rfl, Nat.le_of_ble_eq_true rfl⟩ (Nat.le_of_ble_eq_true rfl) ⟨Nat.le_of_ble_eq_true rfl, Nat.le_of_ble_eq_true rfl⟩ dX5_requireTwoBrokers_5 (fun n_5 => ?_) (fun E x_5 => hq_out ht hlk (by simp [sx_two, hx_or, x_5]) rfl (Nat.le_of_ble_eq_true rfl) (Nat.le_of_ble_eq_true rfl))
  refine hq_iload_n (q := 2) C dX5_requireTwoBrokers_8 rfl rfl ?_
  refine hq_aload_n (q := 0) C dX5_requireTwoBrokers_9 rfl rfl ?_
  refine hq_getI (f := 0) (g := 0) (Nc := 1) (Ns := 14) C fr_X5_66 dX5_requireTwoBrokers_10 rfl rfl rfl rfl rfl (by decide) Nat.one_pos ?_
  refine hq_cSXv (As := [.int _, .int _]) (rm := rX5_requireIndex) (Cn := "") C (m_X5_requireIndex hlt) ws_X5_requireIndex ml_X5_58 rfl rfl rfl rfl ⟨Nat.le_of_ble_eq_true rfl, Nat.le_of_ble_eq_true rfl⟩ (Nat.le_of_ble_eq_true rfl) ⟨Nat.le_of_ble_eq_true rfl, Nat.le_of_ble_eq_true rfl⟩ dX5_requireTwoBrokers_13 (fun n_13 => ?_) (fun E x_13 => hq_out ht hlk (by simp [sx_two, hx_or, n_5, x_13]) rfl (Nat.le_of_ble_eq_true rfl) (Nat.le_of_ble_eq_true rfl))
  refine hq_iload_n (q := 1) C dX5_requireTwoBrokers_16 rfl rfl ?_
  refine hq_iload_n (q := 2) C dX5_requireTwoBrokers_17 rfl rfl ?_
  refine hq_icmp_ne (tgt := 32) C dX5_requireTwoBrokers_18 (by decide) (fun c_18 => ?_) (fun c_18 => ?_)
  · exact hq_vretX C hr hlk dX5_requireTwoBrokers_32 (by simp [sx_two, hx_or, n_5, n_13, c_18]) rfl (Nat.le_of_ble_eq_true rfl) (Nat.le_of_ble_eq_true rfl)
  · exact hq_throwW C hlt ht hlk th_A C.2.2.2.2.2.2.1.2.1.2.1 C.2.2.2.2.2.2.1.2.2.2.2.2.2.2 dX5_requireTwoBrokers_21 dX5_requireTwoBrokers_24 dX5_requireTwoBrokers_25 dX5_requireTwoBrokers_28 dX5_requireTwoBrokers_31 ⟨Nat.le_of_ble_eq_true rfl, Nat.le_of_ble_eq_true rfl⟩ ⟨Nat.le_of_ble_eq_true rfl, Nat.le_of_ble_eq_true rfl⟩ ⟨Nat.le_of_ble_eq_true rfl, Nat.le_of_ble_eq_true rfl⟩ (by simp [sx_two, hx_or, n_5, n_13, c_18]) rfl
def sf_la (I : MI) (i k : Nat) (J : MJ) : MJ := sp_write (sp_change J (I 20 (12 * i + k)).toNatClampNeg (I 20 (12 * i + (k + 1))).toNatClampNeg (I 21 (12 * i + k)).toInt64) (I 20 (12 * i + k)).toNatClampNeg (I 20 (12 * i + (k + 1))).toNatClampNeg (I 21 (12 * i + k)).toInt64
def sf_tb (I : MI) (i k : Nat) (J : MJ) : MJ :=
  if I 17 i ≤ nI k then sp_write (sp_change J (I 20 (12 * i + k)).toNatClampNeg (I 20 (12 * i + (k + 1))).toNatClampNeg (-I 21 (12 * i + k)).toInt64) (I 20 (12 * i + k)).toNatClampNeg (I 20 (12 * i + (k + 1))).toNatClampNeg (-I 21 (12 * i + k)).toInt64
  else sp_write (sp_write (sp_change J (I 20 (12 * i + k)).toNatClampNeg (I 20 (12 * i + (k + 1))).toNatClampNeg (-I 21 (12 * i + k)).toInt64) (I 20 (12 * i + k)).toNatClampNeg (I 20 (12 * i + (k + 1))).toNatClampNeg (-I 21 (12 * i + k)).toInt64) (I 20 (12 * i + (k + 1))).toNatClampNeg (I 20 (12 * i + k)).toNatClampNeg (I 21 (12 * i + k)).toInt64
set_option maxHeartbeats 4000000 in
set_option maxRecDepth 100000 in
theorem m_X5_letArise {l : Launch} {D : va_G} {b0 : Nat} {I : MI} {J : MJ} {P : MI} {N : MJ} {o : Int64} {i n q : Nat} (hi : i < 40) (hw : hw_wy I i n) (hq9 : I 17 i = nI q) (hqn : q ≤ n) : hM l yX5_letArise cX5_letArise 5 none rX5_letArise D b0 [.ref (hw_ad b0 0 0), .ref (hw_ad b0 6 i)] I J P N o none I (lp (sf_la I i) (n - q) q J) P N o := by
  obtain ⟨hn12, hn, hok⟩ := hw
  refine hw_Mof (by decide) [(0, .ref _), (1, .ref _)] rfl (Nat.le_of_ble_eq_true rfl) ?_
  intro p e s m args below meth c C hr hlk hnm
  refine hq_aload_n (q := 1) C dX5_letArise_0 rfl rfl ?_
  refine hq_getI (f := 6) (g := 17) (Nc := 40) (Ns := 10) C fr_X5_221 dX5_letArise_1 rfl rfl rfl rfl rfl (by decide) (by first | assumption | omega) ?_
  refine hq_istore_n (L' := [(2, .int _), (0, .ref _), (1, .ref _)]) C dX5_letArise_4 rfl (by decide) rfl ?_
  refine hq_fin [0, 1, 2] (L' := [(2, .int (nI q)), (0, .ref (hw_ad b0 0 0)), (1, .ref (hw_ad b0 6 i))]) (by rw [hq9]; rfl) rfl rfl rfl rfl rfl ?_
  refine lp_back (sf_la I i) (fun (k9 : Nat) (σ : MJ) => hw_V p l e rX5_letArise s m args below meth c (MQ below (hw_Q D b0 false (hw_n o) none (hw_vl b0 I (lp (sf_la I i) (n - q) q J) P N o)) args s 0 0 (fun q => b0 ≤ q)) D b0 5 false 0 0 (hw_n o) 5 [(2, .int (nI k9)), (0, .ref (hw_ad b0 0 0)), (1, .ref (hw_ad b0 6 i))] [] (hw_vl b0 I σ P N o)) (fun _ _ => True) n ?_ (fun _ _ _ _ => trivial) (n - q) q J (by omega) trivial ?_
  · intro k9 σ hi hinv k
    have hi9 := hi
    have hk12 : k9 < 12 := by omega
    refine hq_iload_n (q := 0) C dX5_letArise_5 rfl rfl ?_
    refine hq_aload_n (q := 2) C dX5_letArise_6 rfl rfl ?_
    refine hq_getI (f := 6) (g := 19) (Nc := 40) (Ns := 10) C fr_X5_275 dX5_letArise_7 rfl rfl rfl rfl rfl (by decide) (by first | assumption | omega) ?_
    refine hq_iconst (y := 1) C dX5_letArise_10 (by decide) ?_
    refine hq_isub C dX5_letArise_11 ?_
    refine hq_icmp_ge (tgt := 72) C dX5_letArise_12 (by decide) (fun c_12 => absurd c_12 (by rw [hn]; intro z; rw [nI_pred] at z; exact nI_ge hi9 (by omega) z)) (fun c_12 => ?_)
    refine hq_aload_n (q := 2) C dX5_letArise_15 rfl rfl ?_
    refine hq_getR (f := 6) (g := 7) (Nc := 40) (Ns := 10) C fr_X5_276 dX5_letArise_16 rfl rfl rfl rfl rfl (by decide) (by first | assumption | omega) ?_
    refine hq_iload_n (q := 0) C dX5_letArise_19 rfl rfl ?_
    refine hq_ialdIw (f := 7) (g := 20) (w := 12) (Nc := 40) (Ns := 12) C dX5_letArise_20 rfl rfl rfl ⟨rfl, by decide⟩ rfl rfl (by first | rfl | assumption) (by first | assumption | omega) (by first | assumption | omega) ?_
    refine hq_istore_n (L' := [(3, .int _), (2, .int _), (0, .ref _), (1, .ref _)]) C dX5_letArise_21 rfl (by decide) rfl ?_
    refine hq_aload_n (q := 3) C dX5_letArise_22 rfl rfl ?_
    refine hq_getR (f := 6) (g := 7) (Nc := 40) (Ns := 10) C fr_X5_276 dX5_letArise_23 rfl rfl rfl rfl rfl (by decide) (by first | assumption | omega) ?_
    refine hq_iload_n (q := 1) C dX5_letArise_26 rfl rfl ?_
    refine hq_iconst (y := 1) C dX5_letArise_27 (by decide) ?_
    refine hq_iadd C dX5_letArise_28 ?_
    refine hq_ialdIw (f := 7) (a := k9 + 1) (g := 20) (w := 12) (Nc := 40) (Ns := 12) C dX5_letArise_29 rfl rfl rfl ⟨rfl, by decide⟩ rfl rfl (nI_1 k9) (by omega) (by first | assumption | omega) ?_
    refine hq_istore (L' := [(4, .int _), (3, .int _), (2, .int _), (0, .ref _), (1, .ref _)]) C dX5_letArise_30 (by decide) rfl ?_
    refine hq_aload_n (q := 3) C dX5_letArise_32 rfl rfl ?_
    refine hq_getR (f := 0) (g := 11) (Nc := 1) (Ns := 14) C fr_X5_33 dX5_letArise_33 rfl rfl rfl rfl rfl (by decide) Nat.one_pos ?_
    refine hq_iload_n (q := 1) C dX5_letArise_36 rfl rfl ?_
    refine hq_iload (q := 0) C dX5_letArise_37 rfl ?_
    refine hq_aload_n (q := 4) C dX5_letArise_39 rfl rfl ?_
    refine hq_getR (f := 6) (g := 8) (Nc := 40) (Ns := 10) C fr_X5_278 dX5_letArise_40 rfl rfl rfl rfl rfl (by decide) (by first | assumption | omega) ?_
    refine hq_iload_n (q := 2) C dX5_letArise_43 rfl rfl ?_
    refine hq_ialdIw (f := 8) (g := 21) (w := 12) (Nc := 40) (Ns := 12) C dX5_letArise_44 rfl rfl rfl ⟨rfl, by decide⟩ rfl rfl (by first | rfl | assumption) (by first | assumption | omega) (by first | assumption | omega) ?_
    refine hq_i2l C dX5_letArise_45 ?_
    refine hq_cVv (As := [.int _, .int _, .long _]) (rm := rX2_change) (f := 11) (Nc := 1) C (m_X2_change (hok k9 (by omega)).x (hok k9 (by omega)).b (hok (k9 + 1) (by omega)).x (hok (k9 + 1) (by omega)).b) wv_X2_change ml_X5_281 rfl rfl rfl Nat.one_pos rfl rfl rfl rfl ⟨Nat.le_of_ble_eq_true rfl, Nat.le_of_ble_eq_true rfl⟩ (Nat.le_of_ble_eq_true rfl) ⟨Nat.le_of_ble_eq_true rfl, Nat.le_of_ble_eq_true rfl⟩ dX5_letArise_46 ?_
    refine hq_aload_n (q := 3) C dX5_letArise_49 rfl rfl ?_
    refine hq_getR (f := 0) (g := 11) (Nc := 1) (Ns := 14) C fr_X5_33 dX5_letArise_50 rfl rfl rfl rfl rfl (by decide) Nat.one_pos ?_
    refine hq_iload_n (q := 1) C dX5_letArise_53 rfl rfl ?_
    refine hq_iload (q := 0) C dX5_letArise_54 rfl ?_
    refine hq_aload_n (q := 4) C dX5_letArise_56 rfl rfl ?_
    refine hq_getR (f := 6) (g := 8) (Nc := 40) (Ns := 10) C fr_X5_278 dX5_letArise_57 rfl rfl rfl rfl rfl (by decide) (by first | assumption | omega) ?_
    refine hq_iload_n (q := 2) C dX5_letArise_60 rfl rfl ?_
    refine hq_ialdIw (f := 8) (g := 21) (w := 12) (Nc := 40) (Ns := 12) C dX5_letArise_61 rfl rfl rfl ⟨rfl, by decide⟩ rfl rfl (by first | rfl | assumption) (by first | assumption | omega) (by first | assumption | omega) ?_
    refine hq_i2l C dX5_letArise_62 ?_
    refine hq_cVv (As := [.int _, .int _, .long _]) (rm := rX2_write) (f := 11) (Nc := 1) C (m_X2_write (hok k9 (by omega)).x (hok k9 (by omega)).b (hok (k9 + 1) (by omega)).x (hok (k9 + 1) (by omega)).b) wv_X2_write ml_X5_284 rfl rfl rfl Nat.one_pos rfl rfl rfl rfl ⟨Nat.le_of_ble_eq_true rfl, Nat.le_of_ble_eq_true rfl⟩ (Nat.le_of_ble_eq_true rfl) ⟨Nat.le_of_ble_eq_true rfl, Nat.le_of_ble_eq_true rfl⟩ dX5_letArise_63 ?_
    refine hq_iinc (q := 2) (y := nI (_ + 1)) (L' := [(2, .int _), (4, .int _), (3, .int _), (0, .ref _), (1, .ref _)]) C dX5_letArise_66 rfl (hw_inc _) (by decide) rfl ?_
    refine hq_goto (tgt := 5) C dX5_letArise_69 (by decide) ?_
    exact hq_fin [0, 3, 4] rfl rfl rfl rfl rfl rfl k
  · refine hq_iload_n (q := 0) C dX5_letArise_5 rfl rfl ?_
    refine hq_aload_n (q := 2) C dX5_letArise_6 rfl rfl ?_
    refine hq_getI (f := 6) (g := 19) (Nc := 40) (Ns := 10) C fr_X5_275 dX5_letArise_7 rfl rfl rfl rfl rfl (by decide) (by first | assumption | omega) ?_
    refine hq_iconst (y := 1) C dX5_letArise_10 (by decide) ?_
    refine hq_isub C dX5_letArise_11 ?_
    refine hq_icmp_ge (tgt := 72) C dX5_letArise_12 (by decide) (fun c_12 => ?_) (fun c_12 => absurd (by rw [hn, nI_pred]; exact nI_le (Nat.le_refl n) (by omega)) c_12)
    exact hq_vret C hr hlk dX5_letArise_72 rfl
set_option maxHeartbeats 4000000 in
set_option maxRecDepth 100000 in
theorem m_X5_takeBack {l : Launch} {D : va_G} {b0 : Nat} {I : MI} {J : MJ} {P : MI} {N : MJ} {o : Int64} {i f t : Nat} {x y : Int32} (hi : i < 40) (hok : ∀ k, k ≤ t → hw_ok (I 20 (12 * i + k))) (ht : t < 12) (hx : x = nI f) (hy : y = nI t) (hft : f ≤ t) : hM l yX5_takeBack cX5_takeBack 7 none rX5_takeBack D b0 [.ref (hw_ad b0 0 0), .ref (hw_ad b0 6 i), .int x, .int y] I J P N o none I (lp (sf_tb I i) (t - f) f J) P N o := by
  refine hw_Mof (by decide) [(0, .ref _), (1, .ref _), (2, .int _), (3, .int _)] rfl (Nat.le_of_ble_eq_true rfl) ?_
  intro p e s m args below meth c C hr hlk hnm
  refine hq_iload_n (q := 2) C dX5_takeBack_0 rfl rfl ?_
  refine hq_istore (L' := [(4, .int _), (0, .ref _), (1, .ref _), (2, .int _), (3, .int _)]) C dX5_takeBack_1 (by decide) rfl ?_
  refine hq_fin [0, 1, 2, 3, 4] (L' := [(4, .int (nI f)), (0, .ref (hw_ad b0 0 0)), (1, .ref (hw_ad b0 6 i)), (2, .int (nI f)), (3, .int y)]) (by rw [hx]; rfl) rfl rfl rfl rfl rfl ?_
  subst hx
  refine lp_back (sf_tb I i) (fun (k9 : Nat) (σ : MJ) => hw_V p l e rX5_takeBack s m args below meth c (MQ below (hw_Q D b0 false (hw_n o) none (hw_vl b0 I (lp (sf_tb I i) (t - f) f J) P N o)) args s 0 0 (fun q => b0 ≤ q)) D b0 7 false 0 0 (hw_n o) 3 [(4, .int (nI k9)), (0, .ref (hw_ad b0 0 0)), (1, .ref (hw_ad b0 6 i)), (2, .int (nI f)), (3, .int y)] [] (hw_vl b0 I σ P N o)) (fun _ _ => True) t ?_ (fun _ _ _ _ => trivial) (t - f) f J (by omega) trivial ?_
  · intro k9 σ hi hinv k
    have hi9 := hi
    have hk12 : k9 < 12 := by omega
    refine hq_iload (q := 0) C dX5_takeBack_3 rfl ?_
    refine hq_iload_n (q := 4) C dX5_takeBack_5 rfl rfl ?_
    refine hq_icmp_ge (tgt := 103) C dX5_takeBack_6 (by decide) (fun c_6 => absurd c_6 (by rw [hy]; exact nI_ge hi9 (by omega))) (fun c_6 => ?_)
    refine hq_aload_n (q := 2) C dX5_takeBack_9 rfl rfl ?_
    refine hq_getR (f := 6) (g := 7) (Nc := 40) (Ns := 10) C fr_X5_276 dX5_takeBack_10 rfl rfl rfl rfl rfl (by decide) (by first | assumption | omega) ?_
    refine hq_iload (q := 0) C dX5_takeBack_13 rfl ?_
    refine hq_ialdIw (f := 7) (g := 20) (w := 12) (Nc := 40) (Ns := 12) C dX5_takeBack_15 rfl rfl rfl ⟨rfl, by decide⟩ rfl rfl (by first | rfl | assumption) (by first | assumption | omega) (by first | assumption | omega) ?_
    refine hq_istore (L' := [(5, .int _), (4, .int _), (0, .ref _), (1, .ref _), (2, .int _), (3, .int _)]) C dX5_takeBack_16 (by decide) rfl ?_
    refine hq_aload_n (q := 3) C dX5_takeBack_18 rfl rfl ?_
    refine hq_getR (f := 6) (g := 7) (Nc := 40) (Ns := 10) C fr_X5_276 dX5_takeBack_19 rfl rfl rfl rfl rfl (by decide) (by first | assumption | omega) ?_
    refine hq_iload (q := 1) C dX5_takeBack_22 rfl ?_
    refine hq_iconst (y := 1) C dX5_takeBack_24 (by decide) ?_
    refine hq_iadd C dX5_takeBack_25 ?_
    refine hq_ialdIw (f := 7) (a := k9 + 1) (g := 20) (w := 12) (Nc := 40) (Ns := 12) C dX5_takeBack_26 rfl rfl rfl ⟨rfl, by decide⟩ rfl rfl (nI_1 k9) (by omega) (by first | assumption | omega) ?_
    refine hq_istore (L' := [(6, .int _), (5, .int _), (4, .int _), (0, .ref _), (1, .ref _), (2, .int _), (3, .int _)]) C dX5_takeBack_27 (by decide) rfl ?_
    refine hq_aload_n (q := 3) C dX5_takeBack_29 rfl rfl ?_
    refine hq_getR (f := 0) (g := 11) (Nc := 1) (Ns := 14) C fr_X5_33 dX5_takeBack_30 rfl rfl rfl rfl rfl (by decide) Nat.one_pos ?_
    refine hq_iload (q := 1) C dX5_takeBack_33 rfl ?_
    refine hq_iload (q := 0) C dX5_takeBack_35 rfl ?_
    refine hq_aload_n (q := 4) C dX5_takeBack_37 rfl rfl ?_
    refine hq_getR (f := 6) (g := 8) (Nc := 40) (Ns := 10) C fr_X5_278 dX5_takeBack_38 rfl rfl rfl rfl rfl (by decide) (by first | assumption | omega) ?_
    refine hq_iload (q := 2) C dX5_takeBack_41 rfl ?_
    refine hq_ialdIw (f := 8) (g := 21) (w := 12) (Nc := 40) (Ns := 12) C dX5_takeBack_43 rfl rfl rfl ⟨rfl, by decide⟩ rfl rfl (by first | rfl | assumption) (by first | assumption | omega) (by first | assumption | omega) ?_
    refine hq_ineg C dX5_takeBack_44 ?_
    refine hq_i2l C dX5_takeBack_45 ?_
    refine hq_cVv (As := [.int _, .int _, .long _]) (rm := rX2_change) (f := 11) (Nc := 1) C (m_X2_change (hok k9 (by omega)).x (hok k9 (by omega)).b (hok (k9 + 1) (by omega)).x (hok (k9 + 1) (by omega)).b) wv_X2_change ml_X5_281 rfl rfl rfl Nat.one_pos rfl rfl rfl rfl ⟨Nat.le_of_ble_eq_true rfl, Nat.le_of_ble_eq_true rfl⟩ (Nat.le_of_ble_eq_true rfl) ⟨Nat.le_of_ble_eq_true rfl, Nat.le_of_ble_eq_true rfl⟩ dX5_takeBack_46 ?_
    refine hq_aload_n (q := 3) C dX5_takeBack_49 rfl rfl ?_
    refine hq_getR (f := 0) (g := 11) (Nc := 1) (Ns := 14) C fr_X5_33 dX5_takeBack_50 rfl rfl rfl rfl rfl (by decide) Nat.one_pos ?_
    refine hq_iload (q := 1) C dX5_takeBack_53 rfl ?_
    refine hq_iload (q := 0) C dX5_takeBack_55 rfl ?_
    refine hq_aload_n (q := 4) C dX5_takeBack_57 rfl rfl ?_
    refine hq_getR (f := 6) (g := 8) (Nc := 40) (Ns := 10) C fr_X5_278 dX5_takeBack_58 rfl rfl rfl rfl rfl (by decide) (by first | assumption | omega) ?_
    refine hq_iload (q := 2) C dX5_takeBack_61 rfl ?_
    refine hq_ialdIw (f := 8) (g := 21) (w := 12) (Nc := 40) (Ns := 12) C dX5_takeBack_63 rfl rfl rfl ⟨rfl, by decide⟩ rfl rfl (by first | rfl | assumption) (by first | assumption | omega) (by first | assumption | omega) ?_
    refine hq_ineg C dX5_takeBack_64 ?_
    refine hq_i2l C dX5_takeBack_65 ?_
    refine hq_cVv (As := [.int _, .int _, .long _]) (rm := rX2_write) (f := 11) (Nc := 1) C (m_X2_write (hok k9 (by omega)).x (hok k9 (by omega)).b (hok (k9 + 1) (by omega)).x (hok (k9 + 1) (by omega)).b) wv_X2_write ml_X5_284 rfl rfl rfl Nat.one_pos rfl rfl rfl rfl ⟨Nat.le_of_ble_eq_true rfl, Nat.le_of_ble_eq_true rfl⟩ (Nat.le_of_ble_eq_true rfl) ⟨Nat.le_of_ble_eq_true rfl, Nat.le_of_ble_eq_true rfl⟩ dX5_takeBack_66 ?_
    refine hq_iload (q := 2) C dX5_takeBack_69 rfl ?_
    refine hq_aload_n (q := 4) C dX5_takeBack_71 rfl rfl ?_
    refine hq_getI (f := 6) (g := 17) (Nc := 40) (Ns := 10) C fr_X5_221 dX5_takeBack_72 rfl rfl rfl rfl rfl (by decide) (by first | assumption | omega) ?_
    refine hq_icmp_ge (tgt := 97) C dX5_takeBack_75 (by decide) (fun c_75 => ?_) (fun c_75 => ?_)
    · refine hq_iinc (q := 2) (y := nI (_ + 1)) (L' := [(4, .int _), (6, .int _), (5, .int _), (0, .ref _), (1, .ref _), (2, .int _), (3, .int _)]) C dX5_takeBack_97 rfl (hw_inc _) (by decide) rfl ?_
      refine hq_goto (tgt := 3) C dX5_takeBack_100 (by decide) ?_
      exact hq_fin [0, 3, 4, 5, 6] (by first | rfl | (simp only [sf_tb, c_75, ↓reduceIte, not_true_eq_false, not_false_eq_true]; rfl) | simp [lv_pick, sf_tb, c_75]) (by first | rfl | (simp only [sf_tb, c_75, ↓reduceIte, not_true_eq_false, not_false_eq_true]; done) | (simp only [sf_tb, c_75, ↓reduceIte, not_true_eq_false, not_false_eq_true]; rfl) | simp [sf_tb, c_75]) (by first | rfl | (simp only [sf_tb, c_75, ↓reduceIte, not_true_eq_false, not_false_eq_true]; done) | (simp only [sf_tb, c_75, ↓reduceIte, not_true_eq_false, not_false_eq_true]; rfl) | simp [sf_tb, c_75]) (by first | rfl | (simp only [sf_tb, c_75, ↓reduceIte, not_true_eq_false, not_false_eq_true]; done) | (simp only [sf_tb, c_75, ↓reduceIte, not_true_eq_false, not_false_eq_true]; rfl) | simp [sf_tb, c_75]) (by first | rfl | (simp only [sf_tb, c_75, ↓reduceIte, not_true_eq_false, not_false_eq_true]; done) | (simp only [sf_tb, c_75, ↓reduceIte, not_true_eq_false, not_false_eq_true]; rfl) | simp [sf_tb, c_75]) (by first | rfl | (simp only [sf_tb, c_75, ↓reduceIte, not_true_eq_false, not_false_eq_true]; done) | (simp only [sf_tb, c_75, ↓reduceIte, not_true_eq_false, not_false_eq_true]; rfl) | simp [sf_tb, c_75]) k
    · refine hq_aload_n (q := 3) C dX5_takeBack_78 rfl rfl ?_
      refine hq_getR (f := 0) (g := 11) (Nc := 1) (Ns := 14) C fr_X5_33 dX5_takeBack_79 rfl rfl rfl rfl rfl (by decide) Nat.one_pos ?_
      refine hq_iload (q := 0) C dX5_takeBack_82 rfl ?_
      refine hq_iload (q := 1) C dX5_takeBack_84 rfl ?_
      refine hq_aload_n (q := 4) C dX5_takeBack_86 rfl rfl ?_
      refine hq_getR (f := 6) (g := 8) (Nc := 40) (Ns := 10) C fr_X5_278 dX5_takeBack_87 rfl rfl rfl rfl rfl (by decide) (by first | assumption | omega) ?_
      refine hq_iload (q := 2) C dX5_takeBack_90 rfl ?_
      refine hq_ialdIw (f := 8) (g := 21) (w := 12) (Nc := 40) (Ns := 12) C dX5_takeBack_92 rfl rfl rfl ⟨rfl, by decide⟩ rfl rfl (by first | rfl | assumption) (by first | assumption | omega) (by first | assumption | omega) ?_
      refine hq_i2l C dX5_takeBack_93 ?_
      refine hq_cVv (As := [.int _, .int _, .long _]) (rm := rX2_write) (f := 11) (Nc := 1) C (m_X2_write (hok (k9 + 1) (by omega)).x (hok (k9 + 1) (by omega)).b (hok k9 (by omega)).x (hok k9 (by omega)).b) wv_X2_write ml_X5_284 rfl rfl rfl Nat.one_pos rfl rfl rfl rfl ⟨Nat.le_of_ble_eq_true rfl, Nat.le_of_ble_eq_true rfl⟩ (Nat.le_of_ble_eq_true rfl) ⟨Nat.le_of_ble_eq_true rfl, Nat.le_of_ble_eq_true rfl⟩ dX5_takeBack_94 ?_
      refine hq_iinc (q := 2) (y := nI (_ + 1)) (L' := [(4, .int _), (6, .int _), (5, .int _), (0, .ref _), (1, .ref _), (2, .int _), (3, .int _)]) C dX5_takeBack_97 rfl (hw_inc _) (by decide) rfl ?_
      refine hq_goto (tgt := 3) C dX5_takeBack_100 (by decide) ?_
      exact hq_fin [0, 3, 4, 5, 6] (by first | rfl | (simp only [sf_tb, c_75, ↓reduceIte, not_true_eq_false, not_false_eq_true]; rfl) | simp [lv_pick, sf_tb, c_75]) (by first | rfl | (simp only [sf_tb, c_75, ↓reduceIte, not_true_eq_false, not_false_eq_true]; done) | (simp only [sf_tb, c_75, ↓reduceIte, not_true_eq_false, not_false_eq_true]; rfl) | simp [sf_tb, c_75]) (by first | rfl | (simp only [sf_tb, c_75, ↓reduceIte, not_true_eq_false, not_false_eq_true]; done) | (simp only [sf_tb, c_75, ↓reduceIte, not_true_eq_false, not_false_eq_true]; rfl) | simp [sf_tb, c_75]) (by first | rfl | (simp only [sf_tb, c_75, ↓reduceIte, not_true_eq_false, not_false_eq_true]; done) | (simp only [sf_tb, c_75, ↓reduceIte, not_true_eq_false, not_false_eq_true]; rfl) | simp [sf_tb, c_75]) (by first | rfl | (simp only [sf_tb, c_75, ↓reduceIte, not_true_eq_false, not_false_eq_true]; done) | (simp only [sf_tb, c_75, ↓reduceIte, not_true_eq_false, not_false_eq_true]; rfl) | simp [sf_tb, c_75]) (by first | rfl | (simp only [sf_tb, c_75, ↓reduceIte, not_true_eq_false, not_false_eq_true]; done) | (simp only [sf_tb, c_75, ↓reduceIte, not_true_eq_false, not_false_eq_true]; rfl) | simp [sf_tb, c_75]) k
  · refine hq_iload (q := 0) C dX5_takeBack_3 rfl ?_
    refine hq_iload_n (q := 4) C dX5_takeBack_5 rfl rfl ?_
    refine hq_icmp_ge (tgt := 103) C dX5_takeBack_6 (by decide) (fun c_6 => ?_) (fun c_6 => absurd (by rw [hy]; exact nI_le (Nat.le_refl t) (by omega)) c_6)
    exact hq_vret C hr hlk dX5_takeBack_103 rfl
def sp_ef (I : MI) (i : Nat) : MI := uI I 16 i (if ¬ I 7 (I 20 (12 * i + 0)).toNatClampNeg = 2 then 3 else 5)
set_option maxHeartbeats 4000000 in
set_option maxRecDepth 100000 in
theorem m_X5_endForward {l : Launch} {D : va_G} {b0 : Nat} {I : MI} {J : MJ} {P : MI} {N : MJ} {o : Int64} {i : Nat} (hi : i < 40) (hok : hw_ok (I 20 (12 * i + 0))) : hM l yX5_endForward cX5_endForward 2 none rX5_endForward D b0 [.ref (hw_ad b0 0 0), .ref (hw_ad b0 6 i)] I J P N o none (sp_ef I i) J P N o := by
  refine hw_Mof (by decide) [(0, .ref _), (1, .ref _)] rfl (Nat.le_of_ble_eq_true rfl) ?_
  intro p e s m args below meth c C hr hlk hnm
  refine hq_aload_n (q := 1) C dX5_endForward_0 rfl rfl ?_
  refine hq_aload_n (q := 0) C dX5_endForward_1 rfl rfl ?_
  refine hq_getR (f := 0) (g := 1) (Nc := 1) (Ns := 14) C fr_X5_11 dX5_endForward_2 rfl rfl rfl rfl rfl (by decide) Nat.one_pos ?_
  refine hq_aload_n (q := 1) C dX5_endForward_5 rfl rfl ?_
  refine hq_cVr (As := []) (rm := rX3_firstBroker) (f := 6) (Nc := 40) C (m_X3_firstBroker (by first | assumption | omega)) wv_X3_firstBroker ml_X5_294 rfl rfl rfl (by first | assumption | omega) rfl rfl rfl rfl ⟨Nat.le_of_ble_eq_true rfl, Nat.le_of_ble_eq_true rfl⟩ (Nat.le_of_ble_eq_true rfl) ⟨Nat.le_of_ble_eq_true rfl, Nat.le_of_ble_eq_true rfl⟩ dX5_endForward_6 ?_
  refine hq_aaldBR0 (f := 1) (g := 2) (Nc := 1) (Ns := 12) C dX5_endForward_9 rfl rfl rfl rfl rfl rfl hok.x hok.b Nat.one_pos ?_
  refine hq_getI (f := 2) (g := 7) (Nc := 12) (Ns := 8) C fr_X5_97 dX5_endForward_10 rfl rfl rfl rfl rfl (by decide) hok.b ?_
  refine hq_iconst (y := 2) C dX5_endForward_13 (by decide) ?_
  refine hq_icmp_ne (tgt := 21) C dX5_endForward_14 (by decide) (fun c_14 => ?_) (fun c_14 => ?_)
  · refine hq_iconst (y := 3) C dX5_endForward_21 (by decide) ?_
    refine hq_putI (f := 6) (g := 16) (Nc := 40) (Ns := 10) C fl_X5_140 dX5_endForward_22 rfl rfl rfl rfl rfl (by decide) (by first | assumption | omega) rfl rfl ?_
    exact hq_vret C hr hlk dX5_endForward_25 (by first | (unfold sp_ef; rw [if_pos c_14]) | (unfold sp_ef; rw [if_neg (not_not_intro c_14)]))
  · refine hq_iconst (y := 5) C dX5_endForward_17 (by decide) ?_
    refine hq_goto (tgt := 22) C dX5_endForward_18 (by decide) ?_
    refine hq_putI (f := 6) (g := 16) (Nc := 40) (Ns := 10) C fl_X5_140 dX5_endForward_22 rfl rfl rfl rfl rfl (by decide) (by first | assumption | omega) rfl rfl ?_
    exact hq_vret C hr hlk dX5_endForward_25 (by first | (unfold sp_ef; rw [if_pos c_14]) | (unfold sp_ef; rw [if_neg (not_not_intro c_14)]))
set_option maxHeartbeats 4000000 in
set_option maxRecDepth 100000 in
theorem m_X5_goBack {l : Launch} {D : va_G} {b0 : Nat} {I : MI} {J : MJ} {P : MI} {N : MJ} {o : Int64} {i n : Nat} (hi : i < 40) (hw : hw_wy I i n) : hM l yX5_goBack cX5_goBack 2 none rX5_goBack D b0 [.ref (hw_ad b0 0 0), .ref (hw_ad b0 6 i)] I J P N o none (sp_ef I i) (lp (sf_tb I i) (n - 0) 0 J) P N o := by
  refine hw_Mof (by decide) [(0, .ref _), (1, .ref _)] rfl (Nat.le_of_ble_eq_true rfl) ?_
  intro p e s m args below meth c C hr hlk hnm
  refine hq_aload_n (q := 0) C dX5_goBack_0 rfl rfl ?_
  refine hq_aload_n (q := 1) C dX5_goBack_1 rfl rfl ?_
  refine hq_iconst (y := 0) C dX5_goBack_2 (by decide) ?_
  refine hq_aload_n (q := 1) C dX5_goBack_3 rfl rfl ?_
  refine hq_getI (f := 6) (g := 19) (Nc := 40) (Ns := 10) C fr_X5_275 dX5_goBack_4 rfl rfl rfl rfl rfl (by decide) (by first | assumption | omega) ?_
  refine hq_iconst (y := 1) C dX5_goBack_7 (by decide) ?_
  refine hq_isub C dX5_goBack_8 ?_
  refine hq_cVv (As := [.ref _, .int _, .int _]) (rm := rX5_takeBack) (f := 0) (Nc := 1) C (m_X5_takeBack hi hw.2.2 hw.1 (f := 0) (t := n) rfl (by rw [hw.2.1]; exact nI_pred n) (Nat.zero_le n)) wv_X5_takeBack ml_X5_287 rfl rfl rfl Nat.one_pos rfl rfl rfl rfl ⟨Nat.le_of_ble_eq_true rfl, Nat.le_of_ble_eq_true rfl⟩ (Nat.le_of_ble_eq_true rfl) ⟨Nat.le_of_ble_eq_true rfl, Nat.le_of_ble_eq_true rfl⟩ dX5_goBack_9 ?_
  refine hq_aload_n (q := 0) C dX5_goBack_12 rfl rfl ?_
  refine hq_aload_n (q := 1) C dX5_goBack_13 rfl rfl ?_
  refine hq_cVv (As := [.ref _]) (rm := rX5_endForward) (f := 0) (Nc := 1) C (m_X5_endForward hi (hw.2.2 0 (Nat.zero_le n))) wv_X5_endForward ml_X5_291 rfl rfl rfl Nat.one_pos rfl rfl rfl rfl ⟨Nat.le_of_ble_eq_true rfl, Nat.le_of_ble_eq_true rfl⟩ (Nat.le_of_ble_eq_true rfl) ⟨Nat.le_of_ble_eq_true rfl, Nat.le_of_ble_eq_true rfl⟩ dX5_goBack_14 ?_
  exact hq_vret C hr hlk dX5_goBack_17 rfl
def sp_tell (I : MI) (t : Nat) (x : Int32) : MI := if x ≤ I 28 t then I else uI I 29 t (I 29 t + 1)
set_option maxHeartbeats 4000000 in
set_option maxRecDepth 100000 in
theorem m_X5_tellTown {l : Launch} {D : va_G} {b0 : Nat} {I : MI} {J : MJ} {P : MI} {N : MJ} {o : Int64} {t : Nat} {x y : Int32} (hx : x = nI t) (ht : t < 8) : hM l yX5_tellTown cX5_tellTown 3 none rX5_tellTown D b0 [.ref (hw_ad b0 0 0), .int x, .int y] I J P N o none (sp_tell I t y) J P N o := by
  refine hw_Mof (by decide) [(0, .ref _), (1, .int _), (2, .int _)] rfl (Nat.le_of_ble_eq_true rfl) ?_
  intro p e s m args below meth c C hr hlk hnm
  refine hq_iload_n (q := 2) C dX5_tellTown_0 rfl rfl ?_
  refine hq_aload_n (q := 0) C dX5_tellTown_1 rfl rfl ?_
  refine hq_getR (f := 0) (g := 23) (Nc := 1) (Ns := 14) C fr_X5_46 dX5_tellTown_2 rfl rfl rfl rfl rfl (by decide) Nat.one_pos ?_
  refine hq_iload_n (q := 1) C dX5_tellTown_5 rfl rfl ?_
  refine hq_ialdI0 (f := 23) (g := 28) (Nc := 1) (Ns := 8) C dX5_tellTown_6 rfl rfl rfl rfl rfl rfl (by first | rfl | assumption) (by first | assumption | omega) Nat.one_pos ?_
  refine hq_icmp_le (tgt := 20) C dX5_tellTown_7 (by decide) (fun c_7 => ?_) (fun c_7 => ?_)
  · exact hq_vret C hr hlk dX5_tellTown_20 (by simp [sp_tell, c_7])
  · refine hq_aload_n (q := 0) C dX5_tellTown_10 rfl rfl ?_
    refine hq_getR (f := 0) (g := 24) (Nc := 1) (Ns := 14) C fr_X5_51 dX5_tellTown_11 rfl rfl rfl rfl rfl (by decide) Nat.one_pos ?_
    refine hq_iload_n (q := 1) C dX5_tellTown_14 rfl rfl ?_
    refine hq_dup2 C dX5_tellTown_15 rfl rfl ?_
    refine hq_ialdI0 (f := 24) (g := 29) (Nc := 1) (Ns := 8) C dX5_tellTown_16 rfl rfl rfl rfl rfl rfl (by first | rfl | assumption) (by first | assumption | omega) Nat.one_pos ?_
    refine hq_iconst (y := 1) C dX5_tellTown_17 (by decide) ?_
    refine hq_iadd C dX5_tellTown_18 ?_
    refine hq_iastI0 (f := 24) (g := 29) (Nc := 1) (Ns := 8) C dX5_tellTown_19 rfl rfl rfl rfl rfl rfl (by first | rfl | assumption) (by first | assumption | omega) Nat.one_pos ?_
    exact hq_vret C hr hlk dX5_tellTown_20 (by simp [sp_tell, c_7])
def sf_sg (I : MI) (i : Nat) (s : Int64) : Int64 := s + (I 14 i).toInt64
set_option maxHeartbeats 4000000 in
set_option maxRecDepth 100000 in
theorem m_X5_sumGiven {l : Launch} {D : va_G} {b0 : Nat} {I : MI} {J : MJ} {P : MI} {N : MJ} {o : Int64} {no : Nat} (hoc : I 1 0 = nI no) (hno : no ≤ 40) : hM l yX5_sumGiven cX5_sumGiven 4 (some .long) rX5_sumGiven D b0 [.ref (hw_ad b0 0 0)] I J P N o (some (.long (lp (sf_sg I) no 0 0))) I J P N o := by
  refine hw_Mof (by decide) [(0, .ref _)] rfl (Nat.le_of_ble_eq_true rfl) ?_
  intro p e s m args below meth c C hr hlk hnm
  refine hq_lconst (y := 0) C dX5_sumGiven_0 rfl ?_
  refine hq_lstore_n (L' := [(1, .long _), (0, .ref _)]) C dX5_sumGiven_1 rfl (by decide) rfl ?_
  refine hq_iconst (y := 0) C dX5_sumGiven_2 (by decide) ?_
  refine hq_istore_n (L' := [(3, .int _), (1, .long _), (0, .ref _)]) C dX5_sumGiven_3 rfl (by decide) rfl ?_
  refine hq_perm [0, 1, 2] (L' := [(3, .int (nI 0)), (1, .long (0)), (0, .ref (hw_ad b0 0 0))]) rfl ?_
  refine lp_back (sf_sg I) (fun (k9 : Nat) (σ : Int64) => hw_V p l e rX5_sumGiven s m args below meth c (MQ below (hw_Q D b0 false (hw_n o) (some (.long (lp (sf_sg I) no 0 0))) (hw_vl b0 I J P N o)) args s 0 0 (fun q => b0 ≤ q)) D b0 4 false 0 0 (hw_n o) 4 [(3, .int (nI k9)), (1, .long σ), (0, .ref (hw_ad b0 0 0))] [] (hw_vl b0 I J P N o)) (fun _ _ => True) no ?_ (fun _ _ _ _ => trivial) no 0 0 (by omega) trivial ?_
  · intro k9 σ hi hinv k
    have hi9 := hi
    refine hq_iload_n (q := 0) C dX5_sumGiven_4 rfl rfl ?_
    refine hq_aload_n (q := 2) C dX5_sumGiven_5 rfl rfl ?_
    refine hq_getI (f := 0) (g := 1) (Nc := 1) (Ns := 14) C fr_X5_124 dX5_sumGiven_6 rfl rfl rfl rfl rfl (by decide) Nat.one_pos ?_
    refine hq_icmp_ge (tgt := 31) C dX5_sumGiven_9 (by decide) (fun c_9 => absurd c_9 (by rw [hoc]; exact nI_ge hi9 (by omega))) (fun c_9 => ?_)
    refine hq_lload_n (q := 1) C dX5_sumGiven_12 rfl rfl ?_
    refine hq_aload_n (q := 2) C dX5_sumGiven_13 rfl rfl ?_
    refine hq_getR (f := 0) (g := 5) (Nc := 1) (Ns := 14) C fr_X5_18 dX5_sumGiven_14 rfl rfl rfl rfl rfl (by decide) Nat.one_pos ?_
    refine hq_iload_n (q := 0) C dX5_sumGiven_17 rfl rfl ?_
    refine hq_aaldOR0 (f := 5) (g := 6) (Nc := 1) (Ns := 40) C dX5_sumGiven_18 rfl rfl rfl rfl rfl rfl (by first | rfl | assumption) (by first | assumption | omega) Nat.one_pos ?_
    refine hq_getI (f := 6) (g := 14) (Nc := 40) (Ns := 10) C fr_X5_145 dX5_sumGiven_19 rfl rfl rfl rfl rfl (by decide) (by first | assumption | omega) ?_
    refine hq_i2l C dX5_sumGiven_22 ?_
    refine hq_ladd C dX5_sumGiven_23 ?_
    refine hq_lstore_n (L' := [(1, .long _), (3, .int _), (0, .ref _)]) C dX5_sumGiven_24 rfl (by decide) rfl ?_
    refine hq_iinc (q := 1) (y := nI (_ + 1)) (L' := [(3, .int _), (1, .long _), (0, .ref _)]) C dX5_sumGiven_25 rfl (hw_inc _) (by decide) rfl ?_
    refine hq_goto (tgt := 4) C dX5_sumGiven_28 (by decide) ?_
    exact hq_fin [0, 1, 2] (by first | rfl | (simp only [sf_sg, ↓reduceIte, not_true_eq_false, not_false_eq_true]; rfl) | simp [lv_pick, sf_sg]) (by first | rfl | simp [sf_sg]) (by first | rfl | simp [sf_sg]) (by first | rfl | simp [sf_sg]) (by first | rfl | simp [sf_sg]) (by first | rfl | simp [sf_sg]) k
  · refine hq_iload_n (q := 0) C dX5_sumGiven_4 rfl rfl ?_
    refine hq_aload_n (q := 2) C dX5_sumGiven_5 rfl rfl ?_
    refine hq_getI (f := 0) (g := 1) (Nc := 1) (Ns := 14) C fr_X5_124 dX5_sumGiven_6 rfl rfl rfl rfl rfl (by decide) Nat.one_pos ?_
    refine hq_icmp_ge (tgt := 31) C dX5_sumGiven_9 (by decide) (fun c_9 => ?_) (fun c_9 => absurd (by rw [hoc]; exact nI_le (Nat.le_refl no) (by omega)) c_9)
    refine hq_lload_n (q := 1) C dX5_sumGiven_31 rfl rfl ?_
    exact hq_lret C hr hlk dX5_sumGiven_32 rfl rfl
def sf_si (I : MI) (x : Int32) (i : Nat) (s : Int64) : Int64 := if ¬ I 16 i = x then s else s + (I 14 i).toInt64
set_option maxHeartbeats 4000000 in
set_option maxRecDepth 100000 in
theorem m_X5_sumGivenIn {l : Launch} {D : va_G} {b0 : Nat} {I : MI} {J : MJ} {P : MI} {N : MJ} {o : Int64} {no : Nat} (hoc : I 1 0 = nI no) (hno : no ≤ 40) {x : Int32} : hM l yX5_sumGivenIn cX5_sumGivenIn 5 (some .long) rX5_sumGivenIn D b0 [.ref (hw_ad b0 0 0), .int x] I J P N o (some (.long (lp (sf_si I x) no 0 0))) I J P N o := by
  refine hw_Mof (by decide) [(0, .ref _), (1, .int _)] rfl (Nat.le_of_ble_eq_true rfl) ?_
  intro p e s m args below meth c C hr hlk hnm
  refine hq_lconst (y := 0) C dX5_sumGivenIn_0 rfl ?_
  refine hq_lstore_n (L' := [(2, .long _), (0, .ref _), (1, .int _)]) C dX5_sumGivenIn_1 rfl (by decide) rfl ?_
  refine hq_iconst (y := 0) C dX5_sumGivenIn_2 (by decide) ?_
  refine hq_istore (L' := [(4, .int _), (2, .long _), (0, .ref _), (1, .int _)]) C dX5_sumGivenIn_3 (by decide) rfl ?_
  refine hq_perm [0, 1, 2, 3] (L' := [(4, .int (nI 0)), (2, .long (0)), (0, .ref (hw_ad b0 0 0)), (1, .int x)]) rfl ?_
  refine lp_back (sf_si I x) (fun (k9 : Nat) (σ : Int64) => hw_V p l e rX5_sumGivenIn s m args below meth c (MQ below (hw_Q D b0 false (hw_n o) (some (.long (lp (sf_si I x) no 0 0))) (hw_vl b0 I J P N o)) args s 0 0 (fun q => b0 ≤ q)) D b0 5 false 0 0 (hw_n o) 5 [(4, .int (nI k9)), (2, .long σ), (0, .ref (hw_ad b0 0 0)), (1, .int x)] [] (hw_vl b0 I J P N o)) (fun _ _ => True) no ?_ (fun _ _ _ _ => trivial) no 0 0 (by omega) trivial ?_
  · intro k9 σ hi hinv k
    have hi9 := hi
    refine hq_iload (q := 0) C dX5_sumGivenIn_5 rfl ?_
    refine hq_aload_n (q := 2) C dX5_sumGivenIn_7 rfl rfl ?_
    refine hq_getI (f := 0) (g := 1) (Nc := 1) (Ns := 14) C fr_X5_124 dX5_sumGivenIn_8 rfl rfl rfl rfl rfl (by decide) Nat.one_pos ?_
    refine hq_icmp_ge (tgt := 48) C dX5_sumGivenIn_11 (by decide) (fun c_11 => absurd c_11 (by rw [hoc]; exact nI_ge hi9 (by omega))) (fun c_11 => ?_)
    refine hq_aload_n (q := 2) C dX5_sumGivenIn_14 rfl rfl ?_
    refine hq_getR (f := 0) (g := 5) (Nc := 1) (Ns := 14) C fr_X5_18 dX5_sumGivenIn_15 rfl rfl rfl rfl rfl (by decide) Nat.one_pos ?_
    refine hq_iload (q := 0) C dX5_sumGivenIn_18 rfl ?_
    refine hq_aaldOR0 (f := 5) (g := 6) (Nc := 1) (Ns := 40) C dX5_sumGivenIn_20 rfl rfl rfl rfl rfl rfl (by first | rfl | assumption) (by first | assumption | omega) Nat.one_pos ?_
    refine hq_getI (f := 6) (g := 16) (Nc := 40) (Ns := 10) C fr_X5_140 dX5_sumGivenIn_21 rfl rfl rfl rfl rfl (by decide) (by first | assumption | omega) ?_
    refine hq_iload_n (q := 3) C dX5_sumGivenIn_24 rfl rfl ?_
    refine hq_icmp_ne (tgt := 42) C dX5_sumGivenIn_25 (by decide) (fun c_25 => ?_) (fun c_25 => ?_)
    · refine hq_iinc (q := 0) (y := nI (_ + 1)) (L' := [(4, .int _), (2, .long _), (0, .ref _), (1, .int _)]) C dX5_sumGivenIn_42 rfl (hw_inc _) (by decide) rfl ?_
      refine hq_goto (tgt := 5) C dX5_sumGivenIn_45 (by decide) ?_
      exact hq_fin [0, 1, 2, 3] (by first | rfl | (simp only [sf_si, c_25, ↓reduceIte, not_true_eq_false, not_false_eq_true]; rfl) | simp [lv_pick, sf_si, c_25]) (by first | rfl | (simp only [sf_si, c_25, ↓reduceIte, not_true_eq_false, not_false_eq_true]; done) | (simp only [sf_si, c_25, ↓reduceIte, not_true_eq_false, not_false_eq_true]; rfl) | simp [sf_si, c_25]) (by first | rfl | (simp only [sf_si, c_25, ↓reduceIte, not_true_eq_false, not_false_eq_true]; done) | (simp only [sf_si, c_25, ↓reduceIte, not_true_eq_false, not_false_eq_true]; rfl) | simp [sf_si, c_25]) (by first | rfl | (simp only [sf_si, c_25, ↓reduceIte, not_true_eq_false, not_false_eq_true]; done) | (simp only [sf_si, c_25, ↓reduceIte, not_true_eq_false, not_false_eq_true]; rfl) | simp [sf_si, c_25]) (by first | rfl | (simp only [sf_si, c_25, ↓reduceIte, not_true_eq_false, not_false_eq_true]; done) | (simp only [sf_si, c_25, ↓reduceIte, not_true_eq_false, not_false_eq_true]; rfl) | simp [sf_si, c_25]) (by first | rfl | (simp only [sf_si, c_25, ↓reduceIte, not_true_eq_false, not_false_eq_true]; done) | (simp only [sf_si, c_25, ↓reduceIte, not_true_eq_false, not_false_eq_true]; rfl) | simp [sf_si, c_25]) k
    · refine hq_lload_n (q := 1) C dX5_sumGivenIn_28 rfl rfl ?_
      refine hq_aload_n (q := 2) C dX5_sumGivenIn_29 rfl rfl ?_
      refine hq_getR (f := 0) (g := 5) (Nc := 1) (Ns := 14) C fr_X5_18 dX5_sumGivenIn_30 rfl rfl rfl rfl rfl (by decide) Nat.one_pos ?_
      refine hq_iload (q := 0) C dX5_sumGivenIn_33 rfl ?_
      refine hq_aaldOR0 (f := 5) (g := 6) (Nc := 1) (Ns := 40) C dX5_sumGivenIn_35 rfl rfl rfl rfl rfl rfl (by first | rfl | assumption) (by first | assumption | omega) Nat.one_pos ?_
      refine hq_getI (f := 6) (g := 14) (Nc := 40) (Ns := 10) C fr_X5_145 dX5_sumGivenIn_36 rfl rfl rfl rfl rfl (by decide) (by first | assumption | omega) ?_
      refine hq_i2l C dX5_sumGivenIn_39 ?_
      refine hq_ladd C dX5_sumGivenIn_40 ?_
      refine hq_lstore_n (L' := [(2, .long _), (4, .int _), (0, .ref _), (1, .int _)]) C dX5_sumGivenIn_41 rfl (by decide) rfl ?_
      refine hq_iinc (q := 1) (y := nI (_ + 1)) (L' := [(4, .int _), (2, .long _), (0, .ref _), (1, .int _)]) C dX5_sumGivenIn_42 rfl (hw_inc _) (by decide) rfl ?_
      refine hq_goto (tgt := 5) C dX5_sumGivenIn_45 (by decide) ?_
      exact hq_fin [0, 1, 2, 3] (by first | rfl | (simp only [sf_si, c_25, ↓reduceIte, not_true_eq_false, not_false_eq_true]; rfl) | simp [lv_pick, sf_si, c_25]) (by first | rfl | (simp only [sf_si, c_25, ↓reduceIte, not_true_eq_false, not_false_eq_true]; done) | (simp only [sf_si, c_25, ↓reduceIte, not_true_eq_false, not_false_eq_true]; rfl) | simp [sf_si, c_25]) (by first | rfl | (simp only [sf_si, c_25, ↓reduceIte, not_true_eq_false, not_false_eq_true]; done) | (simp only [sf_si, c_25, ↓reduceIte, not_true_eq_false, not_false_eq_true]; rfl) | simp [sf_si, c_25]) (by first | rfl | (simp only [sf_si, c_25, ↓reduceIte, not_true_eq_false, not_false_eq_true]; done) | (simp only [sf_si, c_25, ↓reduceIte, not_true_eq_false, not_false_eq_true]; rfl) | simp [sf_si, c_25]) (by first | rfl | (simp only [sf_si, c_25, ↓reduceIte, not_true_eq_false, not_false_eq_true]; done) | (simp only [sf_si, c_25, ↓reduceIte, not_true_eq_false, not_false_eq_true]; rfl) | simp [sf_si, c_25]) (by first | rfl | (simp only [sf_si, c_25, ↓reduceIte, not_true_eq_false, not_false_eq_true]; done) | (simp only [sf_si, c_25, ↓reduceIte, not_true_eq_false, not_false_eq_true]; rfl) | simp [sf_si, c_25]) k
  · refine hq_iload (q := 0) C dX5_sumGivenIn_5 rfl ?_
    refine hq_aload_n (q := 2) C dX5_sumGivenIn_7 rfl rfl ?_
    refine hq_getI (f := 0) (g := 1) (Nc := 1) (Ns := 14) C fr_X5_124 dX5_sumGivenIn_8 rfl rfl rfl rfl rfl (by decide) Nat.one_pos ?_
    refine hq_icmp_ge (tgt := 48) C dX5_sumGivenIn_11 (by decide) (fun c_11 => ?_) (fun c_11 => absurd (by rw [hoc]; exact nI_le (Nat.le_refl no) (by omega)) c_11)
    refine hq_lload_n (q := 1) C dX5_sumGivenIn_48 rfl rfl ?_
    exact hq_lret C hr hlk dX5_sumGivenIn_49 rfl rfl
def sf_sp (I : MI) (i : Nat) (s : Int64) : Int64 := if ¬ I 16 i = 2 then s else s + (I 12 i).toInt64
set_option maxHeartbeats 4000000 in
set_option maxRecDepth 100000 in
theorem m_X5_sumPaidOut {l : Launch} {D : va_G} {b0 : Nat} {I : MI} {J : MJ} {P : MI} {N : MJ} {o : Int64} {no : Nat} (hoc : I 1 0 = nI no) (hno : no ≤ 40) : hM l yX5_sumPaidOut cX5_sumPaidOut 4 (some .long) rX5_sumPaidOut D b0 [.ref (hw_ad b0 0 0)] I J P N o (some (.long (lp (sf_sp I) no 0 0))) I J P N o := by
  refine hw_Mof (by decide) [(0, .ref _)] rfl (Nat.le_of_ble_eq_true rfl) ?_
  intro p e s m args below meth c C hr hlk hnm
  refine hq_lconst (y := 0) C dX5_sumPaidOut_0 rfl ?_
  refine hq_lstore_n (L' := [(1, .long _), (0, .ref _)]) C dX5_sumPaidOut_1 rfl (by decide) rfl ?_
  refine hq_iconst (y := 0) C dX5_sumPaidOut_2 (by decide) ?_
  refine hq_istore_n (L' := [(3, .int _), (1, .long _), (0, .ref _)]) C dX5_sumPaidOut_3 rfl (by decide) rfl ?_
  refine hq_perm [0, 1, 2] (L' := [(3, .int (nI 0)), (1, .long (0)), (0, .ref (hw_ad b0 0 0))]) rfl ?_
  refine lp_back (sf_sp I) (fun (k9 : Nat) (σ : Int64) => hw_V p l e rX5_sumPaidOut s m args below meth c (MQ below (hw_Q D b0 false (hw_n o) (some (.long (lp (sf_sp I) no 0 0))) (hw_vl b0 I J P N o)) args s 0 0 (fun q => b0 ≤ q)) D b0 4 false 0 0 (hw_n o) 4 [(3, .int (nI k9)), (1, .long σ), (0, .ref (hw_ad b0 0 0))] [] (hw_vl b0 I J P N o)) (fun _ _ => True) no ?_ (fun _ _ _ _ => trivial) no 0 0 (by omega) trivial ?_
  · intro k9 σ hi hinv k
    have hi9 := hi
    refine hq_iload_n (q := 0) C dX5_sumPaidOut_4 rfl rfl ?_
    refine hq_aload_n (q := 2) C dX5_sumPaidOut_5 rfl rfl ?_
    refine hq_getI (f := 0) (g := 1) (Nc := 1) (Ns := 14) C fr_X5_124 dX5_sumPaidOut_6 rfl rfl rfl rfl rfl (by decide) Nat.one_pos ?_
    refine hq_icmp_ge (tgt := 44) C dX5_sumPaidOut_9 (by decide) (fun c_9 => absurd c_9 (by rw [hoc]; exact nI_ge hi9 (by omega))) (fun c_9 => ?_)
    refine hq_aload_n (q := 2) C dX5_sumPaidOut_12 rfl rfl ?_
    refine hq_getR (f := 0) (g := 5) (Nc := 1) (Ns := 14) C fr_X5_18 dX5_sumPaidOut_13 rfl rfl rfl rfl rfl (by decide) Nat.one_pos ?_
    refine hq_iload_n (q := 0) C dX5_sumPaidOut_16 rfl rfl ?_
    refine hq_aaldOR0 (f := 5) (g := 6) (Nc := 1) (Ns := 40) C dX5_sumPaidOut_17 rfl rfl rfl rfl rfl rfl (by first | rfl | assumption) (by first | assumption | omega) Nat.one_pos ?_
    refine hq_getI (f := 6) (g := 16) (Nc := 40) (Ns := 10) C fr_X5_140 dX5_sumPaidOut_18 rfl rfl rfl rfl rfl (by decide) (by first | assumption | omega) ?_
    refine hq_iconst (y := 2) C dX5_sumPaidOut_21 (by decide) ?_
    refine hq_icmp_ne (tgt := 38) C dX5_sumPaidOut_22 (by decide) (fun c_22 => ?_) (fun c_22 => ?_)
    · refine hq_iinc (q := 0) (y := nI (_ + 1)) (L' := [(3, .int _), (1, .long _), (0, .ref _)]) C dX5_sumPaidOut_38 rfl (hw_inc _) (by decide) rfl ?_
      refine hq_goto (tgt := 4) C dX5_sumPaidOut_41 (by decide) ?_
      exact hq_fin [0, 1, 2] (by first | rfl | (simp only [sf_sp, c_22, ↓reduceIte, not_true_eq_false, not_false_eq_true]; rfl) | simp [lv_pick, sf_sp, c_22]) (by first | rfl | (simp only [sf_sp, c_22, ↓reduceIte, not_true_eq_false, not_false_eq_true]; done) | (simp only [sf_sp, c_22, ↓reduceIte, not_true_eq_false, not_false_eq_true]; rfl) | simp [sf_sp, c_22]) (by first | rfl | (simp only [sf_sp, c_22, ↓reduceIte, not_true_eq_false, not_false_eq_true]; done) | (simp only [sf_sp, c_22, ↓reduceIte, not_true_eq_false, not_false_eq_true]; rfl) | simp [sf_sp, c_22]) (by first | rfl | (simp only [sf_sp, c_22, ↓reduceIte, not_true_eq_false, not_false_eq_true]; done) | (simp only [sf_sp, c_22, ↓reduceIte, not_true_eq_false, not_false_eq_true]; rfl) | simp [sf_sp, c_22]) (by first | rfl | (simp only [sf_sp, c_22, ↓reduceIte, not_true_eq_false, not_false_eq_true]; done) | (simp only [sf_sp, c_22, ↓reduceIte, not_true_eq_false, not_false_eq_true]; rfl) | simp [sf_sp, c_22]) (by first | rfl | (simp only [sf_sp, c_22, ↓reduceIte, not_true_eq_false, not_false_eq_true]; done) | (simp only [sf_sp, c_22, ↓reduceIte, not_true_eq_false, not_false_eq_true]; rfl) | simp [sf_sp, c_22]) k
    · refine hq_lload_n (q := 1) C dX5_sumPaidOut_25 rfl rfl ?_
      refine hq_aload_n (q := 2) C dX5_sumPaidOut_26 rfl rfl ?_
      refine hq_getR (f := 0) (g := 5) (Nc := 1) (Ns := 14) C fr_X5_18 dX5_sumPaidOut_27 rfl rfl rfl rfl rfl (by decide) Nat.one_pos ?_
      refine hq_iload_n (q := 0) C dX5_sumPaidOut_30 rfl rfl ?_
      refine hq_aaldOR0 (f := 5) (g := 6) (Nc := 1) (Ns := 40) C dX5_sumPaidOut_31 rfl rfl rfl rfl rfl rfl (by first | rfl | assumption) (by first | assumption | omega) Nat.one_pos ?_
      refine hq_getI (f := 6) (g := 12) (Nc := 40) (Ns := 10) C fr_X5_131 dX5_sumPaidOut_32 rfl rfl rfl rfl rfl (by decide) (by first | assumption | omega) ?_
      refine hq_i2l C dX5_sumPaidOut_35 ?_
      refine hq_ladd C dX5_sumPaidOut_36 ?_
      refine hq_lstore_n (L' := [(1, .long _), (3, .int _), (0, .ref _)]) C dX5_sumPaidOut_37 rfl (by decide) rfl ?_
      refine hq_iinc (q := 1) (y := nI (_ + 1)) (L' := [(3, .int _), (1, .long _), (0, .ref _)]) C dX5_sumPaidOut_38 rfl (hw_inc _) (by decide) rfl ?_
      refine hq_goto (tgt := 4) C dX5_sumPaidOut_41 (by decide) ?_
      exact hq_fin [0, 1, 2] (by first | rfl | (simp only [sf_sp, c_22, ↓reduceIte, not_true_eq_false, not_false_eq_true]; rfl) | simp [lv_pick, sf_sp, c_22]) (by first | rfl | (simp only [sf_sp, c_22, ↓reduceIte, not_true_eq_false, not_false_eq_true]; done) | (simp only [sf_sp, c_22, ↓reduceIte, not_true_eq_false, not_false_eq_true]; rfl) | simp [sf_sp, c_22]) (by first | rfl | (simp only [sf_sp, c_22, ↓reduceIte, not_true_eq_false, not_false_eq_true]; done) | (simp only [sf_sp, c_22, ↓reduceIte, not_true_eq_false, not_false_eq_true]; rfl) | simp [sf_sp, c_22]) (by first | rfl | (simp only [sf_sp, c_22, ↓reduceIte, not_true_eq_false, not_false_eq_true]; done) | (simp only [sf_sp, c_22, ↓reduceIte, not_true_eq_false, not_false_eq_true]; rfl) | simp [sf_sp, c_22]) (by first | rfl | (simp only [sf_sp, c_22, ↓reduceIte, not_true_eq_false, not_false_eq_true]; done) | (simp only [sf_sp, c_22, ↓reduceIte, not_true_eq_false, not_false_eq_true]; rfl) | simp [sf_sp, c_22]) (by first | rfl | (simp only [sf_sp, c_22, ↓reduceIte, not_true_eq_false, not_false_eq_true]; done) | (simp only [sf_sp, c_22, ↓reduceIte, not_true_eq_false, not_false_eq_true]; rfl) | simp [sf_sp, c_22]) k
  · refine hq_iload_n (q := 0) C dX5_sumPaidOut_4 rfl rfl ?_
    refine hq_aload_n (q := 2) C dX5_sumPaidOut_5 rfl rfl ?_
    refine hq_getI (f := 0) (g := 1) (Nc := 1) (Ns := 14) C fr_X5_124 dX5_sumPaidOut_6 rfl rfl rfl rfl rfl (by decide) Nat.one_pos ?_
    refine hq_icmp_ge (tgt := 44) C dX5_sumPaidOut_9 (by decide) (fun c_9 => ?_) (fun c_9 => absurd (by rw [hoc]; exact nI_le (Nat.le_refl no) (by omega)) c_9)
    refine hq_lload_n (q := 1) C dX5_sumPaidOut_44 rfl rfl ?_
    exact hq_lret C hr hlk dX5_sumPaidOut_45 rfl rfl
def sf_sr (I : MI) (i : Nat) (s : Int64) : Int64 := if I 27 i = 0 then s else s + (I 24 i).toInt64
set_option maxHeartbeats 4000000 in
set_option maxRecDepth 100000 in
theorem m_X5_sumRobbed {l : Launch} {D : va_G} {b0 : Nat} {I : MI} {J : MJ} {P : MI} {N : MJ} {o : Int64} {nc : Nat} (hcc : I 2 0 = nI nc) (hnc : nc ≤ 40) : hM l yX5_sumRobbed cX5_sumRobbed 4 (some .long) rX5_sumRobbed D b0 [.ref (hw_ad b0 0 0)] I J P N o (some (.long (lp (sf_sr I) nc 0 0))) I J P N o := by
  refine hw_Mof (by decide) [(0, .ref _)] rfl (Nat.le_of_ble_eq_true rfl) ?_
  intro p e s m args below meth c C hr hlk hnm
  refine hq_lconst (y := 0) C dX5_sumRobbed_0 rfl ?_
  refine hq_lstore_n (L' := [(1, .long _), (0, .ref _)]) C dX5_sumRobbed_1 rfl (by decide) rfl ?_
  refine hq_iconst (y := 0) C dX5_sumRobbed_2 (by decide) ?_
  refine hq_istore_n (L' := [(3, .int _), (1, .long _), (0, .ref _)]) C dX5_sumRobbed_3 rfl (by decide) rfl ?_
  refine hq_perm [0, 1, 2] (L' := [(3, .int (nI 0)), (1, .long (0)), (0, .ref (hw_ad b0 0 0))]) rfl ?_
  refine lp_back (sf_sr I) (fun (k9 : Nat) (σ : Int64) => hw_V p l e rX5_sumRobbed s m args below meth c (MQ below (hw_Q D b0 false (hw_n o) (some (.long (lp (sf_sr I) nc 0 0))) (hw_vl b0 I J P N o)) args s 0 0 (fun q => b0 ≤ q)) D b0 4 false 0 0 (hw_n o) 4 [(3, .int (nI k9)), (1, .long σ), (0, .ref (hw_ad b0 0 0))] [] (hw_vl b0 I J P N o)) (fun _ _ => True) nc ?_ (fun _ _ _ _ => trivial) nc 0 0 (by omega) trivial ?_
  · intro k9 σ hi hinv k
    have hi9 := hi
    refine hq_iload_n (q := 0) C dX5_sumRobbed_4 rfl rfl ?_
    refine hq_aload_n (q := 2) C dX5_sumRobbed_5 rfl rfl ?_
    refine hq_getI (f := 0) (g := 2) (Nc := 1) (Ns := 14) C fr_X5_179 dX5_sumRobbed_6 rfl rfl rfl rfl rfl (by decide) Nat.one_pos ?_
    refine hq_icmp_ge (tgt := 43) C dX5_sumRobbed_9 (by decide) (fun c_9 => absurd c_9 (by rw [hcc]; exact nI_ge hi9 (by omega))) (fun c_9 => ?_)
    refine hq_aload_n (q := 2) C dX5_sumRobbed_12 rfl rfl ?_
    refine hq_getR (f := 0) (g := 9) (Nc := 1) (Ns := 14) C fr_X5_25 dX5_sumRobbed_13 rfl rfl rfl rfl rfl (by decide) Nat.one_pos ?_
    refine hq_iload_n (q := 0) C dX5_sumRobbed_16 rfl rfl ?_
    refine hq_aaldCR0 (f := 9) (g := 10) (Nc := 1) (Ns := 40) C dX5_sumRobbed_17 rfl rfl rfl rfl rfl rfl (by first | rfl | assumption) (by first | assumption | omega) Nat.one_pos ?_
    refine hq_getI (f := 10) (g := 27) (Nc := 40) (Ns := 6) C fr_X5_195 dX5_sumRobbed_18 rfl rfl rfl rfl rfl (by decide) (by first | assumption | omega) ?_
    refine hq_if_eq (tgt := 37) C dX5_sumRobbed_21 (by decide) (fun c_21 => ?_) (fun c_21 => ?_)
    · refine hq_iinc (q := 0) (y := nI (_ + 1)) (L' := [(3, .int _), (1, .long _), (0, .ref _)]) C dX5_sumRobbed_37 rfl (hw_inc _) (by decide) rfl ?_
      refine hq_goto (tgt := 4) C dX5_sumRobbed_40 (by decide) ?_
      exact hq_fin [0, 1, 2] (by first | rfl | (simp only [sf_sr, c_21, ↓reduceIte, not_true_eq_false, not_false_eq_true]; rfl) | simp [lv_pick, sf_sr, c_21]) (by first | rfl | (simp only [sf_sr, c_21, ↓reduceIte, not_true_eq_false, not_false_eq_true]; done) | (simp only [sf_sr, c_21, ↓reduceIte, not_true_eq_false, not_false_eq_true]; rfl) | simp [sf_sr, c_21]) (by first | rfl | (simp only [sf_sr, c_21, ↓reduceIte, not_true_eq_false, not_false_eq_true]; done) | (simp only [sf_sr, c_21, ↓reduceIte, not_true_eq_false, not_false_eq_true]; rfl) | simp [sf_sr, c_21]) (by first | rfl | (simp only [sf_sr, c_21, ↓reduceIte, not_true_eq_false, not_false_eq_true]; done) | (simp only [sf_sr, c_21, ↓reduceIte, not_true_eq_false, not_false_eq_true]; rfl) | simp [sf_sr, c_21]) (by first | rfl | (simp only [sf_sr, c_21, ↓reduceIte, not_true_eq_false, not_false_eq_true]; done) | (simp only [sf_sr, c_21, ↓reduceIte, not_true_eq_false, not_false_eq_true]; rfl) | simp [sf_sr, c_21]) (by first | rfl | (simp only [sf_sr, c_21, ↓reduceIte, not_true_eq_false, not_false_eq_true]; done) | (simp only [sf_sr, c_21, ↓reduceIte, not_true_eq_false, not_false_eq_true]; rfl) | simp [sf_sr, c_21]) k
    · refine hq_lload_n (q := 1) C dX5_sumRobbed_24 rfl rfl ?_
      refine hq_aload_n (q := 2) C dX5_sumRobbed_25 rfl rfl ?_
      refine hq_getR (f := 0) (g := 9) (Nc := 1) (Ns := 14) C fr_X5_25 dX5_sumRobbed_26 rfl rfl rfl rfl rfl (by decide) Nat.one_pos ?_
      refine hq_iload_n (q := 0) C dX5_sumRobbed_29 rfl rfl ?_
      refine hq_aaldCR0 (f := 9) (g := 10) (Nc := 1) (Ns := 40) C dX5_sumRobbed_30 rfl rfl rfl rfl rfl rfl (by first | rfl | assumption) (by first | assumption | omega) Nat.one_pos ?_
      refine hq_getI (f := 10) (g := 24) (Nc := 40) (Ns := 6) C fr_X5_188 dX5_sumRobbed_31 rfl rfl rfl rfl rfl (by decide) (by first | assumption | omega) ?_
      refine hq_i2l C dX5_sumRobbed_34 ?_
      refine hq_ladd C dX5_sumRobbed_35 ?_
      refine hq_lstore_n (L' := [(1, .long _), (3, .int _), (0, .ref _)]) C dX5_sumRobbed_36 rfl (by decide) rfl ?_
      refine hq_iinc (q := 1) (y := nI (_ + 1)) (L' := [(3, .int _), (1, .long _), (0, .ref _)]) C dX5_sumRobbed_37 rfl (hw_inc _) (by decide) rfl ?_
      refine hq_goto (tgt := 4) C dX5_sumRobbed_40 (by decide) ?_
      exact hq_fin [0, 1, 2] (by first | rfl | (simp only [sf_sr, c_21, ↓reduceIte, not_true_eq_false, not_false_eq_true]; rfl) | simp [lv_pick, sf_sr, c_21]) (by first | rfl | (simp only [sf_sr, c_21, ↓reduceIte, not_true_eq_false, not_false_eq_true]; done) | (simp only [sf_sr, c_21, ↓reduceIte, not_true_eq_false, not_false_eq_true]; rfl) | simp [sf_sr, c_21]) (by first | rfl | (simp only [sf_sr, c_21, ↓reduceIte, not_true_eq_false, not_false_eq_true]; done) | (simp only [sf_sr, c_21, ↓reduceIte, not_true_eq_false, not_false_eq_true]; rfl) | simp [sf_sr, c_21]) (by first | rfl | (simp only [sf_sr, c_21, ↓reduceIte, not_true_eq_false, not_false_eq_true]; done) | (simp only [sf_sr, c_21, ↓reduceIte, not_true_eq_false, not_false_eq_true]; rfl) | simp [sf_sr, c_21]) (by first | rfl | (simp only [sf_sr, c_21, ↓reduceIte, not_true_eq_false, not_false_eq_true]; done) | (simp only [sf_sr, c_21, ↓reduceIte, not_true_eq_false, not_false_eq_true]; rfl) | simp [sf_sr, c_21]) (by first | rfl | (simp only [sf_sr, c_21, ↓reduceIte, not_true_eq_false, not_false_eq_true]; done) | (simp only [sf_sr, c_21, ↓reduceIte, not_true_eq_false, not_false_eq_true]; rfl) | simp [sf_sr, c_21]) k
  · refine hq_iload_n (q := 0) C dX5_sumRobbed_4 rfl rfl ?_
    refine hq_aload_n (q := 2) C dX5_sumRobbed_5 rfl rfl ?_
    refine hq_getI (f := 0) (g := 2) (Nc := 1) (Ns := 14) C fr_X5_179 dX5_sumRobbed_6 rfl rfl rfl rfl rfl (by decide) Nat.one_pos ?_
    refine hq_icmp_ge (tgt := 43) C dX5_sumRobbed_9 (by decide) (fun c_9 => ?_) (fun c_9 => absurd (by rw [hcc]; exact nI_le (Nat.le_refl nc) (by omega)) c_9)
    refine hq_lload_n (q := 1) C dX5_sumRobbed_43 rfl rfl ?_
    exact hq_lret C hr hlk dX5_sumRobbed_44 rfl rfl
def sf_so (I : MI) (i : Nat) (s : Int64) : Int64 := if I 26 i = 0 then s else s + (I 24 i).toInt64
set_option maxHeartbeats 4000000 in
set_option maxRecDepth 100000 in
theorem m_X5_sumOnRoad {l : Launch} {D : va_G} {b0 : Nat} {I : MI} {J : MJ} {P : MI} {N : MJ} {o : Int64} {nc : Nat} (hcc : I 2 0 = nI nc) (hnc : nc ≤ 40) : hM l yX5_sumOnRoad cX5_sumOnRoad 4 (some .long) rX5_sumOnRoad D b0 [.ref (hw_ad b0 0 0)] I J P N o (some (.long (lp (sf_so I) nc 0 0))) I J P N o := by
  refine hw_Mof (by decide) [(0, .ref _)] rfl (Nat.le_of_ble_eq_true rfl) ?_
  intro p e s m args below meth c C hr hlk hnm
  refine hq_lconst (y := 0) C dX5_sumOnRoad_0 rfl ?_
  refine hq_lstore_n (L' := [(1, .long _), (0, .ref _)]) C dX5_sumOnRoad_1 rfl (by decide) rfl ?_
  refine hq_iconst (y := 0) C dX5_sumOnRoad_2 (by decide) ?_
  refine hq_istore_n (L' := [(3, .int _), (1, .long _), (0, .ref _)]) C dX5_sumOnRoad_3 rfl (by decide) rfl ?_
  refine hq_perm [0, 1, 2] (L' := [(3, .int (nI 0)), (1, .long (0)), (0, .ref (hw_ad b0 0 0))]) rfl ?_
  refine lp_back (sf_so I) (fun (k9 : Nat) (σ : Int64) => hw_V p l e rX5_sumOnRoad s m args below meth c (MQ below (hw_Q D b0 false (hw_n o) (some (.long (lp (sf_so I) nc 0 0))) (hw_vl b0 I J P N o)) args s 0 0 (fun q => b0 ≤ q)) D b0 4 false 0 0 (hw_n o) 4 [(3, .int (nI k9)), (1, .long σ), (0, .ref (hw_ad b0 0 0))] [] (hw_vl b0 I J P N o)) (fun _ _ => True) nc ?_ (fun _ _ _ _ => trivial) nc 0 0 (by omega) trivial ?_
  · intro k9 σ hi hinv k
    have hi9 := hi
    refine hq_iload_n (q := 0) C dX5_sumOnRoad_4 rfl rfl ?_
    refine hq_aload_n (q := 2) C dX5_sumOnRoad_5 rfl rfl ?_
    refine hq_getI (f := 0) (g := 2) (Nc := 1) (Ns := 14) C fr_X5_179 dX5_sumOnRoad_6 rfl rfl rfl rfl rfl (by decide) Nat.one_pos ?_
    refine hq_icmp_ge (tgt := 43) C dX5_sumOnRoad_9 (by decide) (fun c_9 => absurd c_9 (by rw [hcc]; exact nI_ge hi9 (by omega))) (fun c_9 => ?_)
    refine hq_aload_n (q := 2) C dX5_sumOnRoad_12 rfl rfl ?_
    refine hq_getR (f := 0) (g := 9) (Nc := 1) (Ns := 14) C fr_X5_25 dX5_sumOnRoad_13 rfl rfl rfl rfl rfl (by decide) Nat.one_pos ?_
    refine hq_iload_n (q := 0) C dX5_sumOnRoad_16 rfl rfl ?_
    refine hq_aaldCR0 (f := 9) (g := 10) (Nc := 1) (Ns := 40) C dX5_sumOnRoad_17 rfl rfl rfl rfl rfl rfl (by first | rfl | assumption) (by first | assumption | omega) Nat.one_pos ?_
    refine hq_getI (f := 10) (g := 26) (Nc := 40) (Ns := 6) C fr_X5_192 dX5_sumOnRoad_18 rfl rfl rfl rfl rfl (by decide) (by first | assumption | omega) ?_
    refine hq_if_eq (tgt := 37) C dX5_sumOnRoad_21 (by decide) (fun c_21 => ?_) (fun c_21 => ?_)
    · refine hq_iinc (q := 0) (y := nI (_ + 1)) (L' := [(3, .int _), (1, .long _), (0, .ref _)]) C dX5_sumOnRoad_37 rfl (hw_inc _) (by decide) rfl ?_
      refine hq_goto (tgt := 4) C dX5_sumOnRoad_40 (by decide) ?_
      exact hq_fin [0, 1, 2] (by first | rfl | (simp only [sf_so, c_21, ↓reduceIte, not_true_eq_false, not_false_eq_true]; rfl) | simp [lv_pick, sf_so, c_21]) (by first | rfl | (simp only [sf_so, c_21, ↓reduceIte, not_true_eq_false, not_false_eq_true]; done) | (simp only [sf_so, c_21, ↓reduceIte, not_true_eq_false, not_false_eq_true]; rfl) | simp [sf_so, c_21]) (by first | rfl | (simp only [sf_so, c_21, ↓reduceIte, not_true_eq_false, not_false_eq_true]; done) | (simp only [sf_so, c_21, ↓reduceIte, not_true_eq_false, not_false_eq_true]; rfl) | simp [sf_so, c_21]) (by first | rfl | (simp only [sf_so, c_21, ↓reduceIte, not_true_eq_false, not_false_eq_true]; done) | (simp only [sf_so, c_21, ↓reduceIte, not_true_eq_false, not_false_eq_true]; rfl) | simp [sf_so, c_21]) (by first | rfl | (simp only [sf_so, c_21, ↓reduceIte, not_true_eq_false, not_false_eq_true]; done) | (simp only [sf_so, c_21, ↓reduceIte, not_true_eq_false, not_false_eq_true]; rfl) | simp [sf_so, c_21]) (by first | rfl | (simp only [sf_so, c_21, ↓reduceIte, not_true_eq_false, not_false_eq_true]; done) | (simp only [sf_so, c_21, ↓reduceIte, not_true_eq_false, not_false_eq_true]; rfl) | simp [sf_so, c_21]) k
    · refine hq_lload_n (q := 1) C dX5_sumOnRoad_24 rfl rfl ?_
      refine hq_aload_n (q := 2) C dX5_sumOnRoad_25 rfl rfl ?_
      refine hq_getR (f := 0) (g := 9) (Nc := 1) (Ns := 14) C fr_X5_25 dX5_sumOnRoad_26 rfl rfl rfl rfl rfl (by decide) Nat.one_pos ?_
      refine hq_iload_n (q := 0) C dX5_sumOnRoad_29 rfl rfl ?_
      refine hq_aaldCR0 (f := 9) (g := 10) (Nc := 1) (Ns := 40) C dX5_sumOnRoad_30 rfl rfl rfl rfl rfl rfl (by first | rfl | assumption) (by first | assumption | omega) Nat.one_pos ?_
      refine hq_getI (f := 10) (g := 24) (Nc := 40) (Ns := 6) C fr_X5_188 dX5_sumOnRoad_31 rfl rfl rfl rfl rfl (by decide) (by first | assumption | omega) ?_
      refine hq_i2l C dX5_sumOnRoad_34 ?_
      refine hq_ladd C dX5_sumOnRoad_35 ?_
      refine hq_lstore_n (L' := [(1, .long _), (3, .int _), (0, .ref _)]) C dX5_sumOnRoad_36 rfl (by decide) rfl ?_
      refine hq_iinc (q := 1) (y := nI (_ + 1)) (L' := [(3, .int _), (1, .long _), (0, .ref _)]) C dX5_sumOnRoad_37 rfl (hw_inc _) (by decide) rfl ?_
      refine hq_goto (tgt := 4) C dX5_sumOnRoad_40 (by decide) ?_
      exact hq_fin [0, 1, 2] (by first | rfl | (simp only [sf_so, c_21, ↓reduceIte, not_true_eq_false, not_false_eq_true]; rfl) | simp [lv_pick, sf_so, c_21]) (by first | rfl | (simp only [sf_so, c_21, ↓reduceIte, not_true_eq_false, not_false_eq_true]; done) | (simp only [sf_so, c_21, ↓reduceIte, not_true_eq_false, not_false_eq_true]; rfl) | simp [sf_so, c_21]) (by first | rfl | (simp only [sf_so, c_21, ↓reduceIte, not_true_eq_false, not_false_eq_true]; done) | (simp only [sf_so, c_21, ↓reduceIte, not_true_eq_false, not_false_eq_true]; rfl) | simp [sf_so, c_21]) (by first | rfl | (simp only [sf_so, c_21, ↓reduceIte, not_true_eq_false, not_false_eq_true]; done) | (simp only [sf_so, c_21, ↓reduceIte, not_true_eq_false, not_false_eq_true]; rfl) | simp [sf_so, c_21]) (by first | rfl | (simp only [sf_so, c_21, ↓reduceIte, not_true_eq_false, not_false_eq_true]; done) | (simp only [sf_so, c_21, ↓reduceIte, not_true_eq_false, not_false_eq_true]; rfl) | simp [sf_so, c_21]) (by first | rfl | (simp only [sf_so, c_21, ↓reduceIte, not_true_eq_false, not_false_eq_true]; done) | (simp only [sf_so, c_21, ↓reduceIte, not_true_eq_false, not_false_eq_true]; rfl) | simp [sf_so, c_21]) k
  · refine hq_iload_n (q := 0) C dX5_sumOnRoad_4 rfl rfl ?_
    refine hq_aload_n (q := 2) C dX5_sumOnRoad_5 rfl rfl ?_
    refine hq_getI (f := 0) (g := 2) (Nc := 1) (Ns := 14) C fr_X5_179 dX5_sumOnRoad_6 rfl rfl rfl rfl rfl (by decide) Nat.one_pos ?_
    refine hq_icmp_ge (tgt := 43) C dX5_sumOnRoad_9 (by decide) (fun c_9 => ?_) (fun c_9 => absurd (by rw [hcc]; exact nI_le (Nat.le_refl nc) (by omega)) c_9)
    refine hq_lload_n (q := 1) C dX5_sumOnRoad_43 rfl rfl ?_
    exact hq_lret C hr hlk dX5_sumOnRoad_44 rfl rfl
def sf_sc (J : MJ) (i : Nat) (s : Int64) : Int64 := s + J 0 i
set_option maxHeartbeats 4000000 in
set_option maxRecDepth 100000 in
theorem m_X5_sumCash {l : Launch} {D : va_G} {b0 : Nat} {I : MI} {J : MJ} {P : MI} {N : MJ} {o : Int64} {nb : Nat} (hbc : I 0 0 = nI nb) (hnb : nb ≤ 12) : hM l yX5_sumCash cX5_sumCash 4 (some .long) rX5_sumCash D b0 [.ref (hw_ad b0 0 0)] I J P N o (some (.long (lp (sf_sc J) nb 0 0))) I J P N o := by
  refine hw_Mof (by decide) [(0, .ref _)] rfl (Nat.le_of_ble_eq_true rfl) ?_
  intro p e s m args below meth c C hr hlk hnm
  refine hq_lconst (y := 0) C dX5_sumCash_0 rfl ?_
  refine hq_lstore_n (L' := [(1, .long _), (0, .ref _)]) C dX5_sumCash_1 rfl (by decide) rfl ?_
  refine hq_iconst (y := 0) C dX5_sumCash_2 (by decide) ?_
  refine hq_istore_n (L' := [(3, .int _), (1, .long _), (0, .ref _)]) C dX5_sumCash_3 rfl (by decide) rfl ?_
  refine hq_perm [0, 1, 2] (L' := [(3, .int (nI 0)), (1, .long (0)), (0, .ref (hw_ad b0 0 0))]) rfl ?_
  refine lp_back (sf_sc J) (fun (k9 : Nat) (σ : Int64) => hw_V p l e rX5_sumCash s m args below meth c (MQ below (hw_Q D b0 false (hw_n o) (some (.long (lp (sf_sc J) nb 0 0))) (hw_vl b0 I J P N o)) args s 0 0 (fun q => b0 ≤ q)) D b0 4 false 0 0 (hw_n o) 4 [(3, .int (nI k9)), (1, .long σ), (0, .ref (hw_ad b0 0 0))] [] (hw_vl b0 I J P N o)) (fun _ _ => True) nb ?_ (fun _ _ _ _ => trivial) nb 0 0 (by omega) trivial ?_
  · intro k9 σ hi hinv k
    have hi9 := hi
    refine hq_iload_n (q := 0) C dX5_sumCash_4 rfl rfl ?_
    refine hq_aload_n (q := 2) C dX5_sumCash_5 rfl rfl ?_
    refine hq_getI (f := 0) (g := 0) (Nc := 1) (Ns := 14) C fr_X5_66 dX5_sumCash_6 rfl rfl rfl rfl rfl (by decide) Nat.one_pos ?_
    refine hq_icmp_ge (tgt := 30) C dX5_sumCash_9 (by decide) (fun c_9 => absurd c_9 (by rw [hbc]; exact nI_ge hi9 (by omega))) (fun c_9 => ?_)
    refine hq_lload_n (q := 1) C dX5_sumCash_12 rfl rfl ?_
    refine hq_aload_n (q := 2) C dX5_sumCash_13 rfl rfl ?_
    refine hq_getR (f := 0) (g := 1) (Nc := 1) (Ns := 14) C fr_X5_11 dX5_sumCash_14 rfl rfl rfl rfl rfl (by decide) Nat.one_pos ?_
    refine hq_iload_n (q := 0) C dX5_sumCash_17 rfl rfl ?_
    refine hq_aaldBR0 (f := 1) (g := 2) (Nc := 1) (Ns := 12) C dX5_sumCash_18 rfl rfl rfl rfl rfl rfl (by first | rfl | assumption) (by first | assumption | omega) Nat.one_pos ?_
    refine hq_getJ (f := 2) (g := 0) (Nc := 12) (Ns := 8) C fr_X5_77 dX5_sumCash_19 rfl rfl rfl rfl rfl (by decide) (by first | assumption | omega) ?_
    refine hq_ladd C dX5_sumCash_22 ?_
    refine hq_lstore_n (L' := [(1, .long _), (3, .int _), (0, .ref _)]) C dX5_sumCash_23 rfl (by decide) rfl ?_
    refine hq_iinc (q := 1) (y := nI (_ + 1)) (L' := [(3, .int _), (1, .long _), (0, .ref _)]) C dX5_sumCash_24 rfl (hw_inc _) (by decide) rfl ?_
    refine hq_goto (tgt := 4) C dX5_sumCash_27 (by decide) ?_
    exact hq_fin [0, 1, 2] (by first | rfl | (simp only [sf_sc, ↓reduceIte, not_true_eq_false, not_false_eq_true]; rfl) | simp [lv_pick, sf_sc]) (by first | rfl | simp [sf_sc]) (by first | rfl | simp [sf_sc]) (by first | rfl | simp [sf_sc]) (by first | rfl | simp [sf_sc]) (by first | rfl | simp [sf_sc]) k
  · refine hq_iload_n (q := 0) C dX5_sumCash_4 rfl rfl ?_
    refine hq_aload_n (q := 2) C dX5_sumCash_5 rfl rfl ?_
    refine hq_getI (f := 0) (g := 0) (Nc := 1) (Ns := 14) C fr_X5_66 dX5_sumCash_6 rfl rfl rfl rfl rfl (by decide) Nat.one_pos ?_
    refine hq_icmp_ge (tgt := 30) C dX5_sumCash_9 (by decide) (fun c_9 => ?_) (fun c_9 => absurd (by rw [hbc]; exact nI_le (Nat.le_refl nb) (by omega)) c_9)
    refine hq_lload_n (q := 1) C dX5_sumCash_30 rfl rfl ?_
    exact hq_lret C hr hlk dX5_sumCash_31 rfl rfl
def sf_wo (J : MJ) (b : Nat) (i : Nat) (s : Int64) : Int64 := s - J 1 (12 * b + i)
set_option maxHeartbeats 4000000 in
set_option maxRecDepth 100000 in
theorem m_X5_worthOf {l : Launch} {D : va_G} {b0 : Nat} {I : MI} {J : MJ} {P : MI} {N : MJ} {o : Int64} {nb : Nat} (hbc : I 0 0 = nI nb) (hnb : nb ≤ 12) {b : Nat} {x : Int32} (hx : x = nI b) (hb9 : b < 12) : hM l yX5_worthOf cX5_worthOf 5 (some .long) rX5_worthOf D b0 [.ref (hw_ad b0 0 0), .int x] I J P N o (some (.long (lp (sf_wo J b) nb 0 (J 0 b)))) I J P N o := by
  refine hw_Mof (by decide) [(0, .ref _), (1, .int _)] rfl (Nat.le_of_ble_eq_true rfl) ?_
  intro p e s m args below meth c C hr hlk hnm
  refine hq_aload_n (q := 0) C dX5_worthOf_0 rfl rfl ?_
  refine hq_getR (f := 0) (g := 1) (Nc := 1) (Ns := 14) C fr_X5_11 dX5_worthOf_1 rfl rfl rfl rfl rfl (by decide) Nat.one_pos ?_
  refine hq_iload_n (q := 1) C dX5_worthOf_4 rfl rfl ?_
  refine hq_aaldBR0 (f := 1) (g := 2) (Nc := 1) (Ns := 12) C dX5_worthOf_5 rfl rfl rfl rfl rfl rfl (by first | rfl | assumption) (by first | assumption | omega) Nat.one_pos ?_
  refine hq_getJ (f := 2) (g := 0) (Nc := 12) (Ns := 8) C fr_X5_77 dX5_worthOf_6 rfl rfl rfl rfl rfl (by decide) (by first | assumption | omega) ?_
  refine hq_lstore_n (L' := [(2, .long _), (0, .ref _), (1, .int _)]) C dX5_worthOf_9 rfl (by decide) rfl ?_
  refine hq_iconst (y := 0) C dX5_worthOf_10 (by decide) ?_
  refine hq_istore (L' := [(4, .int _), (2, .long _), (0, .ref _), (1, .int _)]) C dX5_worthOf_11 (by decide) rfl ?_
  refine hq_perm [0, 1, 2, 3] (L' := [(4, .int (nI 0)), (2, .long ((J 0 b))), (0, .ref (hw_ad b0 0 0)), (1, .int x)]) rfl ?_
  refine lp_back (sf_wo J b) (fun (k9 : Nat) (σ : Int64) => hw_V p l e rX5_worthOf s m args below meth c (MQ below (hw_Q D b0 false (hw_n o) (some (.long (lp (sf_wo J b) nb 0 (J 0 b)))) (hw_vl b0 I J P N o)) args s 0 0 (fun q => b0 ≤ q)) D b0 5 false 0 0 (hw_n o) 13 [(4, .int (nI k9)), (2, .long σ), (0, .ref (hw_ad b0 0 0)), (1, .int x)] [] (hw_vl b0 I J P N o)) (fun _ _ => True) nb ?_ (fun _ _ _ _ => trivial) nb 0 (J 0 b) (by omega) trivial ?_
  · intro k9 σ hi hinv k
    have hi9 := hi
    refine hq_iload (q := 0) C dX5_worthOf_13 rfl ?_
    refine hq_aload_n (q := 2) C dX5_worthOf_15 rfl rfl ?_
    refine hq_getI (f := 0) (g := 0) (Nc := 1) (Ns := 14) C fr_X5_66 dX5_worthOf_16 rfl rfl rfl rfl rfl (by decide) Nat.one_pos ?_
    refine hq_icmp_ge (tgt := 43) C dX5_worthOf_19 (by decide) (fun c_19 => absurd c_19 (by rw [hbc]; exact nI_ge hi9 (by omega))) (fun c_19 => ?_)
    refine hq_lload_n (q := 1) C dX5_worthOf_22 rfl rfl ?_
    refine hq_aload_n (q := 2) C dX5_worthOf_23 rfl rfl ?_
    refine hq_getR (f := 0) (g := 11) (Nc := 1) (Ns := 14) C fr_X5_33 dX5_worthOf_24 rfl rfl rfl rfl rfl (by decide) Nat.one_pos ?_
    refine hq_getR (f := 11) (g := 12) (Nc := 1) (Ns := 2) C fr_X5_171 dX5_worthOf_27 rfl rfl rfl rfl rfl (by decide) Nat.one_pos ?_
    refine hq_iload_n (q := 3) C dX5_worthOf_30 rfl rfl ?_
    refine hq_aaldJR0 (f := 12) (g := 13) (Nc := 1) (Ns := 12) C dX5_worthOf_31 rfl rfl rfl rfl rfl rfl (by first | rfl | assumption) (by first | assumption | omega) Nat.one_pos ?_
    refine hq_iload (q := 0) C dX5_worthOf_32 rfl ?_
    refine hq_laldJw (f := 13) (g := 1) (w := 12) (Nc := 12) (Ns := 12) C dX5_worthOf_34 rfl rfl rfl ⟨rfl, by decide⟩ rfl rfl (by first | rfl | assumption) (by first | assumption | omega) (by first | assumption | omega) ?_
    refine hq_lsub C dX5_worthOf_35 ?_
    refine hq_lstore_n (L' := [(2, .long _), (4, .int _), (0, .ref _), (1, .int _)]) C dX5_worthOf_36 rfl (by decide) rfl ?_
    refine hq_iinc (q := 1) (y := nI (_ + 1)) (L' := [(4, .int _), (2, .long _), (0, .ref _), (1, .int _)]) C dX5_worthOf_37 rfl (hw_inc _) (by decide) rfl ?_
    refine hq_goto (tgt := 13) C dX5_worthOf_40 (by decide) ?_
    exact hq_fin [0, 1, 2, 3] (by first | rfl | (simp only [sf_wo, ↓reduceIte, not_true_eq_false, not_false_eq_true]; rfl) | simp [lv_pick, sf_wo]) (by first | rfl | simp [sf_wo]) (by first | rfl | simp [sf_wo]) (by first | rfl | simp [sf_wo]) (by first | rfl | simp [sf_wo]) (by first | rfl | simp [sf_wo]) k
  · refine hq_iload (q := 0) C dX5_worthOf_13 rfl ?_
    refine hq_aload_n (q := 2) C dX5_worthOf_15 rfl rfl ?_
    refine hq_getI (f := 0) (g := 0) (Nc := 1) (Ns := 14) C fr_X5_66 dX5_worthOf_16 rfl rfl rfl rfl rfl (by decide) Nat.one_pos ?_
    refine hq_icmp_ge (tgt := 43) C dX5_worthOf_19 (by decide) (fun c_19 => ?_) (fun c_19 => absurd (by rw [hbc]; exact nI_le (Nat.le_refl nb) (by omega)) c_19)
    refine hq_lload_n (q := 1) C dX5_worthOf_43 rfl rfl ?_
    exact hq_lret C hr hlk dX5_worthOf_44 rfl rfl
def sf_nb (J : MJ) (b : Nat) (i : Nat) (s : Int32) : Int32 := if lg_cmp (J 2 (12 * b + i)) 0 = 0 then s else s ||| ((1 : Int32) <<< (nI i &&& 31))
set_option maxHeartbeats 4000000 in
set_option maxRecDepth 100000 in
theorem m_X5_namedByBook {l : Launch} {D : va_G} {b0 : Nat} {I : MI} {J : MJ} {P : MI} {N : MJ} {o : Int64} {nb : Nat} (hbc : I 0 0 = nI nb) (hnb : nb ≤ 12) {b : Nat} {x : Int32} (hx : x = nI b) (hb9 : b < 12) : hM l yX5_namedByBook cX5_namedByBook 4 (some .int) rX5_namedByBook D b0 [.ref (hw_ad b0 0 0), .int x] I J P N o (some (.int (lp (sf_nb J b) nb 0 0))) I J P N o := by
  refine hw_Mof (by decide) [(0, .ref _), (1, .int _)] rfl (Nat.le_of_ble_eq_true rfl) ?_
  intro p e s m args below meth c C hr hlk hnm
  refine hq_iconst (y := 0) C dX5_namedByBook_0 (by decide) ?_
  refine hq_istore_n (L' := [(2, .int _), (0, .ref _), (1, .int _)]) C dX5_namedByBook_1 rfl (by decide) rfl ?_
  refine hq_iconst (y := 0) C dX5_namedByBook_2 (by decide) ?_
  refine hq_istore_n (L' := [(3, .int _), (2, .int _), (0, .ref _), (1, .int _)]) C dX5_namedByBook_3 rfl (by decide) rfl ?_
  refine hq_perm [0, 1, 2, 3] (L' := [(3, .int (nI 0)), (2, .int (0)), (0, .ref (hw_ad b0 0 0)), (1, .int x)]) rfl ?_
  refine lp_back (sf_nb J b) (fun (k9 : Nat) (σ : Int32) => hw_V p l e rX5_namedByBook s m args below meth c (MQ below (hw_Q D b0 false (hw_n o) (some (.int (lp (sf_nb J b) nb 0 0))) (hw_vl b0 I J P N o)) args s 0 0 (fun q => b0 ≤ q)) D b0 4 false 0 0 (hw_n o) 4 [(3, .int (nI k9)), (2, .int σ), (0, .ref (hw_ad b0 0 0)), (1, .int x)] [] (hw_vl b0 I J P N o)) (fun _ _ => True) nb ?_ (fun _ _ _ _ => trivial) nb 0 0 (by omega) trivial ?_
  · intro k9 σ hi hinv k
    have hi9 := hi
    refine hq_iload_n (q := 0) C dX5_namedByBook_4 rfl rfl ?_
    refine hq_aload_n (q := 2) C dX5_namedByBook_5 rfl rfl ?_
    refine hq_getI (f := 0) (g := 0) (Nc := 1) (Ns := 14) C fr_X5_66 dX5_namedByBook_6 rfl rfl rfl rfl rfl (by decide) Nat.one_pos ?_
    refine hq_icmp_ge (tgt := 40) C dX5_namedByBook_9 (by decide) (fun c_9 => absurd c_9 (by rw [hbc]; exact nI_ge hi9 (by omega))) (fun c_9 => ?_)
    refine hq_aload_n (q := 2) C dX5_namedByBook_12 rfl rfl ?_
    refine hq_getR (f := 0) (g := 11) (Nc := 1) (Ns := 14) C fr_X5_33 dX5_namedByBook_13 rfl rfl rfl rfl rfl (by decide) Nat.one_pos ?_
    refine hq_getR (f := 11) (g := 14) (Nc := 1) (Ns := 2) C fr_X5_206 dX5_namedByBook_16 rfl rfl rfl rfl rfl (by decide) Nat.one_pos ?_
    refine hq_iload_n (q := 3) C dX5_namedByBook_19 rfl rfl ?_
    refine hq_aaldJR0 (f := 14) (g := 15) (Nc := 1) (Ns := 12) C dX5_namedByBook_20 rfl rfl rfl rfl rfl rfl (by first | rfl | assumption) (by first | assumption | omega) Nat.one_pos ?_
    refine hq_iload_n (q := 0) C dX5_namedByBook_21 rfl rfl ?_
    refine hq_laldJw (f := 15) (g := 2) (w := 12) (Nc := 12) (Ns := 12) C dX5_namedByBook_22 rfl rfl rfl ⟨rfl, by decide⟩ rfl rfl (by first | rfl | assumption) (by first | assumption | omega) (by first | assumption | omega) ?_
    refine hq_lconst (y := 0) C dX5_namedByBook_23 rfl ?_
    refine hq_lcmp C dX5_namedByBook_24 ?_
    refine hq_if_eq (tgt := 34) C dX5_namedByBook_25 (by decide) (fun c_25 => ?_) (fun c_25 => ?_)
    · refine hq_iinc (q := 0) (y := nI (_ + 1)) (L' := [(3, .int _), (2, .int _), (0, .ref _), (1, .int _)]) C dX5_namedByBook_34 rfl (hw_inc _) (by decide) rfl ?_
      refine hq_goto (tgt := 4) C dX5_namedByBook_37 (by decide) ?_
      exact hq_fin [0, 1, 2, 3] (by first | rfl | (simp only [sf_nb, c_25, ↓reduceIte, not_true_eq_false, not_false_eq_true]; rfl) | simp [lv_pick, sf_nb, c_25]) (by first | rfl | (simp only [sf_nb, c_25, ↓reduceIte, not_true_eq_false, not_false_eq_true]; done) | (simp only [sf_nb, c_25, ↓reduceIte, not_true_eq_false, not_false_eq_true]; rfl) | simp [sf_nb, c_25]) (by first | rfl | (simp only [sf_nb, c_25, ↓reduceIte, not_true_eq_false, not_false_eq_true]; done) | (simp only [sf_nb, c_25, ↓reduceIte, not_true_eq_false, not_false_eq_true]; rfl) | simp [sf_nb, c_25]) (by first | rfl | (simp only [sf_nb, c_25, ↓reduceIte, not_true_eq_false, not_false_eq_true]; done) | (simp only [sf_nb, c_25, ↓reduceIte, not_true_eq_false, not_false_eq_true]; rfl) | simp [sf_nb, c_25]) (by first | rfl | (simp only [sf_nb, c_25, ↓reduceIte, not_true_eq_false, not_false_eq_true]; done) | (simp only [sf_nb, c_25, ↓reduceIte, not_true_eq_false, not_false_eq_true]; rfl) | simp [sf_nb, c_25]) (by first | rfl | (simp only [sf_nb, c_25, ↓reduceIte, not_true_eq_false, not_false_eq_true]; done) | (simp only [sf_nb, c_25, ↓reduceIte, not_true_eq_false, not_false_eq_true]; rfl) | simp [sf_nb, c_25]) k
    · refine hq_iload_n (q := 1) C dX5_namedByBook_28 rfl rfl ?_
      refine hq_iconst (y := 1) C dX5_namedByBook_29 (by decide) ?_
      refine hq_iload_n (q := 0) C dX5_namedByBook_30 rfl rfl ?_
      refine hq_ishl C dX5_namedByBook_31 ?_
      refine hq_ior C dX5_namedByBook_32 ?_
      refine hq_istore_n (L' := [(2, .int _), (3, .int _), (0, .ref _), (1, .int _)]) C dX5_namedByBook_33 rfl (by decide) rfl ?_
      refine hq_iinc (q := 1) (y := nI (_ + 1)) (L' := [(3, .int _), (2, .int _), (0, .ref _), (1, .int _)]) C dX5_namedByBook_34 rfl (hw_inc _) (by decide) rfl ?_
      refine hq_goto (tgt := 4) C dX5_namedByBook_37 (by decide) ?_
      exact hq_fin [0, 1, 2, 3] (by first | rfl | (simp only [sf_nb, c_25, ↓reduceIte, not_true_eq_false, not_false_eq_true]; rfl) | simp [lv_pick, sf_nb, c_25]) (by first | rfl | (simp only [sf_nb, c_25, ↓reduceIte, not_true_eq_false, not_false_eq_true]; done) | (simp only [sf_nb, c_25, ↓reduceIte, not_true_eq_false, not_false_eq_true]; rfl) | simp [sf_nb, c_25]) (by first | rfl | (simp only [sf_nb, c_25, ↓reduceIte, not_true_eq_false, not_false_eq_true]; done) | (simp only [sf_nb, c_25, ↓reduceIte, not_true_eq_false, not_false_eq_true]; rfl) | simp [sf_nb, c_25]) (by first | rfl | (simp only [sf_nb, c_25, ↓reduceIte, not_true_eq_false, not_false_eq_true]; done) | (simp only [sf_nb, c_25, ↓reduceIte, not_true_eq_false, not_false_eq_true]; rfl) | simp [sf_nb, c_25]) (by first | rfl | (simp only [sf_nb, c_25, ↓reduceIte, not_true_eq_false, not_false_eq_true]; done) | (simp only [sf_nb, c_25, ↓reduceIte, not_true_eq_false, not_false_eq_true]; rfl) | simp [sf_nb, c_25]) (by first | rfl | (simp only [sf_nb, c_25, ↓reduceIte, not_true_eq_false, not_false_eq_true]; done) | (simp only [sf_nb, c_25, ↓reduceIte, not_true_eq_false, not_false_eq_true]; rfl) | simp [sf_nb, c_25]) k
  · refine hq_iload_n (q := 0) C dX5_namedByBook_4 rfl rfl ?_
    refine hq_aload_n (q := 2) C dX5_namedByBook_5 rfl rfl ?_
    refine hq_getI (f := 0) (g := 0) (Nc := 1) (Ns := 14) C fr_X5_66 dX5_namedByBook_6 rfl rfl rfl rfl rfl (by decide) Nat.one_pos ?_
    refine hq_icmp_ge (tgt := 40) C dX5_namedByBook_9 (by decide) (fun c_9 => ?_) (fun c_9 => absurd (by rw [hbc]; exact nI_le (Nat.le_refl nb) (by omega)) c_9)
    refine hq_iload_n (q := 1) C dX5_namedByBook_40 rfl rfl ?_
    exact hq_iret C hr hlk dX5_namedByBook_41 rfl rfl
