/-! the law's loop -/
theorem dlaw_23 : decode code 23 = .ok (.iload 4, 2) := by decide +kernel
theorem dlaw_25 : decode code 25 = .ok (.aload_n 0, 1) := by decide +kernel
theorem dlaw_26 : decode code 26 = .ok (.arraylength, 1) := by decide +kernel
theorem dlaw_27 : decode code 27 = .ok (.bipush 6, 2) := by decide +kernel
theorem dlaw_29 : decode code 29 = .ok (.isub, 1) := by decide +kernel
theorem dlaw_30 : decode code 30 = .ok (.if_icmp .gt 1703, 3) := by decide +kernel
theorem dlaw_33 : decode code 33 = .ok (.aload_n 0, 1) := by decide +kernel
theorem dlaw_34 : decode code 34 = .ok (.iload 4, 2) := by decide +kernel
theorem dlaw_36 : decode code 36 = .ok (.iaload, 1) := by decide +kernel
theorem dlaw_37 : decode code 37 = .ok (.bipush 31, 2) := by decide +kernel
theorem dlaw_39 : decode code 39 = .ok (.iand, 1) := by decide +kernel
theorem dlaw_40 : decode code 40 = .ok (.tableswitch 1687 0 23 #[112, 192, 260, 348, 361, 417, 473, 577, 645, 701, 781, 861, 953, 1009, 1023, 1091, 1154, 1221, 1316, 1391, 1483, 1551, 1619, 1632], 112) := by decide +kernel
theorem dlaw_1727 : decode code 1727 = .ok (.iinc 4 6, 3) := by decide +kernel
theorem dlaw_1730 : decode code 1730 = .ok (.goto (-1707), 3) := by decide +kernel
theorem dlaw_1733 : decode code 1733 = .ok (.iconst 1, 1) := by decide +kernel
theorem dlaw_1734 : decode code 1734 = .ok (.ireturn, 1) := by decide +kernel
/-- where the loop ends, and where it goes on -/
theorem lw_in {L9 i : Nat} (hL : L9 ≤ 3072) (hi : i ≤ 4000) (h : ¬ Int32.ofNat L9 - 6 < nI i) : i + 6 ≤ L9 := by
  rcases Nat.lt_or_ge L9 6 with q | q
  · refine absurd (Int32.lt_of_lt_of_le (b := 0) ?_ (nI_pos' (by omega))) h
    rcases (show L9 = 0 ∨ L9 = 1 ∨ L9 = 2 ∨ L9 = 3 ∨ L9 = 4 ∨ L9 = 5 by omega) with rfl | rfl | rfl | rfl | rfl | rfl <;> decide
  · have e : Int32.ofNat L9 - 6 = nI (L9 - 6) := by
      have : nI L9 = nI (L9 - 6) + nI 6 := by rw [nI_add]; congr 1; omega
      show nI L9 - 6 = _
      rw [this]
      exact Int32.add_sub_cancel _ _
    rw [e] at h
    have : ¬ (L9 - 6 < i) := fun z => h ((nI_ltI (a := L9 - 6) (b := i) (by omega) (by omega)).mpr z)
    omega
set_option maxRecDepth 100000 in
theorem law_loop {p : Program} {l : Launch} {e : Env} {s : State} {m : MethodId} {args : Array Value} {below : List Frame} {meth : Method} {c : Code} {Q : State → Prop} {D : va_G} {b0 b L9 : Nat} {xs : Nat → Int32} (hlt : l.stackTraces = false) (C : hw_C p s m args c D b0 code RL 8) (X : lwX s b0 b L9 xs)
    (hend : ∀ (ka kb : Nat) (L : List (Nat × Value)) (v : VF), ka ≤ 6000 → kb ≤ 60000 → hw_V p l e room_1 s m args below meth c Q D b0 8 false ka kb 271 1733 L [] v) :
    ∀ r k nb no nc : Nat, r + k = 513 → ∀ (I : MI) (J : MJ) (P : MI) (N : MJ) (o : Int64), IV k nb no nc I J P N → hw_V p l e room_1 s m args below meth c Q D b0 8 false (300 + 9 * k) (5000 + 54 * k) 271 23 (lL b0 b (6 * k)) [] (hw_vl b0 I J P N o) := by
  obtain ⟨hX, hbl, hbA, hL⟩ := id X
  intro r
  induction r with
  | zero =>
    intro k nb no nc hr I J P N o h
    refine hq_iload (q := 4) C dlaw_23 rfl ?_
    refine hq_aload_n (q := 0) C dlaw_25 rfl rfl ?_
    refine fun H locs ls hH hZ hS hl => va_slen C.1 C.2.1 hX hbl hbA hS dlaw_26 ((?_ : hw_V p l e room_1 s m args below meth c Q D b0 8 false (300 + 9 * k) (5000 + 54 * k) 271 27 (lL b0 b (6 * k)) [.int (Int32.ofNat L9), .int (nI (6 * k))] (hw_vl b0 I J P N o)) H locs ls hH hZ hS hl)
    refine hq_bipush (y := 6) C dlaw_27 (by decide) ?_
    refine hq_isub C dlaw_29 ?_
    refine hq_icmp_gt (tgt := 1733) C dlaw_30 (by decide) (fun _ => hend _ _ _ _ (by omega) (by omega)) (fun c_9 => absurd (lw_in hL (by omega) c_9) (by omega))
  | succ r ih =>
    intro k nb no nc hr I J P N o h
    refine hq_iload (q := 4) C dlaw_23 rfl ?_
    refine hq_aload_n (q := 0) C dlaw_25 rfl rfl ?_
    refine fun H locs ls hH hZ hS hl => va_slen C.1 C.2.1 hX hbl hbA hS dlaw_26 ((?_ : hw_V p l e room_1 s m args below meth c Q D b0 8 false (300 + 9 * k) (5000 + 54 * k) 271 27 (lL b0 b (6 * k)) [.int (Int32.ofNat L9), .int (nI (6 * k))] (hw_vl b0 I J P N o)) H locs ls hH hZ hS hl)
    refine hq_bipush (y := 6) C dlaw_27 (by decide) ?_
    refine hq_isub C dlaw_29 ?_
    refine hq_icmp_gt (tgt := 1733) C dlaw_30 (by decide) (fun _ => hend _ _ _ _ (by omega) (by omega)) (fun c_9 => ?_)
    have hi : 6 * k + 6 ≤ L9 := lw_in hL (by omega) c_9
    have hf : 300 + 9 * k + 9 ≤ 601024 ∧ 5000 + 54 * k + 54 ≤ 7293034 := ⟨by omega, by omega⟩
    have hk : k ≤ 512 := by omega
    have kk : lwK p l e s m args below meth c Q D b0 b (300 + 9 * k + 9) (5000 + 54 * k + 54) (6 * k) (k + 1) := by
      intro nb no nc I J P N o h
      refine hq_iinc (q := 4) (y := nI (6 * k + 6)) (L' := [(4, .int (nI (6 * k + 6))), (0, .ref b), (1, .ref (hw_ad b0 0 0)), (2, .ref (hw_ad b0 26 0)), (3, .ref (hw_ad b0 59 0))]) C dlaw_1727 rfl (nI_add (6 * k) 6) (by decide) rfl ?_
      refine hq_goto (tgt := 23) C dlaw_1730 (by decide) ?_
      refine hq_perm [1, 2, 3, 4, 0] (L' := lL b0 b (6 * k + 6)) rfl ?_
      have := ih (k + 1) nb no nc (by omega) I J P N o h
      exact hq_widen (by omega) (by omega) this
    refine hq_aload_n (q := 0) C dlaw_33 rfl rfl ?_
    refine hq_iload (q := 4) C dlaw_34 rfl ?_
    refine fun H locs ls hH hZ hS hl => va_sld C.1 C.2.1 hX hbl hbA hS (vp_in_nI (show 6 * k < L9 by omega) (by omega)) dlaw_36 ((?_ : hw_V p l e room_1 s m args below meth c Q D b0 8 false (300 + 9 * k) (5000 + 54 * k) 271 37 (lL b0 b (6 * k)) [.int (xs (nI (6 * k)).toNatClampNeg)] (hw_vl b0 I J P N o)) H locs ls hH hZ hS hl)
    refine hq_bipush (y := 31) C dlaw_37 (by decide) ?_
    refine hq_iand C dlaw_39 ?_
    obtain ⟨j, hj, ej⟩ := pk_andE (xs (nI (6 * k)).toNatClampNeg) (m := 31) 5 (by decide)
    rw [ej]
    rcases (show j = 0 ∨ j = 1 ∨ j = 2 ∨ j = 3 ∨ j = 4 ∨ j = 5 ∨ j = 6 ∨ j = 7 ∨ j = 8 ∨ j = 9 ∨ j = 10 ∨ j = 11 ∨ j = 12 ∨ j = 13 ∨ j = 14 ∨ j = 15 ∨ j = 16 ∨ j = 17 ∨ j = 18 ∨ j = 19 ∨ j = 20 ∨ j = 21 ∨ j = 22 ∨ j = 23 ∨ 24 ≤ j by omega) with rfl | rfl | rfl | rfl | rfl | rfl | rfl | rfl | rfl | rfl | rfl | rfl | rfl | rfl | rfl | rfl | rfl | rfl | rfl | rfl | rfl | rfl | rfl | rfl | hj9
    · exact hq_tsIn (off := 112) (tgt := 152) C dlaw_40 (by decide) (by decide) (by decide) (by decide) (lc_broker hlt C X hi hk hf h kk)
    · exact hq_tsIn (off := 192) (tgt := 232) C dlaw_40 (by decide) (by decide) (by decide) (by decide) (lc_rate hlt C X hi hk hf h kk)
    · exact hq_tsIn (off := 260) (tgt := 300) C dlaw_40 (by decide) (by decide) (by decide) (by decide) (lc_trust hlt C X hi hk hf h kk)
    · exact hq_tsIn (off := 348) (tgt := 388) C dlaw_40 (by decide) (by decide) (by decide) (by decide) (lc_festival hlt C X hi hk hf h kk)
    · exact hq_tsIn (off := 361) (tgt := 401) C dlaw_40 (by decide) (by decide) (by decide) (by decide) (lc_breakWord hlt C X hi hk hf h kk)
    · exact hq_tsIn (off := 417) (tgt := 457) C dlaw_40 (by decide) (by decide) (by decide) (by decide) (lc_raid hlt C X hi hk hf h kk)
    · exact hq_tsIn (off := 473) (tgt := 513) C dlaw_40 (by decide) (by decide) (by decide) (by decide) (lc_order hlt C X hi hk hf h kk)
    · exact hq_tsIn (off := 577) (tgt := 617) C dlaw_40 (by decide) (by decide) (by decide) (by decide) (lc_fetch hlt C X hi hk hf h kk)
    · exact hq_tsIn (off := 645) (tgt := 685) C dlaw_40 (by decide) (by decide) (by decide) (by decide) (lc_pass hlt C X hi hk hf h kk)
    · exact hq_tsIn (off := 701) (tgt := 741) C dlaw_40 (by decide) (by decide) (by decide) (by decide) (lc_pay hlt C X hi hk hf h kk)
    · exact hq_tsIn (off := 781) (tgt := 821) C dlaw_40 (by decide) (by decide) (by decide) (by decide) (lc_deliver hlt C X hi hk hf h kk)
    · exact hq_tsIn (off := 861) (tgt := 901) C dlaw_40 (by decide) (by decide) (by decide) (by decide) (lc_courier hlt C X hi hk hf h kk)
    · exact hq_tsIn (off := 953) (tgt := 993) C dlaw_40 (by decide) (by decide) (by decide) (by decide) (lc_rob hlt C X hi hk hf h kk)
    · exact hq_tsIn (off := 1009) (tgt := 1049) C dlaw_40 (by decide) (by decide) (by decide) (by decide) (lc_ring hlt C X hi hk hf h kk)
    · exact hq_tsIn (off := 1023) (tgt := 1063) C dlaw_40 (by decide) (by decide) (by decide) (by decide) (lc_law hlt C X hi hk hf h kk)
    · exact hq_tsIn (off := 1091) (tgt := 1131) C dlaw_40 (by decide) (by decide) (by decide) (by decide) (lc_list hlt C X hi hk hf h kk)
    · exact hq_tsIn (off := 1154) (tgt := 1194) C dlaw_40 (by decide) (by decide) (by decide) (by decide) (lc_brokerOf hlt C X hi hk hf h kk)
    · exact hq_tsIn (off := 1221) (tgt := 1261) C dlaw_40 (by decide) (by decide) (by decide) (by decide) (lc_debt hlt C X hi hk hf h kk)
    · exact hq_tsIn (off := 1316) (tgt := 1356) C dlaw_40 (by decide) (by decide) (by decide) (by decide) (lc_agree hlt C X hi hk hf h kk)
    · exact hq_tsIn (off := 1391) (tgt := 1431) C dlaw_40 (by decide) (by decide) (by decide) (by decide) (lc_way hlt C X hi hk hf h kk)
    · exact hq_tsIn (off := 1483) (tgt := 1523) C dlaw_40 (by decide) (by decide) (by decide) (by decide) (lc_wayOf hlt C X hi hk hf h kk)
    · exact hq_tsIn (off := 1551) (tgt := 1591) C dlaw_40 (by decide) (by decide) (by decide) (by decide) (lc_orderOf hlt C X hi hk hf h kk)
    · exact hq_tsIn (off := 1619) (tgt := 1659) C dlaw_40 (by decide) (by decide) (by decide) (by decide) (lc_inquiry hlt C X hi hk hf h kk)
    · exact hq_tsIn (off := 1632) (tgt := 1672) C dlaw_40 (by decide) (by decide) (by decide) (by decide) (lc_sum hlt C X hi hk hf h kk)
    · refine hq_tsOut (tgt := 1727) C dlaw_40 (Or.inr (by rw [nI_toInt (by omega)]; omega)) (by decide) ?_
      exact hq_widen (by omega) (by omega) (kk _ _ _ _ _ _ _ _ (h.congr (fun _ _ _ => rfl) (fun _ _ _ _ _ => rfl) (fun _ _ _ => rfl)))
