/-- what holds of the class's numbers between two calls, as far as indices ask for it -/
def hw_iv (I : MI) (nb no nc : Nat) : Prop := (I 0 0 = nI nb ∧ nb ≤ 12) ∧ (I 1 0 = nI no ∧ no ≤ 40) ∧ (I 2 0 = nI nc ∧ nc ≤ 40) ∧ hw_bo (I 4 0) ∧ (∀ i, i < 12 → ∃ t : Nat, t < 8 ∧ I 5 i = nI t) ∧ hw_os I no ∧ hw_cs I nc
theorem hw_iv.congr {I I' : MI} {nb no nc : Nat} (h : hw_iv I nb no nc) (h1 : ∀ g j, (g = 0 ∨ g = 1 ∨ g = 2 ∨ g = 4 ∨ g = 5 ∨ g = 22 ∨ g = 23) → I' g j = I g j) (h2 : hw_os I' no) : hw_iv I' nb no nc := by
  obtain ⟨a1, a2, a3, a4, a5, a6, a7⟩ := h
  refine ⟨by rw [h1 0 0 (by omega)]; exact a1, by rw [h1 1 0 (by omega)]; exact a2, by rw [h1 2 0 (by omega)]; exact a3, by rw [h1 4 0 (by omega)]; exact a4, fun i hi => by rw [h1 5 i (by omega)]; exact a5 i hi, h2, a7.congr (fun g j hg => h1 g j (by omega))⟩
theorem hw_iv.congr2 {I I' : MI} {nb no nc : Nat} (h : hw_iv I nb no nc) (h1 : ∀ g j, (g = 0 ∨ g = 1 ∨ g = 2 ∨ g = 4 ∨ g = 5 ∨ g = 17 ∨ g = 19 ∨ g = 20 ∨ g = 22 ∨ g = 23) → I' g j = I g j) : hw_iv I' nb no nc := h.congr (fun g j hg => h1 g j (by omega)) (h.2.2.2.2.2.1.congr (fun g j hg => h1 g j (by omega)))
def sp_ph (I : MI) (J : MJ) (nb no nc : Nat) : MI × MJ :=
  sp_rc (sp_gb (sp_sb (sp_mm (sp_er (uI I 3 0 (I 3 0 + 1)) nb) J no).1 (sp_mm (sp_er (uI I 3 0 (I 3 0 + 1)) nb) J no).2 no).1 (sp_sb (sp_mm (sp_er (uI I 3 0 (I 3 0 + 1)) nb) J no).1 (sp_mm (sp_er (uI I 3 0 (I 3 0 + 1)) nb) J no).2 no).2 no).1
    (sp_gb (sp_sb (sp_mm (sp_er (uI I 3 0 (I 3 0 + 1)) nb) J no).1 (sp_mm (sp_er (uI I 3 0 (I 3 0 + 1)) nb) J no).2 no).1 (sp_sb (sp_mm (sp_er (uI I 3 0 (I 3 0 + 1)) nb) J no).1 (sp_mm (sp_er (uI I 3 0 (I 3 0 + 1)) nb) J no).2 no).2 no).2 nc
theorem u3_iv {I : MI} {nb no nc : Nat} (h : hw_iv I nb no nc) (x : Int32) : hw_iv (uI I 3 0 x) nb no nc := h.congr2 (fun g j hg => by
  have : g ≠ 3 := by omega
  simp [uI, this])
theorem sp_er_iv {I : MI} {nb no nc : Nat} (h : hw_iv I nb no nc) : hw_iv (sp_er I nb) nb no nc := h.congr2 (fun g j hg => sp_er_ne (by omega) j)
theorem sp_mm_iv {I : MI} {J : MJ} {nb no nc : Nat} (h : hw_iv I nb no nc) : hw_iv (sp_mm I J no).1 nb no nc := h.congr (fun g j hg => sp_mm_ne (by omega) (by omega) j) (sp_mm_os h.2.2.2.2.2.1)
theorem sp_sb_iv {I : MI} {J : MJ} {nb no nc : Nat} (h : hw_iv I nb no nc) : hw_iv (sp_sb I J no).1 nb no nc := h.congr2 (fun g j hg => sp_sb_ne (by omega) j)
theorem sp_gb_iv {I : MI} {J : MJ} {nb no nc : Nat} (h : hw_iv I nb no nc) : hw_iv (sp_gb I J no).1 nb no nc := h.congr2 (fun g j hg => sp_gb_ne (by omega) j)
theorem sp_rc_iv {I : MI} {J : MJ} {nb no nc : Nat} (h : hw_iv I nb no nc) : hw_iv (sp_rc I J nc).1 nb no nc := h.congr2 (fun g j hg => sp_rc_ne (by omega) j)
theorem sp_ph_iv {I : MI} {J : MJ} {nb no nc : Nat} (h : hw_iv I nb no nc) : hw_iv (sp_ph I J nb no nc).1 nb no nc := sp_rc_iv (sp_gb_iv (sp_sb_iv (sp_mm_iv (sp_er_iv (u3_iv h _)))))
set_option maxHeartbeats 4000000 in
set_option maxRecDepth 100000 in
theorem m_X5_passHour {l : Launch} {D : va_G} {b0 : Nat} {I : MI} {J : MJ} {P : MI} {N : MJ} {o : Int64} {nb no nc : Nat} (h : hw_iv I nb no nc) : hM l yX5_passHour cX5_passHour 1 none rX5_passHour D b0 [.ref (hw_ad b0 0 0)] I J P N o none (sp_ph I J nb no nc).1 (sp_ph I J nb no nc).2 P N o := by
  have h1 := u3_iv h (I 3 0 + 1)
  have h2 := sp_er_iv h1
  have h3 := sp_mm_iv (J := J) h2
  have h4 := sp_sb_iv (J := (sp_mm (sp_er (uI I 3 0 (I 3 0 + 1)) nb) J no).2) h3
  have h5 := sp_gb_iv (J := (sp_sb (sp_mm (sp_er (uI I 3 0 (I 3 0 + 1)) nb) J no).1 (sp_mm (sp_er (uI I 3 0 (I 3 0 + 1)) nb) J no).2 no).2) h4
  refine hw_Mof (by decide) [(0, .ref _)] rfl (Nat.le_of_ble_eq_true rfl) ?_
  intro p e s m args below meth c C hr hlk hnm
  refine hq_aload_n (q := 0) C dX5_passHour_0 rfl rfl ?_
  refine hq_dup C dX5_passHour_1 rfl ?_
  refine hq_getI (f := 0) (g := 3) (Nc := 1) (Ns := 14) C fr_X5_112 dX5_passHour_2 rfl rfl rfl rfl rfl (by decide) Nat.one_pos ?_
  refine hq_iconst (y := 1) C dX5_passHour_5 (by decide) ?_
  refine hq_iadd C dX5_passHour_6 ?_
  refine hq_putI (f := 0) (g := 3) (Nc := 1) (Ns := 14) C fl_X5_112 dX5_passHour_7 rfl rfl rfl rfl rfl (by decide) Nat.one_pos rfl rfl ?_
  refine hq_aload_n (q := 0) C dX5_passHour_10 rfl rfl ?_
  refine hq_cVv (As := []) (rm := rX5_endRaids) (f := 0) (Nc := 1) C (m_X5_endRaids h1.1.1 h1.1.2) wv_X5_endRaids ml_X5_310 rfl rfl rfl Nat.one_pos rfl rfl rfl rfl ⟨Nat.le_of_ble_eq_true rfl, Nat.le_of_ble_eq_true rfl⟩ (Nat.le_of_ble_eq_true rfl) ⟨Nat.le_of_ble_eq_true rfl, Nat.le_of_ble_eq_true rfl⟩ dX5_passHour_11 ?_
  refine hq_aload_n (q := 0) C dX5_passHour_14 rfl rfl ?_
  refine hq_cVv (As := []) (rm := rX5_moveMessages) (f := 0) (Nc := 1) C (m_X5_moveMessages h2.2.1.1 h2.2.1.2 h2.2.2.2.2.2.1) wv_X5_moveMessages ml_X5_313 rfl rfl rfl Nat.one_pos rfl rfl rfl rfl ⟨Nat.le_of_ble_eq_true rfl, Nat.le_of_ble_eq_true rfl⟩ (Nat.le_of_ble_eq_true rfl) ⟨Nat.le_of_ble_eq_true rfl, Nat.le_of_ble_eq_true rfl⟩ dX5_passHour_15 ?_
  refine hq_aload_n (q := 0) C dX5_passHour_18 rfl rfl ?_
  refine hq_cVv (As := []) (rm := rX5_sendBackOld) (f := 0) (Nc := 1) C (m_X5_sendBackOld h3.2.1.1 h3.2.1.2 h3.2.2.2.2.2.1) wv_X5_sendBackOld ml_X5_316 rfl rfl rfl Nat.one_pos rfl rfl rfl rfl ⟨Nat.le_of_ble_eq_true rfl, Nat.le_of_ble_eq_true rfl⟩ (Nat.le_of_ble_eq_true rfl) ⟨Nat.le_of_ble_eq_true rfl, Nat.le_of_ble_eq_true rfl⟩ dX5_passHour_19 ?_
  refine hq_aload_n (q := 0) C dX5_passHour_22 rfl rfl ?_
  refine hq_cVv (As := []) (rm := rX5_giveBack) (f := 0) (Nc := 1) C (m_X5_giveBack h4.2.1.1 h4.2.1.2 h4.2.2.2.2.2.1) wv_X5_giveBack ml_X5_319 rfl rfl rfl Nat.one_pos rfl rfl rfl rfl ⟨Nat.le_of_ble_eq_true rfl, Nat.le_of_ble_eq_true rfl⟩ (Nat.le_of_ble_eq_true rfl) ⟨Nat.le_of_ble_eq_true rfl, Nat.le_of_ble_eq_true rfl⟩ dX5_passHour_23 ?_
  refine hq_aload_n (q := 0) C dX5_passHour_26 rfl rfl ?_
  refine hq_cVv (As := []) (rm := rX5_receiveCouriers) (f := 0) (Nc := 1) C (m_X5_receiveCouriers h5.2.2.1.1 h5.2.2.1.2 h5.2.2.2.2.2.2) wv_X5_receiveCouriers ml_X5_322 rfl rfl rfl Nat.one_pos rfl rfl rfl rfl ⟨Nat.le_of_ble_eq_true rfl, Nat.le_of_ble_eq_true rfl⟩ (Nat.le_of_ble_eq_true rfl) ⟨Nat.le_of_ble_eq_true rfl, Nat.le_of_ble_eq_true rfl⟩ dX5_passHour_27 ?_
  exact hq_vret C hr hlk dX5_passHour_30 rfl
def sp_min (x y : Int64) : Int64 := if y < x then y else x
def sp_le (J : MJ) (a b c : Nat) : Int64 := sp_min (J 1 (12 * a + b)) (sp_min (J 1 (12 * b + c)) (J 1 (12 * c + a)))
def sp_cr (J : MJ) (a b c : Nat) : Int64 × MJ := if 0 < lg_cmp (sp_le J a b c) 0 then (sp_le J a b c, sp_known (sp_known (sp_known J a b (-sp_le J a b c)) b c (-sp_le J a b c)) c a (-sp_le J a b c)) else (0, J)
set_option maxHeartbeats 4000000 in
set_option maxRecDepth 100000 in
theorem m_X5_clearRing {l : Launch} {D : va_G} {b0 : Nat} {I : MI} {J : MJ} {P : MI} {N : MJ} {o : Int64} {a b c : Nat} {x y z : Int32} (hx : x = nI a) (ha : a < 12) (hy : y = nI b) (hb9 : b < 12) (hz : z = nI c) (hc : c < 12) : hM l yX5_clearRing cX5_clearRing 6 (some .long) rX5_clearRing D b0 [.ref (hw_ad b0 0 0), .int x, .int y, .int z] I J P N o (some (.long (sp_cr J a b c).1)) I (sp_cr J a b c).2 P N o := by
  refine hw_Mof (by decide) [(0, .ref _), (1, .int _), (2, .int _), (3, .int _)] rfl (Nat.le_of_ble_eq_true rfl) ?_
  intro p e s m args below meth c9 C hr hlk hnm
  refine hq_aload_n (q := 0) C dX5_clearRing_0 rfl rfl ?_
  refine hq_getR (f := 0) (g := 11) (Nc := 1) (Ns := 14) C fr_X5_33 dX5_clearRing_1 rfl rfl rfl rfl rfl (by decide) Nat.one_pos ?_
  refine hq_getR (f := 11) (g := 12) (Nc := 1) (Ns := 2) C fr_X5_171 dX5_clearRing_4 rfl rfl rfl rfl rfl (by decide) Nat.one_pos ?_
  refine hq_iload_n (q := 1) C dX5_clearRing_7 rfl rfl ?_
  refine hq_aaldJR0 (f := 12) (g := 13) (Nc := 1) (Ns := 12) C dX5_clearRing_8 rfl rfl rfl rfl rfl rfl (by first | rfl | assumption) (by first | assumption | omega) Nat.one_pos ?_
  refine hq_iload_n (q := 2) C dX5_clearRing_9 rfl rfl ?_
  refine hq_laldJw (f := 13) (g := 1) (w := 12) (Nc := 12) (Ns := 12) C dX5_clearRing_10 rfl rfl rfl ⟨rfl, by decide⟩ rfl rfl (by first | rfl | assumption) (by first | assumption | omega) (by first | assumption | omega) ?_
  refine hq_aload_n (q := 0) C dX5_clearRing_11 rfl rfl ?_
  refine hq_getR (f := 0) (g := 11) (Nc := 1) (Ns := 14) C fr_X5_33 dX5_clearRing_12 rfl rfl rfl rfl rfl (by decide) Nat.one_pos ?_
  refine hq_getR (f := 11) (g := 12) (Nc := 1) (Ns := 2) C fr_X5_171 dX5_clearRing_15 rfl rfl rfl rfl rfl (by decide) Nat.one_pos ?_
  refine hq_iload_n (q := 2) C dX5_clearRing_18 rfl rfl ?_
  refine hq_aaldJR0 (f := 12) (g := 13) (Nc := 1) (Ns := 12) C dX5_clearRing_19 rfl rfl rfl rfl rfl rfl (by first | rfl | assumption) (by first | assumption | omega) Nat.one_pos ?_
  refine hq_iload_n (q := 3) C dX5_clearRing_20 rfl rfl ?_
  refine hq_laldJw (f := 13) (g := 1) (w := 12) (Nc := 12) (Ns := 12) C dX5_clearRing_21 rfl rfl rfl ⟨rfl, by decide⟩ rfl rfl (by first | rfl | assumption) (by first | assumption | omega) (by first | assumption | omega) ?_
  refine hq_aload_n (q := 0) C dX5_clearRing_22 rfl rfl ?_
  refine hq_getR (f := 0) (g := 11) (Nc := 1) (Ns := 14) C fr_X5_33 dX5_clearRing_23 rfl rfl rfl rfl rfl (by decide) Nat.one_pos ?_
  refine hq_getR (f := 11) (g := 12) (Nc := 1) (Ns := 2) C fr_X5_171 dX5_clearRing_26 rfl rfl rfl rfl rfl (by decide) Nat.one_pos ?_
  refine hq_iload_n (q := 3) C dX5_clearRing_29 rfl rfl ?_
  refine hq_aaldJR0 (f := 12) (g := 13) (Nc := 1) (Ns := 12) C dX5_clearRing_30 rfl rfl rfl rfl rfl rfl (by first | rfl | assumption) (by first | assumption | omega) Nat.one_pos ?_
  refine hq_iload_n (q := 1) C dX5_clearRing_31 rfl rfl ?_
  refine hq_laldJw (f := 13) (g := 1) (w := 12) (Nc := 12) (Ns := 12) C dX5_clearRing_32 rfl rfl rfl ⟨rfl, by decide⟩ rfl rfl (by first | rfl | assumption) (by first | assumption | omega) (by first | assumption | omega) ?_
  refine hq_lmin C dX5_clearRing_33 (Nat.le_of_ble_eq_true rfl) (Nat.le_of_ble_eq_true rfl) (Nat.le_of_ble_eq_true rfl) (Nat.le_of_ble_eq_true rfl) ?_
  refine hq_lmin C dX5_clearRing_36 (Nat.le_of_ble_eq_true rfl) (Nat.le_of_ble_eq_true rfl) (Nat.le_of_ble_eq_true rfl) (Nat.le_of_ble_eq_true rfl) ?_
  refine hq_st (st' := [.long (sp_le J a b c)]) rfl ?_
  refine hq_lstore (L' := [(4, .long _), (0, .ref _), (1, .int _), (2, .int _), (3, .int _)]) C dX5_clearRing_39 (by decide) rfl ?_
  refine hq_lload (q := 0) C dX5_clearRing_41 rfl ?_
  refine hq_lconst (y := 0) C dX5_clearRing_43 rfl ?_
  refine hq_lcmp C dX5_clearRing_44 ?_
  refine hq_if_gt (tgt := 50) C dX5_clearRing_45 (by decide) (fun c_45 => ?_) (fun c_45 => ?_)
  · refine hq_aload_n (q := 1) C dX5_clearRing_50 rfl rfl ?_
    refine hq_getR (f := 0) (g := 11) (Nc := 1) (Ns := 14) C fr_X5_33 dX5_clearRing_51 rfl rfl rfl rfl rfl (by decide) Nat.one_pos ?_
    refine hq_iload_n (q := 2) C dX5_clearRing_54 rfl rfl ?_
    refine hq_iload_n (q := 3) C dX5_clearRing_55 rfl rfl ?_
    refine hq_lload (q := 0) C dX5_clearRing_56 rfl ?_
    refine hq_lneg C dX5_clearRing_58 ?_
    refine hq_cVv (As := [.int _, .int _, .long _]) (rm := rX2_changeKnown) (f := 11) (Nc := 1) C (m_X2_changeKnown hx ha hy hb9) wv_X2_changeKnown ml_X5_175 rfl rfl rfl Nat.one_pos rfl rfl rfl rfl ⟨Nat.le_of_ble_eq_true rfl, Nat.le_of_ble_eq_true rfl⟩ (Nat.le_of_ble_eq_true rfl) ⟨Nat.le_of_ble_eq_true rfl, Nat.le_of_ble_eq_true rfl⟩ dX5_clearRing_59 ?_
    refine hq_aload_n (q := 1) C dX5_clearRing_62 rfl rfl ?_
    refine hq_getR (f := 0) (g := 11) (Nc := 1) (Ns := 14) C fr_X5_33 dX5_clearRing_63 rfl rfl rfl rfl rfl (by decide) Nat.one_pos ?_
    refine hq_iload_n (q := 3) C dX5_clearRing_66 rfl rfl ?_
    refine hq_iload_n (q := 4) C dX5_clearRing_67 rfl rfl ?_
    refine hq_lload (q := 0) C dX5_clearRing_68 rfl ?_
    refine hq_lneg C dX5_clearRing_70 ?_
    refine hq_cVv (As := [.int _, .int _, .long _]) (rm := rX2_changeKnown) (f := 11) (Nc := 1) C (m_X2_changeKnown hy hb9 hz hc) wv_X2_changeKnown ml_X5_175 rfl rfl rfl Nat.one_pos rfl rfl rfl rfl ⟨Nat.le_of_ble_eq_true rfl, Nat.le_of_ble_eq_true rfl⟩ (Nat.le_of_ble_eq_true rfl) ⟨Nat.le_of_ble_eq_true rfl, Nat.le_of_ble_eq_true rfl⟩ dX5_clearRing_71 ?_
    refine hq_aload_n (q := 1) C dX5_clearRing_74 rfl rfl ?_
    refine hq_getR (f := 0) (g := 11) (Nc := 1) (Ns := 14) C fr_X5_33 dX5_clearRing_75 rfl rfl rfl rfl rfl (by decide) Nat.one_pos ?_
    refine hq_iload_n (q := 4) C dX5_clearRing_78 rfl rfl ?_
    refine hq_iload_n (q := 2) C dX5_clearRing_79 rfl rfl ?_
    refine hq_lload (q := 0) C dX5_clearRing_80 rfl ?_
    refine hq_lneg C dX5_clearRing_82 ?_
    refine hq_cVv (As := [.int _, .int _, .long _]) (rm := rX2_changeKnown) (f := 11) (Nc := 1) C (m_X2_changeKnown hz hc hx ha) wv_X2_changeKnown ml_X5_175 rfl rfl rfl Nat.one_pos rfl rfl rfl rfl ⟨Nat.le_of_ble_eq_true rfl, Nat.le_of_ble_eq_true rfl⟩ (Nat.le_of_ble_eq_true rfl) ⟨Nat.le_of_ble_eq_true rfl, Nat.le_of_ble_eq_true rfl⟩ dX5_clearRing_83 ?_
    refine hq_lload (q := 0) C dX5_clearRing_86 rfl ?_
    exact hq_lret C hr hlk dX5_clearRing_88 (by simp [sp_cr, c_45]) (by simp [sp_cr, c_45])
  · refine hq_lconst (y := 0) C dX5_clearRing_48 rfl ?_
    exact hq_lret C hr hlk dX5_clearRing_49 (by simp [sp_cr, c_45]) (by simp [sp_cr, c_45])
def sf_r1 (a b c : Nat) (σ : Int64 × MJ) : Int64 × MJ := if nI a = nI b then σ else if nI b = nI c then σ else if nI c = nI a then σ else (σ.1 + (sp_cr σ.2 a b c).1, (sp_cr σ.2 a b c).2)
def sf_r2 (nb a b : Nat) (σ : Int64 × MJ) : Int64 × MJ := lp (sf_r1 a b) nb 0 σ
def sf_r3 (nb a : Nat) (σ : Int64 × MJ) : Int64 × MJ := lp (sf_r2 nb a) nb 0 σ
def sp_ring (J : MJ) (nb : Nat) : Int64 × MJ := lp (sf_r3 nb) nb 0 (0, J)
set_option maxHeartbeats 4000000 in
set_option maxRecDepth 100000 in
theorem m_X5_ring {l : Launch} {D : va_G} {b0 : Nat} {I : MI} {J : MJ} {P : MI} {N : MJ} {o : Int64} {nb : Nat} (hbc : I 0 0 = nI nb) (hnb : nb ≤ 12) : hM l yX5_ring cX5_ring 6 (some .long) rX5_ring D b0 [.ref (hw_ad b0 0 0)] I J P N o (some (.long (sp_ring J nb).1)) I (sp_ring J nb).2 P N o := by
  refine hw_Mof (by decide) [(0, .ref _)] rfl (Nat.le_of_ble_eq_true rfl) ?_
  intro p e s m args below meth c C hr hlk hnm
  refine hq_lconst (y := 0) C dX5_ring_0 rfl ?_
  refine hq_lstore_n (L' := [(1, .long _), (0, .ref _)]) C dX5_ring_1 rfl (by decide) rfl ?_
  refine hq_iconst (y := 0) C dX5_ring_2 (by decide) ?_
  refine hq_istore_n (L' := [(3, .int _), (1, .long _), (0, .ref _)]) C dX5_ring_3 rfl (by decide) rfl ?_
  refine hq_fin [0, 1, 2] (L' := [(3, .int (nI 0)), (1, .long 0), (0, .ref (hw_ad b0 0 0))]) rfl rfl rfl rfl rfl rfl ?_
  refine lp_back (sf_r3 nb) (fun (a : Nat) (σ1 : Int64 × MJ) => hw_V p l e rX5_ring s m args below meth c (MQ below (hw_Q D b0 false (hw_n o) (some (.long (sp_ring J nb).1)) (hw_vl b0 I (sp_ring J nb).2 P N o)) args s 0 0 (fun q => b0 ≤ q)) D b0 6 false 0 0 (hw_n o) 4 [(3, .int (nI a)), (1, .long σ1.1), (0, .ref (hw_ad b0 0 0))] [] (hw_vl b0 I σ1.2 P N o)) (fun _ _ => True) nb ?_ (fun _ _ _ _ => trivial) nb 0 (0, J) (by omega) trivial ?_
  · intro a σ1 hi1 hinv1 k1
    refine hq_iload_n (q := 0) C dX5_ring_4 rfl rfl ?_
    refine hq_aload_n (q := 2) C dX5_ring_5 rfl rfl ?_
    refine hq_getI (f := 0) (g := 0) (Nc := 1) (Ns := 14) C fr_X5_66 dX5_ring_6 rfl rfl rfl rfl rfl (by decide) Nat.one_pos ?_
    refine hq_icmp_ge (tgt := 85) C dX5_ring_9 (by decide) (fun c_9 => absurd c_9 (by rw [hbc]; exact nI_ge hi1 (by omega))) (fun c_9 => ?_)
    refine hq_iconst (y := 0) C dX5_ring_12 (by decide) ?_
    refine hq_istore (L' := [(4, .int _), (3, .int _), (1, .long _), (0, .ref _)]) C dX5_ring_13 (by decide) rfl ?_
    refine hq_perm [0, 2, 1, 3] (L' := [(4, .int (nI 0)), (1, .long σ1.1), (3, .int (nI a)), (0, .ref (hw_ad b0 0 0))]) rfl ?_
    refine lp_back (sf_r2 nb a) (fun (b : Nat) (σ2 : Int64 × MJ) => hw_V p l e rX5_ring s m args below meth c (MQ below (hw_Q D b0 false (hw_n o) (some (.long (sp_ring J nb).1)) (hw_vl b0 I (sp_ring J nb).2 P N o)) args s 0 0 (fun q => b0 ≤ q)) D b0 6 false 0 0 (hw_n o) 15 [(4, .int (nI b)), (1, .long σ2.1), (3, .int (nI a)), (0, .ref (hw_ad b0 0 0))] [] (hw_vl b0 I σ2.2 P N o)) (fun _ _ => True) nb ?_ (fun _ _ _ _ => trivial) nb 0 σ1 (by omega) trivial ?_
    · intro b σ2 hi2 hinv2 k2
      refine hq_iload (q := 0) C dX5_ring_15 rfl ?_
      refine hq_aload_n (q := 3) C dX5_ring_17 rfl rfl ?_
      refine hq_getI (f := 0) (g := 0) (Nc := 1) (Ns := 14) C fr_X5_66 dX5_ring_18 rfl rfl rfl rfl rfl (by decide) Nat.one_pos ?_
      refine hq_icmp_ge (tgt := 79) C dX5_ring_21 (by decide) (fun c_21 => absurd c_21 (by rw [hbc]; exact nI_ge hi2 (by omega))) (fun c_21 => ?_)
      refine hq_iconst (y := 0) C dX5_ring_24 (by decide) ?_
      refine hq_istore (L' := [(5, .int _), (4, .int _), (1, .long _), (3, .int _), (0, .ref _)]) C dX5_ring_25 (by decide) rfl ?_
      refine hq_perm [0, 2, 3, 1, 4] (L' := [(5, .int (nI 0)), (1, .long σ2.1), (3, .int (nI a)), (4, .int (nI b)), (0, .ref (hw_ad b0 0 0))]) rfl ?_
      refine lp_back (sf_r1 a b) (fun (c9 : Nat) (σ3 : Int64 × MJ) => hw_V p l e rX5_ring s m args below meth c (MQ below (hw_Q D b0 false (hw_n o) (some (.long (sp_ring J nb).1)) (hw_vl b0 I (sp_ring J nb).2 P N o)) args s 0 0 (fun q => b0 ≤ q)) D b0 6 false 0 0 (hw_n o) 27 [(5, .int (nI c9)), (1, .long σ3.1), (3, .int (nI a)), (4, .int (nI b)), (0, .ref (hw_ad b0 0 0))] [] (hw_vl b0 I σ3.2 P N o)) (fun _ _ => True) nb ?_ (fun _ _ _ _ => trivial) nb 0 σ2 (by omega) trivial ?_
      · intro c9 σ3 hi3 hinv3 k3
        refine hq_iload (q := 0) C dX5_ring_27 rfl ?_
        refine hq_aload_n (q := 4) C dX5_ring_29 rfl rfl ?_
        refine hq_getI (f := 0) (g := 0) (Nc := 1) (Ns := 14) C fr_X5_66 dX5_ring_30 rfl rfl rfl rfl rfl (by decide) Nat.one_pos ?_
        refine hq_icmp_ge (tgt := 73) C dX5_ring_33 (by decide) (fun c_33 => absurd c_33 (by rw [hbc]; exact nI_ge hi3 (by omega))) (fun c_33 => ?_)
        refine hq_iload_n (q := 2) C dX5_ring_36 rfl rfl ?_
        refine hq_iload (q := 3) C dX5_ring_37 rfl ?_
        refine hq_icmp_eq (tgt := 67) C dX5_ring_39 (by decide) (fun c_39 => ?_) (fun c_39 => ?_)
        · refine hq_iinc (q := 0) (y := nI (_ + 1)) (L' := [(5, .int _), (1, .long _), (3, .int _), (4, .int _), (0, .ref _)]) C dX5_ring_67 rfl (hw_inc _) (by decide) rfl ?_
          refine hq_goto (tgt := 27) C dX5_ring_70 (by decide) ?_
          exact hq_fin [0, 1, 2, 3, 4] (by first | rfl | (simp only [sf_r1, c_39, ↓reduceIte, not_true_eq_false, not_false_eq_true]; rfl) | simp [lv_pick, sf_r1, c_39]) (by first | rfl | (simp only [sf_r1, c_39, ↓reduceIte, not_true_eq_false, not_false_eq_true]; done) | (simp only [sf_r1, c_39, ↓reduceIte, not_true_eq_false, not_false_eq_true]; rfl) | simp [sf_r1, c_39]) (by first | rfl | (simp only [sf_r1, c_39, ↓reduceIte, not_true_eq_false, not_false_eq_true]; done) | (simp only [sf_r1, c_39, ↓reduceIte, not_true_eq_false, not_false_eq_true]; rfl) | simp [sf_r1, c_39]) (by first | rfl | (simp only [sf_r1, c_39, ↓reduceIte, not_true_eq_false, not_false_eq_true]; done) | (simp only [sf_r1, c_39, ↓reduceIte, not_true_eq_false, not_false_eq_true]; rfl) | simp [sf_r1, c_39]) (by first | rfl | (simp only [sf_r1, c_39, ↓reduceIte, not_true_eq_false, not_false_eq_true]; done) | (simp only [sf_r1, c_39, ↓reduceIte, not_true_eq_false, not_false_eq_true]; rfl) | simp [sf_r1, c_39]) (by first | rfl | (simp only [sf_r1, c_39, ↓reduceIte, not_true_eq_false, not_false_eq_true]; done) | (simp only [sf_r1, c_39, ↓reduceIte, not_true_eq_false, not_false_eq_true]; rfl) | simp [sf_r1, c_39]) k3
        · refine hq_iload (q := 3) C dX5_ring_42 rfl ?_
          refine hq_iload (q := 0) C dX5_ring_44 rfl ?_
          refine hq_icmp_eq (tgt := 67) C dX5_ring_46 (by decide) (fun c_46 => ?_) (fun c_46 => ?_)
          · refine hq_iinc (q := 0) (y := nI (_ + 1)) (L' := [(5, .int _), (1, .long _), (3, .int _), (4, .int _), (0, .ref _)]) C dX5_ring_67 rfl (hw_inc _) (by decide) rfl ?_
            refine hq_goto (tgt := 27) C dX5_ring_70 (by decide) ?_
            exact hq_fin [0, 1, 2, 3, 4] (by first | rfl | (simp only [sf_r1, c_39, c_46, ↓reduceIte, not_true_eq_false, not_false_eq_true]; rfl) | simp [lv_pick, sf_r1, c_39, c_46]) (by first | rfl | (simp only [sf_r1, c_39, c_46, ↓reduceIte, not_true_eq_false, not_false_eq_true]; done) | (simp only [sf_r1, c_39, c_46, ↓reduceIte, not_true_eq_false, not_false_eq_true]; rfl) | simp [sf_r1, c_39, c_46]) (by first | rfl | (simp only [sf_r1, c_39, c_46, ↓reduceIte, not_true_eq_false, not_false_eq_true]; done) | (simp only [sf_r1, c_39, c_46, ↓reduceIte, not_true_eq_false, not_false_eq_true]; rfl) | simp [sf_r1, c_39, c_46]) (by first | rfl | (simp only [sf_r1, c_39, c_46, ↓reduceIte, not_true_eq_false, not_false_eq_true]; done) | (simp only [sf_r1, c_39, c_46, ↓reduceIte, not_true_eq_false, not_false_eq_true]; rfl) | simp [sf_r1, c_39, c_46]) (by first | rfl | (simp only [sf_r1, c_39, c_46, ↓reduceIte, not_true_eq_false, not_false_eq_true]; done) | (simp only [sf_r1, c_39, c_46, ↓reduceIte, not_true_eq_false, not_false_eq_true]; rfl) | simp [sf_r1, c_39, c_46]) (by first | rfl | (simp only [sf_r1, c_39, c_46, ↓reduceIte, not_true_eq_false, not_false_eq_true]; done) | (simp only [sf_r1, c_39, c_46, ↓reduceIte, not_true_eq_false, not_false_eq_true]; rfl) | simp [sf_r1, c_39, c_46]) k3
          · refine hq_iload (q := 0) C dX5_ring_49 rfl ?_
            refine hq_iload_n (q := 2) C dX5_ring_51 rfl rfl ?_
            refine hq_icmp_eq (tgt := 67) C dX5_ring_52 (by decide) (fun c_52 => ?_) (fun c_52 => ?_)
            · refine hq_iinc (q := 0) (y := nI (_ + 1)) (L' := [(5, .int _), (1, .long _), (3, .int _), (4, .int _), (0, .ref _)]) C dX5_ring_67 rfl (hw_inc _) (by decide) rfl ?_
              refine hq_goto (tgt := 27) C dX5_ring_70 (by decide) ?_
              exact hq_fin [0, 1, 2, 3, 4] (by first | rfl | (simp only [sf_r1, c_39, c_46, c_52, ↓reduceIte, not_true_eq_false, not_false_eq_true]; rfl) | simp [lv_pick, sf_r1, c_39, c_46, c_52]) (by first | rfl | (simp only [sf_r1, c_39, c_46, c_52, ↓reduceIte, not_true_eq_false, not_false_eq_true]; done) | (simp only [sf_r1, c_39, c_46, c_52, ↓reduceIte, not_true_eq_false, not_false_eq_true]; rfl) | simp [sf_r1, c_39, c_46, c_52]) (by first | rfl | (simp only [sf_r1, c_39, c_46, c_52, ↓reduceIte, not_true_eq_false, not_false_eq_true]; done) | (simp only [sf_r1, c_39, c_46, c_52, ↓reduceIte, not_true_eq_false, not_false_eq_true]; rfl) | simp [sf_r1, c_39, c_46, c_52]) (by first | rfl | (simp only [sf_r1, c_39, c_46, c_52, ↓reduceIte, not_true_eq_false, not_false_eq_true]; done) | (simp only [sf_r1, c_39, c_46, c_52, ↓reduceIte, not_true_eq_false, not_false_eq_true]; rfl) | simp [sf_r1, c_39, c_46, c_52]) (by first | rfl | (simp only [sf_r1, c_39, c_46, c_52, ↓reduceIte, not_true_eq_false, not_false_eq_true]; done) | (simp only [sf_r1, c_39, c_46, c_52, ↓reduceIte, not_true_eq_false, not_false_eq_true]; rfl) | simp [sf_r1, c_39, c_46, c_52]) (by first | rfl | (simp only [sf_r1, c_39, c_46, c_52, ↓reduceIte, not_true_eq_false, not_false_eq_true]; done) | (simp only [sf_r1, c_39, c_46, c_52, ↓reduceIte, not_true_eq_false, not_false_eq_true]; rfl) | simp [sf_r1, c_39, c_46, c_52]) k3
            · refine hq_lload_n (q := 1) C dX5_ring_55 rfl rfl ?_
              refine hq_aload_n (q := 4) C dX5_ring_56 rfl rfl ?_
              refine hq_iload_n (q := 2) C dX5_ring_57 rfl rfl ?_
              refine hq_iload (q := 3) C dX5_ring_58 rfl ?_
              refine hq_iload (q := 0) C dX5_ring_60 rfl ?_
              refine hq_cVr (As := [.int _, .int _, .int _]) (rm := rX5_clearRing) (f := 0) (Nc := 1) C (m_X5_clearRing (a := a) (b := b) (c := c9) rfl (by omega) rfl (by omega) rfl (by omega)) wv_X5_clearRing ml_X5_198 rfl rfl rfl Nat.one_pos rfl rfl rfl rfl ⟨Nat.le_of_ble_eq_true rfl, Nat.le_of_ble_eq_true rfl⟩ (Nat.le_of_ble_eq_true rfl) ⟨Nat.le_of_ble_eq_true rfl, Nat.le_of_ble_eq_true rfl⟩ dX5_ring_62 ?_
              refine hq_ladd C dX5_ring_65 ?_
              refine hq_lstore_n (L' := [(1, .long _), (5, .int _), (3, .int _), (4, .int _), (0, .ref _)]) C dX5_ring_66 rfl (by decide) rfl ?_
              refine hq_iinc (q := 1) (y := nI (_ + 1)) (L' := [(5, .int _), (1, .long _), (3, .int _), (4, .int _), (0, .ref _)]) C dX5_ring_67 rfl (hw_inc _) (by decide) rfl ?_
              refine hq_goto (tgt := 27) C dX5_ring_70 (by decide) ?_
              exact hq_fin [0, 1, 2, 3, 4] (by first | rfl | (simp only [sf_r1, c_39, c_46, c_52, ↓reduceIte, not_true_eq_false, not_false_eq_true]; rfl) | simp [lv_pick, sf_r1, c_39, c_46, c_52]) (by first | rfl | (simp only [sf_r1, c_39, c_46, c_52, ↓reduceIte, not_true_eq_false, not_false_eq_true]; done) | (simp only [sf_r1, c_39, c_46, c_52, ↓reduceIte, not_true_eq_false, not_false_eq_true]; rfl) | simp [sf_r1, c_39, c_46, c_52]) (by first | rfl | (simp only [sf_r1, c_39, c_46, c_52, ↓reduceIte, not_true_eq_false, not_false_eq_true]; done) | (simp only [sf_r1, c_39, c_46, c_52, ↓reduceIte, not_true_eq_false, not_false_eq_true]; rfl) | simp [sf_r1, c_39, c_46, c_52]) (by first | rfl | (simp only [sf_r1, c_39, c_46, c_52, ↓reduceIte, not_true_eq_false, not_false_eq_true]; done) | (simp only [sf_r1, c_39, c_46, c_52, ↓reduceIte, not_true_eq_false, not_false_eq_true]; rfl) | simp [sf_r1, c_39, c_46, c_52]) (by first | rfl | (simp only [sf_r1, c_39, c_46, c_52, ↓reduceIte, not_true_eq_false, not_false_eq_true]; done) | (simp only [sf_r1, c_39, c_46, c_52, ↓reduceIte, not_true_eq_false, not_false_eq_true]; rfl) | simp [sf_r1, c_39, c_46, c_52]) (by first | rfl | (simp only [sf_r1, c_39, c_46, c_52, ↓reduceIte, not_true_eq_false, not_false_eq_true]; done) | (simp only [sf_r1, c_39, c_46, c_52, ↓reduceIte, not_true_eq_false, not_false_eq_true]; rfl) | simp [sf_r1, c_39, c_46, c_52]) k3
      · refine hq_iload (q := 0) C dX5_ring_27 rfl ?_
        refine hq_aload_n (q := 4) C dX5_ring_29 rfl rfl ?_
        refine hq_getI (f := 0) (g := 0) (Nc := 1) (Ns := 14) C fr_X5_66 dX5_ring_30 rfl rfl rfl rfl rfl (by decide) Nat.one_pos ?_
        refine hq_icmp_ge (tgt := 73) C dX5_ring_33 (by decide) (fun c_33 => ?_) (fun c_33 => absurd (by rw [hbc]; exact nI_le (Nat.le_refl nb) (by omega)) c_33)
        refine hq_iinc (q := 3) (y := nI (_ + 1)) (L' := [(4, .int _), (5, .int _), (1, .long _), (3, .int _), (0, .ref _)]) C dX5_ring_73 rfl (hw_inc _) (by decide) rfl ?_
        refine hq_goto (tgt := 15) C dX5_ring_76 (by decide) ?_
        exact hq_fin [0, 2, 3, 4] rfl rfl rfl rfl rfl rfl k2
    · refine hq_iload (q := 0) C dX5_ring_15 rfl ?_
      refine hq_aload_n (q := 3) C dX5_ring_17 rfl rfl ?_
      refine hq_getI (f := 0) (g := 0) (Nc := 1) (Ns := 14) C fr_X5_66 dX5_ring_18 rfl rfl rfl rfl rfl (by decide) Nat.one_pos ?_
      refine hq_icmp_ge (tgt := 79) C dX5_ring_21 (by decide) (fun c_21 => ?_) (fun c_21 => absurd (by rw [hbc]; exact nI_le (Nat.le_refl nb) (by omega)) c_21)
      refine hq_iinc (q := 2) (y := nI (_ + 1)) (L' := [(3, .int _), (4, .int _), (1, .long _), (0, .ref _)]) C dX5_ring_79 rfl (hw_inc _) (by decide) rfl ?_
      refine hq_goto (tgt := 4) C dX5_ring_82 (by decide) ?_
      exact hq_fin [0, 2, 3] rfl rfl rfl rfl rfl rfl k1
  · refine hq_iload_n (q := 0) C dX5_ring_4 rfl rfl ?_
    refine hq_aload_n (q := 2) C dX5_ring_5 rfl rfl ?_
    refine hq_getI (f := 0) (g := 0) (Nc := 1) (Ns := 14) C fr_X5_66 dX5_ring_6 rfl rfl rfl rfl rfl (by decide) Nat.one_pos ?_
    refine hq_icmp_ge (tgt := 85) C dX5_ring_9 (by decide) (fun c_9 => ?_) (fun c_9 => absurd (by rw [hbc]; exact nI_le (Nat.le_refl nb) (by omega)) c_9)
    refine hq_lload_n (q := 1) C dX5_ring_85 rfl rfl ?_
    exact hq_lret C hr hlk dX5_ring_86 rfl rfl
def sf_q1 (I : MI) (i : Nat) (s : Int32) : Int32 := if I 9 i = 0 then s else s ||| ((1 : Int32) <<< (nI i &&& 31))
def sf_q2 (J : MJ) (nb i : Nat) (s : Int32) : Int32 := if s &&& ((1 : Int32) <<< (nI i &&& 31)) = 0 then s else s ||| lp (sf_nb J i) nb 0 0
def sf_q3 (J : MJ) (nb : Nat) (_ : Nat) (s : Int32) : Int32 := lp (sf_q2 J nb) nb 0 s
def sp_inq (I : MI) (J : MJ) (nb : Nat) : Int32 := lp (sf_q3 J nb) nb 0 (lp (sf_q1 I) nb 0 0)
set_option maxHeartbeats 4000000 in
set_option maxRecDepth 100000 in
theorem m_X5_inquiry {l : Launch} {D : va_G} {b0 : Nat} {I : MI} {J : MJ} {P : MI} {N : MJ} {o : Int64} {nb : Nat} (hbc : I 0 0 = nI nb) (hnb : nb ≤ 12) : hM l yX5_inquiry cX5_inquiry 4 (some .int) rX5_inquiry D b0 [.ref (hw_ad b0 0 0)] I J P N o (some (.int (sp_inq I J nb))) I J P N o := by
  refine hw_Mof (by decide) [(0, .ref _)] rfl (Nat.le_of_ble_eq_true rfl) ?_
  intro p e s m args below meth c C hr hlk hnm
  refine hq_iconst (y := 0) C dX5_inquiry_0 (by decide) ?_
  refine hq_istore_n (L' := [(1, .int _), (0, .ref _)]) C dX5_inquiry_1 rfl (by decide) rfl ?_
  refine hq_iconst (y := 0) C dX5_inquiry_2 (by decide) ?_
  refine hq_istore_n (L' := [(2, .int _), (1, .int _), (0, .ref _)]) C dX5_inquiry_3 rfl (by decide) rfl ?_
  refine hq_perm [0, 1, 2] (L' := [(2, .int (nI 0)), (1, .int 0), (0, .ref (hw_ad b0 0 0))]) rfl ?_
  refine lp_back (sf_q1 I) (fun (i9 : Nat) (σ : Int32) => hw_V p l e rX5_inquiry s m args below meth c (MQ below (hw_Q D b0 false (hw_n o) (some (.int (sp_inq I J nb))) (hw_vl b0 I J P N o)) args s 0 0 (fun q => b0 ≤ q)) D b0 4 false 0 0 (hw_n o) 4 [(2, .int (nI i9)), (1, .int σ), (0, .ref (hw_ad b0 0 0))] [] (hw_vl b0 I J P N o)) (fun _ _ => True) nb ?_ (fun _ _ _ _ => trivial) nb 0 0 (by omega) trivial ?_
  · intro i9 σ hi0 hinv0 k0
    refine hq_iload_n (q := 0) C dX5_inquiry_4 rfl rfl ?_
    refine hq_aload_n (q := 2) C dX5_inquiry_5 rfl rfl ?_
    refine hq_getI (f := 0) (g := 0) (Nc := 1) (Ns := 14) C fr_X5_66 dX5_inquiry_6 rfl rfl rfl rfl rfl (by decide) Nat.one_pos ?_
    refine hq_icmp_ge (tgt := 36) C dX5_inquiry_9 (by decide) (fun c_9 => absurd c_9 (by rw [hbc]; exact nI_ge hi0 (by omega))) (fun c_9 => ?_)
    refine hq_aload_n (q := 2) C dX5_inquiry_12 rfl rfl ?_
    refine hq_getR (f := 0) (g := 1) (Nc := 1) (Ns := 14) C fr_X5_11 dX5_inquiry_13 rfl rfl rfl rfl rfl (by decide) Nat.one_pos ?_
    refine hq_iload_n (q := 0) C dX5_inquiry_16 rfl rfl ?_
    refine hq_aaldBR0 (f := 1) (g := 2) (Nc := 1) (Ns := 12) C dX5_inquiry_17 rfl rfl rfl rfl rfl rfl (by first | rfl | assumption) (by first | assumption | omega) Nat.one_pos ?_
    refine hq_getI (f := 2) (g := 9) (Nc := 12) (Ns := 8) C fr_X5_118 dX5_inquiry_18 rfl rfl rfl rfl rfl (by decide) (by first | assumption | omega) ?_
    refine hq_if_eq (tgt := 30) C dX5_inquiry_21 (by decide) (fun c_21 => ?_) (fun c_21 => ?_)
    · refine hq_iinc (q := 0) (y := nI (_ + 1)) (L' := [(2, .int _), (1, .int _), (0, .ref _)]) C dX5_inquiry_30 rfl (hw_inc _) (by decide) rfl ?_
      refine hq_goto (tgt := 4) C dX5_inquiry_33 (by decide) ?_
      exact hq_fin [0, 1, 2] (by first | rfl | (simp only [sf_q1, c_21, ↓reduceIte, not_true_eq_false, not_false_eq_true]; rfl) | simp [lv_pick, sf_q1, c_21]) (by first | rfl | (simp only [sf_q1, c_21, ↓reduceIte, not_true_eq_false, not_false_eq_true]; done) | (simp only [sf_q1, c_21, ↓reduceIte, not_true_eq_false, not_false_eq_true]; rfl) | simp [sf_q1, c_21]) (by first | rfl | (simp only [sf_q1, c_21, ↓reduceIte, not_true_eq_false, not_false_eq_true]; done) | (simp only [sf_q1, c_21, ↓reduceIte, not_true_eq_false, not_false_eq_true]; rfl) | simp [sf_q1, c_21]) (by first | rfl | (simp only [sf_q1, c_21, ↓reduceIte, not_true_eq_false, not_false_eq_true]; done) | (simp only [sf_q1, c_21, ↓reduceIte, not_true_eq_false, not_false_eq_true]; rfl) | simp [sf_q1, c_21]) (by first | rfl | (simp only [sf_q1, c_21, ↓reduceIte, not_true_eq_false, not_false_eq_true]; done) | (simp only [sf_q1, c_21, ↓reduceIte, not_true_eq_false, not_false_eq_true]; rfl) | simp [sf_q1, c_21]) (by first | rfl | (simp only [sf_q1, c_21, ↓reduceIte, not_true_eq_false, not_false_eq_true]; done) | (simp only [sf_q1, c_21, ↓reduceIte, not_true_eq_false, not_false_eq_true]; rfl) | simp [sf_q1, c_21]) k0
    · refine hq_iload_n (q := 1) C dX5_inquiry_24 rfl rfl ?_
      refine hq_iconst (y := 1) C dX5_inquiry_25 (by decide) ?_
      refine hq_iload_n (q := 0) C dX5_inquiry_26 rfl rfl ?_
      refine hq_ishl C dX5_inquiry_27 ?_
      refine hq_ior C dX5_inquiry_28 ?_
      refine hq_istore_n (L' := [(1, .int _), (2, .int _), (0, .ref _)]) C dX5_inquiry_29 rfl (by decide) rfl ?_
      refine hq_iinc (q := 1) (y := nI (_ + 1)) (L' := [(2, .int _), (1, .int _), (0, .ref _)]) C dX5_inquiry_30 rfl (hw_inc _) (by decide) rfl ?_
      refine hq_goto (tgt := 4) C dX5_inquiry_33 (by decide) ?_
      exact hq_fin [0, 1, 2] (by first | rfl | (simp only [sf_q1, c_21, ↓reduceIte, not_true_eq_false, not_false_eq_true]; rfl) | simp [lv_pick, sf_q1, c_21]) (by first | rfl | (simp only [sf_q1, c_21, ↓reduceIte, not_true_eq_false, not_false_eq_true]; done) | (simp only [sf_q1, c_21, ↓reduceIte, not_true_eq_false, not_false_eq_true]; rfl) | simp [sf_q1, c_21]) (by first | rfl | (simp only [sf_q1, c_21, ↓reduceIte, not_true_eq_false, not_false_eq_true]; done) | (simp only [sf_q1, c_21, ↓reduceIte, not_true_eq_false, not_false_eq_true]; rfl) | simp [sf_q1, c_21]) (by first | rfl | (simp only [sf_q1, c_21, ↓reduceIte, not_true_eq_false, not_false_eq_true]; done) | (simp only [sf_q1, c_21, ↓reduceIte, not_true_eq_false, not_false_eq_true]; rfl) | simp [sf_q1, c_21]) (by first | rfl | (simp only [sf_q1, c_21, ↓reduceIte, not_true_eq_false, not_false_eq_true]; done) | (simp only [sf_q1, c_21, ↓reduceIte, not_true_eq_false, not_false_eq_true]; rfl) | simp [sf_q1, c_21]) (by first | rfl | (simp only [sf_q1, c_21, ↓reduceIte, not_true_eq_false, not_false_eq_true]; done) | (simp only [sf_q1, c_21, ↓reduceIte, not_true_eq_false, not_false_eq_true]; rfl) | simp [sf_q1, c_21]) k0
  · refine hq_iload_n (q := 0) C dX5_inquiry_4 rfl rfl ?_
    refine hq_aload_n (q := 2) C dX5_inquiry_5 rfl rfl ?_
    refine hq_getI (f := 0) (g := 0) (Nc := 1) (Ns := 14) C fr_X5_66 dX5_inquiry_6 rfl rfl rfl rfl rfl (by decide) Nat.one_pos ?_
    refine hq_icmp_ge (tgt := 36) C dX5_inquiry_9 (by decide) (fun c_9 => ?_) (fun c_9 => absurd (by rw [hbc]; exact nI_le (Nat.le_refl nb) (by omega)) c_9)
    refine hq_iconst (y := 0) C dX5_inquiry_36 (by decide) ?_
    refine hq_istore_n (L' := [(2, .int _), (1, .int _), (0, .ref _)]) C dX5_inquiry_37 rfl (by decide) rfl ?_
    refine hq_perm [0, 1, 2] (L' := [(2, .int (nI 0)), (1, .int (lp (sf_q1 I) nb 0 0)), (0, .ref (hw_ad b0 0 0))]) rfl ?_
    refine lp_back (sf_q3 J nb) (fun (a : Nat) (σ1 : Int32) => hw_V p l e rX5_inquiry s m args below meth c (MQ below (hw_Q D b0 false (hw_n o) (some (.int (sp_inq I J nb))) (hw_vl b0 I J P N o)) args s 0 0 (fun q => b0 ≤ q)) D b0 4 false 0 0 (hw_n o) 38 [(2, .int (nI a)), (1, .int σ1), (0, .ref (hw_ad b0 0 0))] [] (hw_vl b0 I J P N o)) (fun _ _ => True) nb ?_ (fun _ _ _ _ => trivial) nb 0 (lp (sf_q1 I) nb 0 0) (by omega) trivial ?_
    · intro a σ1 hi1 hinv1 k1
      refine hq_iload_n (q := 0) C dX5_inquiry_38 rfl rfl ?_
      refine hq_aload_n (q := 2) C dX5_inquiry_39 rfl rfl ?_
      refine hq_getI (f := 0) (g := 0) (Nc := 1) (Ns := 14) C fr_X5_66 dX5_inquiry_40 rfl rfl rfl rfl rfl (by decide) Nat.one_pos ?_
      refine hq_icmp_ge (tgt := 84) C dX5_inquiry_43 (by decide) (fun c_43 => absurd c_43 (by rw [hbc]; exact nI_ge hi1 (by omega))) (fun c_43 => ?_)
      refine hq_iconst (y := 0) C dX5_inquiry_46 (by decide) ?_
      refine hq_istore_n (L' := [(3, .int _), (2, .int _), (1, .int _), (0, .ref _)]) C dX5_inquiry_47 rfl (by decide) rfl ?_
      refine hq_perm [0, 2, 1, 3] (L' := [(3, .int (nI 0)), (1, .int σ1), (2, .int (nI a)), (0, .ref (hw_ad b0 0 0))]) rfl ?_
      refine lp_back (sf_q2 J nb) (fun (b : Nat) (σ2 : Int32) => hw_V p l e rX5_inquiry s m args below meth c (MQ below (hw_Q D b0 false (hw_n o) (some (.int (sp_inq I J nb))) (hw_vl b0 I J P N o)) args s 0 0 (fun q => b0 ≤ q)) D b0 4 false 0 0 (hw_n o) 48 [(3, .int (nI b)), (1, .int σ2), (2, .int (nI a)), (0, .ref (hw_ad b0 0 0))] [] (hw_vl b0 I J P N o)) (fun _ _ => True) nb ?_ (fun _ _ _ _ => trivial) nb 0 σ1 (by omega) trivial ?_
      · intro b σ2 hi2 hinv2 k2
        refine hq_iload_n (q := 0) C dX5_inquiry_48 rfl rfl ?_
        refine hq_aload_n (q := 3) C dX5_inquiry_49 rfl rfl ?_
        refine hq_getI (f := 0) (g := 0) (Nc := 1) (Ns := 14) C fr_X5_66 dX5_inquiry_50 rfl rfl rfl rfl rfl (by decide) Nat.one_pos ?_
        refine hq_icmp_ge (tgt := 78) C dX5_inquiry_53 (by decide) (fun c_53 => absurd c_53 (by rw [hbc]; exact nI_ge hi2 (by omega))) (fun c_53 => ?_)
        refine hq_iload_n (q := 1) C dX5_inquiry_56 rfl rfl ?_
        refine hq_iconst (y := 1) C dX5_inquiry_57 (by decide) ?_
        refine hq_iload_n (q := 0) C dX5_inquiry_58 rfl rfl ?_
        refine hq_ishl C dX5_inquiry_59 ?_
        refine hq_iand C dX5_inquiry_60 ?_
        refine hq_if_eq (tgt := 72) C dX5_inquiry_61 (by decide) (fun c_61 => ?_) (fun c_61 => ?_)
        · refine hq_iinc (q := 0) (y := nI (_ + 1)) (L' := [(3, .int _), (1, .int _), (2, .int _), (0, .ref _)]) C dX5_inquiry_72 rfl (hw_inc _) (by decide) rfl ?_
          refine hq_goto (tgt := 48) C dX5_inquiry_75 (by decide) ?_
          exact hq_fin [0, 1, 2, 3] (by first | rfl | (simp only [sf_q2, c_61, ↓reduceIte, not_true_eq_false, not_false_eq_true]; rfl) | simp [lv_pick, sf_q2, c_61]) (by first | rfl | (simp only [sf_q2, c_61, ↓reduceIte, not_true_eq_false, not_false_eq_true]; done) | (simp only [sf_q2, c_61, ↓reduceIte, not_true_eq_false, not_false_eq_true]; rfl) | simp [sf_q2, c_61]) (by first | rfl | (simp only [sf_q2, c_61, ↓reduceIte, not_true_eq_false, not_false_eq_true]; done) | (simp only [sf_q2, c_61, ↓reduceIte, not_true_eq_false, not_false_eq_true]; rfl) | simp [sf_q2, c_61]) (by first | rfl | (simp only [sf_q2, c_61, ↓reduceIte, not_true_eq_false, not_false_eq_true]; done) | (simp only [sf_q2, c_61, ↓reduceIte, not_true_eq_false, not_false_eq_true]; rfl) | simp [sf_q2, c_61]) (by first | rfl | (simp only [sf_q2, c_61, ↓reduceIte, not_true_eq_false, not_false_eq_true]; done) | (simp only [sf_q2, c_61, ↓reduceIte, not_true_eq_false, not_false_eq_true]; rfl) | simp [sf_q2, c_61]) (by first | rfl | (simp only [sf_q2, c_61, ↓reduceIte, not_true_eq_false, not_false_eq_true]; done) | (simp only [sf_q2, c_61, ↓reduceIte, not_true_eq_false, not_false_eq_true]; rfl) | simp [sf_q2, c_61]) k2
        · refine hq_iload_n (q := 1) C dX5_inquiry_64 rfl rfl ?_
          refine hq_aload_n (q := 3) C dX5_inquiry_65 rfl rfl ?_
          refine hq_iload_n (q := 0) C dX5_inquiry_66 rfl rfl ?_
          refine hq_cVr (As := [.int _]) (rm := rX5_namedByBook) (f := 0) (Nc := 1) C (m_X5_namedByBook (b := b) hbc hnb rfl (by omega)) wv_X5_namedByBook ml_X5_224 rfl rfl rfl Nat.one_pos rfl rfl rfl rfl ⟨Nat.le_of_ble_eq_true rfl, Nat.le_of_ble_eq_true rfl⟩ (Nat.le_of_ble_eq_true rfl) ⟨Nat.le_of_ble_eq_true rfl, Nat.le_of_ble_eq_true rfl⟩ dX5_inquiry_67 ?_
          refine hq_ior C dX5_inquiry_70 ?_
          refine hq_istore_n (L' := [(1, .int _), (3, .int _), (2, .int _), (0, .ref _)]) C dX5_inquiry_71 rfl (by decide) rfl ?_
          refine hq_iinc (q := 1) (y := nI (_ + 1)) (L' := [(3, .int _), (1, .int _), (2, .int _), (0, .ref _)]) C dX5_inquiry_72 rfl (hw_inc _) (by decide) rfl ?_
          refine hq_goto (tgt := 48) C dX5_inquiry_75 (by decide) ?_
          exact hq_fin [0, 1, 2, 3] (by first | rfl | (simp only [sf_q2, c_61, ↓reduceIte, not_true_eq_false, not_false_eq_true]; rfl) | simp [lv_pick, sf_q2, c_61]) (by first | rfl | (simp only [sf_q2, c_61, ↓reduceIte, not_true_eq_false, not_false_eq_true]; done) | (simp only [sf_q2, c_61, ↓reduceIte, not_true_eq_false, not_false_eq_true]; rfl) | simp [sf_q2, c_61]) (by first | rfl | (simp only [sf_q2, c_61, ↓reduceIte, not_true_eq_false, not_false_eq_true]; done) | (simp only [sf_q2, c_61, ↓reduceIte, not_true_eq_false, not_false_eq_true]; rfl) | simp [sf_q2, c_61]) (by first | rfl | (simp only [sf_q2, c_61, ↓reduceIte, not_true_eq_false, not_false_eq_true]; done) | (simp only [sf_q2, c_61, ↓reduceIte, not_true_eq_false, not_false_eq_true]; rfl) | simp [sf_q2, c_61]) (by first | rfl | (simp only [sf_q2, c_61, ↓reduceIte, not_true_eq_false, not_false_eq_true]; done) | (simp only [sf_q2, c_61, ↓reduceIte, not_true_eq_false, not_false_eq_true]; rfl) | simp [sf_q2, c_61]) (by first | rfl | (simp only [sf_q2, c_61, ↓reduceIte, not_true_eq_false, not_false_eq_true]; done) | (simp only [sf_q2, c_61, ↓reduceIte, not_true_eq_false, not_false_eq_true]; rfl) | simp [sf_q2, c_61]) k2
      · refine hq_iload_n (q := 0) C dX5_inquiry_48 rfl rfl ?_
        refine hq_aload_n (q := 3) C dX5_inquiry_49 rfl rfl ?_
        refine hq_getI (f := 0) (g := 0) (Nc := 1) (Ns := 14) C fr_X5_66 dX5_inquiry_50 rfl rfl rfl rfl rfl (by decide) Nat.one_pos ?_
        refine hq_icmp_ge (tgt := 78) C dX5_inquiry_53 (by decide) (fun c_53 => ?_) (fun c_53 => absurd (by rw [hbc]; exact nI_le (Nat.le_refl nb) (by omega)) c_53)
        refine hq_iinc (q := 2) (y := nI (_ + 1)) (L' := [(2, .int _), (3, .int _), (1, .int _), (0, .ref _)]) C dX5_inquiry_78 rfl (hw_inc _) (by decide) rfl ?_
        refine hq_goto (tgt := 38) C dX5_inquiry_81 (by decide) ?_
        exact hq_fin [0, 2, 3] rfl rfl rfl rfl rfl rfl k1
    · refine hq_iload_n (q := 0) C dX5_inquiry_38 rfl rfl ?_
      refine hq_aload_n (q := 2) C dX5_inquiry_39 rfl rfl ?_
      refine hq_getI (f := 0) (g := 0) (Nc := 1) (Ns := 14) C fr_X5_66 dX5_inquiry_40 rfl rfl rfl rfl rfl (by decide) Nat.one_pos ?_
      refine hq_icmp_ge (tgt := 84) C dX5_inquiry_43 (by decide) (fun c_43 => ?_) (fun c_43 => absurd (by rw [hbc]; exact nI_le (Nat.le_refl nb) (by omega)) c_43)
      refine hq_iload_n (q := 1) C dX5_inquiry_84 rfl rfl ?_
      exact hq_iret C hr hlk dX5_inquiry_85 rfl rfl
def sf_lo (x : Int32) (i : Nat) (σ : MI × MJ × Nat) : MI × MJ × Nat :=
  if ¬ σ.1 20 (12 * i + 0) = x then σ else if σ.1 16 i = 0 then (uI σ.1 16 i 5, sp_tbk σ.1 σ.2.1 i, σ.2.2 + 1) else if ¬ σ.1 16 i = 3 then σ else (uI σ.1 16 i 5, σ.2.1, σ.2.2 + 1)
theorem sf_lo_ne {x : Int32} {σ : MI × MJ × Nat} {i g : Nat} (h : g ≠ 16) (j : Nat) : (sf_lo x i σ).1 g j = σ.1 g j := by
  unfold sf_lo
  repeat' split
  all_goals first | rfl | simp [uI, h]
def sp_lo (I : MI) (J : MJ) (x : Int32) (no : Nat) : MI × MJ × Nat := lp (sf_lo x) no 0 (I, J, 0)
theorem sp_lo_ne {I : MI} {J : MJ} {x : Int32} {no g : Nat} (h : g ≠ 16) (j : Nat) : (sp_lo I J x no).1 g j = I g j := lp_inv (sf_lo x) (fun _ σ => σ.1 g j = I g j) no (fun i σ _ hs => (sf_lo_ne h j).trans hs) no 0 (I, J, 0) (by omega) rfl
set_option maxHeartbeats 4000000 in
set_option maxRecDepth 100000 in
theorem m_X5_loseOrdersFrom {l : Launch} {D : va_G} {b0 : Nat} {I : MI} {J : MJ} {P : MI} {N : MJ} {o : Int64} {no : Nat} (hoc : I 1 0 = nI no) (hno : no ≤ 40) (hos : hw_os I no) {x : Int32} : hM l yX5_loseOrdersFrom cX5_loseOrdersFrom 5 (some .int) rX5_loseOrdersFrom D b0 [.ref (hw_ad b0 0 0), .int x] I J P N o (some (.int (nI (sp_lo I J x no).2.2))) (sp_lo I J x no).1 (sp_lo I J x no).2.1 P N o := by
  refine hw_Mof (by decide) [(0, .ref _), (1, .int _)] rfl (Nat.le_of_ble_eq_true rfl) ?_
  intro p e s m args below meth c C hr hlk hnm
  refine hq_iconst (y := 0) C dX5_loseOrdersFrom_0 (by decide) ?_
  refine hq_istore_n (L' := [(2, .int _), (0, .ref _), (1, .int _)]) C dX5_loseOrdersFrom_1 rfl (by decide) rfl ?_
  refine hq_iconst (y := 0) C dX5_loseOrdersFrom_2 (by decide) ?_
  refine hq_istore_n (L' := [(3, .int _), (2, .int _), (0, .ref _), (1, .int _)]) C dX5_loseOrdersFrom_3 rfl (by decide) rfl ?_
  refine hq_perm [0, 1, 2, 3] (L' := [(3, .int (nI 0)), (2, .int (nI 0)), (0, .ref (hw_ad b0 0 0)), (1, .int x)]) rfl ?_
  refine lp_back (sf_lo x) (fun (k9 : Nat) (σ : MI × MJ × Nat) => hw_V p l e rX5_loseOrdersFrom s m args below meth c (MQ below (hw_Q D b0 false (hw_n o) (some (.int (nI (sp_lo I J x no).2.2))) (hw_vl b0 (sp_lo I J x no).1 (sp_lo I J x no).2.1 P N o)) args s 0 0 (fun q => b0 ≤ q)) D b0 5 false 0 0 (hw_n o) 4 [(3, .int (nI k9)), (2, .int (nI σ.2.2)), (0, .ref (hw_ad b0 0 0)), (1, .int x)] [] (hw_vl b0 σ.1 σ.2.1 P N o)) (fun _ σ => σ.1 1 0 = nI no ∧ hw_os σ.1 no) no ?_ (fun i σ hi hs => ⟨(sf_lo_ne (by decide) 0).trans hs.1, hs.2.congr (fun g j hg => sf_lo_ne (by omega) j)⟩) no 0 (I, J, 0) (by omega) ⟨hoc, hos⟩ ?_
  · intro k9 σ hi hinv k
    have hi9 := hi
    have hk40 : k9 < 40 := by omega
    have hor := hinv.2 k9 hi9
    refine hq_iload_n (q := 0) C dX5_loseOrdersFrom_4 rfl rfl ?_
    refine hq_aload_n (q := 2) C dX5_loseOrdersFrom_5 rfl rfl ?_
    refine hq_getI (f := 0) (g := 1) (Nc := 1) (Ns := 14) C fr_X5_124 dX5_loseOrdersFrom_6 rfl rfl rfl rfl rfl (by decide) Nat.one_pos ?_
    refine hq_icmp_ge (tgt := 83) C dX5_loseOrdersFrom_9 (by decide) (fun c_9 => absurd c_9 (by rw [show σ.1 1 0 = nI no from hinv.1]; exact nI_ge hi9 (by omega))) (fun c_9 => ?_)
    refine hq_aload_n (q := 2) C dX5_loseOrdersFrom_12 rfl rfl ?_
    refine hq_getR (f := 0) (g := 5) (Nc := 1) (Ns := 14) C fr_X5_18 dX5_loseOrdersFrom_13 rfl rfl rfl rfl rfl (by decide) Nat.one_pos ?_
    refine hq_iload_n (q := 0) C dX5_loseOrdersFrom_16 rfl rfl ?_
    refine hq_aaldOR0 (f := 5) (g := 6) (Nc := 1) (Ns := 40) C dX5_loseOrdersFrom_17 rfl rfl rfl rfl rfl rfl (by first | rfl | assumption) (by first | assumption | omega) Nat.one_pos ?_
    refine hq_astore (L' := [(4, .ref _), (3, .int _), (2, .int _), (0, .ref _), (1, .int _)]) C dX5_loseOrdersFrom_18 (by decide) rfl ?_
    refine hq_aload (q := 0) C dX5_loseOrdersFrom_20 rfl ?_
    refine hq_cVr (As := []) (rm := rX3_firstBroker) (f := 6) (Nc := 40) C (m_X3_firstBroker hk40) wv_X3_firstBroker ml_X5_294 rfl rfl rfl (by first | assumption | omega) rfl rfl rfl rfl ⟨Nat.le_of_ble_eq_true rfl, Nat.le_of_ble_eq_true rfl⟩ (Nat.le_of_ble_eq_true rfl) ⟨Nat.le_of_ble_eq_true rfl, Nat.le_of_ble_eq_true rfl⟩ dX5_loseOrdersFrom_22 ?_
    refine hq_iload_n (q := 4) C dX5_loseOrdersFrom_25 rfl rfl ?_
    refine hq_icmp_ne (tgt := 77) C dX5_loseOrdersFrom_26 (by decide) (fun c_26 => ?_) (fun c_26 => ?_)
    · refine hq_iinc (q := 1) (y := nI (_ + 1)) (L' := [(3, .int _), (4, .ref _), (2, .int _), (0, .ref _), (1, .int _)]) C dX5_loseOrdersFrom_77 rfl (hw_inc _) (by decide) rfl ?_
      refine hq_goto (tgt := 4) C dX5_loseOrdersFrom_80 (by decide) ?_
      exact hq_fin [0, 2, 3, 4] (by first | rfl | (simp only [sf_lo, c_26, ↓reduceIte, not_true_eq_false, not_false_eq_true]; rfl) | simp [lv_pick, sf_lo, c_26]) (by first | rfl | (simp only [sf_lo, c_26, ↓reduceIte, not_true_eq_false, not_false_eq_true]; done) | (simp only [sf_lo, c_26, ↓reduceIte, not_true_eq_false, not_false_eq_true]; rfl) | simp [sf_lo, c_26]) (by first | rfl | (simp only [sf_lo, c_26, ↓reduceIte, not_true_eq_false, not_false_eq_true]; done) | (simp only [sf_lo, c_26, ↓reduceIte, not_true_eq_false, not_false_eq_true]; rfl) | simp [sf_lo, c_26]) (by first | rfl | (simp only [sf_lo, c_26, ↓reduceIte, not_true_eq_false, not_false_eq_true]; done) | (simp only [sf_lo, c_26, ↓reduceIte, not_true_eq_false, not_false_eq_true]; rfl) | simp [sf_lo, c_26]) (by first | rfl | (simp only [sf_lo, c_26, ↓reduceIte, not_true_eq_false, not_false_eq_true]; done) | (simp only [sf_lo, c_26, ↓reduceIte, not_true_eq_false, not_false_eq_true]; rfl) | simp [sf_lo, c_26]) (by first | rfl | (simp only [sf_lo, c_26, ↓reduceIte, not_true_eq_false, not_false_eq_true]; done) | (simp only [sf_lo, c_26, ↓reduceIte, not_true_eq_false, not_false_eq_true]; rfl) | simp [sf_lo, c_26]) k
    · refine hq_aload (q := 0) C dX5_loseOrdersFrom_29 rfl ?_
      refine hq_getI (f := 6) (g := 16) (Nc := 40) (Ns := 10) C fr_X5_140 dX5_loseOrdersFrom_31 rfl rfl rfl rfl rfl (by decide) (by first | assumption | omega) ?_
      refine hq_if_eq (tgt := 46) C dX5_loseOrdersFrom_34 (by decide) (fun c_34 => ?_) (fun c_34 => ?_)
      · refine hq_aload (q := 0) C dX5_loseOrdersFrom_46 rfl ?_
        refine hq_getI (f := 6) (g := 16) (Nc := 40) (Ns := 10) C fr_X5_140 dX5_loseOrdersFrom_48 rfl rfl rfl rfl rfl (by decide) (by first | assumption | omega) ?_
        refine hq_if_ne (tgt := 68) C dX5_loseOrdersFrom_51 (by decide) (fun c_51 => absurd c_34 c_51) (fun c_51 => ?_)
        refine hq_aload_n (q := 3) C dX5_loseOrdersFrom_54 rfl rfl ?_
        refine hq_aload (q := 0) C dX5_loseOrdersFrom_55 rfl ?_
        refine hq_iconst (y := 0) C dX5_loseOrdersFrom_57 (by decide) ?_
        refine hq_aload (q := 0) C dX5_loseOrdersFrom_58 rfl ?_
        refine hq_getI (f := 6) (g := 19) (Nc := 40) (Ns := 10) C fr_X5_275 dX5_loseOrdersFrom_60 rfl rfl rfl rfl rfl (by decide) (by first | assumption | omega) ?_
        refine hq_iconst (y := 1) C dX5_loseOrdersFrom_63 (by decide) ?_
        refine hq_isub C dX5_loseOrdersFrom_64 ?_
        refine hq_cVv (As := [.ref _, .int _, .int _]) (rm := rX5_takeBack) (f := 0) (Nc := 1) C (m_X5_takeBack hk40 hor.1.2.2 hor.1.1 (f := 0) (t := hw_ln σ.1 k9) rfl (by rw [hor.1.2.1]; exact nI_pred _) (Nat.zero_le _)) wv_X5_takeBack ml_X5_287 rfl rfl rfl Nat.one_pos rfl rfl rfl rfl ⟨Nat.le_of_ble_eq_true rfl, Nat.le_of_ble_eq_true rfl⟩ (Nat.le_of_ble_eq_true rfl) ⟨Nat.le_of_ble_eq_true rfl, Nat.le_of_ble_eq_true rfl⟩ dX5_loseOrdersFrom_65 ?_
        refine hq_aload (q := 0) C dX5_loseOrdersFrom_68 rfl ?_
        refine hq_iconst (y := 5) C dX5_loseOrdersFrom_70 (by decide) ?_
        refine hq_putI (f := 6) (g := 16) (Nc := 40) (Ns := 10) C fl_X5_140 dX5_loseOrdersFrom_71 rfl rfl rfl rfl rfl (by decide) (by first | assumption | omega) rfl rfl ?_
        refine hq_iinc (q := 2) (y := nI (_ + 1)) (L' := [(2, .int _), (4, .ref _), (3, .int _), (0, .ref _), (1, .int _)]) C dX5_loseOrdersFrom_74 rfl (hw_inc _) (by decide) rfl ?_
        refine hq_iinc (q := 2) (y := nI (_ + 1)) (L' := [(3, .int _), (2, .int _), (4, .ref _), (0, .ref _), (1, .int _)]) C dX5_loseOrdersFrom_77 rfl (hw_inc _) (by decide) rfl ?_
        refine hq_goto (tgt := 4) C dX5_loseOrdersFrom_80 (by decide) ?_
        exact hq_fin [0, 1, 3, 4] (by first | rfl | (simp only [sf_lo, c_26, c_34, c_51, ↓reduceIte, not_true_eq_false, not_false_eq_true]; rfl) | simp [lv_pick, sf_lo, c_26, c_34, c_51]) (by first | rfl | (simp only [sf_lo, c_26, c_34, c_51, ↓reduceIte, not_true_eq_false, not_false_eq_true]; done) | (simp only [sf_lo, c_26, c_34, c_51, ↓reduceIte, not_true_eq_false, not_false_eq_true]; rfl) | simp [sf_lo, c_26, c_34, c_51]) (by first | rfl | (simp only [sf_lo, c_26, c_34, c_51, ↓reduceIte, not_true_eq_false, not_false_eq_true]; done) | (simp only [sf_lo, c_26, c_34, c_51, ↓reduceIte, not_true_eq_false, not_false_eq_true]; rfl) | simp [sf_lo, c_26, c_34, c_51]) (by first | rfl | (simp only [sf_lo, c_26, c_34, c_51, ↓reduceIte, not_true_eq_false, not_false_eq_true]; done) | (simp only [sf_lo, c_26, c_34, c_51, ↓reduceIte, not_true_eq_false, not_false_eq_true]; rfl) | simp [sf_lo, c_26, c_34, c_51]) (by first | rfl | (simp only [sf_lo, c_26, c_34, c_51, ↓reduceIte, not_true_eq_false, not_false_eq_true]; done) | (simp only [sf_lo, c_26, c_34, c_51, ↓reduceIte, not_true_eq_false, not_false_eq_true]; rfl) | simp [sf_lo, c_26, c_34, c_51]) (by first | rfl | (simp only [sf_lo, c_26, c_34, c_51, ↓reduceIte, not_true_eq_false, not_false_eq_true]; done) | (simp only [sf_lo, c_26, c_34, c_51, ↓reduceIte, not_true_eq_false, not_false_eq_true]; rfl) | simp [sf_lo, c_26, c_34, c_51]) k
      · refine hq_aload (q := 0) C dX5_loseOrdersFrom_37 rfl ?_
        refine hq_getI (f := 6) (g := 16) (Nc := 40) (Ns := 10) C fr_X5_140 dX5_loseOrdersFrom_39 rfl rfl rfl rfl rfl (by decide) (by first | assumption | omega) ?_
        refine hq_iconst (y := 3) C dX5_loseOrdersFrom_42 (by decide) ?_
        refine hq_icmp_ne (tgt := 77) C dX5_loseOrdersFrom_43 (by decide) (fun c_43 => ?_) (fun c_43 => ?_)
        · refine hq_iinc (q := 1) (y := nI (_ + 1)) (L' := [(3, .int _), (4, .ref _), (2, .int _), (0, .ref _), (1, .int _)]) C dX5_loseOrdersFrom_77 rfl (hw_inc _) (by decide) rfl ?_
          refine hq_goto (tgt := 4) C dX5_loseOrdersFrom_80 (by decide) ?_
          exact hq_fin [0, 2, 3, 4] (by first | rfl | (simp only [sf_lo, c_26, c_34, c_43, ↓reduceIte, not_true_eq_false, not_false_eq_true]; rfl) | simp [lv_pick, sf_lo, c_26, c_34, c_43]) (by first | rfl | (simp only [sf_lo, c_26, c_34, c_43, ↓reduceIte, not_true_eq_false, not_false_eq_true]; done) | (simp only [sf_lo, c_26, c_34, c_43, ↓reduceIte, not_true_eq_false, not_false_eq_true]; rfl) | simp [sf_lo, c_26, c_34, c_43]) (by first | rfl | (simp only [sf_lo, c_26, c_34, c_43, ↓reduceIte, not_true_eq_false, not_false_eq_true]; done) | (simp only [sf_lo, c_26, c_34, c_43, ↓reduceIte, not_true_eq_false, not_false_eq_true]; rfl) | simp [sf_lo, c_26, c_34, c_43]) (by first | rfl | (simp only [sf_lo, c_26, c_34, c_43, ↓reduceIte, not_true_eq_false, not_false_eq_true]; done) | (simp only [sf_lo, c_26, c_34, c_43, ↓reduceIte, not_true_eq_false, not_false_eq_true]; rfl) | simp [sf_lo, c_26, c_34, c_43]) (by first | rfl | (simp only [sf_lo, c_26, c_34, c_43, ↓reduceIte, not_true_eq_false, not_false_eq_true]; done) | (simp only [sf_lo, c_26, c_34, c_43, ↓reduceIte, not_true_eq_false, not_false_eq_true]; rfl) | simp [sf_lo, c_26, c_34, c_43]) (by first | rfl | (simp only [sf_lo, c_26, c_34, c_43, ↓reduceIte, not_true_eq_false, not_false_eq_true]; done) | (simp only [sf_lo, c_26, c_34, c_43, ↓reduceIte, not_true_eq_false, not_false_eq_true]; rfl) | simp [sf_lo, c_26, c_34, c_43]) k
        · refine hq_aload (q := 0) C dX5_loseOrdersFrom_46 rfl ?_
          refine hq_getI (f := 6) (g := 16) (Nc := 40) (Ns := 10) C fr_X5_140 dX5_loseOrdersFrom_48 rfl rfl rfl rfl rfl (by decide) (by first | assumption | omega) ?_
          refine hq_if_ne (tgt := 68) C dX5_loseOrdersFrom_51 (by decide) (fun c_51 => ?_) (fun c_51 => absurd c_51 c_34)
          refine hq_aload (q := 0) C dX5_loseOrdersFrom_68 rfl ?_
          refine hq_iconst (y := 5) C dX5_loseOrdersFrom_70 (by decide) ?_
          refine hq_putI (f := 6) (g := 16) (Nc := 40) (Ns := 10) C fl_X5_140 dX5_loseOrdersFrom_71 rfl rfl rfl rfl rfl (by decide) (by first | assumption | omega) rfl rfl ?_
          refine hq_iinc (q := 2) (y := nI (_ + 1)) (L' := [(2, .int _), (4, .ref _), (3, .int _), (0, .ref _), (1, .int _)]) C dX5_loseOrdersFrom_74 rfl (hw_inc _) (by decide) rfl ?_
          refine hq_iinc (q := 2) (y := nI (_ + 1)) (L' := [(3, .int _), (2, .int _), (4, .ref _), (0, .ref _), (1, .int _)]) C dX5_loseOrdersFrom_77 rfl (hw_inc _) (by decide) rfl ?_
          refine hq_goto (tgt := 4) C dX5_loseOrdersFrom_80 (by decide) ?_
          exact hq_fin [0, 1, 3, 4] (by first | rfl | (simp only [sf_lo, c_26, c_34, c_43, c_51, ↓reduceIte, not_true_eq_false, not_false_eq_true]; rfl) | simp [lv_pick, sf_lo, c_26, c_34, c_43, c_51]) (by first | rfl | (simp only [sf_lo, c_26, c_34, c_43, c_51, ↓reduceIte, not_true_eq_false, not_false_eq_true]; done) | (simp only [sf_lo, c_26, c_34, c_43, c_51, ↓reduceIte, not_true_eq_false, not_false_eq_true]; rfl) | simp [sf_lo, c_26, c_34, c_43, c_51]) (by first | rfl | (simp only [sf_lo, c_26, c_34, c_43, c_51, ↓reduceIte, not_true_eq_false, not_false_eq_true]; done) | (simp only [sf_lo, c_26, c_34, c_43, c_51, ↓reduceIte, not_true_eq_false, not_false_eq_true]; rfl) | simp [sf_lo, c_26, c_34, c_43, c_51]) (by first | rfl | (simp only [sf_lo, c_26, c_34, c_43, c_51, ↓reduceIte, not_true_eq_false, not_false_eq_true]; done) | (simp only [sf_lo, c_26, c_34, c_43, c_51, ↓reduceIte, not_true_eq_false, not_false_eq_true]; rfl) | simp [sf_lo, c_26, c_34, c_43, c_51]) (by first | rfl | (simp only [sf_lo, c_26, c_34, c_43, c_51, ↓reduceIte, not_true_eq_false, not_false_eq_true]; done) | (simp only [sf_lo, c_26, c_34, c_43, c_51, ↓reduceIte, not_true_eq_false, not_false_eq_true]; rfl) | simp [sf_lo, c_26, c_34, c_43, c_51]) (by first | rfl | (simp only [sf_lo, c_26, c_34, c_43, c_51, ↓reduceIte, not_true_eq_false, not_false_eq_true]; done) | (simp only [sf_lo, c_26, c_34, c_43, c_51, ↓reduceIte, not_true_eq_false, not_false_eq_true]; rfl) | simp [sf_lo, c_26, c_34, c_43, c_51]) k
  · refine hq_iload_n (q := 0) C dX5_loseOrdersFrom_4 rfl rfl ?_
    refine hq_aload_n (q := 2) C dX5_loseOrdersFrom_5 rfl rfl ?_
    refine hq_getI (f := 0) (g := 1) (Nc := 1) (Ns := 14) C fr_X5_124 dX5_loseOrdersFrom_6 rfl rfl rfl rfl rfl (by decide) Nat.one_pos ?_
    refine hq_icmp_ge (tgt := 83) C dX5_loseOrdersFrom_9 (by decide) (fun c_9 => ?_) (fun c_9 => absurd (by rw [show (lp (sf_lo x) no 0 (I, J, 0)).1 1 0 = nI no from (sp_lo_ne (by decide) 0).trans hoc]; exact nI_le (Nat.le_refl no) (by omega)) c_9)
    refine hq_iload_n (q := 1) C dX5_loseOrdersFrom_83 rfl rfl ?_
    exact hq_iret C hr hlk dX5_loseOrdersFrom_84 rfl rfl
def sp_fw (I : MI) (J : MJ) (a b : Nat) (am : Int32) : Int32 × MI := sp_find (sp_start I (I 0 0) am (I 4 0)) J a b
theorem sp_find_bo (I : MI) (J : MJ) (a b : Nat) : hw_bo (sp_find I J a b).1 := by
  unfold sp_find
  repeat' split
  all_goals first | exact Or.inl rfl | exact Or.inr rfl
set_option maxHeartbeats 4000000 in
set_option maxRecDepth 100000 in
theorem m_X5_findWay {l : Launch} {D : va_G} {b0 : Nat} {I : MI} {J : MJ} {P : MI} {N : MJ} {o : Int64} {a b : Nat} {x y z : Int32} (hfe : hw_bo (I 4 0)) (hx : x = nI a) (ha : a < 12) (hy : y = nI b) (hb9 : b < 12) : hM l yX5_findWay cX5_findWay 4 (some .boolean) rX5_findWay D b0 [.ref (hw_ad b0 0 0), .int x, .int y, .int z] I J P N o (some (.int (sp_fw I J a b z).1)) (sp_fw I J a b z).2 J P N o := by
  refine hw_Mof (by decide) [(0, .ref _), (1, .int _), (2, .int _), (3, .int _)] rfl (Nat.le_of_ble_eq_true rfl) ?_
  intro p e s m args below meth c C hr hlk hnm
  refine hq_aload_n (q := 0) C dX5_findWay_0 rfl rfl ?_
  refine hq_getR (f := 0) (g := 16) (Nc := 1) (Ns := 14) C fr_X5_42 dX5_findWay_1 rfl rfl rfl rfl rfl (by decide) Nat.one_pos ?_
  refine hq_aload_n (q := 0) C dX5_findWay_4 rfl rfl ?_
  refine hq_getI (f := 0) (g := 0) (Nc := 1) (Ns := 14) C fr_X5_66 dX5_findWay_5 rfl rfl rfl rfl rfl (by decide) Nat.one_pos ?_
  refine hq_iload_n (q := 3) C dX5_findWay_8 rfl rfl ?_
  refine hq_aload_n (q := 0) C dX5_findWay_9 rfl rfl ?_
  refine hq_getI (f := 0) (g := 4) (Nc := 1) (Ns := 14) C fr_X5_93 dX5_findWay_10 rfl rfl rfl rfl rfl (by decide) Nat.one_pos ?_
  refine hq_cVv (As := [.int _, .int _, .int _]) (rm := rX4_start) (f := 16) (Nc := 1) C (m_X4_start (by assumption)) wv_X4_start ml_X5_267 rfl rfl rfl Nat.one_pos rfl rfl rfl rfl ⟨Nat.le_of_ble_eq_true rfl, Nat.le_of_ble_eq_true rfl⟩ (Nat.le_of_ble_eq_true rfl) ⟨Nat.le_of_ble_eq_true rfl, Nat.le_of_ble_eq_true rfl⟩ dX5_findWay_13 ?_
  refine hq_aload_n (q := 0) C dX5_findWay_16 rfl rfl ?_
  refine hq_getR (f := 0) (g := 16) (Nc := 1) (Ns := 14) C fr_X5_42 dX5_findWay_17 rfl rfl rfl rfl rfl (by decide) Nat.one_pos ?_
  refine hq_iload_n (q := 1) C dX5_findWay_20 rfl rfl ?_
  refine hq_iload_n (q := 2) C dX5_findWay_21 rfl rfl ?_
  refine hq_cVr (As := [.int _, .int _]) (rm := rX4_find) (f := 16) (Nc := 1) C (m_X4_find hx ha hy hb9) wv_X4_find ml_X5_271 rfl rfl rfl Nat.one_pos rfl rfl rfl rfl ⟨Nat.le_of_ble_eq_true rfl, Nat.le_of_ble_eq_true rfl⟩ (Nat.le_of_ble_eq_true rfl) ⟨Nat.le_of_ble_eq_true rfl, Nat.le_of_ble_eq_true rfl⟩ dX5_findWay_22 ?_
  exact hq_zret C hr hlk dX5_findWay_25 (hw_bon (sp_find_bo _ _ _ _)) rfl rfl
