/-! the model: festival, fetch, word broken, raid, pass -/
def pp_festival (P : MI) : MI := uI (uI P 40 0 0) 4 0 (if P 4 0 = 0 then 1 else 0)
set_option maxHeartbeats 4000000 in
set_option maxRecDepth 100000 in
theorem m_X6_festival {l : Launch} {D : va_G} {b0 : Nat} {I : MI} {J : MJ} {P : MI} {N : MJ} {o : Int64}  : hM l yX6_festival cX6_festival 1 (some .boolean) rX6_festival D b0 [.ref (hw_ad b0 26 0)] I J P N o (some (.int (if P 4 0 = 0 then 1 else 0))) I J (pp_festival P) N o := by
  refine hw_Mof (by decide) [(0, .ref _)] rfl (Nat.le_of_ble_eq_true rfl) ?_
  intro p e s m args below meth c C hr hlk hnm
  refine hq_aload_n (q := 0) C dX6_festival_0 rfl rfl ?_
  refine hq_iconst (y := 0) C dX6_festival_1 (by decide) ?_
  refine hq_putP (f := 26) (g := 40) (Nc := 1) (Ns := 38) C fl_X6_109 dX6_festival_2 rfl rfl rfl rfl rfl (by decide) Nat.one_pos rfl rfl ?_
  refine hq_aload_n (q := 0) C dX6_festival_5 rfl rfl ?_
  refine hq_aload_n (q := 0) C dX6_festival_6 rfl rfl ?_
  refine hq_getP (f := 26) (g := 4) (Nc := 1) (Ns := 38) C fr_X6_131 dX6_festival_7 rfl rfl rfl rfl rfl (by decide) Nat.one_pos ?_
  refine hq_if_ne (tgt := 17) C dX6_festival_10 (by decide) (fun c_10 => ?_) (fun c_10 => ?_)
  · refine hq_iconst (y := 0) C dX6_festival_17 (by decide) ?_
    refine hq_putP (f := 26) (g := 4) (Nc := 1) (Ns := 38) C fl_X6_131 dX6_festival_18 rfl rfl rfl rfl rfl (by decide) Nat.one_pos rfl rfl ?_
    refine hq_aload_n (q := 0) C dX6_festival_21 rfl rfl ?_
    refine hq_getP (f := 26) (g := 4) (Nc := 1) (Ns := 38) C fr_X6_131 dX6_festival_22 rfl rfl rfl rfl rfl (by decide) Nat.one_pos ?_
    exact hq_zret C hr hlk dX6_festival_25 (hw_bon (by first | exact Or.inl rfl | exact Or.inr rfl)) (by rw [if_neg (show ¬ P 4 0 = 0 from c_10)]; rfl) (by unfold pp_festival; rw [if_neg (show ¬ P 4 0 = 0 from c_10)])
  · refine hq_iconst (y := 1) C dX6_festival_13 (by decide) ?_
    refine hq_goto (tgt := 18) C dX6_festival_14 (by decide) ?_
    refine hq_putP (f := 26) (g := 4) (Nc := 1) (Ns := 38) C fl_X6_131 dX6_festival_18 rfl rfl rfl rfl rfl (by decide) Nat.one_pos rfl rfl ?_
    refine hq_aload_n (q := 0) C dX6_festival_21 rfl rfl ?_
    refine hq_getP (f := 26) (g := 4) (Nc := 1) (Ns := 38) C fr_X6_131 dX6_festival_22 rfl rfl rfl rfl rfl (by decide) Nat.one_pos ?_
    exact hq_zret C hr hlk dX6_festival_25 (hw_bon (by first | exact Or.inl rfl | exact Or.inr rfl)) (by rw [if_pos (show P 4 0 = 0 from c_10)]; rfl) (by unfold pp_festival; rw [if_pos (show P 4 0 = 0 from c_10)])
def pp_fetch (P : MI) (x : Int32) : MI := uI (uI P 40 0 0) 18 (tn x) (P 18 (tn x) + 1)
def ps_fetch (P : MI) (N : MJ) (x y : Int32) : Int32 × MI × MJ := if sx_in x 0 (P 1 0 - 1) = 0 then (0, uI P 40 0 1, N) else if sx_in y 0 9999 = 0 then (0, uI P 40 0 2, N) else if ¬ P 16 (tn x) = 1 then (0, uI P 40 0 3, N) else if ¬ P 7 (tn (P 20 (12 * tn x + hw_ln P (tn x)))) = 0 then (0, uI P 40 0 3, N) else if lg_cmp (N 0 (tn (P 20 (12 * tn x + hw_ln P (tn x))))) (P 12 (tn x)).toInt64 < 0 then (0, uI P 40 0 3, N)
  else if y = P 13 (tn x) then (2, uI (uI P 40 0 0) 16 (tn x) 2, uJ (uJ N 0 (tn (P 20 (12 * tn x + hw_ln P (tn x)))) (N 0 (tn (P 20 (12 * tn x + hw_ln P (tn x)))) - (P 12 (tn x)).toInt64)) 4 1 (N 4 1 + (P 12 (tn x)).toInt64))
  else if ¬ pp_fetch P x 18 (tn x) = 3 then (P 16 (tn x), pp_fetch P x, N) else (sp_ef (pp_fetch P x) (tn x) 16 (tn x), sp_ef (pp_fetch P x) (tn x), lp (pf_tb (pp_fetch P x) (tn x)) (hw_ln P (tn x) - 0) 0 N)
set_option maxHeartbeats 4000000 in
set_option maxRecDepth 100000 in
theorem m_X6_fetch {l : Launch} {D : va_G} {b0 : Nat} {I : MI} {J : MJ} {P : MI} {N : MJ} {o : Int64} {x y : Int32} {nb no nc : Nat} (h : pv_iv P nb no nc) : hM l yX6_fetch cX6_fetch 6 (some .int) rX6_fetch D b0 [.ref (hw_ad b0 26 0), .int x, .int y] I J P N o (some (.int (ps_fetch P N x y).1)) I J (ps_fetch P N x y).2.1 (ps_fetch P N x y).2.2 o := by
  have hnb := h.1.2
  have hno := h.2.1.2
  have hnc := h.2.2.1.2
  have hbc := h.1.1
  have hoc := h.2.1.1
  have hcc := h.2.2.1.1
  refine hw_Mof (by decide) [(0, .ref _), (1, .int _), (2, .int _)] rfl (Nat.le_of_ble_eq_true rfl) ?_
  intro p e s m args below meth c C hr hlk hnm
  refine hq_aload_n (q := 0) C dX6_fetch_0 rfl rfl ?_
  refine hq_iload_n (q := 1) C dX6_fetch_1 rfl rfl ?_
  refine hq_cVr (As := [.int _]) (rm := rX6_isOrder) (f := 26) (Nc := 1) C (m_X6_isOrder) wv_X6_isOrder ml_X6_197 rfl rfl rfl Nat.one_pos rfl rfl rfl rfl ⟨Nat.le_of_ble_eq_true rfl, Nat.le_of_ble_eq_true rfl⟩ (Nat.le_of_ble_eq_true rfl) ⟨Nat.le_of_ble_eq_true rfl, Nat.le_of_ble_eq_true rfl⟩ dX6_fetch_2 ?_
  refine hq_istore_n (L' := [(3, .int _), (0, .ref _), (1, .int _), (2, .int _)]) C dX6_fetch_5 rfl (by decide) rfl ?_
  refine hq_iload_n (q := 0) C dX6_fetch_6 rfl rfl ?_
  refine hq_if_eq (tgt := 31) C dX6_fetch_7 (by decide) (fun c_7 => ?_) (fun c_7 => ?_)
  · refine hq_iconst (y := 0) C dX6_fetch_31 (by decide) ?_
    refine hq_istore (L' := [(4, .int _), (3, .int _), (0, .ref _), (1, .int _), (2, .int _)]) C dX6_fetch_32 (by decide) rfl ?_
    refine hq_iload_n (q := 1) C dX6_fetch_34 rfl rfl ?_
    refine hq_if_eq (tgt := 80) C dX6_fetch_35 (by decide) (fun c_35 => ?_) (fun c_35 => absurd c_7 c_35)
    refine hq_iconst (y := 0) C dX6_fetch_80 (by decide) ?_
    refine hq_istore (L' := [(5, .int _), (4, .int _), (3, .int _), (0, .ref _), (1, .int _), (2, .int _)]) C dX6_fetch_81 (by decide) rfl ?_
    refine hq_aload_n (q := 3) C dX6_fetch_83 rfl rfl ?_
    refine hq_iload_n (q := 2) C dX6_fetch_84 rfl rfl ?_
    refine hq_if_ne (tgt := 92) C dX6_fetch_85 (by decide) (fun c_85 => absurd c_7 c_85) (fun c_85 => ?_)
    refine hq_iconst (y := 1) C dX6_fetch_88 (by decide) ?_
    refine hq_goto (tgt := 117) C dX6_fetch_89 (by decide) ?_
    refine hq_cVr (As := [.int _]) (rm := rX6_goesWell) (f := 26) (Nc := 1) C (m_X6_goesWell) wv_X6_goesWell ml_X6_124 rfl rfl rfl Nat.one_pos rfl rfl rfl rfl ⟨Nat.le_of_ble_eq_true rfl, Nat.le_of_ble_eq_true rfl⟩ (Nat.le_of_ble_eq_true rfl) ⟨Nat.le_of_ble_eq_true rfl, Nat.le_of_ble_eq_true rfl⟩ dX6_fetch_117 ?_
    refine hq_if_ne (tgt := 125) C dX6_fetch_120 (by decide) (fun c_120 => absurd c_120 (by decide)) (fun _ => ?_)
    refine hq_iconst (y := 0) C dX6_fetch_123 (by decide) ?_
    exact hq_iret C hr hlk dX6_fetch_124 (by rw [show (ps_fetch P N x y) = _ from (if_pos c_7)]; first | rfl | exact if_pos ⟨rfl, rfl⟩ | skip) (by rw [show (ps_fetch P N x y) = _ from (if_pos c_7)]; first | rfl | exact if_pos ⟨rfl, rfl⟩ | skip)
  · obtain ⟨hx, hxb⟩ := in_n hoc (by omega) c_7
    have hwy := (h.2.2.2.1 (tn x) hxb).1
    have hx40 : tn x < 40 := by omega
    have hn12 := hwy.1
    have hla := hwy.2.2 _ (Nat.le_refl _)
    have hlb := hla.b
    refine hq_aload_n (q := 1) C dX6_fetch_10 rfl rfl ?_
    refine hq_getR (f := 26) (g := 45) (Nc := 1) (Ns := 38) C fr_X6_66 dX6_fetch_11 rfl rfl rfl rfl rfl (by decide) Nat.one_pos ?_
    refine hq_bipush (y := 12) C dX6_fetch_14 (by decide) ?_
    refine hq_iload_n (q := 2) C dX6_fetch_16 rfl rfl ?_
    refine hq_imul C dX6_fetch_17 ?_
    refine hq_aload_n (q := 1) C dX6_fetch_18 rfl rfl ?_
    refine hq_getR (f := 26) (g := 44) (Nc := 1) (Ns := 38) C fr_X6_63 dX6_fetch_19 rfl rfl rfl rfl rfl (by decide) Nat.one_pos ?_
    refine hq_iload_n (q := 2) C dX6_fetch_22 rfl rfl ?_
    refine hq_ialdP0 (f := 44) (a := tn x) (g := 19) (Nc := 1) (Ns := 40) C dX6_fetch_23 rfl rfl rfl rfl rfl rfl hx (by omega) Nat.one_pos ?_
    refine hq_iadd C dX6_fetch_24 ?_
    refine hq_iconst (y := 1) C dX6_fetch_25 (by decide) ?_
    refine hq_isub C dX6_fetch_26 ?_
    refine hq_ialdP0 (f := 45) (a := 12 * tn x + hw_ln P (tn x)) (g := 20) (Nc := 1) (Ns := 480) C dX6_fetch_27 rfl rfl rfl rfl rfl rfl (by rw [ix12 hx hwy.2.1]; exact nI_pred _) (by omega) Nat.one_pos ?_
    refine hq_goto (tgt := 32) C dX6_fetch_28 (by decide) ?_
    refine hq_istore (L' := [(4, .int _), (3, .int _), (0, .ref _), (1, .int _), (2, .int _)]) C dX6_fetch_32 (by decide) rfl ?_
    refine hq_iload_n (q := 1) C dX6_fetch_34 rfl rfl ?_
    refine hq_if_eq (tgt := 80) C dX6_fetch_35 (by decide) (fun c_35 => absurd c_35 c_7) (fun c_35 => ?_)
    refine hq_aload_n (q := 2) C dX6_fetch_38 rfl rfl ?_
    refine hq_getR (f := 26) (g := 37) (Nc := 1) (Ns := 38) C fr_X6_42 dX6_fetch_39 rfl rfl rfl rfl rfl (by decide) Nat.one_pos ?_
    refine hq_iload_n (q := 3) C dX6_fetch_42 rfl rfl ?_
    refine hq_ialdP0 (f := 37) (g := 16) (Nc := 1) (Ns := 40) C dX6_fetch_43 rfl rfl rfl rfl rfl rfl (by first | rfl | assumption) (by first | assumption | omega) Nat.one_pos ?_
    refine hq_iconst (y := 1) C dX6_fetch_44 (by decide) ?_
    refine hq_icmp_ne (tgt := 80) C dX6_fetch_45 (by decide) (fun c_45 => ?_) (fun c_45 => ?_)
    · refine hq_iconst (y := 0) C dX6_fetch_80 (by decide) ?_
      refine hq_istore (L' := [(5, .int _), (4, .int _), (3, .int _), (0, .ref _), (1, .int _), (2, .int _)]) C dX6_fetch_81 (by decide) rfl ?_
      refine hq_aload_n (q := 3) C dX6_fetch_83 rfl rfl ?_
      refine hq_iload_n (q := 2) C dX6_fetch_84 rfl rfl ?_
      refine hq_if_ne (tgt := 92) C dX6_fetch_85 (by decide) (fun c_85 => ?_) (fun c_85 => absurd c_85 c_7)
      refine hq_iload_n (q := 5) C dX6_fetch_92 rfl rfl ?_
      refine hq_iconst (y := 0) C dX6_fetch_93 (by decide) ?_
      refine hq_sipush (y := 9999) C dX6_fetch_94 (by decide) ?_
      refine hq_cSr (As := [.int _, .int _, .int _]) (rm := rX6_in) (Cn := "") C (m_X6_in) ws_X6_in ml_X6_116 rfl rfl rfl rfl ⟨Nat.le_of_ble_eq_true rfl, Nat.le_of_ble_eq_true rfl⟩ (Nat.le_of_ble_eq_true rfl) ⟨Nat.le_of_ble_eq_true rfl, Nat.le_of_ble_eq_true rfl⟩ dX6_fetch_97 ?_
      refine hq_if_ne (tgt := 107) C dX6_fetch_100 (by decide) (fun c_100 => ?_) (fun c_100 => ?_)
      · refine hq_iload (q := 0) C dX6_fetch_107 rfl ?_
        refine hq_if_eq (tgt := 116) C dX6_fetch_109 (by decide) (fun _ => ?_) (fun c_109 => absurd c_109 (by decide))
        refine hq_iconst (y := 3) C dX6_fetch_116 (by decide) ?_
        refine hq_cVr (As := [.int _]) (rm := rX6_goesWell) (f := 26) (Nc := 1) C (m_X6_goesWell) wv_X6_goesWell ml_X6_124 rfl rfl rfl Nat.one_pos rfl rfl rfl rfl ⟨Nat.le_of_ble_eq_true rfl, Nat.le_of_ble_eq_true rfl⟩ (Nat.le_of_ble_eq_true rfl) ⟨Nat.le_of_ble_eq_true rfl, Nat.le_of_ble_eq_true rfl⟩ dX6_fetch_117 ?_
        refine hq_if_ne (tgt := 125) C dX6_fetch_120 (by decide) (fun c_120 => absurd c_120 (by decide)) (fun _ => ?_)
        refine hq_iconst (y := 0) C dX6_fetch_123 (by decide) ?_
        exact hq_iret C hr hlk dX6_fetch_124 (by rw [show (ps_fetch P N x y) = _ from (((if_neg c_7).trans (if_neg c_100)).trans (if_pos c_45))]; first | rfl | exact if_pos ⟨rfl, rfl⟩ | skip) (by rw [show (ps_fetch P N x y) = _ from (((if_neg c_7).trans (if_neg c_100)).trans (if_pos c_45))]; first | rfl | exact if_pos ⟨rfl, rfl⟩ | skip)
      · refine hq_iconst (y := 2) C dX6_fetch_103 (by decide) ?_
        refine hq_goto (tgt := 117) C dX6_fetch_104 (by decide) ?_
        refine hq_cVr (As := [.int _]) (rm := rX6_goesWell) (f := 26) (Nc := 1) C (m_X6_goesWell) wv_X6_goesWell ml_X6_124 rfl rfl rfl Nat.one_pos rfl rfl rfl rfl ⟨Nat.le_of_ble_eq_true rfl, Nat.le_of_ble_eq_true rfl⟩ (Nat.le_of_ble_eq_true rfl) ⟨Nat.le_of_ble_eq_true rfl, Nat.le_of_ble_eq_true rfl⟩ dX6_fetch_117 ?_
        refine hq_if_ne (tgt := 125) C dX6_fetch_120 (by decide) (fun c_120 => absurd c_120 (by decide)) (fun _ => ?_)
        refine hq_iconst (y := 0) C dX6_fetch_123 (by decide) ?_
        exact hq_iret C hr hlk dX6_fetch_124 (by rw [show (ps_fetch P N x y) = _ from ((if_neg c_7).trans (if_pos c_100))]; first | rfl | exact if_pos ⟨rfl, rfl⟩ | skip) (by rw [show (ps_fetch P N x y) = _ from ((if_neg c_7).trans (if_pos c_100))]; first | rfl | exact if_pos ⟨rfl, rfl⟩ | skip)
    · refine hq_aload_n (q := 2) C dX6_fetch_48 rfl rfl ?_
      refine hq_getR (f := 26) (g := 30) (Nc := 1) (Ns := 38) C fr_X6_20 dX6_fetch_49 rfl rfl rfl rfl rfl (by decide) Nat.one_pos ?_
      refine hq_iload (q := 0) C dX6_fetch_52 rfl ?_
      refine hq_ialdP0 (f := 30) (a := (tn (P 20 (12 * tn x + hw_ln P (tn x))))) (g := 7) (Nc := 1) (Ns := 12) C dX6_fetch_54 rfl rfl rfl rfl rfl rfl hla.x hlb Nat.one_pos ?_
      refine hq_if_ne (tgt := 80) C dX6_fetch_55 (by decide) (fun c_55 => ?_) (fun c_55 => ?_)
      · refine hq_iconst (y := 0) C dX6_fetch_80 (by decide) ?_
        refine hq_istore (L' := [(5, .int _), (4, .int _), (3, .int _), (0, .ref _), (1, .int _), (2, .int _)]) C dX6_fetch_81 (by decide) rfl ?_
        refine hq_aload_n (q := 3) C dX6_fetch_83 rfl rfl ?_
        refine hq_iload_n (q := 2) C dX6_fetch_84 rfl rfl ?_
        refine hq_if_ne (tgt := 92) C dX6_fetch_85 (by decide) (fun c_85 => ?_) (fun c_85 => absurd c_85 c_7)
        refine hq_iload_n (q := 5) C dX6_fetch_92 rfl rfl ?_
        refine hq_iconst (y := 0) C dX6_fetch_93 (by decide) ?_
        refine hq_sipush (y := 9999) C dX6_fetch_94 (by decide) ?_
        refine hq_cSr (As := [.int _, .int _, .int _]) (rm := rX6_in) (Cn := "") C (m_X6_in) ws_X6_in ml_X6_116 rfl rfl rfl rfl ⟨Nat.le_of_ble_eq_true rfl, Nat.le_of_ble_eq_true rfl⟩ (Nat.le_of_ble_eq_true rfl) ⟨Nat.le_of_ble_eq_true rfl, Nat.le_of_ble_eq_true rfl⟩ dX6_fetch_97 ?_
        refine hq_if_ne (tgt := 107) C dX6_fetch_100 (by decide) (fun c_100 => ?_) (fun c_100 => ?_)
        · refine hq_iload (q := 0) C dX6_fetch_107 rfl ?_
          refine hq_if_eq (tgt := 116) C dX6_fetch_109 (by decide) (fun _ => ?_) (fun c_109 => absurd c_109 (by decide))
          refine hq_iconst (y := 3) C dX6_fetch_116 (by decide) ?_
          refine hq_cVr (As := [.int _]) (rm := rX6_goesWell) (f := 26) (Nc := 1) C (m_X6_goesWell) wv_X6_goesWell ml_X6_124 rfl rfl rfl Nat.one_pos rfl rfl rfl rfl ⟨Nat.le_of_ble_eq_true rfl, Nat.le_of_ble_eq_true rfl⟩ (Nat.le_of_ble_eq_true rfl) ⟨Nat.le_of_ble_eq_true rfl, Nat.le_of_ble_eq_true rfl⟩ dX6_fetch_117 ?_
          refine hq_if_ne (tgt := 125) C dX6_fetch_120 (by decide) (fun c_120 => absurd c_120 (by decide)) (fun _ => ?_)
          refine hq_iconst (y := 0) C dX6_fetch_123 (by decide) ?_
          exact hq_iret C hr hlk dX6_fetch_124 (by rw [show (ps_fetch P N x y) = _ from ((((if_neg c_7).trans (if_neg c_100)).trans (if_neg (fun z9 => z9 c_45))).trans (if_pos c_55))]; first | rfl | exact if_pos ⟨rfl, rfl⟩ | skip) (by rw [show (ps_fetch P N x y) = _ from ((((if_neg c_7).trans (if_neg c_100)).trans (if_neg (fun z9 => z9 c_45))).trans (if_pos c_55))]; first | rfl | exact if_pos ⟨rfl, rfl⟩ | skip)
        · refine hq_iconst (y := 2) C dX6_fetch_103 (by decide) ?_
          refine hq_goto (tgt := 117) C dX6_fetch_104 (by decide) ?_
          refine hq_cVr (As := [.int _]) (rm := rX6_goesWell) (f := 26) (Nc := 1) C (m_X6_goesWell) wv_X6_goesWell ml_X6_124 rfl rfl rfl Nat.one_pos rfl rfl rfl rfl ⟨Nat.le_of_ble_eq_true rfl, Nat.le_of_ble_eq_true rfl⟩ (Nat.le_of_ble_eq_true rfl) ⟨Nat.le_of_ble_eq_true rfl, Nat.le_of_ble_eq_true rfl⟩ dX6_fetch_117 ?_
          refine hq_if_ne (tgt := 125) C dX6_fetch_120 (by decide) (fun c_120 => absurd c_120 (by decide)) (fun _ => ?_)
          refine hq_iconst (y := 0) C dX6_fetch_123 (by decide) ?_
          exact hq_iret C hr hlk dX6_fetch_124 (by rw [show (ps_fetch P N x y) = _ from ((if_neg c_7).trans (if_pos c_100))]; first | rfl | exact if_pos ⟨rfl, rfl⟩ | skip) (by rw [show (ps_fetch P N x y) = _ from ((if_neg c_7).trans (if_pos c_100))]; first | rfl | exact if_pos ⟨rfl, rfl⟩ | skip)
      · refine hq_aload_n (q := 2) C dX6_fetch_58 rfl rfl ?_
        refine hq_getR (f := 26) (g := 28) (Nc := 1) (Ns := 38) C fr_X6_13 dX6_fetch_59 rfl rfl rfl rfl rfl (by decide) Nat.one_pos ?_
        refine hq_iload (q := 0) C dX6_fetch_62 rfl ?_
        refine hq_laldN0 (f := 28) (a := (tn (P 20 (12 * tn x + hw_ln P (tn x))))) (g := 0) (Nc := 1) (Ns := 12) C dX6_fetch_64 rfl rfl rfl rfl rfl rfl hla.x hlb Nat.one_pos ?_
        refine hq_aload_n (q := 2) C dX6_fetch_65 rfl rfl ?_
        refine hq_getR (f := 26) (g := 38) (Nc := 1) (Ns := 38) C fr_X6_45 dX6_fetch_66 rfl rfl rfl rfl rfl (by decide) Nat.one_pos ?_
        refine hq_iload_n (q := 3) C dX6_fetch_69 rfl rfl ?_
        refine hq_ialdP0 (f := 38) (a := tn x) (g := 12) (Nc := 1) (Ns := 40) C dX6_fetch_70 rfl rfl rfl rfl rfl rfl hx (by omega) Nat.one_pos ?_
        refine hq_i2l C dX6_fetch_71 ?_
        refine hq_lcmp C dX6_fetch_72 ?_
        refine hq_if_lt (tgt := 80) C dX6_fetch_73 (by decide) (fun c_73 => ?_) (fun c_73 => ?_)
        · refine hq_iconst (y := 0) C dX6_fetch_80 (by decide) ?_
          refine hq_istore (L' := [(5, .int _), (4, .int _), (3, .int _), (0, .ref _), (1, .int _), (2, .int _)]) C dX6_fetch_81 (by decide) rfl ?_
          refine hq_aload_n (q := 3) C dX6_fetch_83 rfl rfl ?_
          refine hq_iload_n (q := 2) C dX6_fetch_84 rfl rfl ?_
          refine hq_if_ne (tgt := 92) C dX6_fetch_85 (by decide) (fun c_85 => ?_) (fun c_85 => absurd c_85 c_7)
          refine hq_iload_n (q := 5) C dX6_fetch_92 rfl rfl ?_
          refine hq_iconst (y := 0) C dX6_fetch_93 (by decide) ?_
          refine hq_sipush (y := 9999) C dX6_fetch_94 (by decide) ?_
          refine hq_cSr (As := [.int _, .int _, .int _]) (rm := rX6_in) (Cn := "") C (m_X6_in) ws_X6_in ml_X6_116 rfl rfl rfl rfl ⟨Nat.le_of_ble_eq_true rfl, Nat.le_of_ble_eq_true rfl⟩ (Nat.le_of_ble_eq_true rfl) ⟨Nat.le_of_ble_eq_true rfl, Nat.le_of_ble_eq_true rfl⟩ dX6_fetch_97 ?_
          refine hq_if_ne (tgt := 107) C dX6_fetch_100 (by decide) (fun c_100 => ?_) (fun c_100 => ?_)
          · refine hq_iload (q := 0) C dX6_fetch_107 rfl ?_
            refine hq_if_eq (tgt := 116) C dX6_fetch_109 (by decide) (fun _ => ?_) (fun c_109 => absurd c_109 (by decide))
            refine hq_iconst (y := 3) C dX6_fetch_116 (by decide) ?_
            refine hq_cVr (As := [.int _]) (rm := rX6_goesWell) (f := 26) (Nc := 1) C (m_X6_goesWell) wv_X6_goesWell ml_X6_124 rfl rfl rfl Nat.one_pos rfl rfl rfl rfl ⟨Nat.le_of_ble_eq_true rfl, Nat.le_of_ble_eq_true rfl⟩ (Nat.le_of_ble_eq_true rfl) ⟨Nat.le_of_ble_eq_true rfl, Nat.le_of_ble_eq_true rfl⟩ dX6_fetch_117 ?_
            refine hq_if_ne (tgt := 125) C dX6_fetch_120 (by decide) (fun c_120 => absurd c_120 (by decide)) (fun _ => ?_)
            refine hq_iconst (y := 0) C dX6_fetch_123 (by decide) ?_
            exact hq_iret C hr hlk dX6_fetch_124 (by rw [show (ps_fetch P N x y) = _ from (((((if_neg c_7).trans (if_neg c_100)).trans (if_neg (fun z9 => z9 c_45))).trans (if_neg (fun z9 => z9 c_55))).trans (if_pos c_73))]; first | rfl | exact if_pos ⟨rfl, rfl⟩ | skip) (by rw [show (ps_fetch P N x y) = _ from (((((if_neg c_7).trans (if_neg c_100)).trans (if_neg (fun z9 => z9 c_45))).trans (if_neg (fun z9 => z9 c_55))).trans (if_pos c_73))]; first | rfl | exact if_pos ⟨rfl, rfl⟩ | skip)
          · refine hq_iconst (y := 2) C dX6_fetch_103 (by decide) ?_
            refine hq_goto (tgt := 117) C dX6_fetch_104 (by decide) ?_
            refine hq_cVr (As := [.int _]) (rm := rX6_goesWell) (f := 26) (Nc := 1) C (m_X6_goesWell) wv_X6_goesWell ml_X6_124 rfl rfl rfl Nat.one_pos rfl rfl rfl rfl ⟨Nat.le_of_ble_eq_true rfl, Nat.le_of_ble_eq_true rfl⟩ (Nat.le_of_ble_eq_true rfl) ⟨Nat.le_of_ble_eq_true rfl, Nat.le_of_ble_eq_true rfl⟩ dX6_fetch_117 ?_
            refine hq_if_ne (tgt := 125) C dX6_fetch_120 (by decide) (fun c_120 => absurd c_120 (by decide)) (fun _ => ?_)
            refine hq_iconst (y := 0) C dX6_fetch_123 (by decide) ?_
            exact hq_iret C hr hlk dX6_fetch_124 (by rw [show (ps_fetch P N x y) = _ from ((if_neg c_7).trans (if_pos c_100))]; first | rfl | exact if_pos ⟨rfl, rfl⟩ | skip) (by rw [show (ps_fetch P N x y) = _ from ((if_neg c_7).trans (if_pos c_100))]; first | rfl | exact if_pos ⟨rfl, rfl⟩ | skip)
        · refine hq_iconst (y := 1) C dX6_fetch_76 (by decide) ?_
          refine hq_goto (tgt := 81) C dX6_fetch_77 (by decide) ?_
          refine hq_istore (L' := [(5, .int _), (4, .int _), (3, .int _), (0, .ref _), (1, .int _), (2, .int _)]) C dX6_fetch_81 (by decide) rfl ?_
          refine hq_aload_n (q := 3) C dX6_fetch_83 rfl rfl ?_
          refine hq_iload_n (q := 2) C dX6_fetch_84 rfl rfl ?_
          refine hq_if_ne (tgt := 92) C dX6_fetch_85 (by decide) (fun c_85 => ?_) (fun c_85 => absurd c_85 c_7)
          refine hq_iload_n (q := 5) C dX6_fetch_92 rfl rfl ?_
          refine hq_iconst (y := 0) C dX6_fetch_93 (by decide) ?_
          refine hq_sipush (y := 9999) C dX6_fetch_94 (by decide) ?_
          refine hq_cSr (As := [.int _, .int _, .int _]) (rm := rX6_in) (Cn := "") C (m_X6_in) ws_X6_in ml_X6_116 rfl rfl rfl rfl ⟨Nat.le_of_ble_eq_true rfl, Nat.le_of_ble_eq_true rfl⟩ (Nat.le_of_ble_eq_true rfl) ⟨Nat.le_of_ble_eq_true rfl, Nat.le_of_ble_eq_true rfl⟩ dX6_fetch_97 ?_
          refine hq_if_ne (tgt := 107) C dX6_fetch_100 (by decide) (fun c_100 => ?_) (fun c_100 => ?_)
          · refine hq_iload (q := 0) C dX6_fetch_107 rfl ?_
            refine hq_if_eq (tgt := 116) C dX6_fetch_109 (by decide) (fun c_109 => absurd c_109 (by decide)) (fun _ => ?_)
            refine hq_iconst (y := 0) C dX6_fetch_112 (by decide) ?_
            refine hq_goto (tgt := 117) C dX6_fetch_113 (by decide) ?_
            refine hq_cVr (As := [.int _]) (rm := rX6_goesWell) (f := 26) (Nc := 1) C (m_X6_goesWell) wv_X6_goesWell ml_X6_124 rfl rfl rfl Nat.one_pos rfl rfl rfl rfl ⟨Nat.le_of_ble_eq_true rfl, Nat.le_of_ble_eq_true rfl⟩ (Nat.le_of_ble_eq_true rfl) ⟨Nat.le_of_ble_eq_true rfl, Nat.le_of_ble_eq_true rfl⟩ dX6_fetch_117 ?_
            refine hq_if_ne (tgt := 125) C dX6_fetch_120 (by decide) (fun _ => ?_) (fun c_120 => absurd c_120 (by decide))
            refine hq_iload_n (q := 5) C dX6_fetch_125 rfl rfl ?_
            refine hq_aload_n (q := 3) C dX6_fetch_126 rfl rfl ?_
            refine hq_getR (f := 26) (g := 40) (Nc := 1) (Ns := 38) C fr_X6_51 dX6_fetch_127 rfl rfl rfl rfl rfl (by decide) Nat.one_pos ?_
            refine hq_iload_n (q := 4) C dX6_fetch_130 rfl rfl ?_
            refine hq_ialdP0 (f := 40) (a := tn x) (g := 13) (Nc := 1) (Ns := 40) C dX6_fetch_131 rfl rfl rfl rfl rfl rfl hx (by omega) Nat.one_pos ?_
            refine hq_icmp_ne (tgt := 178) C dX6_fetch_132 (by decide) (fun c_132 => ?_) (fun c_132 => ?_)
            · refine hq_aload_n (q := 3) C dX6_fetch_178 rfl rfl ?_
              refine hq_getR (f := 26) (g := 41) (Nc := 1) (Ns := 38) C fr_X6_54 dX6_fetch_179 rfl rfl rfl rfl rfl (by decide) Nat.one_pos ?_
              refine hq_iload_n (q := 4) C dX6_fetch_182 rfl rfl ?_
              refine hq_dup2 C dX6_fetch_183 rfl rfl ?_
              refine hq_ialdP0 (f := 41) (a := tn x) (g := 18) (Nc := 1) (Ns := 40) C dX6_fetch_184 rfl rfl rfl rfl rfl rfl hx (by omega) Nat.one_pos ?_
              refine hq_iconst (y := 1) C dX6_fetch_185 (by decide) ?_
              refine hq_iadd C dX6_fetch_186 ?_
              refine hq_iastP0 (f := 41) (a := tn x) (g := 18) (Nc := 1) (Ns := 40) C dX6_fetch_187 rfl rfl rfl rfl rfl rfl hx (by omega) Nat.one_pos ?_
              refine hq_aload_n (q := 3) C dX6_fetch_188 rfl rfl ?_
              refine hq_getR (f := 26) (g := 41) (Nc := 1) (Ns := 38) C fr_X6_54 dX6_fetch_189 rfl rfl rfl rfl rfl (by decide) Nat.one_pos ?_
              refine hq_iload_n (q := 4) C dX6_fetch_192 rfl rfl ?_
              refine hq_ialdP0 (f := 41) (a := tn x) (g := 18) (Nc := 1) (Ns := 40) C dX6_fetch_193 rfl rfl rfl rfl rfl rfl hx (by omega) Nat.one_pos ?_
              refine hq_iconst (y := 3) C dX6_fetch_194 (by decide) ?_
              refine hq_icmp_ne (tgt := 203) C dX6_fetch_195 (by decide) (fun c_195 => ?_) (fun c_195 => ?_)
              · refine hq_aload_n (q := 3) C dX6_fetch_203 rfl rfl ?_
                refine hq_getR (f := 26) (g := 37) (Nc := 1) (Ns := 38) C fr_X6_42 dX6_fetch_204 rfl rfl rfl rfl rfl (by decide) Nat.one_pos ?_
                refine hq_iload_n (q := 4) C dX6_fetch_207 rfl rfl ?_
                refine hq_ialdP0 (f := 37) (a := tn x) (g := 16) (Nc := 1) (Ns := 40) C dX6_fetch_208 rfl rfl rfl rfl rfl rfl hx (by omega) Nat.one_pos ?_
                exact hq_iret C hr hlk dX6_fetch_209 (by rw [show (ps_fetch P N x y) = _ from (((((((if_neg c_7).trans (if_neg c_100)).trans (if_neg (fun z9 => z9 c_45))).trans (if_neg (fun z9 => z9 c_55))).trans (if_neg c_73)).trans (if_neg c_132)).trans (if_pos c_195))]; first | rfl | exact if_pos ⟨rfl, rfl⟩ | skip) (by rw [show (ps_fetch P N x y) = _ from (((((((if_neg c_7).trans (if_neg c_100)).trans (if_neg (fun z9 => z9 c_45))).trans (if_neg (fun z9 => z9 c_55))).trans (if_neg c_73)).trans (if_neg c_132)).trans (if_pos c_195))]; first | rfl | exact if_pos ⟨rfl, rfl⟩ | skip)
              · refine hq_aload_n (q := 3) C dX6_fetch_198 rfl rfl ?_
                refine hq_iload_n (q := 4) C dX6_fetch_199 rfl rfl ?_
                refine hq_cVv (As := [.int _]) (rm := rX6_goBack) (f := 26) (Nc := 1) C (m_X6_goBack (n := hw_ln P (tn x)) hx40 hwy hx) wv_X6_goBack ml_X6_177 rfl rfl rfl Nat.one_pos rfl rfl rfl rfl ⟨Nat.le_of_ble_eq_true rfl, Nat.le_of_ble_eq_true rfl⟩ (Nat.le_of_ble_eq_true rfl) ⟨Nat.le_of_ble_eq_true rfl, Nat.le_of_ble_eq_true rfl⟩ dX6_fetch_200 ?_
                refine hq_aload_n (q := 3) C dX6_fetch_203 rfl rfl ?_
                refine hq_getR (f := 26) (g := 37) (Nc := 1) (Ns := 38) C fr_X6_42 dX6_fetch_204 rfl rfl rfl rfl rfl (by decide) Nat.one_pos ?_
                refine hq_iload_n (q := 4) C dX6_fetch_207 rfl rfl ?_
                refine hq_ialdP0 (f := 37) (a := tn x) (g := 16) (Nc := 1) (Ns := 40) C dX6_fetch_208 rfl rfl rfl rfl rfl rfl hx (by omega) Nat.one_pos ?_
                exact hq_iret C hr hlk dX6_fetch_209 (by rw [show (ps_fetch P N x y) = _ from (((((((if_neg c_7).trans (if_neg c_100)).trans (if_neg (fun z9 => z9 c_45))).trans (if_neg (fun z9 => z9 c_55))).trans (if_neg c_73)).trans (if_neg c_132)).trans (if_neg (fun z9 => z9 c_195)))]; first | rfl | exact if_pos ⟨rfl, rfl⟩ | skip) (by rw [show (ps_fetch P N x y) = _ from (((((((if_neg c_7).trans (if_neg c_100)).trans (if_neg (fun z9 => z9 c_45))).trans (if_neg (fun z9 => z9 c_55))).trans (if_neg c_73)).trans (if_neg c_132)).trans (if_neg (fun z9 => z9 c_195)))]; first | rfl | exact if_pos ⟨rfl, rfl⟩ | skip)
            · refine hq_aload_n (q := 3) C dX6_fetch_135 rfl rfl ?_
              refine hq_getR (f := 26) (g := 28) (Nc := 1) (Ns := 38) C fr_X6_13 dX6_fetch_136 rfl rfl rfl rfl rfl (by decide) Nat.one_pos ?_
              refine hq_iload (q := 1) C dX6_fetch_139 rfl ?_
              refine hq_dup2 C dX6_fetch_141 rfl rfl ?_
              refine hq_laldN0 (f := 28) (a := (tn (P 20 (12 * tn x + hw_ln P (tn x))))) (g := 0) (Nc := 1) (Ns := 12) C dX6_fetch_142 rfl rfl rfl rfl rfl rfl hla.x hlb Nat.one_pos ?_
              refine hq_aload_n (q := 3) C dX6_fetch_143 rfl rfl ?_
              refine hq_getR (f := 26) (g := 38) (Nc := 1) (Ns := 38) C fr_X6_45 dX6_fetch_144 rfl rfl rfl rfl rfl (by decide) Nat.one_pos ?_
              refine hq_iload_n (q := 4) C dX6_fetch_147 rfl rfl ?_
              refine hq_ialdP0 (f := 38) (a := tn x) (g := 12) (Nc := 1) (Ns := 40) C dX6_fetch_148 rfl rfl rfl rfl rfl rfl hx (by omega) Nat.one_pos ?_
              refine hq_i2l C dX6_fetch_149 ?_
              refine hq_lsub C dX6_fetch_150 ?_
              refine hq_lastN0 (f := 28) (a := (tn (P 20 (12 * tn x + hw_ln P (tn x))))) (g := 0) (Nc := 1) (Ns := 12) C dX6_fetch_151 rfl rfl rfl rfl rfl rfl hla.x hlb Nat.one_pos ?_
              refine hq_aload_n (q := 3) C dX6_fetch_152 rfl rfl ?_
              refine hq_getR (f := 26) (g := 55) (Nc := 1) (Ns := 38) C fr_X6_97 dX6_fetch_153 rfl rfl rfl rfl rfl (by decide) Nat.one_pos ?_
              refine hq_iconst (y := 1) C dX6_fetch_156 (by decide) ?_
              refine hq_dup2 C dX6_fetch_157 rfl rfl ?_
              refine hq_laldN0 (f := 55) (a := 1) (g := 4) (Nc := 1) (Ns := 5) C dX6_fetch_158 rfl rfl rfl rfl rfl rfl rfl (by decide) Nat.one_pos ?_
              refine hq_aload_n (q := 3) C dX6_fetch_159 rfl rfl ?_
              refine hq_getR (f := 26) (g := 38) (Nc := 1) (Ns := 38) C fr_X6_45 dX6_fetch_160 rfl rfl rfl rfl rfl (by decide) Nat.one_pos ?_
              refine hq_iload_n (q := 4) C dX6_fetch_163 rfl rfl ?_
              refine hq_ialdP0 (f := 38) (a := tn x) (g := 12) (Nc := 1) (Ns := 40) C dX6_fetch_164 rfl rfl rfl rfl rfl rfl hx (by omega) Nat.one_pos ?_
              refine hq_i2l C dX6_fetch_165 ?_
              refine hq_ladd C dX6_fetch_166 ?_
              refine hq_lastN0 (f := 55) (a := 1) (g := 4) (Nc := 1) (Ns := 5) C dX6_fetch_167 rfl rfl rfl rfl rfl rfl rfl (by decide) Nat.one_pos ?_
              refine hq_aload_n (q := 3) C dX6_fetch_168 rfl rfl ?_
              refine hq_getR (f := 26) (g := 37) (Nc := 1) (Ns := 38) C fr_X6_42 dX6_fetch_169 rfl rfl rfl rfl rfl (by decide) Nat.one_pos ?_
              refine hq_iload_n (q := 4) C dX6_fetch_172 rfl rfl ?_
              refine hq_iconst (y := 2) C dX6_fetch_173 (by decide) ?_
              refine hq_iastP0 (f := 37) (a := tn x) (g := 16) (Nc := 1) (Ns := 40) C dX6_fetch_174 rfl rfl rfl rfl rfl rfl hx (by omega) Nat.one_pos ?_
              refine hq_goto (tgt := 203) C dX6_fetch_175 (by decide) ?_
              refine hq_aload_n (q := 3) C dX6_fetch_203 rfl rfl ?_
              refine hq_getR (f := 26) (g := 37) (Nc := 1) (Ns := 38) C fr_X6_42 dX6_fetch_204 rfl rfl rfl rfl rfl (by decide) Nat.one_pos ?_
              refine hq_iload_n (q := 4) C dX6_fetch_207 rfl rfl ?_
              refine hq_ialdP0 (f := 37) (a := tn x) (g := 16) (Nc := 1) (Ns := 40) C dX6_fetch_208 rfl rfl rfl rfl rfl rfl hx (by omega) Nat.one_pos ?_
              exact hq_iret C hr hlk dX6_fetch_209 (by rw [show (ps_fetch P N x y) = _ from ((((((if_neg c_7).trans (if_neg c_100)).trans (if_neg (fun z9 => z9 c_45))).trans (if_neg (fun z9 => z9 c_55))).trans (if_neg c_73)).trans (if_pos c_132))]; first | rfl | exact if_pos ⟨rfl, rfl⟩ | skip) (by rw [show (ps_fetch P N x y) = _ from ((((((if_neg c_7).trans (if_neg c_100)).trans (if_neg (fun z9 => z9 c_45))).trans (if_neg (fun z9 => z9 c_55))).trans (if_neg c_73)).trans (if_pos c_132))]; first | rfl | exact if_pos ⟨rfl, rfl⟩ | skip)
          · refine hq_iconst (y := 2) C dX6_fetch_103 (by decide) ?_
            refine hq_goto (tgt := 117) C dX6_fetch_104 (by decide) ?_
            refine hq_cVr (As := [.int _]) (rm := rX6_goesWell) (f := 26) (Nc := 1) C (m_X6_goesWell) wv_X6_goesWell ml_X6_124 rfl rfl rfl Nat.one_pos rfl rfl rfl rfl ⟨Nat.le_of_ble_eq_true rfl, Nat.le_of_ble_eq_true rfl⟩ (Nat.le_of_ble_eq_true rfl) ⟨Nat.le_of_ble_eq_true rfl, Nat.le_of_ble_eq_true rfl⟩ dX6_fetch_117 ?_
            refine hq_if_ne (tgt := 125) C dX6_fetch_120 (by decide) (fun c_120 => absurd c_120 (by decide)) (fun _ => ?_)
            refine hq_iconst (y := 0) C dX6_fetch_123 (by decide) ?_
            exact hq_iret C hr hlk dX6_fetch_124 (by rw [show (ps_fetch P N x y) = _ from ((if_neg c_7).trans (if_pos c_100))]; first | rfl | exact if_pos ⟨rfl, rfl⟩ | skip) (by rw [show (ps_fetch P N x y) = _ from ((if_neg c_7).trans (if_pos c_100))]; first | rfl | exact if_pos ⟨rfl, rfl⟩ | skip)
/-- failsFor may go on from here -/
def pg_ready (x : Int32) (nb no : Nat) (σ : MI × MJ) : Prop := ∃ G : Nat → MI × MJ → Prop, G 0 σ ∧ pf_inv x nb no G ∧ (ps_ff σ.1 σ.2 x nb no).1 1 0 = nI no
theorem m_X6_failsFor' {l : Launch} {D : va_G} {b0 : Nat} {I : MI} {J : MJ} {P : MI} {N : MJ} {o : Int64} {nb no : Nat} {x : Int32} (hno : no ≤ 40) (h : pg_ready x nb no (P, N)) : hM l yX6_failsFor cX6_failsFor 3 none rX6_failsFor D b0 [.ref (hw_ad b0 26 0), .int x] I J P N o none I J (ps_ff P N x nb no).1 (ps_ff P N x nb no).2 o := by
  obtain ⟨G, h1, h2, h3⟩ := h
  exact m_X6_failsFor hno h1 h2 h3
def pf_bw (x : Int32) (i : Nat) (σ : MI × MJ × Nat) : MI × MJ × Nat := if ¬ σ.1 20 (12 * i + 0) = x then σ else if σ.1 16 i = 0 then (uI σ.1 16 i 5, lp (pf_tb σ.1 i) (hw_ln σ.1 i - 0) 0 σ.2.1, σ.2.2 + 1) else if ¬ σ.1 16 i = 3 then σ else (uI σ.1 16 i 5, σ.2.1, σ.2.2 + 1)
theorem bw_a {x : Int32} {i : Nat} {σ : MI × MJ × Nat} (h : ¬ σ.1 20 (12 * i + 0) = x) : pf_bw x i σ = σ := if_pos h
theorem bw_b {x : Int32} {i : Nat} {σ : MI × MJ × Nat} (h : σ.1 20 (12 * i + 0) = x) (h2 : σ.1 16 i = 0) : pf_bw x i σ = (uI σ.1 16 i 5, lp (pf_tb σ.1 i) (hw_ln σ.1 i - 0) 0 σ.2.1, σ.2.2 + 1) := (if_neg (fun z => z h)).trans (if_pos h2)
theorem bw_c {x : Int32} {i : Nat} {σ : MI × MJ × Nat} (h : σ.1 20 (12 * i + 0) = x) (h2 : ¬ σ.1 16 i = 0) (h3 : ¬ σ.1 16 i = 3) : pf_bw x i σ = σ := (if_neg (fun z => z h)).trans ((if_neg h2).trans (if_pos h3))
theorem bw_d {x : Int32} {i : Nat} {σ : MI × MJ × Nat} (h : σ.1 20 (12 * i + 0) = x) (h2 : ¬ σ.1 16 i = 0) (h3 : σ.1 16 i = 3) : pf_bw x i σ = (uI σ.1 16 i 5, σ.2.1, σ.2.2 + 1) := (if_neg (fun z => z h)).trans ((if_neg h2).trans (if_neg (fun z => z h3)))
theorem bw_oth {x : Int32} {i : Nat} {σ : MI × MJ × Nat} {g j : Nat} (h : g ≠ 16) : (pf_bw x i σ).1 g j = σ.1 g j := by
  unfold pf_bw
  repeat' split
  all_goals first | rfl | simp [uI, h]
def pl_bw (P : MI) (N : MJ) (x : Int32) (no : Nat) : MI × MJ × Nat := lp (pf_bw x) no 0 (uI (uI P 40 0 0) 7 (tn x) 2, N, 0)
def ps_breakWord (P : MI) (N : MJ) (x : Int32) (nb no : Nat) : Int32 × MI × MJ := if sx_in x 0 (P 0 0 - 1) = 0 then (0, uI P 40 0 1, N) else if P 7 (tn x) = 2 then (0, uI P 40 0 2, N) else (nI (pl_bw P N x no).2.2, ps_ff (pl_bw P N x no).1 (pl_bw P N x no).2.1 x nb no)
set_option maxHeartbeats 4000000 in
set_option maxRecDepth 100000 in
theorem m_X6_breakWord {l : Launch} {D : va_G} {b0 : Nat} {I : MI} {J : MJ} {P : MI} {N : MJ} {o : Int64} {x : Int32} {nb no nc : Nat} (h : pv_iv P nb no nc) (hr9 : ¬ sx_in x 0 (P 0 0 - 1) = 0 → ¬ P 7 (tn x) = 2 → pg_ready x nb no ((pl_bw P N x no).1, (pl_bw P N x no).2.1)) : hM l yX6_breakWord cX6_breakWord 5 (some .int) rX6_breakWord D b0 [.ref (hw_ad b0 26 0), .int x] I J P N o (some (.int (ps_breakWord P N x nb no).1)) I J (ps_breakWord P N x nb no).2.1 (ps_breakWord P N x nb no).2.2 o := by
  have hnb := h.1.2
  have hno := h.2.1.2
  have hbc := h.1.1
  have hoc := h.2.1.1
  refine hw_Mof (by decide) [(0, .ref _), (1, .int _)] rfl (Nat.le_of_ble_eq_true rfl) ?_
  intro p e s m args below meth c C hr hlk hnm
  refine hq_aload_n (q := 0) C dX6_breakWord_0 rfl rfl ?_
  refine hq_iload_n (q := 1) C dX6_breakWord_1 rfl rfl ?_
  refine hq_cVr (As := [.int _]) (rm := rX6_isBroker) (f := 26) (Nc := 1) C (m_X6_isBroker) wv_X6_isBroker ml_X6_120 rfl rfl rfl Nat.one_pos rfl rfl rfl rfl ⟨Nat.le_of_ble_eq_true rfl, Nat.le_of_ble_eq_true rfl⟩ (Nat.le_of_ble_eq_true rfl) ⟨Nat.le_of_ble_eq_true rfl, Nat.le_of_ble_eq_true rfl⟩ dX6_breakWord_2 ?_
  refine hq_istore_n (L' := [(2, .int _), (0, .ref _), (1, .int _)]) C dX6_breakWord_5 rfl (by decide) rfl ?_
  refine hq_aload_n (q := 1) C dX6_breakWord_6 rfl rfl ?_
  refine hq_iload_n (q := 0) C dX6_breakWord_7 rfl rfl ?_
  refine hq_if_ne (tgt := 15) C dX6_breakWord_8 (by decide) (fun c_8 => ?_) (fun c_8 => ?_)
  · obtain ⟨hx, hxb⟩ := in_n hbc (by omega) c_8
    refine hq_aload_n (q := 1) C dX6_breakWord_15 rfl rfl ?_
    refine hq_getR (f := 26) (g := 30) (Nc := 1) (Ns := 38) C fr_X6_20 dX6_breakWord_16 rfl rfl rfl rfl rfl (by decide) Nat.one_pos ?_
    refine hq_iload_n (q := 2) C dX6_breakWord_19 rfl rfl ?_
    refine hq_ialdP0 (f := 30) (a := tn x) (g := 7) (Nc := 1) (Ns := 12) C dX6_breakWord_20 rfl rfl rfl rfl rfl rfl hx (by omega) Nat.one_pos ?_
    refine hq_iconst (y := 2) C dX6_breakWord_21 (by decide) ?_
    refine hq_icmp_ne (tgt := 29) C dX6_breakWord_22 (by decide) (fun c_22 => ?_) (fun c_22 => ?_)
    · refine hq_iconst (y := 0) C dX6_breakWord_29 (by decide) ?_
      refine hq_cVr (As := [.int _]) (rm := rX6_goesWell) (f := 26) (Nc := 1) C (m_X6_goesWell) wv_X6_goesWell ml_X6_124 rfl rfl rfl Nat.one_pos rfl rfl rfl rfl ⟨Nat.le_of_ble_eq_true rfl, Nat.le_of_ble_eq_true rfl⟩ (Nat.le_of_ble_eq_true rfl) ⟨Nat.le_of_ble_eq_true rfl, Nat.le_of_ble_eq_true rfl⟩ dX6_breakWord_30 ?_
      refine hq_if_ne (tgt := 38) C dX6_breakWord_33 (by decide) (fun _ => ?_) (fun c_33 => absurd c_33 (by decide))
      refine hq_aload_n (q := 1) C dX6_breakWord_38 rfl rfl ?_
      refine hq_getR (f := 26) (g := 30) (Nc := 1) (Ns := 38) C fr_X6_20 dX6_breakWord_39 rfl rfl rfl rfl rfl (by decide) Nat.one_pos ?_
      refine hq_iload_n (q := 2) C dX6_breakWord_42 rfl rfl ?_
      refine hq_iconst (y := 2) C dX6_breakWord_43 (by decide) ?_
      refine hq_iastP0 (f := 30) (a := tn x) (g := 7) (Nc := 1) (Ns := 12) C dX6_breakWord_44 rfl rfl rfl rfl rfl rfl hx (by omega) Nat.one_pos ?_
      refine hq_iconst (y := 0) C dX6_breakWord_45 (by decide) ?_
      refine hq_istore_n (L' := [(3, .int _), (2, .int _), (0, .ref _), (1, .int _)]) C dX6_breakWord_46 rfl (by decide) rfl ?_
      refine hq_iconst (y := 0) C dX6_breakWord_47 (by decide) ?_
      refine hq_istore (L' := [(4, .int _), (3, .int _), (2, .int _), (0, .ref _), (1, .int _)]) C dX6_breakWord_48 (by decide) rfl ?_
      refine hq_perm [0, 1, 3, 4] (L' := [(4, .int (nI 0)), (3, .int (nI 0)), (0, .ref (hw_ad b0 26 0)), (1, .int x)]) rfl ?_
      refine lp_back (pf_bw x) (fun (k9 : Nat) (σ : MI × MJ × Nat) => hw_V p l e rX6_breakWord s m args below meth c (MQ below (hw_Q D b0 false 271 (some (.int (ps_breakWord P N x nb no).1)) (hw_vl b0 I J (ps_breakWord P N x nb no).2.1 (ps_breakWord P N x nb no).2.2 o)) args s 0 0 (fun q => b0 ≤ q)) D b0 5 false 0 0 271 50 [(4, .int (nI k9)), (3, .int (nI σ.2.2)), (0, .ref (hw_ad b0 26 0)), (1, .int x)] [] (hw_vl b0 I J σ.1 σ.2.1 o)) (fun _ σ => σ.1 1 0 = nI no ∧ hw_os σ.1 no) no ?_ (fun _ _ _ hs => ⟨(bw_oth (by decide)).trans hs.1, hs.2.congr (fun g j hg => bw_oth (by omega))⟩) no 0 (uI (uI P 40 0 0) 7 (tn x) 2, N, 0) (by omega) ⟨hoc, h.2.2.2.1.congr (fun g j hg => by (have q1 : g ≠ 7 := by omega); (have q2 : g ≠ 40 := by omega); simp [uI, q1, q2])⟩ ?_
      · intro k9 σ hi0 hinv0 k0
        have hk40 : k9 < 40 := by omega
        have hF := (hinv0.2 k9 hi0).1
        refine hq_iload (q := 0) C dX6_breakWord_50 rfl ?_
        refine hq_aload_n (q := 2) C dX6_breakWord_52 rfl rfl ?_
        refine hq_getP (f := 26) (g := 1) (Nc := 1) (Ns := 38) C fr_X6_181 dX6_breakWord_53 rfl rfl rfl rfl rfl (by decide) Nat.one_pos ?_
        refine hq_icmp_ge (tgt := 124) C dX6_breakWord_56 (by decide) (fun c_56 => absurd c_56 (by rw [show σ.1 1 0 = nI no from hinv0.1]; exact nI_ge hi0 (by omega))) (fun c_56 => ?_)
        refine hq_aload_n (q := 2) C dX6_breakWord_59 rfl rfl ?_
        refine hq_iload (q := 0) C dX6_breakWord_60 rfl ?_
        refine hq_cVr (As := [.int _]) (rm := rX6_firstOf) (f := 26) (Nc := 1) C (m_X6_firstOf rfl hk40) wv_X6_firstOf ml_X6_166 rfl rfl rfl Nat.one_pos rfl rfl rfl rfl ⟨Nat.le_of_ble_eq_true rfl, Nat.le_of_ble_eq_true rfl⟩ (Nat.le_of_ble_eq_true rfl) ⟨Nat.le_of_ble_eq_true rfl, Nat.le_of_ble_eq_true rfl⟩ dX6_breakWord_62 ?_
        refine hq_iload_n (q := 3) C dX6_breakWord_65 rfl rfl ?_
        refine hq_icmp_ne (tgt := 118) C dX6_breakWord_66 (by decide) (fun c_66 => ?_) (fun c_66 => ?_)
        · refine hq_iinc (q := 0) (y := nI (_ + 1)) (L' := [(4, .int _), (3, .int _), (0, .ref _), (1, .int _)]) C dX6_breakWord_118 rfl (hw_inc _) (by decide) rfl ?_
          refine hq_goto (tgt := 50) C dX6_breakWord_121 (by decide) ?_
          rw [bw_a c_66] at k0
          exact hq_fin [0, 1, 2, 3] rfl rfl rfl rfl rfl rfl k0
        · refine hq_aload_n (q := 2) C dX6_breakWord_69 rfl rfl ?_
          refine hq_getR (f := 26) (g := 37) (Nc := 1) (Ns := 38) C fr_X6_42 dX6_breakWord_70 rfl rfl rfl rfl rfl (by decide) Nat.one_pos ?_
          refine hq_iload (q := 0) C dX6_breakWord_73 rfl ?_
          refine hq_ialdP0 (f := 37) (a := k9) (g := 16) (Nc := 1) (Ns := 40) C dX6_breakWord_75 rfl rfl rfl rfl rfl rfl rfl hk40 Nat.one_pos ?_
          refine hq_if_eq (tgt := 90) C dX6_breakWord_76 (by decide) (fun c_76 => ?_) (fun c_76 => ?_)
          · refine hq_aload_n (q := 2) C dX6_breakWord_90 rfl rfl ?_
            refine hq_getR (f := 26) (g := 37) (Nc := 1) (Ns := 38) C fr_X6_42 dX6_breakWord_91 rfl rfl rfl rfl rfl (by decide) Nat.one_pos ?_
            refine hq_iload (q := 0) C dX6_breakWord_94 rfl ?_
            refine hq_ialdP0 (f := 37) (a := k9) (g := 16) (Nc := 1) (Ns := 40) C dX6_breakWord_96 rfl rfl rfl rfl rfl rfl rfl hk40 Nat.one_pos ?_
            refine hq_if_ne (tgt := 107) C dX6_breakWord_97 (by decide) (fun c_97 => absurd c_76 c_97) (fun c_97 => ?_)
            refine hq_aload_n (q := 2) C dX6_breakWord_100 rfl rfl ?_
            refine hq_iload (q := 0) C dX6_breakWord_101 rfl ?_
            refine hq_iconst (y := 0) C dX6_breakWord_103 (by decide) ?_
            refine hq_cVv (As := [.int _, .int _]) (rm := rX6_takeBack) (f := 26) (Nc := 1) C (m_X6_takeBack (f := 0) (n := hw_ln σ.1 k9) hk40 hF rfl rfl (Nat.zero_le _)) wv_X6_takeBack ml_X6_162 rfl rfl rfl Nat.one_pos rfl rfl rfl rfl ⟨Nat.le_of_ble_eq_true rfl, Nat.le_of_ble_eq_true rfl⟩ (Nat.le_of_ble_eq_true rfl) ⟨Nat.le_of_ble_eq_true rfl, Nat.le_of_ble_eq_true rfl⟩ dX6_breakWord_104 ?_
            refine hq_aload_n (q := 2) C dX6_breakWord_107 rfl rfl ?_
            refine hq_getR (f := 26) (g := 37) (Nc := 1) (Ns := 38) C fr_X6_42 dX6_breakWord_108 rfl rfl rfl rfl rfl (by decide) Nat.one_pos ?_
            refine hq_iload (q := 0) C dX6_breakWord_111 rfl ?_
            refine hq_iconst (y := 5) C dX6_breakWord_113 (by decide) ?_
            refine hq_iastP0 (f := 37) (a := k9) (g := 16) (Nc := 1) (Ns := 40) C dX6_breakWord_114 rfl rfl rfl rfl rfl rfl rfl hk40 Nat.one_pos ?_
            refine hq_iinc (q := 1) (y := nI (_ + 1)) (L' := [(3, .int _), (4, .int _), (0, .ref _), (1, .int _)]) C dX6_breakWord_115 rfl (hw_inc _) (by decide) rfl ?_
            refine hq_iinc (q := 1) (y := nI (_ + 1)) (L' := [(4, .int _), (3, .int _), (0, .ref _), (1, .int _)]) C dX6_breakWord_118 rfl (hw_inc _) (by decide) rfl ?_
            refine hq_goto (tgt := 50) C dX6_breakWord_121 (by decide) ?_
            rw [bw_b c_66 c_76] at k0
            exact hq_fin [0, 1, 2, 3] rfl rfl rfl rfl rfl rfl k0
          · refine hq_aload_n (q := 2) C dX6_breakWord_79 rfl rfl ?_
            refine hq_getR (f := 26) (g := 37) (Nc := 1) (Ns := 38) C fr_X6_42 dX6_breakWord_80 rfl rfl rfl rfl rfl (by decide) Nat.one_pos ?_
            refine hq_iload (q := 0) C dX6_breakWord_83 rfl ?_
            refine hq_ialdP0 (f := 37) (a := k9) (g := 16) (Nc := 1) (Ns := 40) C dX6_breakWord_85 rfl rfl rfl rfl rfl rfl rfl hk40 Nat.one_pos ?_
            refine hq_iconst (y := 3) C dX6_breakWord_86 (by decide) ?_
            refine hq_icmp_ne (tgt := 118) C dX6_breakWord_87 (by decide) (fun c_87 => ?_) (fun c_87 => ?_)
            · refine hq_iinc (q := 0) (y := nI (_ + 1)) (L' := [(4, .int _), (3, .int _), (0, .ref _), (1, .int _)]) C dX6_breakWord_118 rfl (hw_inc _) (by decide) rfl ?_
              refine hq_goto (tgt := 50) C dX6_breakWord_121 (by decide) ?_
              rw [bw_c c_66 c_76 c_87] at k0
              exact hq_fin [0, 1, 2, 3] rfl rfl rfl rfl rfl rfl k0
            · refine hq_aload_n (q := 2) C dX6_breakWord_90 rfl rfl ?_
              refine hq_getR (f := 26) (g := 37) (Nc := 1) (Ns := 38) C fr_X6_42 dX6_breakWord_91 rfl rfl rfl rfl rfl (by decide) Nat.one_pos ?_
              refine hq_iload (q := 0) C dX6_breakWord_94 rfl ?_
              refine hq_ialdP0 (f := 37) (a := k9) (g := 16) (Nc := 1) (Ns := 40) C dX6_breakWord_96 rfl rfl rfl rfl rfl rfl rfl hk40 Nat.one_pos ?_
              refine hq_if_ne (tgt := 107) C dX6_breakWord_97 (by decide) (fun c_97 => ?_) (fun c_97 => absurd c_97 c_76)
              refine hq_aload_n (q := 2) C dX6_breakWord_107 rfl rfl ?_
              refine hq_getR (f := 26) (g := 37) (Nc := 1) (Ns := 38) C fr_X6_42 dX6_breakWord_108 rfl rfl rfl rfl rfl (by decide) Nat.one_pos ?_
              refine hq_iload (q := 0) C dX6_breakWord_111 rfl ?_
              refine hq_iconst (y := 5) C dX6_breakWord_113 (by decide) ?_
              refine hq_iastP0 (f := 37) (a := k9) (g := 16) (Nc := 1) (Ns := 40) C dX6_breakWord_114 rfl rfl rfl rfl rfl rfl rfl hk40 Nat.one_pos ?_
              refine hq_iinc (q := 1) (y := nI (_ + 1)) (L' := [(3, .int _), (4, .int _), (0, .ref _), (1, .int _)]) C dX6_breakWord_115 rfl (hw_inc _) (by decide) rfl ?_
              refine hq_iinc (q := 1) (y := nI (_ + 1)) (L' := [(4, .int _), (3, .int _), (0, .ref _), (1, .int _)]) C dX6_breakWord_118 rfl (hw_inc _) (by decide) rfl ?_
              refine hq_goto (tgt := 50) C dX6_breakWord_121 (by decide) ?_
              rw [bw_d c_66 c_76 c_87] at k0
              exact hq_fin [0, 1, 2, 3] rfl rfl rfl rfl rfl rfl k0
      · refine hq_iload (q := 0) C dX6_breakWord_50 rfl ?_
        refine hq_aload_n (q := 2) C dX6_breakWord_52 rfl rfl ?_
        refine hq_getP (f := 26) (g := 1) (Nc := 1) (Ns := 38) C fr_X6_181 dX6_breakWord_53 rfl rfl rfl rfl rfl (by decide) Nat.one_pos ?_
        refine hq_icmp_ge (tgt := 124) C dX6_breakWord_56 (by decide) (fun c_56 => ?_) (fun c_56 => absurd (by rw [show (lp (pf_bw x) no 0 (uI (uI P 40 0 0) 7 (tn x) 2, N, 0)).1 1 0 = nI no from lp_inv (pf_bw x) (fun _ σ => σ.1 1 0 = nI no) no (fun _ _ _ hs => (bw_oth (by decide)).trans hs) no 0 _ (by omega) hoc]; exact nI_le (Nat.le_refl no) (by omega)) c_56)
        have hrd := hr9 c_8 c_22
        refine hq_aload_n (q := 2) C dX6_breakWord_124 rfl rfl ?_
        refine hq_iload_n (q := 3) C dX6_breakWord_125 rfl rfl ?_
        refine hq_cVv (As := [.int _]) (rm := rX6_failsFor) (f := 26) (Nc := 1) C (m_X6_failsFor' hno hrd) wv_X6_failsFor ml_X6_191 rfl rfl rfl Nat.one_pos rfl rfl rfl rfl ⟨Nat.le_of_ble_eq_true rfl, Nat.le_of_ble_eq_true rfl⟩ (Nat.le_of_ble_eq_true rfl) ⟨Nat.le_of_ble_eq_true rfl, Nat.le_of_ble_eq_true rfl⟩ dX6_breakWord_126 ?_
        refine hq_iload_n (q := 1) C dX6_breakWord_129 rfl rfl ?_
        exact hq_iret C hr hlk dX6_breakWord_130 (by rw [show (ps_breakWord P N x nb no) = _ from (if_neg c_8).trans (if_neg c_22)]; try rfl) (by rw [show (ps_breakWord P N x nb no) = _ from (if_neg c_8).trans (if_neg c_22)]; try rfl)
    · refine hq_iconst (y := 2) C dX6_breakWord_25 (by decide) ?_
      refine hq_goto (tgt := 30) C dX6_breakWord_26 (by decide) ?_
      refine hq_cVr (As := [.int _]) (rm := rX6_goesWell) (f := 26) (Nc := 1) C (m_X6_goesWell) wv_X6_goesWell ml_X6_124 rfl rfl rfl Nat.one_pos rfl rfl rfl rfl ⟨Nat.le_of_ble_eq_true rfl, Nat.le_of_ble_eq_true rfl⟩ (Nat.le_of_ble_eq_true rfl) ⟨Nat.le_of_ble_eq_true rfl, Nat.le_of_ble_eq_true rfl⟩ dX6_breakWord_30 ?_
      refine hq_if_ne (tgt := 38) C dX6_breakWord_33 (by decide) (fun c_33 => absurd c_33 (by decide)) (fun _ => ?_)
      refine hq_iconst (y := 0) C dX6_breakWord_36 (by decide) ?_
      exact hq_iret C hr hlk dX6_breakWord_37 (by rw [show (ps_breakWord P N x nb no) = _ from ((if_neg c_8).trans (if_pos c_22))]; first | rfl | exact if_pos ⟨rfl, rfl⟩ | skip) (by rw [show (ps_breakWord P N x nb no) = _ from ((if_neg c_8).trans (if_pos c_22))]; first | rfl | exact if_pos ⟨rfl, rfl⟩ | skip)
  · refine hq_iconst (y := 1) C dX6_breakWord_11 (by decide) ?_
    refine hq_goto (tgt := 30) C dX6_breakWord_12 (by decide) ?_
    refine hq_cVr (As := [.int _]) (rm := rX6_goesWell) (f := 26) (Nc := 1) C (m_X6_goesWell) wv_X6_goesWell ml_X6_124 rfl rfl rfl Nat.one_pos rfl rfl rfl rfl ⟨Nat.le_of_ble_eq_true rfl, Nat.le_of_ble_eq_true rfl⟩ (Nat.le_of_ble_eq_true rfl) ⟨Nat.le_of_ble_eq_true rfl, Nat.le_of_ble_eq_true rfl⟩ dX6_breakWord_30 ?_
    refine hq_if_ne (tgt := 38) C dX6_breakWord_33 (by decide) (fun c_33 => absurd c_33 (by decide)) (fun _ => ?_)
    refine hq_iconst (y := 0) C dX6_breakWord_36 (by decide) ?_
    exact hq_iret C hr hlk dX6_breakWord_37 (by rw [show (ps_breakWord P N x nb no) = _ from (if_pos c_8)]; first | rfl | exact if_pos ⟨rfl, rfl⟩ | skip) (by rw [show (ps_breakWord P N x nb no) = _ from (if_pos c_8)]; first | rfl | exact if_pos ⟨rfl, rfl⟩ | skip)
def pp_raid (P : MI) (x : Int32) : MI := uI (uI (uI (uI P 40 0 0) 7 (tn x) 1) 8 (tn x) (P 3 0 + 720)) 9 (tn x) 1
def pj_raid (N : MJ) (x : Int32) : MJ := uJ (uJ N 0 (tn x) 0) 4 4 (N 4 4 + (N 0 (tn x)).toInt32.toInt64)
def ps_raid (P : MI) (N : MJ) (x : Int32) (nb no : Nat) : Int32 × MI × MJ := if sx_in x 0 (P 0 0 - 1) = 0 then (0, uI P 40 0 1, N) else if ¬ P 7 (tn x) = 0 then (0, uI P 40 0 2, N) else ((N 0 (tn x)).toInt32, ps_ff (pp_raid P x) (pj_raid N x) x nb no)
set_option maxHeartbeats 4000000 in
set_option maxRecDepth 100000 in
theorem m_X6_raid {l : Launch} {D : va_G} {b0 : Nat} {I : MI} {J : MJ} {P : MI} {N : MJ} {o : Int64} {x : Int32} {nb no nc : Nat} (h : pv_iv P nb no nc) (hr9 : ¬ sx_in x 0 (P 0 0 - 1) = 0 → P 7 (tn x) = 0 → pg_ready x nb no (pp_raid P x, pj_raid N x)) : hM l yX6_raid cX6_raid 4 (some .int) rX6_raid D b0 [.ref (hw_ad b0 26 0), .int x] I J P N o (some (.int (ps_raid P N x nb no).1)) I J (ps_raid P N x nb no).2.1 (ps_raid P N x nb no).2.2 o := by
  have hnb := h.1.2
  have hno := h.2.1.2
  have hnc := h.2.2.1.2
  have hbc := h.1.1
  have hoc := h.2.1.1
  have hcc := h.2.2.1.1
  refine hw_Mof (by decide) [(0, .ref _), (1, .int _)] rfl (Nat.le_of_ble_eq_true rfl) ?_
  intro p e s m args below meth c C hr hlk hnm
  refine hq_aload_n (q := 0) C dX6_raid_0 rfl rfl ?_
  refine hq_iload_n (q := 1) C dX6_raid_1 rfl rfl ?_
  refine hq_cVr (As := [.int _]) (rm := rX6_isBroker) (f := 26) (Nc := 1) C (m_X6_isBroker) wv_X6_isBroker ml_X6_120 rfl rfl rfl Nat.one_pos rfl rfl rfl rfl ⟨Nat.le_of_ble_eq_true rfl, Nat.le_of_ble_eq_true rfl⟩ (Nat.le_of_ble_eq_true rfl) ⟨Nat.le_of_ble_eq_true rfl, Nat.le_of_ble_eq_true rfl⟩ dX6_raid_2 ?_
  refine hq_istore_n (L' := [(2, .int _), (0, .ref _), (1, .int _)]) C dX6_raid_5 rfl (by decide) rfl ?_
  refine hq_aload_n (q := 1) C dX6_raid_6 rfl rfl ?_
  refine hq_iload_n (q := 0) C dX6_raid_7 rfl rfl ?_
  refine hq_if_ne (tgt := 15) C dX6_raid_8 (by decide) (fun c_8 => ?_) (fun c_8 => ?_)
  · obtain ⟨hx, hxb⟩ := in_n hbc (by omega) c_8
    refine hq_aload_n (q := 1) C dX6_raid_15 rfl rfl ?_
    refine hq_getR (f := 26) (g := 30) (Nc := 1) (Ns := 38) C fr_X6_20 dX6_raid_16 rfl rfl rfl rfl rfl (by decide) Nat.one_pos ?_
    refine hq_iload_n (q := 2) C dX6_raid_19 rfl rfl ?_
    refine hq_ialdP0 (f := 30) (a := tn x) (g := 7) (Nc := 1) (Ns := 12) C dX6_raid_20 rfl rfl rfl rfl rfl rfl hx (by omega) Nat.one_pos ?_
    refine hq_if_eq (tgt := 28) C dX6_raid_21 (by decide) (fun c_21 => ?_) (fun c_21 => ?_)
    · refine hq_iconst (y := 0) C dX6_raid_28 (by decide) ?_
      refine hq_cVr (As := [.int _]) (rm := rX6_goesWell) (f := 26) (Nc := 1) C (m_X6_goesWell) wv_X6_goesWell ml_X6_124 rfl rfl rfl Nat.one_pos rfl rfl rfl rfl ⟨Nat.le_of_ble_eq_true rfl, Nat.le_of_ble_eq_true rfl⟩ (Nat.le_of_ble_eq_true rfl) ⟨Nat.le_of_ble_eq_true rfl, Nat.le_of_ble_eq_true rfl⟩ dX6_raid_29 ?_
      refine hq_if_ne (tgt := 37) C dX6_raid_32 (by decide) (fun _ => ?_) (fun c_32 => absurd c_32 (by decide))
      refine hq_aload_n (q := 1) C dX6_raid_37 rfl rfl ?_
      refine hq_getR (f := 26) (g := 28) (Nc := 1) (Ns := 38) C fr_X6_13 dX6_raid_38 rfl rfl rfl rfl rfl (by decide) Nat.one_pos ?_
      refine hq_iload_n (q := 2) C dX6_raid_41 rfl rfl ?_
      refine hq_laldN0 (f := 28) (a := tn x) (g := 0) (Nc := 1) (Ns := 12) C dX6_raid_42 rfl rfl rfl rfl rfl rfl hx (by omega) Nat.one_pos ?_
      refine hq_l2i C dX6_raid_43 ?_
      refine hq_istore_n (L' := [(3, .int _), (2, .int _), (0, .ref _), (1, .int _)]) C dX6_raid_44 rfl (by decide) rfl ?_
      refine hq_aload_n (q := 2) C dX6_raid_45 rfl rfl ?_
      refine hq_getR (f := 26) (g := 28) (Nc := 1) (Ns := 38) C fr_X6_13 dX6_raid_46 rfl rfl rfl rfl rfl (by decide) Nat.one_pos ?_
      refine hq_iload_n (q := 3) C dX6_raid_49 rfl rfl ?_
      refine hq_lconst (y := 0) C dX6_raid_50 rfl ?_
      refine hq_lastN0 (f := 28) (a := tn x) (g := 0) (Nc := 1) (Ns := 12) C dX6_raid_51 rfl rfl rfl rfl rfl rfl hx (by omega) Nat.one_pos ?_
      refine hq_aload_n (q := 2) C dX6_raid_52 rfl rfl ?_
      refine hq_getR (f := 26) (g := 55) (Nc := 1) (Ns := 38) C fr_X6_97 dX6_raid_53 rfl rfl rfl rfl rfl (by decide) Nat.one_pos ?_
      refine hq_iconst (y := 4) C dX6_raid_56 (by decide) ?_
      refine hq_dup2 C dX6_raid_57 rfl rfl ?_
      refine hq_laldN0 (f := 55) (a := 4) (g := 4) (Nc := 1) (Ns := 5) C dX6_raid_58 rfl rfl rfl rfl rfl rfl rfl (by decide) Nat.one_pos ?_
      refine hq_iload_n (q := 0) C dX6_raid_59 rfl rfl ?_
      refine hq_i2l C dX6_raid_60 ?_
      refine hq_ladd C dX6_raid_61 ?_
      refine hq_lastN0 (f := 55) (a := 4) (g := 4) (Nc := 1) (Ns := 5) C dX6_raid_62 rfl rfl rfl rfl rfl rfl rfl (by decide) Nat.one_pos ?_
      refine hq_aload_n (q := 2) C dX6_raid_63 rfl rfl ?_
      refine hq_getR (f := 26) (g := 30) (Nc := 1) (Ns := 38) C fr_X6_20 dX6_raid_64 rfl rfl rfl rfl rfl (by decide) Nat.one_pos ?_
      refine hq_iload_n (q := 3) C dX6_raid_67 rfl rfl ?_
      refine hq_iconst (y := 1) C dX6_raid_68 (by decide) ?_
      refine hq_iastP0 (f := 30) (a := tn x) (g := 7) (Nc := 1) (Ns := 12) C dX6_raid_69 rfl rfl rfl rfl rfl rfl hx (by omega) Nat.one_pos ?_
      refine hq_aload_n (q := 2) C dX6_raid_70 rfl rfl ?_
      refine hq_getR (f := 26) (g := 31) (Nc := 1) (Ns := 38) C fr_X6_23 dX6_raid_71 rfl rfl rfl rfl rfl (by decide) Nat.one_pos ?_
      refine hq_iload_n (q := 3) C dX6_raid_74 rfl rfl ?_
      refine hq_aload_n (q := 2) C dX6_raid_75 rfl rfl ?_
      refine hq_getP (f := 26) (g := 3) (Nc := 1) (Ns := 38) C fr_X6_194 dX6_raid_76 rfl rfl rfl rfl rfl (by decide) Nat.one_pos ?_
      refine hq_sipush (y := 720) C dX6_raid_79 (by decide) ?_
      refine hq_iadd C dX6_raid_82 ?_
      refine hq_iastP0 (f := 31) (a := tn x) (g := 8) (Nc := 1) (Ns := 12) C dX6_raid_83 rfl rfl rfl rfl rfl rfl hx (by omega) Nat.one_pos ?_
      refine hq_aload_n (q := 2) C dX6_raid_84 rfl rfl ?_
      refine hq_getR (f := 26) (g := 32) (Nc := 1) (Ns := 38) C fr_X6_26 dX6_raid_85 rfl rfl rfl rfl rfl (by decide) Nat.one_pos ?_
      refine hq_iload_n (q := 3) C dX6_raid_88 rfl rfl ?_
      refine hq_iconst (y := 1) C dX6_raid_89 (by decide) ?_
      refine hq_zastP0 (f := 32) (a := tn x) (g := 9) (Nc := 1) (Ns := 12) C dX6_raid_90 rfl rfl rfl rfl rfl rfl hx (by omega) Nat.one_pos (by decide) ?_
      have hrd := hr9 c_8 c_21
      refine hq_aload_n (q := 2) C dX6_raid_91 rfl rfl ?_
      refine hq_iload_n (q := 3) C dX6_raid_92 rfl rfl ?_
      refine hq_cVv (As := [.int _]) (rm := rX6_failsFor) (f := 26) (Nc := 1) C (m_X6_failsFor' hno hrd) wv_X6_failsFor ml_X6_191 rfl rfl rfl Nat.one_pos rfl rfl rfl rfl ⟨Nat.le_of_ble_eq_true rfl, Nat.le_of_ble_eq_true rfl⟩ (Nat.le_of_ble_eq_true rfl) ⟨Nat.le_of_ble_eq_true rfl, Nat.le_of_ble_eq_true rfl⟩ dX6_raid_93 ?_
      refine hq_iload_n (q := 0) C dX6_raid_96 rfl rfl ?_
      exact hq_iret C hr hlk dX6_raid_97 (by rw [show (ps_raid P N x nb no) = _ from ((if_neg c_8).trans (if_neg (fun z9 => z9 c_21)))]; first | rfl | exact if_pos ⟨rfl, rfl⟩ | skip) (by rw [show (ps_raid P N x nb no) = _ from ((if_neg c_8).trans (if_neg (fun z9 => z9 c_21)))]; first | rfl | exact if_pos ⟨rfl, rfl⟩ | skip)
    · refine hq_iconst (y := 2) C dX6_raid_24 (by decide) ?_
      refine hq_goto (tgt := 29) C dX6_raid_25 (by decide) ?_
      refine hq_cVr (As := [.int _]) (rm := rX6_goesWell) (f := 26) (Nc := 1) C (m_X6_goesWell) wv_X6_goesWell ml_X6_124 rfl rfl rfl Nat.one_pos rfl rfl rfl rfl ⟨Nat.le_of_ble_eq_true rfl, Nat.le_of_ble_eq_true rfl⟩ (Nat.le_of_ble_eq_true rfl) ⟨Nat.le_of_ble_eq_true rfl, Nat.le_of_ble_eq_true rfl⟩ dX6_raid_29 ?_
      refine hq_if_ne (tgt := 37) C dX6_raid_32 (by decide) (fun c_32 => absurd c_32 (by decide)) (fun _ => ?_)
      refine hq_iconst (y := 0) C dX6_raid_35 (by decide) ?_
      exact hq_iret C hr hlk dX6_raid_36 (by rw [show (ps_raid P N x nb no) = _ from ((if_neg c_8).trans (if_pos c_21))]; first | rfl | exact if_pos ⟨rfl, rfl⟩ | skip) (by rw [show (ps_raid P N x nb no) = _ from ((if_neg c_8).trans (if_pos c_21))]; first | rfl | exact if_pos ⟨rfl, rfl⟩ | skip)
  · refine hq_iconst (y := 1) C dX6_raid_11 (by decide) ?_
    refine hq_goto (tgt := 29) C dX6_raid_12 (by decide) ?_
    refine hq_cVr (As := [.int _]) (rm := rX6_goesWell) (f := 26) (Nc := 1) C (m_X6_goesWell) wv_X6_goesWell ml_X6_124 rfl rfl rfl Nat.one_pos rfl rfl rfl rfl ⟨Nat.le_of_ble_eq_true rfl, Nat.le_of_ble_eq_true rfl⟩ (Nat.le_of_ble_eq_true rfl) ⟨Nat.le_of_ble_eq_true rfl, Nat.le_of_ble_eq_true rfl⟩ dX6_raid_29 ?_
    refine hq_if_ne (tgt := 37) C dX6_raid_32 (by decide) (fun c_32 => absurd c_32 (by decide)) (fun _ => ?_)
    refine hq_iconst (y := 0) C dX6_raid_35 (by decide) ?_
    exact hq_iret C hr hlk dX6_raid_36 (by rw [show (ps_raid P N x nb no) = _ from (if_pos c_8)]; first | rfl | exact if_pos ⟨rfl, rfl⟩ | skip) (by rw [show (ps_raid P N x nb no) = _ from (if_pos c_8)]; first | rfl | exact if_pos ⟨rfl, rfl⟩ | skip)
def pf_ps (nb no nc _j : Nat) (σ : MI × MJ) : MI × MJ := ps_nh σ.1 σ.2 nb no nc
def pl_pass (P : MI) (N : MJ) (x : Int32) (nb no nc : Nat) : MI × MJ := lp (pf_ps nb no nc) (tn x) 0 (uI P 40 0 0, N)
def ps_pass (P : MI) (N : MJ) (x : Int32) (nb no nc : Nat) : Int32 × MI × MJ := if sx_in x 1 500 = 0 then (0, uI P 40 0 1, N) else ((pl_pass P N x nb no nc).1 3 0, pl_pass P N x nb no nc)
theorem nh_iv {P : MI} {N : MJ} {nb no nc : Nat} (h : pv_iv P nb no nc) : pv_iv (ps_nh P N nb no nc).1 nb no nc := lp_inv pf_ca (fun _ σ => pv_iv σ.1 nb no nc) nc (fun _ _ _ hs => hs.congr (fun g j hg => ca_oth (by omega))) nc 0 _ (by omega) (n4_iv h)
theorem in_1 {x M : Int32} {n : Nat} (hM : M.toInt = n) (hn : n < 2 ^ 31) (h : ¬ sx_in x 1 M = 0) : x = nI (tn x) ∧ tn x ≤ n := by
  refine in_c hM hn (fun z => h ?_)
  unfold sx_in at *
  by_cases c : x < 1
  · rw [if_pos c]
  · rw [if_neg c]
    by_cases c2 : M < x
    · rw [if_pos c2]
    · rw [if_neg (fun y => c (Int32.lt_trans y (by decide))), if_neg c2] at z
      exact absurd z (by decide)
set_option maxHeartbeats 4000000 in
set_option maxRecDepth 100000 in
theorem m_X6_pass {l : Launch} {D : va_G} {b0 : Nat} {I : MI} {J : MJ} {P : MI} {N : MJ} {o : Int64} {x : Int32} {nb no nc : Nat} (h : pv_iv P nb no nc) : hM l yX6_pass cX6_pass 3 (some .int) rX6_pass D b0 [.ref (hw_ad b0 26 0), .int x] I J P N o (some (.int (ps_pass P N x nb no nc).1)) I J (ps_pass P N x nb no nc).2.1 (ps_pass P N x nb no nc).2.2 o := by
  refine hw_Mof (by decide) [(0, .ref _), (1, .int _)] rfl (Nat.le_of_ble_eq_true rfl) ?_
  intro p e s m args below meth c C hr hlk hnm
  refine hq_aload_n (q := 0) C dX6_pass_0 rfl rfl ?_
  refine hq_iload_n (q := 1) C dX6_pass_1 rfl rfl ?_
  refine hq_iconst (y := 1) C dX6_pass_2 (by decide) ?_
  refine hq_sipush (y := 500) C dX6_pass_3 (by decide) ?_
  refine hq_cSr (As := [.int _, .int _, .int _]) (rm := rX6_in) (Cn := "") C (m_X6_in) ws_X6_in ml_X6_116 rfl rfl rfl rfl ⟨Nat.le_of_ble_eq_true rfl, Nat.le_of_ble_eq_true rfl⟩ (Nat.le_of_ble_eq_true rfl) ⟨Nat.le_of_ble_eq_true rfl, Nat.le_of_ble_eq_true rfl⟩ dX6_pass_6 ?_
  refine hq_if_eq (tgt := 16) C dX6_pass_9 (by decide) (fun c_9 => ?_) (fun c_9 => ?_)
  · refine hq_iconst (y := 1) C dX6_pass_16 (by decide) ?_
    refine hq_cVr (As := [.int _]) (rm := rX6_goesWell) (f := 26) (Nc := 1) C (m_X6_goesWell) wv_X6_goesWell ml_X6_124 rfl rfl rfl Nat.one_pos rfl rfl rfl rfl ⟨Nat.le_of_ble_eq_true rfl, Nat.le_of_ble_eq_true rfl⟩ (Nat.le_of_ble_eq_true rfl) ⟨Nat.le_of_ble_eq_true rfl, Nat.le_of_ble_eq_true rfl⟩ dX6_pass_17 ?_
    refine hq_if_ne (tgt := 25) C dX6_pass_20 (by decide) (fun c_20 => absurd c_20 (by decide)) (fun _ => ?_)
    refine hq_iconst (y := 0) C dX6_pass_23 (by decide) ?_
    exact hq_iret C hr hlk dX6_pass_24 (by rw [show (ps_pass P N x nb no nc) = _ from if_pos c_9]) (by rw [show (ps_pass P N x nb no nc) = _ from if_pos c_9])
  · refine hq_iconst (y := 0) C dX6_pass_12 (by decide) ?_
    refine hq_goto (tgt := 17) C dX6_pass_13 (by decide) ?_
    refine hq_cVr (As := [.int _]) (rm := rX6_goesWell) (f := 26) (Nc := 1) C (m_X6_goesWell) wv_X6_goesWell ml_X6_124 rfl rfl rfl Nat.one_pos rfl rfl rfl rfl ⟨Nat.le_of_ble_eq_true rfl, Nat.le_of_ble_eq_true rfl⟩ (Nat.le_of_ble_eq_true rfl) ⟨Nat.le_of_ble_eq_true rfl, Nat.le_of_ble_eq_true rfl⟩ dX6_pass_17 ?_
    refine hq_if_ne (tgt := 25) C dX6_pass_20 (by decide) (fun _ => ?_) (fun c_20 => absurd c_20 (by decide))
    obtain ⟨hx, hxb⟩ := in_1 (n := 500) (by decide) (by omega) c_9
    refine hq_iconst (y := 0) C dX6_pass_25 (by decide) ?_
    refine hq_istore_n (L' := [(2, .int _), (0, .ref _), (1, .int _)]) C dX6_pass_26 rfl (by decide) rfl ?_
    refine hq_perm [0, 1, 2] (L' := [(2, .int (nI 0)), (0, .ref (hw_ad b0 26 0)), (1, .int x)]) rfl ?_
    refine lp_back (pf_ps nb no nc) (fun (k9 : Nat) (σ : MI × MJ) => hw_V p l e rX6_pass s m args below meth c (MQ below (hw_Q D b0 false 271 (some (.int (ps_pass P N x nb no nc).1)) (hw_vl b0 I J (ps_pass P N x nb no nc).2.1 (ps_pass P N x nb no nc).2.2 o)) args s 0 0 (fun q => b0 ≤ q)) D b0 3 false 0 0 271 27 [(2, .int (nI k9)), (0, .ref (hw_ad b0 26 0)), (1, .int x)] [] (hw_vl b0 I J σ.1 σ.2 o)) (fun _ σ => pv_iv σ.1 nb no nc) (tn x) ?_ (fun _ _ _ hs => nh_iv hs) (tn x) 0 (uI P 40 0 0, N) (by omega) (h.congr (fun g j hg => by (have q1 : g ≠ 40 := by omega); simp [uI, q1])) ?_
    · intro k9 σ hi0 hinv0 k0
      refine hq_iload_n (q := 0) C dX6_pass_27 rfl rfl ?_
      refine hq_iload_n (q := 2) C dX6_pass_28 rfl rfl ?_
      refine hq_icmp_ge (tgt := 42) C dX6_pass_29 (by decide) (fun c_29 => absurd c_29 (by rw [hx]; exact nI_ge hi0 (by omega))) (fun c_29 => ?_)
      refine hq_aload_n (q := 1) C dX6_pass_32 rfl rfl ?_
      refine hq_cVv (As := []) (rm := rX6_nextHour) (f := 26) (Nc := 1) C (m_X6_nextHour hinv0) wv_X6_nextHour ml_X6_213 rfl rfl rfl Nat.one_pos rfl rfl rfl rfl ⟨Nat.le_of_ble_eq_true rfl, Nat.le_of_ble_eq_true rfl⟩ (Nat.le_of_ble_eq_true rfl) ⟨Nat.le_of_ble_eq_true rfl, Nat.le_of_ble_eq_true rfl⟩ dX6_pass_33 ?_
      refine hq_iinc (q := 0) (y := nI (_ + 1)) (L' := [(2, .int _), (0, .ref _), (1, .int _)]) C dX6_pass_36 rfl (hw_inc _) (by decide) rfl ?_
      refine hq_goto (tgt := 27) C dX6_pass_39 (by decide) ?_
      exact hq_fin [0, 1, 2] rfl rfl rfl rfl rfl rfl k0
    · refine hq_iload_n (q := 0) C dX6_pass_27 rfl rfl ?_
      refine hq_iload_n (q := 2) C dX6_pass_28 rfl rfl ?_
      refine hq_icmp_ge (tgt := 42) C dX6_pass_29 (by decide) (fun c_29 => ?_) (fun c_29 => absurd (Eq.subst (motive := fun z => z ≤ nI (tn x)) hx.symm (nI_le (Nat.le_refl _) (by omega))) c_29)
      refine hq_aload_n (q := 1) C dX6_pass_42 rfl rfl ?_
      refine hq_getP (f := 26) (g := 3) (Nc := 1) (Ns := 38) C fr_X6_194 dX6_pass_43 rfl rfl rfl rfl rfl (by decide) Nat.one_pos ?_
      exact hq_iret C hr hlk dX6_pass_46 (by rw [show (ps_pass P N x nb no nc) = _ from if_neg c_9]; try rfl) (by rw [show (ps_pass P N x nb no nc) = _ from if_neg c_9]; try rfl)
