/-! the model: what is called from outside -/
theorem in_c {x M : Int32} {n : Nat} (hM : M.toInt = n) (hn : n < 2 ^ 31) (h : ¬ sx_in x 0 M = 0) : x = nI (tn x) ∧ tn x ≤ n := by
  unfold sx_in at h
  by_cases c : x < 0
  · rw [if_pos c] at h; exact absurd rfl h
  · rw [if_neg c] at h
    by_cases c2 : M < x
    · rw [if_pos c2] at h; exact absurd rfl h
    · obtain ⟨j, j1, j2⟩ := nI_of2 hM c (Int32.not_lt.mp c2)
      subst j2
      have : tn (nI j) = j := nI_clamp (by omega)
      rw [this]
      exact ⟨rfl, j1⟩
theorem in_n {x c9 : Int32} {n : Nat} (hc : c9 = nI n) (hn : n < 2 ^ 31) (h : ¬ sx_in x 0 (c9 - 1) = 0) : x = nI (tn x) ∧ tn x < n := by
  rcases Nat.eq_zero_or_pos n with z | z
  · subst z
    exfalso
    apply h
    rw [hc]
    unfold sx_in
    by_cases c : x < 0
    · rw [if_pos c]
    · rw [if_neg c, if_pos]
      have : (nI 0 - 1 : Int32) = -1 := by decide
      rw [this]
      exact Int32.lt_of_lt_of_le (by decide : (-1 : Int32) < 0) (Int32.not_lt.mp c)
  · obtain ⟨k, rfl⟩ : ∃ k, n = k + 1 := ⟨n - 1, by omega⟩
    have e : c9 - 1 = nI k := by rw [hc]; exact nI_pred _
    rw [e] at h
    obtain ⟨h1, h2⟩ := in_c (M := nI k) (n := k) (nI_toInt (by omega)) (by omega) h
    exact ⟨h1, by omega⟩
theorem br2_n {P : MI} {x y : Int32} {n : Nat} (hc : P 0 0 = nI n) (hn : n < 2 ^ 31) (h : ¬ sx_br2 P x y = 0) : (x = nI (tn x) ∧ tn x < n) ∧ (y = nI (tn y) ∧ tn y < n) := by
  unfold sx_br2 at h
  by_cases c : sx_in x 0 (P 0 0 - 1) = 0
  · rw [if_pos c] at h; exact absurd rfl h
  · rw [if_neg c] at h
    by_cases c2 : sx_in y 0 (P 0 0 - 1) = 0
    · rw [if_pos c2] at h; exact absurd rfl h
    · exact ⟨in_n hc hn c, in_n hc hn c2⟩
def ps_broker (P : MI) (N : MJ) (x y z : Int32) (nb : Nat) : Int32 × MI × MJ := if sx_in x 0 7 = 0 then (0, uI P 40 0 1, N) else if sx_in y 0 1000000 = 0 then (0, uI P 40 0 2, N) else if sx_in z 0 100 = 0 then (0, uI P 40 0 2, N) else if P 0 0 = 12 then (0, uI P 40 0 3, N) else (P 0 0 + 1 - 1, uI (uI (uI (uI P 40 0 0) 5 nb x) 6 nb z) 0 0 (P 0 0 + 1), uJ N 0 nb y.toInt64)
set_option maxHeartbeats 4000000 in
set_option maxRecDepth 100000 in
theorem m_X6_broker {l : Launch} {D : va_G} {b0 : Nat} {I : MI} {J : MJ} {P : MI} {N : MJ} {o : Int64} {x y z : Int32} {nb no nc : Nat} (h : pv_iv P nb no nc) : hM l yX6_broker cX6_broker 5 (some .int) rX6_broker D b0 [.ref (hw_ad b0 26 0), .int x, .int y, .int z] I J P N o (some (.int (ps_broker P N x y z nb).1)) I J (ps_broker P N x y z nb).2.1 (ps_broker P N x y z nb).2.2 o := by
  have hnb := h.1.2
  have hno := h.2.1.2
  have hnc := h.2.2.1.2
  have hbc := h.1.1
  have hoc := h.2.1.1
  have hcc := h.2.2.1.1
  refine hw_Mof (by decide) [(0, .ref _), (1, .int _), (2, .int _), (3, .int _)] rfl (Nat.le_of_ble_eq_true rfl) ?_
  intro p e s m args below meth c C hr hlk hnm
  refine hq_iload_n (q := 1) C dX6_broker_0 rfl rfl ?_
  refine hq_iconst (y := 0) C dX6_broker_1 (by decide) ?_
  refine hq_bipush (y := 7) C dX6_broker_2 (by decide) ?_
  refine hq_cSr (As := [.int _, .int _, .int _]) (rm := rX6_in) (Cn := "") C (m_X6_in) ws_X6_in ml_X6_116 rfl rfl rfl rfl ⟨Nat.le_of_ble_eq_true rfl, Nat.le_of_ble_eq_true rfl⟩ (Nat.le_of_ble_eq_true rfl) ⟨Nat.le_of_ble_eq_true rfl, Nat.le_of_ble_eq_true rfl⟩ dX6_broker_4 ?_
  refine hq_istore (L' := [(4, .int _), (0, .ref _), (1, .int _), (2, .int _), (3, .int _)]) C dX6_broker_7 (by decide) rfl ?_
  refine hq_aload_n (q := 1) C dX6_broker_9 rfl rfl ?_
  refine hq_iload (q := 0) C dX6_broker_10 rfl ?_
  refine hq_if_ne (tgt := 19) C dX6_broker_12 (by decide) (fun c_12 => ?_) (fun c_12 => ?_)
  · refine hq_iload_n (q := 3) C dX6_broker_19 rfl rfl ?_
    refine hq_iconst (y := 0) C dX6_broker_20 (by decide) ?_
    refine hq_ldc C wc_X6_87 dX6_broker_21 ?_
    refine hq_cSr (As := [.int _, .int _, .int _]) (rm := rX6_in) (Cn := "") C (m_X6_in) ws_X6_in ml_X6_116 rfl rfl rfl rfl ⟨Nat.le_of_ble_eq_true rfl, Nat.le_of_ble_eq_true rfl⟩ (Nat.le_of_ble_eq_true rfl) ⟨Nat.le_of_ble_eq_true rfl, Nat.le_of_ble_eq_true rfl⟩ dX6_broker_23 ?_
    refine hq_if_eq (tgt := 39) C dX6_broker_26 (by decide) (fun c_26 => ?_) (fun c_26 => ?_)
    · refine hq_iconst (y := 2) C dX6_broker_39 (by decide) ?_
      refine hq_goto (tgt := 57) C dX6_broker_40 (by decide) ?_
      refine hq_cVr (As := [.int _]) (rm := rX6_goesWell) (f := 26) (Nc := 1) C (m_X6_goesWell) wv_X6_goesWell ml_X6_124 rfl rfl rfl Nat.one_pos rfl rfl rfl rfl ⟨Nat.le_of_ble_eq_true rfl, Nat.le_of_ble_eq_true rfl⟩ (Nat.le_of_ble_eq_true rfl) ⟨Nat.le_of_ble_eq_true rfl, Nat.le_of_ble_eq_true rfl⟩ dX6_broker_57 ?_
      refine hq_if_ne (tgt := 65) C dX6_broker_60 (by decide) (fun c_60 => absurd c_60 (by decide)) (fun _ => ?_)
      refine hq_iconst (y := 0) C dX6_broker_63 (by decide) ?_
      exact hq_iret C hr hlk dX6_broker_64 (by rw [show (ps_broker P N x y z nb) = _ from ((if_neg c_12).trans (if_pos c_26))]; first | rfl | exact if_pos ⟨rfl, rfl⟩ | skip) (by rw [show (ps_broker P N x y z nb) = _ from ((if_neg c_12).trans (if_pos c_26))]; first | rfl | exact if_pos ⟨rfl, rfl⟩ | skip)
    · refine hq_iload_n (q := 4) C dX6_broker_29 rfl rfl ?_
      refine hq_iconst (y := 0) C dX6_broker_30 (by decide) ?_
      refine hq_bipush (y := 100) C dX6_broker_31 (by decide) ?_
      refine hq_cSr (As := [.int _, .int _, .int _]) (rm := rX6_in) (Cn := "") C (m_X6_in) ws_X6_in ml_X6_116 rfl rfl rfl rfl ⟨Nat.le_of_ble_eq_true rfl, Nat.le_of_ble_eq_true rfl⟩ (Nat.le_of_ble_eq_true rfl) ⟨Nat.le_of_ble_eq_true rfl, Nat.le_of_ble_eq_true rfl⟩ dX6_broker_33 ?_
      refine hq_if_ne (tgt := 43) C dX6_broker_36 (by decide) (fun c_36 => ?_) (fun c_36 => ?_)
      · refine hq_aload_n (q := 1) C dX6_broker_43 rfl rfl ?_
        refine hq_getP (f := 26) (g := 0) (Nc := 1) (Ns := 38) C fr_X6_113 dX6_broker_44 rfl rfl rfl rfl rfl (by decide) Nat.one_pos ?_
        refine hq_bipush (y := 12) C dX6_broker_47 (by decide) ?_
        refine hq_icmp_ne (tgt := 56) C dX6_broker_49 (by decide) (fun c_49 => ?_) (fun c_49 => ?_)
        · have hn12 : nb < 12 := by
            rcases Nat.lt_or_ge nb 12 with z9 | z9
            · exact z9
            · exact absurd (hbc.trans (congrArg nI (by omega : nb = 12))) c_49
          refine hq_iconst (y := 0) C dX6_broker_56 (by decide) ?_
          refine hq_cVr (As := [.int _]) (rm := rX6_goesWell) (f := 26) (Nc := 1) C (m_X6_goesWell) wv_X6_goesWell ml_X6_124 rfl rfl rfl Nat.one_pos rfl rfl rfl rfl ⟨Nat.le_of_ble_eq_true rfl, Nat.le_of_ble_eq_true rfl⟩ (Nat.le_of_ble_eq_true rfl) ⟨Nat.le_of_ble_eq_true rfl, Nat.le_of_ble_eq_true rfl⟩ dX6_broker_57 ?_
          refine hq_if_ne (tgt := 65) C dX6_broker_60 (by decide) (fun _ => ?_) (fun c_60 => absurd c_60 (by decide))
          refine hq_aload_n (q := 1) C dX6_broker_65 rfl rfl ?_
          refine hq_getR (f := 26) (g := 27) (Nc := 1) (Ns := 38) C fr_X6_7 dX6_broker_66 rfl rfl rfl rfl rfl (by decide) Nat.one_pos ?_
          refine hq_aload_n (q := 1) C dX6_broker_69 rfl rfl ?_
          refine hq_getP (f := 26) (g := 0) (Nc := 1) (Ns := 38) C fr_X6_113 dX6_broker_70 rfl rfl rfl rfl rfl (by decide) Nat.one_pos ?_
          refine hq_iload_n (q := 2) C dX6_broker_73 rfl rfl ?_
          refine hq_iastP0 (f := 27) (a := nb) (g := 5) (Nc := 1) (Ns := 12) C dX6_broker_74 rfl rfl rfl rfl rfl rfl hbc hn12 Nat.one_pos ?_
          refine hq_aload_n (q := 1) C dX6_broker_75 rfl rfl ?_
          refine hq_getR (f := 26) (g := 28) (Nc := 1) (Ns := 38) C fr_X6_13 dX6_broker_76 rfl rfl rfl rfl rfl (by decide) Nat.one_pos ?_
          refine hq_aload_n (q := 1) C dX6_broker_79 rfl rfl ?_
          refine hq_getP (f := 26) (g := 0) (Nc := 1) (Ns := 38) C fr_X6_113 dX6_broker_80 rfl rfl rfl rfl rfl (by decide) Nat.one_pos ?_
          refine hq_iload_n (q := 3) C dX6_broker_83 rfl rfl ?_
          refine hq_i2l C dX6_broker_84 ?_
          refine hq_lastN0 (f := 28) (a := nb) (g := 0) (Nc := 1) (Ns := 12) C dX6_broker_85 rfl rfl rfl rfl rfl rfl hbc hn12 Nat.one_pos ?_
          refine hq_aload_n (q := 1) C dX6_broker_86 rfl rfl ?_
          refine hq_getR (f := 26) (g := 29) (Nc := 1) (Ns := 38) C fr_X6_17 dX6_broker_87 rfl rfl rfl rfl rfl (by decide) Nat.one_pos ?_
          refine hq_aload_n (q := 1) C dX6_broker_90 rfl rfl ?_
          refine hq_getP (f := 26) (g := 0) (Nc := 1) (Ns := 38) C fr_X6_113 dX6_broker_91 rfl rfl rfl rfl rfl (by decide) Nat.one_pos ?_
          refine hq_iload_n (q := 4) C dX6_broker_94 rfl rfl ?_
          refine hq_iastP0 (f := 29) (a := nb) (g := 6) (Nc := 1) (Ns := 12) C dX6_broker_95 rfl rfl rfl rfl rfl rfl hbc hn12 Nat.one_pos ?_
          refine hq_aload_n (q := 1) C dX6_broker_96 rfl rfl ?_
          refine hq_dup C dX6_broker_97 rfl ?_
          refine hq_getP (f := 26) (g := 0) (Nc := 1) (Ns := 38) C fr_X6_113 dX6_broker_98 rfl rfl rfl rfl rfl (by decide) Nat.one_pos ?_
          refine hq_iconst (y := 1) C dX6_broker_101 (by decide) ?_
          refine hq_iadd C dX6_broker_102 ?_
          refine hq_putP (f := 26) (g := 0) (Nc := 1) (Ns := 38) C fl_X6_113 dX6_broker_103 rfl rfl rfl rfl rfl (by decide) Nat.one_pos rfl rfl ?_
          refine hq_aload_n (q := 1) C dX6_broker_106 rfl rfl ?_
          refine hq_getP (f := 26) (g := 0) (Nc := 1) (Ns := 38) C fr_X6_113 dX6_broker_107 rfl rfl rfl rfl rfl (by decide) Nat.one_pos ?_
          refine hq_iconst (y := 1) C dX6_broker_110 (by decide) ?_
          refine hq_isub C dX6_broker_111 ?_
          exact hq_iret C hr hlk dX6_broker_112 (by rw [show (ps_broker P N x y z nb) = _ from ((((if_neg c_12).trans (if_neg c_26)).trans (if_neg c_36)).trans (if_neg c_49))]; first | rfl | exact if_pos ⟨rfl, rfl⟩ | skip) (by rw [show (ps_broker P N x y z nb) = _ from ((((if_neg c_12).trans (if_neg c_26)).trans (if_neg c_36)).trans (if_neg c_49))]; first | rfl | exact if_pos ⟨rfl, rfl⟩ | skip)
        · refine hq_iconst (y := 3) C dX6_broker_52 (by decide) ?_
          refine hq_goto (tgt := 57) C dX6_broker_53 (by decide) ?_
          refine hq_cVr (As := [.int _]) (rm := rX6_goesWell) (f := 26) (Nc := 1) C (m_X6_goesWell) wv_X6_goesWell ml_X6_124 rfl rfl rfl Nat.one_pos rfl rfl rfl rfl ⟨Nat.le_of_ble_eq_true rfl, Nat.le_of_ble_eq_true rfl⟩ (Nat.le_of_ble_eq_true rfl) ⟨Nat.le_of_ble_eq_true rfl, Nat.le_of_ble_eq_true rfl⟩ dX6_broker_57 ?_
          refine hq_if_ne (tgt := 65) C dX6_broker_60 (by decide) (fun c_60 => absurd c_60 (by decide)) (fun _ => ?_)
          refine hq_iconst (y := 0) C dX6_broker_63 (by decide) ?_
          exact hq_iret C hr hlk dX6_broker_64 (by rw [show (ps_broker P N x y z nb) = _ from ((((if_neg c_12).trans (if_neg c_26)).trans (if_neg c_36)).trans (if_pos c_49))]; first | rfl | exact if_pos ⟨rfl, rfl⟩ | skip) (by rw [show (ps_broker P N x y z nb) = _ from ((((if_neg c_12).trans (if_neg c_26)).trans (if_neg c_36)).trans (if_pos c_49))]; first | rfl | exact if_pos ⟨rfl, rfl⟩ | skip)
      · refine hq_iconst (y := 2) C dX6_broker_39 (by decide) ?_
        refine hq_goto (tgt := 57) C dX6_broker_40 (by decide) ?_
        refine hq_cVr (As := [.int _]) (rm := rX6_goesWell) (f := 26) (Nc := 1) C (m_X6_goesWell) wv_X6_goesWell ml_X6_124 rfl rfl rfl Nat.one_pos rfl rfl rfl rfl ⟨Nat.le_of_ble_eq_true rfl, Nat.le_of_ble_eq_true rfl⟩ (Nat.le_of_ble_eq_true rfl) ⟨Nat.le_of_ble_eq_true rfl, Nat.le_of_ble_eq_true rfl⟩ dX6_broker_57 ?_
        refine hq_if_ne (tgt := 65) C dX6_broker_60 (by decide) (fun c_60 => absurd c_60 (by decide)) (fun _ => ?_)
        refine hq_iconst (y := 0) C dX6_broker_63 (by decide) ?_
        exact hq_iret C hr hlk dX6_broker_64 (by rw [show (ps_broker P N x y z nb) = _ from (((if_neg c_12).trans (if_neg c_26)).trans (if_pos c_36))]; first | rfl | exact if_pos ⟨rfl, rfl⟩ | skip) (by rw [show (ps_broker P N x y z nb) = _ from (((if_neg c_12).trans (if_neg c_26)).trans (if_pos c_36))]; first | rfl | exact if_pos ⟨rfl, rfl⟩ | skip)
  · refine hq_iconst (y := 1) C dX6_broker_15 (by decide) ?_
    refine hq_goto (tgt := 57) C dX6_broker_16 (by decide) ?_
    refine hq_cVr (As := [.int _]) (rm := rX6_goesWell) (f := 26) (Nc := 1) C (m_X6_goesWell) wv_X6_goesWell ml_X6_124 rfl rfl rfl Nat.one_pos rfl rfl rfl rfl ⟨Nat.le_of_ble_eq_true rfl, Nat.le_of_ble_eq_true rfl⟩ (Nat.le_of_ble_eq_true rfl) ⟨Nat.le_of_ble_eq_true rfl, Nat.le_of_ble_eq_true rfl⟩ dX6_broker_57 ?_
    refine hq_if_ne (tgt := 65) C dX6_broker_60 (by decide) (fun c_60 => absurd c_60 (by decide)) (fun _ => ?_)
    refine hq_iconst (y := 0) C dX6_broker_63 (by decide) ?_
    exact hq_iret C hr hlk dX6_broker_64 (by rw [show (ps_broker P N x y z nb) = _ from (if_pos c_12)]; first | rfl | exact if_pos ⟨rfl, rfl⟩ | skip) (by rw [show (ps_broker P N x y z nb) = _ from (if_pos c_12)]; first | rfl | exact if_pos ⟨rfl, rfl⟩ | skip)
def ps_rate (P : MI) (N : MJ) (x y : Int32) : Int32 × MI × MJ := if sx_in x 0 (P 0 0 - 1) = 0 then (0, uI P 40 0 1, N) else if sx_in y 0 100 = 0 then (0, uI P 40 0 2, N) else (P 6 (tn x), uI (uI P 40 0 0) 6 (tn x) y, N)
set_option maxHeartbeats 4000000 in
set_option maxRecDepth 100000 in
theorem m_X6_rate {l : Launch} {D : va_G} {b0 : Nat} {I : MI} {J : MJ} {P : MI} {N : MJ} {o : Int64} {x y : Int32} {nb no nc : Nat} (h : pv_iv P nb no nc) : hM l yX6_rate cX6_rate 5 (some .int) rX6_rate D b0 [.ref (hw_ad b0 26 0), .int x, .int y] I J P N o (some (.int (ps_rate P N x y).1)) I J (ps_rate P N x y).2.1 (ps_rate P N x y).2.2 o := by
  have hnb := h.1.2
  have hno := h.2.1.2
  have hnc := h.2.2.1.2
  have hbc := h.1.1
  have hoc := h.2.1.1
  have hcc := h.2.2.1.1
  refine hw_Mof (by decide) [(0, .ref _), (1, .int _), (2, .int _)] rfl (Nat.le_of_ble_eq_true rfl) ?_
  intro p e s m args below meth c C hr hlk hnm
  refine hq_aload_n (q := 0) C dX6_rate_0 rfl rfl ?_
  refine hq_iload_n (q := 1) C dX6_rate_1 rfl rfl ?_
  refine hq_cVr (As := [.int _]) (rm := rX6_isBroker) (f := 26) (Nc := 1) C (m_X6_isBroker) wv_X6_isBroker ml_X6_120 rfl rfl rfl Nat.one_pos rfl rfl rfl rfl ⟨Nat.le_of_ble_eq_true rfl, Nat.le_of_ble_eq_true rfl⟩ (Nat.le_of_ble_eq_true rfl) ⟨Nat.le_of_ble_eq_true rfl, Nat.le_of_ble_eq_true rfl⟩ dX6_rate_2 ?_
  refine hq_istore_n (L' := [(3, .int _), (0, .ref _), (1, .int _), (2, .int _)]) C dX6_rate_5 rfl (by decide) rfl ?_
  refine hq_aload_n (q := 1) C dX6_rate_6 rfl rfl ?_
  refine hq_iload_n (q := 0) C dX6_rate_7 rfl rfl ?_
  refine hq_if_ne (tgt := 15) C dX6_rate_8 (by decide) (fun c_8 => ?_) (fun c_8 => ?_)
  · refine hq_iload_n (q := 3) C dX6_rate_15 rfl rfl ?_
    refine hq_iconst (y := 0) C dX6_rate_16 (by decide) ?_
    refine hq_bipush (y := 100) C dX6_rate_17 (by decide) ?_
    refine hq_cSr (As := [.int _, .int _, .int _]) (rm := rX6_in) (Cn := "") C (m_X6_in) ws_X6_in ml_X6_116 rfl rfl rfl rfl ⟨Nat.le_of_ble_eq_true rfl, Nat.le_of_ble_eq_true rfl⟩ (Nat.le_of_ble_eq_true rfl) ⟨Nat.le_of_ble_eq_true rfl, Nat.le_of_ble_eq_true rfl⟩ dX6_rate_19 ?_
    refine hq_if_eq (tgt := 29) C dX6_rate_22 (by decide) (fun c_22 => ?_) (fun c_22 => ?_)
    · refine hq_iconst (y := 2) C dX6_rate_29 (by decide) ?_
      refine hq_cVr (As := [.int _]) (rm := rX6_goesWell) (f := 26) (Nc := 1) C (m_X6_goesWell) wv_X6_goesWell ml_X6_124 rfl rfl rfl Nat.one_pos rfl rfl rfl rfl ⟨Nat.le_of_ble_eq_true rfl, Nat.le_of_ble_eq_true rfl⟩ (Nat.le_of_ble_eq_true rfl) ⟨Nat.le_of_ble_eq_true rfl, Nat.le_of_ble_eq_true rfl⟩ dX6_rate_30 ?_
      refine hq_if_ne (tgt := 38) C dX6_rate_33 (by decide) (fun c_33 => absurd c_33 (by decide)) (fun _ => ?_)
      refine hq_iconst (y := 0) C dX6_rate_36 (by decide) ?_
      exact hq_iret C hr hlk dX6_rate_37 (by rw [show (ps_rate P N x y) = _ from ((if_neg c_8).trans (if_pos c_22))]; first | rfl | exact if_pos ⟨rfl, rfl⟩ | skip) (by rw [show (ps_rate P N x y) = _ from ((if_neg c_8).trans (if_pos c_22))]; first | rfl | exact if_pos ⟨rfl, rfl⟩ | skip)
    · refine hq_iconst (y := 0) C dX6_rate_25 (by decide) ?_
      refine hq_goto (tgt := 30) C dX6_rate_26 (by decide) ?_
      refine hq_cVr (As := [.int _]) (rm := rX6_goesWell) (f := 26) (Nc := 1) C (m_X6_goesWell) wv_X6_goesWell ml_X6_124 rfl rfl rfl Nat.one_pos rfl rfl rfl rfl ⟨Nat.le_of_ble_eq_true rfl, Nat.le_of_ble_eq_true rfl⟩ (Nat.le_of_ble_eq_true rfl) ⟨Nat.le_of_ble_eq_true rfl, Nat.le_of_ble_eq_true rfl⟩ dX6_rate_30 ?_
      refine hq_if_ne (tgt := 38) C dX6_rate_33 (by decide) (fun _ => ?_) (fun c_33 => absurd c_33 (by decide))
      obtain ⟨hx, hxb⟩ := in_n hbc (by omega) c_8
      refine hq_aload_n (q := 1) C dX6_rate_38 rfl rfl ?_
      refine hq_getR (f := 26) (g := 29) (Nc := 1) (Ns := 38) C fr_X6_17 dX6_rate_39 rfl rfl rfl rfl rfl (by decide) Nat.one_pos ?_
      refine hq_iload_n (q := 2) C dX6_rate_42 rfl rfl ?_
      refine hq_ialdP0 (f := 29) (a := tn x) (g := 6) (Nc := 1) (Ns := 12) C dX6_rate_43 rfl rfl rfl rfl rfl rfl hx (by omega) Nat.one_pos ?_
      refine hq_istore (L' := [(4, .int _), (3, .int _), (0, .ref _), (1, .int _), (2, .int _)]) C dX6_rate_44 (by decide) rfl ?_
      refine hq_aload_n (q := 2) C dX6_rate_46 rfl rfl ?_
      refine hq_getR (f := 26) (g := 29) (Nc := 1) (Ns := 38) C fr_X6_17 dX6_rate_47 rfl rfl rfl rfl rfl (by decide) Nat.one_pos ?_
      refine hq_iload_n (q := 3) C dX6_rate_50 rfl rfl ?_
      refine hq_iload_n (q := 4) C dX6_rate_51 rfl rfl ?_
      refine hq_iastP0 (f := 29) (a := tn x) (g := 6) (Nc := 1) (Ns := 12) C dX6_rate_52 rfl rfl rfl rfl rfl rfl hx (by omega) Nat.one_pos ?_
      refine hq_iload (q := 0) C dX6_rate_53 rfl ?_
      exact hq_iret C hr hlk dX6_rate_55 (by rw [show (ps_rate P N x y) = _ from ((if_neg c_8).trans (if_neg c_22))]; first | rfl | exact if_pos ⟨rfl, rfl⟩ | skip) (by rw [show (ps_rate P N x y) = _ from ((if_neg c_8).trans (if_neg c_22))]; first | rfl | exact if_pos ⟨rfl, rfl⟩ | skip)
  · refine hq_iconst (y := 1) C dX6_rate_11 (by decide) ?_
    refine hq_goto (tgt := 30) C dX6_rate_12 (by decide) ?_
    refine hq_cVr (As := [.int _]) (rm := rX6_goesWell) (f := 26) (Nc := 1) C (m_X6_goesWell) wv_X6_goesWell ml_X6_124 rfl rfl rfl Nat.one_pos rfl rfl rfl rfl ⟨Nat.le_of_ble_eq_true rfl, Nat.le_of_ble_eq_true rfl⟩ (Nat.le_of_ble_eq_true rfl) ⟨Nat.le_of_ble_eq_true rfl, Nat.le_of_ble_eq_true rfl⟩ dX6_rate_30 ?_
    refine hq_if_ne (tgt := 38) C dX6_rate_33 (by decide) (fun c_33 => absurd c_33 (by decide)) (fun _ => ?_)
    refine hq_iconst (y := 0) C dX6_rate_36 (by decide) ?_
    exact hq_iret C hr hlk dX6_rate_37 (by rw [show (ps_rate P N x y) = _ from (if_pos c_8)]; first | rfl | exact if_pos ⟨rfl, rfl⟩ | skip) (by rw [show (ps_rate P N x y) = _ from (if_pos c_8)]; first | rfl | exact if_pos ⟨rfl, rfl⟩ | skip)
def ps_trust (P : MI) (N : MJ) (x y z w : Int32) : MI × MJ := if sx_br2 P x y = 0 then (uI P 40 0 1, N) else if x = y then (uI P 40 0 2, N) else if sx_in z 0 1000000 = 0 then (uI P 40 0 2, N) else (uI (uI (uI P 40 0 0) 10 (12 * tn x + tn y) z) 11 (12 * tn x + tn y) w, N)
set_option maxHeartbeats 4000000 in
set_option maxRecDepth 100000 in
theorem m_X6_trust {l : Launch} {D : va_G} {b0 : Nat} {I : MI} {J : MJ} {P : MI} {N : MJ} {o : Int64} {x y z w : Int32} (hw : hw_bo w) {nb no nc : Nat} (h : pv_iv P nb no nc) : hM l yX6_trust cX6_trust 6 none rX6_trust D b0 [.ref (hw_ad b0 26 0), .int x, .int y, .int z, .int w] I J P N o none I J (ps_trust P N x y z w).1 (ps_trust P N x y z w).2 o := by
  have hnb := h.1.2
  have hno := h.2.1.2
  have hnc := h.2.2.1.2
  have hbc := h.1.1
  have hoc := h.2.1.1
  have hcc := h.2.2.1.1
  refine hw_Mof (by decide) [(0, .ref _), (1, .int _), (2, .int _), (3, .int _), (4, .int _)] rfl (Nat.le_of_ble_eq_true rfl) ?_
  intro p e s m args below meth c C hr hlk hnm
  refine hq_aload_n (q := 0) C dX6_trust_0 rfl rfl ?_
  refine hq_iload_n (q := 1) C dX6_trust_1 rfl rfl ?_
  refine hq_iload_n (q := 2) C dX6_trust_2 rfl rfl ?_
  refine hq_cVr (As := [.int _, .int _]) (rm := rX6_areBrokers) (f := 26) (Nc := 1) C (m_X6_areBrokers) wv_X6_areBrokers ml_X6_127 rfl rfl rfl Nat.one_pos rfl rfl rfl rfl ⟨Nat.le_of_ble_eq_true rfl, Nat.le_of_ble_eq_true rfl⟩ (Nat.le_of_ble_eq_true rfl) ⟨Nat.le_of_ble_eq_true rfl, Nat.le_of_ble_eq_true rfl⟩ dX6_trust_3 ?_
  refine hq_istore (L' := [(5, .int _), (0, .ref _), (1, .int _), (2, .int _), (3, .int _), (4, .int _)]) C dX6_trust_6 (by decide) rfl ?_
  refine hq_aload_n (q := 1) C dX6_trust_8 rfl rfl ?_
  refine hq_iload (q := 0) C dX6_trust_9 rfl ?_
  refine hq_if_ne (tgt := 18) C dX6_trust_11 (by decide) (fun c_11 => ?_) (fun c_11 => ?_)
  · refine hq_iload_n (q := 2) C dX6_trust_18 rfl rfl ?_
    refine hq_iload_n (q := 3) C dX6_trust_19 rfl rfl ?_
    refine hq_icmp_eq (tgt := 37) C dX6_trust_20 (by decide) (fun c_20 => ?_) (fun c_20 => ?_)
    · refine hq_iconst (y := 2) C dX6_trust_37 (by decide) ?_
      refine hq_cVr (As := [.int _]) (rm := rX6_goesWell) (f := 26) (Nc := 1) C (m_X6_goesWell) wv_X6_goesWell ml_X6_124 rfl rfl rfl Nat.one_pos rfl rfl rfl rfl ⟨Nat.le_of_ble_eq_true rfl, Nat.le_of_ble_eq_true rfl⟩ (Nat.le_of_ble_eq_true rfl) ⟨Nat.le_of_ble_eq_true rfl, Nat.le_of_ble_eq_true rfl⟩ dX6_trust_38 ?_
      refine hq_if_eq (tgt := 69) C dX6_trust_41 (by decide) (fun _ => ?_) (fun c_41 => absurd c_41 (by decide))
      exact hq_vret C hr hlk dX6_trust_69 (by rw [show (ps_trust P N x y z w) = _ from ((if_neg c_11).trans (if_pos c_20))]; first | rfl | exact if_pos ⟨rfl, rfl⟩ | skip)
    · refine hq_iload_n (q := 4) C dX6_trust_23 rfl rfl ?_
      refine hq_iconst (y := 0) C dX6_trust_24 (by decide) ?_
      refine hq_ldc C wc_X6_87 dX6_trust_25 ?_
      refine hq_cSr (As := [.int _, .int _, .int _]) (rm := rX6_in) (Cn := "") C (m_X6_in) ws_X6_in ml_X6_116 rfl rfl rfl rfl ⟨Nat.le_of_ble_eq_true rfl, Nat.le_of_ble_eq_true rfl⟩ (Nat.le_of_ble_eq_true rfl) ⟨Nat.le_of_ble_eq_true rfl, Nat.le_of_ble_eq_true rfl⟩ dX6_trust_27 ?_
      refine hq_if_eq (tgt := 37) C dX6_trust_30 (by decide) (fun c_30 => ?_) (fun c_30 => ?_)
      · refine hq_iconst (y := 2) C dX6_trust_37 (by decide) ?_
        refine hq_cVr (As := [.int _]) (rm := rX6_goesWell) (f := 26) (Nc := 1) C (m_X6_goesWell) wv_X6_goesWell ml_X6_124 rfl rfl rfl Nat.one_pos rfl rfl rfl rfl ⟨Nat.le_of_ble_eq_true rfl, Nat.le_of_ble_eq_true rfl⟩ (Nat.le_of_ble_eq_true rfl) ⟨Nat.le_of_ble_eq_true rfl, Nat.le_of_ble_eq_true rfl⟩ dX6_trust_38 ?_
        refine hq_if_eq (tgt := 69) C dX6_trust_41 (by decide) (fun _ => ?_) (fun c_41 => absurd c_41 (by decide))
        exact hq_vret C hr hlk dX6_trust_69 (by rw [show (ps_trust P N x y z w) = _ from (((if_neg c_11).trans (if_neg c_20)).trans (if_pos c_30))]; first | rfl | exact if_pos ⟨rfl, rfl⟩ | skip)
      · refine hq_iconst (y := 0) C dX6_trust_33 (by decide) ?_
        refine hq_goto (tgt := 38) C dX6_trust_34 (by decide) ?_
        refine hq_cVr (As := [.int _]) (rm := rX6_goesWell) (f := 26) (Nc := 1) C (m_X6_goesWell) wv_X6_goesWell ml_X6_124 rfl rfl rfl Nat.one_pos rfl rfl rfl rfl ⟨Nat.le_of_ble_eq_true rfl, Nat.le_of_ble_eq_true rfl⟩ (Nat.le_of_ble_eq_true rfl) ⟨Nat.le_of_ble_eq_true rfl, Nat.le_of_ble_eq_true rfl⟩ dX6_trust_38 ?_
        refine hq_if_eq (tgt := 69) C dX6_trust_41 (by decide) (fun c_41 => absurd c_41 (by decide)) (fun _ => ?_)
        obtain ⟨⟨hx, hxb⟩, hy, hyb⟩ := br2_n hbc (by omega) c_11
        refine hq_aload_n (q := 1) C dX6_trust_44 rfl rfl ?_
        refine hq_getR (f := 26) (g := 33) (Nc := 1) (Ns := 38) C fr_X6_30 dX6_trust_45 rfl rfl rfl rfl rfl (by decide) Nat.one_pos ?_
        refine hq_bipush (y := 12) C dX6_trust_48 (by decide) ?_
        refine hq_iload_n (q := 2) C dX6_trust_50 rfl rfl ?_
        refine hq_imul C dX6_trust_51 ?_
        refine hq_iload_n (q := 3) C dX6_trust_52 rfl rfl ?_
        refine hq_iadd C dX6_trust_53 ?_
        refine hq_iload_n (q := 4) C dX6_trust_54 rfl rfl ?_
        refine hq_iastP0 (f := 33) (a := 12 * tn x + tn y) (g := 10) (Nc := 1) (Ns := 144) C dX6_trust_55 rfl rfl rfl rfl rfl rfl (ix12 hx hy) (by omega) Nat.one_pos ?_
        refine hq_aload_n (q := 1) C dX6_trust_56 rfl rfl ?_
        refine hq_getR (f := 26) (g := 34) (Nc := 1) (Ns := 38) C fr_X6_33 dX6_trust_57 rfl rfl rfl rfl rfl (by decide) Nat.one_pos ?_
        refine hq_bipush (y := 12) C dX6_trust_60 (by decide) ?_
        refine hq_iload_n (q := 2) C dX6_trust_62 rfl rfl ?_
        refine hq_imul C dX6_trust_63 ?_
        refine hq_iload_n (q := 3) C dX6_trust_64 rfl rfl ?_
        refine hq_iadd C dX6_trust_65 ?_
        refine hq_iload (q := 5) C dX6_trust_66 rfl ?_
        refine hq_zastP0 (f := 34) (a := 12 * tn x + tn y) (g := 11) (Nc := 1) (Ns := 144) C dX6_trust_68 rfl rfl rfl rfl rfl rfl (ix12 hx hy) (by omega) Nat.one_pos (hw_bon hw) ?_
        exact hq_vret C hr hlk dX6_trust_69 (by rw [show (ps_trust P N x y z w) = _ from (((if_neg c_11).trans (if_neg c_20)).trans (if_neg c_30))]; first | rfl | exact if_pos ⟨rfl, rfl⟩ | skip)
  · refine hq_iconst (y := 1) C dX6_trust_14 (by decide) ?_
    refine hq_goto (tgt := 38) C dX6_trust_15 (by decide) ?_
    refine hq_cVr (As := [.int _]) (rm := rX6_goesWell) (f := 26) (Nc := 1) C (m_X6_goesWell) wv_X6_goesWell ml_X6_124 rfl rfl rfl Nat.one_pos rfl rfl rfl rfl ⟨Nat.le_of_ble_eq_true rfl, Nat.le_of_ble_eq_true rfl⟩ (Nat.le_of_ble_eq_true rfl) ⟨Nat.le_of_ble_eq_true rfl, Nat.le_of_ble_eq_true rfl⟩ dX6_trust_38 ?_
    refine hq_if_eq (tgt := 69) C dX6_trust_41 (by decide) (fun _ => ?_) (fun c_41 => absurd c_41 (by decide))
    exact hq_vret C hr hlk dX6_trust_69 (by rw [show (ps_trust P N x y z w) = _ from (if_pos c_11)]; first | rfl | exact if_pos ⟨rfl, rfl⟩ | skip)
def ps_both (N : MJ) (a b : Nat) (x : Int64) : MJ := pf_owe (pf_owe (pf_owe (pf_owe N 1 a b x) 1 b a (-x)) 2 a b x) 2 b a (-x)
def pj_pay (N : MJ) (x y z : Int32) : MJ := ps_both (uJ (uJ N 0 (tn x) (N 0 (tn x) - z.toInt64)) 0 (tn y) (uJ N 0 (tn x) (N 0 (tn x) - z.toInt64) 0 (tn y) + z.toInt64)) (tn x) (tn y) (-z).toInt64
def ps_pay (P : MI) (N : MJ) (x y z : Int32) : Int32 × MI × MJ := if sx_br2 P x y = 0 then (0, uI P 40 0 1, N) else if x = y then (0, uI P 40 0 2, N) else if sx_in z 1 1000000 = 0 then (0, uI P 40 0 2, N) else if ¬ P 7 (tn x) = 0 then (0, uI P 40 0 3, N) else if ¬ P 7 (tn y) = 0 then (0, uI P 40 0 3, N) else if lg_cmp (N 1 (12 * tn x + tn y)) z.toInt64 < 0 then (0, uI P 40 0 3, N) else if lg_cmp (N 0 (tn x)) z.toInt64 < 0 then (0, uI P 40 0 3, N) else ((pj_pay N x y z 1 (12 * tn x + tn y)).toInt32, uI P 40 0 0, pj_pay N x y z)
set_option maxHeartbeats 4000000 in
set_option maxRecDepth 100000 in
theorem m_X6_pay {l : Launch} {D : va_G} {b0 : Nat} {I : MI} {J : MJ} {P : MI} {N : MJ} {o : Int64} {x y z : Int32} {nb no nc : Nat} (h : pv_iv P nb no nc) : hM l yX6_pay cX6_pay 7 (some .int) rX6_pay D b0 [.ref (hw_ad b0 26 0), .int x, .int y, .int z] I J P N o (some (.int (ps_pay P N x y z).1)) I J (ps_pay P N x y z).2.1 (ps_pay P N x y z).2.2 o := by
  have hnb := h.1.2
  have hno := h.2.1.2
  have hnc := h.2.2.1.2
  have hbc := h.1.1
  have hoc := h.2.1.1
  have hcc := h.2.2.1.1
  refine hw_Mof (by decide) [(0, .ref _), (1, .int _), (2, .int _), (3, .int _)] rfl (Nat.le_of_ble_eq_true rfl) ?_
  intro p e s m args below meth c C hr hlk hnm
  refine hq_aload_n (q := 0) C dX6_pay_0 rfl rfl ?_
  refine hq_iload_n (q := 1) C dX6_pay_1 rfl rfl ?_
  refine hq_iload_n (q := 2) C dX6_pay_2 rfl rfl ?_
  refine hq_cVr (As := [.int _, .int _]) (rm := rX6_areBrokers) (f := 26) (Nc := 1) C (m_X6_areBrokers) wv_X6_areBrokers ml_X6_127 rfl rfl rfl Nat.one_pos rfl rfl rfl rfl ⟨Nat.le_of_ble_eq_true rfl, Nat.le_of_ble_eq_true rfl⟩ (Nat.le_of_ble_eq_true rfl) ⟨Nat.le_of_ble_eq_true rfl, Nat.le_of_ble_eq_true rfl⟩ dX6_pay_3 ?_
  refine hq_istore (L' := [(4, .int _), (0, .ref _), (1, .int _), (2, .int _), (3, .int _)]) C dX6_pay_6 (by decide) rfl ?_
  refine hq_iload_n (q := 2) C dX6_pay_8 rfl rfl ?_
  refine hq_iload_n (q := 3) C dX6_pay_9 rfl rfl ?_
  refine hq_icmp_eq (tgt := 27) C dX6_pay_10 (by decide) (fun c_10 => ?_) (fun c_10 => ?_)
  · refine hq_iconst (y := 0) C dX6_pay_27 (by decide) ?_
    refine hq_istore (L' := [(5, .int _), (4, .int _), (0, .ref _), (1, .int _), (2, .int _), (3, .int _)]) C dX6_pay_28 (by decide) rfl ?_
    refine hq_iload (q := 1) C dX6_pay_30 rfl ?_
    refine hq_if_eq (tgt := 86) C dX6_pay_32 (by decide) (fun c_32 => ?_) (fun c_32 => ?_)
    · refine hq_iconst (y := 0) C dX6_pay_86 (by decide) ?_
      refine hq_istore (L' := [(6, .int _), (5, .int _), (4, .int _), (0, .ref _), (1, .int _), (2, .int _), (3, .int _)]) C dX6_pay_87 (by decide) rfl ?_
      refine hq_aload_n (q := 3) C dX6_pay_89 rfl rfl ?_
      refine hq_iload (q := 2) C dX6_pay_90 rfl ?_
      refine hq_if_ne (tgt := 99) C dX6_pay_92 (by decide) (fun c_92 => absurd c_32 c_92) (fun c_92 => ?_)
      refine hq_iconst (y := 1) C dX6_pay_95 (by decide) ?_
      refine hq_goto (tgt := 118) C dX6_pay_96 (by decide) ?_
      refine hq_cVr (As := [.int _]) (rm := rX6_goesWell) (f := 26) (Nc := 1) C (m_X6_goesWell) wv_X6_goesWell ml_X6_124 rfl rfl rfl Nat.one_pos rfl rfl rfl rfl ⟨Nat.le_of_ble_eq_true rfl, Nat.le_of_ble_eq_true rfl⟩ (Nat.le_of_ble_eq_true rfl) ⟨Nat.le_of_ble_eq_true rfl, Nat.le_of_ble_eq_true rfl⟩ dX6_pay_118 ?_
      refine hq_if_ne (tgt := 126) C dX6_pay_121 (by decide) (fun c_121 => absurd c_121 (by decide)) (fun _ => ?_)
      refine hq_iconst (y := 0) C dX6_pay_124 (by decide) ?_
      exact hq_iret C hr hlk dX6_pay_125 (by rw [show (ps_pay P N x y z) = _ from (if_pos c_32)]; first | rfl | exact if_pos ⟨rfl, rfl⟩ | skip) (by rw [show (ps_pay P N x y z) = _ from (if_pos c_32)]; first | rfl | exact if_pos ⟨rfl, rfl⟩ | skip)
    · obtain ⟨⟨hx, hxb⟩, hy, hyb⟩ := br2_n hbc (by omega) c_32
      refine hq_aload_n (q := 2) C dX6_pay_35 rfl rfl ?_
      refine hq_getR (f := 26) (g := 30) (Nc := 1) (Ns := 38) C fr_X6_20 dX6_pay_36 rfl rfl rfl rfl rfl (by decide) Nat.one_pos ?_
      refine hq_iload_n (q := 3) C dX6_pay_39 rfl rfl ?_
      refine hq_ialdP0 (f := 30) (a := tn x) (g := 7) (Nc := 1) (Ns := 12) C dX6_pay_40 rfl rfl rfl rfl rfl rfl hx (by omega) Nat.one_pos ?_
      refine hq_if_ne (tgt := 86) C dX6_pay_41 (by decide) (fun c_41 => ?_) (fun c_41 => ?_)
      · refine hq_iconst (y := 0) C dX6_pay_86 (by decide) ?_
        refine hq_istore (L' := [(6, .int _), (5, .int _), (4, .int _), (0, .ref _), (1, .int _), (2, .int _), (3, .int _)]) C dX6_pay_87 (by decide) rfl ?_
        refine hq_aload_n (q := 3) C dX6_pay_89 rfl rfl ?_
        refine hq_iload (q := 2) C dX6_pay_90 rfl ?_
        refine hq_if_ne (tgt := 99) C dX6_pay_92 (by decide) (fun c_92 => ?_) (fun c_92 => absurd c_92 c_32)
        refine hq_iload (q := 1) C dX6_pay_99 rfl ?_
        refine hq_if_ne (tgt := 108) C dX6_pay_101 (by decide) (fun c_101 => absurd c_101 (by decide)) (fun _ => ?_)
        refine hq_iconst (y := 2) C dX6_pay_104 (by decide) ?_
        refine hq_goto (tgt := 118) C dX6_pay_105 (by decide) ?_
        refine hq_cVr (As := [.int _]) (rm := rX6_goesWell) (f := 26) (Nc := 1) C (m_X6_goesWell) wv_X6_goesWell ml_X6_124 rfl rfl rfl Nat.one_pos rfl rfl rfl rfl ⟨Nat.le_of_ble_eq_true rfl, Nat.le_of_ble_eq_true rfl⟩ (Nat.le_of_ble_eq_true rfl) ⟨Nat.le_of_ble_eq_true rfl, Nat.le_of_ble_eq_true rfl⟩ dX6_pay_118 ?_
        refine hq_if_ne (tgt := 126) C dX6_pay_121 (by decide) (fun c_121 => absurd c_121 (by decide)) (fun _ => ?_)
        refine hq_iconst (y := 0) C dX6_pay_124 (by decide) ?_
        exact hq_iret C hr hlk dX6_pay_125 (by rw [show (ps_pay P N x y z) = _ from ((if_neg c_32).trans (if_pos c_10))]; first | rfl | exact if_pos ⟨rfl, rfl⟩ | skip) (by rw [show (ps_pay P N x y z) = _ from ((if_neg c_32).trans (if_pos c_10))]; first | rfl | exact if_pos ⟨rfl, rfl⟩ | skip)
      · refine hq_aload_n (q := 2) C dX6_pay_44 rfl rfl ?_
        refine hq_getR (f := 26) (g := 30) (Nc := 1) (Ns := 38) C fr_X6_20 dX6_pay_45 rfl rfl rfl rfl rfl (by decide) Nat.one_pos ?_
        refine hq_iload_n (q := 4) C dX6_pay_48 rfl rfl ?_
        refine hq_ialdP0 (f := 30) (a := tn y) (g := 7) (Nc := 1) (Ns := 12) C dX6_pay_49 rfl rfl rfl rfl rfl rfl hy (by omega) Nat.one_pos ?_
        refine hq_if_ne (tgt := 86) C dX6_pay_50 (by decide) (fun c_50 => ?_) (fun c_50 => ?_)
        · refine hq_iconst (y := 0) C dX6_pay_86 (by decide) ?_
          refine hq_istore (L' := [(6, .int _), (5, .int _), (4, .int _), (0, .ref _), (1, .int _), (2, .int _), (3, .int _)]) C dX6_pay_87 (by decide) rfl ?_
          refine hq_aload_n (q := 3) C dX6_pay_89 rfl rfl ?_
          refine hq_iload (q := 2) C dX6_pay_90 rfl ?_
          refine hq_if_ne (tgt := 99) C dX6_pay_92 (by decide) (fun c_92 => ?_) (fun c_92 => absurd c_92 c_32)
          refine hq_iload (q := 1) C dX6_pay_99 rfl ?_
          refine hq_if_ne (tgt := 108) C dX6_pay_101 (by decide) (fun c_101 => absurd c_101 (by decide)) (fun _ => ?_)
          refine hq_iconst (y := 2) C dX6_pay_104 (by decide) ?_
          refine hq_goto (tgt := 118) C dX6_pay_105 (by decide) ?_
          refine hq_cVr (As := [.int _]) (rm := rX6_goesWell) (f := 26) (Nc := 1) C (m_X6_goesWell) wv_X6_goesWell ml_X6_124 rfl rfl rfl Nat.one_pos rfl rfl rfl rfl ⟨Nat.le_of_ble_eq_true rfl, Nat.le_of_ble_eq_true rfl⟩ (Nat.le_of_ble_eq_true rfl) ⟨Nat.le_of_ble_eq_true rfl, Nat.le_of_ble_eq_true rfl⟩ dX6_pay_118 ?_
          refine hq_if_ne (tgt := 126) C dX6_pay_121 (by decide) (fun c_121 => absurd c_121 (by decide)) (fun _ => ?_)
          refine hq_iconst (y := 0) C dX6_pay_124 (by decide) ?_
          exact hq_iret C hr hlk dX6_pay_125 (by rw [show (ps_pay P N x y z) = _ from ((if_neg c_32).trans (if_pos c_10))]; first | rfl | exact if_pos ⟨rfl, rfl⟩ | skip) (by rw [show (ps_pay P N x y z) = _ from ((if_neg c_32).trans (if_pos c_10))]; first | rfl | exact if_pos ⟨rfl, rfl⟩ | skip)
        · refine hq_aload_n (q := 2) C dX6_pay_53 rfl rfl ?_
          refine hq_getR (f := 26) (g := 35) (Nc := 1) (Ns := 38) C fr_X6_36 dX6_pay_54 rfl rfl rfl rfl rfl (by decide) Nat.one_pos ?_
          refine hq_bipush (y := 12) C dX6_pay_57 (by decide) ?_
          refine hq_iload_n (q := 3) C dX6_pay_59 rfl rfl ?_
          refine hq_imul C dX6_pay_60 ?_
          refine hq_iload_n (q := 4) C dX6_pay_61 rfl rfl ?_
          refine hq_iadd C dX6_pay_62 ?_
          refine hq_laldN0 (f := 35) (a := 12 * tn x + tn y) (g := 1) (Nc := 1) (Ns := 144) C dX6_pay_63 rfl rfl rfl rfl rfl rfl (ix12 hx hy) (by omega) Nat.one_pos ?_
          refine hq_iload_n (q := 5) C dX6_pay_64 rfl rfl ?_
          refine hq_i2l C dX6_pay_65 ?_
          refine hq_lcmp C dX6_pay_66 ?_
          refine hq_if_lt (tgt := 86) C dX6_pay_67 (by decide) (fun c_67 => ?_) (fun c_67 => ?_)
          · refine hq_iconst (y := 0) C dX6_pay_86 (by decide) ?_
            refine hq_istore (L' := [(6, .int _), (5, .int _), (4, .int _), (0, .ref _), (1, .int _), (2, .int _), (3, .int _)]) C dX6_pay_87 (by decide) rfl ?_
            refine hq_aload_n (q := 3) C dX6_pay_89 rfl rfl ?_
            refine hq_iload (q := 2) C dX6_pay_90 rfl ?_
            refine hq_if_ne (tgt := 99) C dX6_pay_92 (by decide) (fun c_92 => ?_) (fun c_92 => absurd c_92 c_32)
            refine hq_iload (q := 1) C dX6_pay_99 rfl ?_
            refine hq_if_ne (tgt := 108) C dX6_pay_101 (by decide) (fun c_101 => absurd c_101 (by decide)) (fun _ => ?_)
            refine hq_iconst (y := 2) C dX6_pay_104 (by decide) ?_
            refine hq_goto (tgt := 118) C dX6_pay_105 (by decide) ?_
            refine hq_cVr (As := [.int _]) (rm := rX6_goesWell) (f := 26) (Nc := 1) C (m_X6_goesWell) wv_X6_goesWell ml_X6_124 rfl rfl rfl Nat.one_pos rfl rfl rfl rfl ⟨Nat.le_of_ble_eq_true rfl, Nat.le_of_ble_eq_true rfl⟩ (Nat.le_of_ble_eq_true rfl) ⟨Nat.le_of_ble_eq_true rfl, Nat.le_of_ble_eq_true rfl⟩ dX6_pay_118 ?_
            refine hq_if_ne (tgt := 126) C dX6_pay_121 (by decide) (fun c_121 => absurd c_121 (by decide)) (fun _ => ?_)
            refine hq_iconst (y := 0) C dX6_pay_124 (by decide) ?_
            exact hq_iret C hr hlk dX6_pay_125 (by rw [show (ps_pay P N x y z) = _ from ((if_neg c_32).trans (if_pos c_10))]; first | rfl | exact if_pos ⟨rfl, rfl⟩ | skip) (by rw [show (ps_pay P N x y z) = _ from ((if_neg c_32).trans (if_pos c_10))]; first | rfl | exact if_pos ⟨rfl, rfl⟩ | skip)
          · refine hq_aload_n (q := 2) C dX6_pay_70 rfl rfl ?_
            refine hq_getR (f := 26) (g := 28) (Nc := 1) (Ns := 38) C fr_X6_13 dX6_pay_71 rfl rfl rfl rfl rfl (by decide) Nat.one_pos ?_
            refine hq_iload_n (q := 3) C dX6_pay_74 rfl rfl ?_
            refine hq_laldN0 (f := 28) (a := tn x) (g := 0) (Nc := 1) (Ns := 12) C dX6_pay_75 rfl rfl rfl rfl rfl rfl hx (by omega) Nat.one_pos ?_
            refine hq_iload_n (q := 5) C dX6_pay_76 rfl rfl ?_
            refine hq_i2l C dX6_pay_77 ?_
            refine hq_lcmp C dX6_pay_78 ?_
            refine hq_if_lt (tgt := 86) C dX6_pay_79 (by decide) (fun c_79 => ?_) (fun c_79 => ?_)
            · refine hq_iconst (y := 0) C dX6_pay_86 (by decide) ?_
              refine hq_istore (L' := [(6, .int _), (5, .int _), (4, .int _), (0, .ref _), (1, .int _), (2, .int _), (3, .int _)]) C dX6_pay_87 (by decide) rfl ?_
              refine hq_aload_n (q := 3) C dX6_pay_89 rfl rfl ?_
              refine hq_iload (q := 2) C dX6_pay_90 rfl ?_
              refine hq_if_ne (tgt := 99) C dX6_pay_92 (by decide) (fun c_92 => ?_) (fun c_92 => absurd c_92 c_32)
              refine hq_iload (q := 1) C dX6_pay_99 rfl ?_
              refine hq_if_ne (tgt := 108) C dX6_pay_101 (by decide) (fun c_101 => absurd c_101 (by decide)) (fun _ => ?_)
              refine hq_iconst (y := 2) C dX6_pay_104 (by decide) ?_
              refine hq_goto (tgt := 118) C dX6_pay_105 (by decide) ?_
              refine hq_cVr (As := [.int _]) (rm := rX6_goesWell) (f := 26) (Nc := 1) C (m_X6_goesWell) wv_X6_goesWell ml_X6_124 rfl rfl rfl Nat.one_pos rfl rfl rfl rfl ⟨Nat.le_of_ble_eq_true rfl, Nat.le_of_ble_eq_true rfl⟩ (Nat.le_of_ble_eq_true rfl) ⟨Nat.le_of_ble_eq_true rfl, Nat.le_of_ble_eq_true rfl⟩ dX6_pay_118 ?_
              refine hq_if_ne (tgt := 126) C dX6_pay_121 (by decide) (fun c_121 => absurd c_121 (by decide)) (fun _ => ?_)
              refine hq_iconst (y := 0) C dX6_pay_124 (by decide) ?_
              exact hq_iret C hr hlk dX6_pay_125 (by rw [show (ps_pay P N x y z) = _ from ((if_neg c_32).trans (if_pos c_10))]; first | rfl | exact if_pos ⟨rfl, rfl⟩ | skip) (by rw [show (ps_pay P N x y z) = _ from ((if_neg c_32).trans (if_pos c_10))]; first | rfl | exact if_pos ⟨rfl, rfl⟩ | skip)
            · refine hq_iconst (y := 1) C dX6_pay_82 (by decide) ?_
              refine hq_goto (tgt := 87) C dX6_pay_83 (by decide) ?_
              refine hq_istore (L' := [(6, .int _), (5, .int _), (4, .int _), (0, .ref _), (1, .int _), (2, .int _), (3, .int _)]) C dX6_pay_87 (by decide) rfl ?_
              refine hq_aload_n (q := 3) C dX6_pay_89 rfl rfl ?_
              refine hq_iload (q := 2) C dX6_pay_90 rfl ?_
              refine hq_if_ne (tgt := 99) C dX6_pay_92 (by decide) (fun c_92 => ?_) (fun c_92 => absurd c_92 c_32)
              refine hq_iload (q := 1) C dX6_pay_99 rfl ?_
              refine hq_if_ne (tgt := 108) C dX6_pay_101 (by decide) (fun c_101 => absurd c_101 (by decide)) (fun _ => ?_)
              refine hq_iconst (y := 2) C dX6_pay_104 (by decide) ?_
              refine hq_goto (tgt := 118) C dX6_pay_105 (by decide) ?_
              refine hq_cVr (As := [.int _]) (rm := rX6_goesWell) (f := 26) (Nc := 1) C (m_X6_goesWell) wv_X6_goesWell ml_X6_124 rfl rfl rfl Nat.one_pos rfl rfl rfl rfl ⟨Nat.le_of_ble_eq_true rfl, Nat.le_of_ble_eq_true rfl⟩ (Nat.le_of_ble_eq_true rfl) ⟨Nat.le_of_ble_eq_true rfl, Nat.le_of_ble_eq_true rfl⟩ dX6_pay_118 ?_
              refine hq_if_ne (tgt := 126) C dX6_pay_121 (by decide) (fun c_121 => absurd c_121 (by decide)) (fun _ => ?_)
              refine hq_iconst (y := 0) C dX6_pay_124 (by decide) ?_
              exact hq_iret C hr hlk dX6_pay_125 (by rw [show (ps_pay P N x y z) = _ from ((if_neg c_32).trans (if_pos c_10))]; first | rfl | exact if_pos ⟨rfl, rfl⟩ | skip) (by rw [show (ps_pay P N x y z) = _ from ((if_neg c_32).trans (if_pos c_10))]; first | rfl | exact if_pos ⟨rfl, rfl⟩ | skip)
  · refine hq_iload_n (q := 4) C dX6_pay_13 rfl rfl ?_
    refine hq_iconst (y := 1) C dX6_pay_14 (by decide) ?_
    refine hq_ldc C wc_X6_87 dX6_pay_15 ?_
    refine hq_cSr (As := [.int _, .int _, .int _]) (rm := rX6_in) (Cn := "") C (m_X6_in) ws_X6_in ml_X6_116 rfl rfl rfl rfl ⟨Nat.le_of_ble_eq_true rfl, Nat.le_of_ble_eq_true rfl⟩ (Nat.le_of_ble_eq_true rfl) ⟨Nat.le_of_ble_eq_true rfl, Nat.le_of_ble_eq_true rfl⟩ dX6_pay_17 ?_
    refine hq_if_eq (tgt := 27) C dX6_pay_20 (by decide) (fun c_20 => ?_) (fun c_20 => ?_)
    · refine hq_iconst (y := 0) C dX6_pay_27 (by decide) ?_
      refine hq_istore (L' := [(5, .int _), (4, .int _), (0, .ref _), (1, .int _), (2, .int _), (3, .int _)]) C dX6_pay_28 (by decide) rfl ?_
      refine hq_iload (q := 1) C dX6_pay_30 rfl ?_
      refine hq_if_eq (tgt := 86) C dX6_pay_32 (by decide) (fun c_32 => ?_) (fun c_32 => ?_)
      · refine hq_iconst (y := 0) C dX6_pay_86 (by decide) ?_
        refine hq_istore (L' := [(6, .int _), (5, .int _), (4, .int _), (0, .ref _), (1, .int _), (2, .int _), (3, .int _)]) C dX6_pay_87 (by decide) rfl ?_
        refine hq_aload_n (q := 3) C dX6_pay_89 rfl rfl ?_
        refine hq_iload (q := 2) C dX6_pay_90 rfl ?_
        refine hq_if_ne (tgt := 99) C dX6_pay_92 (by decide) (fun c_92 => absurd c_32 c_92) (fun c_92 => ?_)
        refine hq_iconst (y := 1) C dX6_pay_95 (by decide) ?_
        refine hq_goto (tgt := 118) C dX6_pay_96 (by decide) ?_
        refine hq_cVr (As := [.int _]) (rm := rX6_goesWell) (f := 26) (Nc := 1) C (m_X6_goesWell) wv_X6_goesWell ml_X6_124 rfl rfl rfl Nat.one_pos rfl rfl rfl rfl ⟨Nat.le_of_ble_eq_true rfl, Nat.le_of_ble_eq_true rfl⟩ (Nat.le_of_ble_eq_true rfl) ⟨Nat.le_of_ble_eq_true rfl, Nat.le_of_ble_eq_true rfl⟩ dX6_pay_118 ?_
        refine hq_if_ne (tgt := 126) C dX6_pay_121 (by decide) (fun c_121 => absurd c_121 (by decide)) (fun _ => ?_)
        refine hq_iconst (y := 0) C dX6_pay_124 (by decide) ?_
        exact hq_iret C hr hlk dX6_pay_125 (by rw [show (ps_pay P N x y z) = _ from (if_pos c_32)]; first | rfl | exact if_pos ⟨rfl, rfl⟩ | skip) (by rw [show (ps_pay P N x y z) = _ from (if_pos c_32)]; first | rfl | exact if_pos ⟨rfl, rfl⟩ | skip)
      · obtain ⟨⟨hx, hxb⟩, hy, hyb⟩ := br2_n hbc (by omega) c_32
        refine hq_aload_n (q := 2) C dX6_pay_35 rfl rfl ?_
        refine hq_getR (f := 26) (g := 30) (Nc := 1) (Ns := 38) C fr_X6_20 dX6_pay_36 rfl rfl rfl rfl rfl (by decide) Nat.one_pos ?_
        refine hq_iload_n (q := 3) C dX6_pay_39 rfl rfl ?_
        refine hq_ialdP0 (f := 30) (a := tn x) (g := 7) (Nc := 1) (Ns := 12) C dX6_pay_40 rfl rfl rfl rfl rfl rfl hx (by omega) Nat.one_pos ?_
        refine hq_if_ne (tgt := 86) C dX6_pay_41 (by decide) (fun c_41 => ?_) (fun c_41 => ?_)
        · refine hq_iconst (y := 0) C dX6_pay_86 (by decide) ?_
          refine hq_istore (L' := [(6, .int _), (5, .int _), (4, .int _), (0, .ref _), (1, .int _), (2, .int _), (3, .int _)]) C dX6_pay_87 (by decide) rfl ?_
          refine hq_aload_n (q := 3) C dX6_pay_89 rfl rfl ?_
          refine hq_iload (q := 2) C dX6_pay_90 rfl ?_
          refine hq_if_ne (tgt := 99) C dX6_pay_92 (by decide) (fun c_92 => ?_) (fun c_92 => absurd c_92 c_32)
          refine hq_iload (q := 1) C dX6_pay_99 rfl ?_
          refine hq_if_ne (tgt := 108) C dX6_pay_101 (by decide) (fun c_101 => absurd c_101 (by decide)) (fun _ => ?_)
          refine hq_iconst (y := 2) C dX6_pay_104 (by decide) ?_
          refine hq_goto (tgt := 118) C dX6_pay_105 (by decide) ?_
          refine hq_cVr (As := [.int _]) (rm := rX6_goesWell) (f := 26) (Nc := 1) C (m_X6_goesWell) wv_X6_goesWell ml_X6_124 rfl rfl rfl Nat.one_pos rfl rfl rfl rfl ⟨Nat.le_of_ble_eq_true rfl, Nat.le_of_ble_eq_true rfl⟩ (Nat.le_of_ble_eq_true rfl) ⟨Nat.le_of_ble_eq_true rfl, Nat.le_of_ble_eq_true rfl⟩ dX6_pay_118 ?_
          refine hq_if_ne (tgt := 126) C dX6_pay_121 (by decide) (fun c_121 => absurd c_121 (by decide)) (fun _ => ?_)
          refine hq_iconst (y := 0) C dX6_pay_124 (by decide) ?_
          exact hq_iret C hr hlk dX6_pay_125 (by rw [show (ps_pay P N x y z) = _ from (((if_neg c_32).trans (if_neg c_10)).trans (if_pos c_20))]; first | rfl | exact if_pos ⟨rfl, rfl⟩ | skip) (by rw [show (ps_pay P N x y z) = _ from (((if_neg c_32).trans (if_neg c_10)).trans (if_pos c_20))]; first | rfl | exact if_pos ⟨rfl, rfl⟩ | skip)
        · refine hq_aload_n (q := 2) C dX6_pay_44 rfl rfl ?_
          refine hq_getR (f := 26) (g := 30) (Nc := 1) (Ns := 38) C fr_X6_20 dX6_pay_45 rfl rfl rfl rfl rfl (by decide) Nat.one_pos ?_
          refine hq_iload_n (q := 4) C dX6_pay_48 rfl rfl ?_
          refine hq_ialdP0 (f := 30) (a := tn y) (g := 7) (Nc := 1) (Ns := 12) C dX6_pay_49 rfl rfl rfl rfl rfl rfl hy (by omega) Nat.one_pos ?_
          refine hq_if_ne (tgt := 86) C dX6_pay_50 (by decide) (fun c_50 => ?_) (fun c_50 => ?_)
          · refine hq_iconst (y := 0) C dX6_pay_86 (by decide) ?_
            refine hq_istore (L' := [(6, .int _), (5, .int _), (4, .int _), (0, .ref _), (1, .int _), (2, .int _), (3, .int _)]) C dX6_pay_87 (by decide) rfl ?_
            refine hq_aload_n (q := 3) C dX6_pay_89 rfl rfl ?_
            refine hq_iload (q := 2) C dX6_pay_90 rfl ?_
            refine hq_if_ne (tgt := 99) C dX6_pay_92 (by decide) (fun c_92 => ?_) (fun c_92 => absurd c_92 c_32)
            refine hq_iload (q := 1) C dX6_pay_99 rfl ?_
            refine hq_if_ne (tgt := 108) C dX6_pay_101 (by decide) (fun c_101 => absurd c_101 (by decide)) (fun _ => ?_)
            refine hq_iconst (y := 2) C dX6_pay_104 (by decide) ?_
            refine hq_goto (tgt := 118) C dX6_pay_105 (by decide) ?_
            refine hq_cVr (As := [.int _]) (rm := rX6_goesWell) (f := 26) (Nc := 1) C (m_X6_goesWell) wv_X6_goesWell ml_X6_124 rfl rfl rfl Nat.one_pos rfl rfl rfl rfl ⟨Nat.le_of_ble_eq_true rfl, Nat.le_of_ble_eq_true rfl⟩ (Nat.le_of_ble_eq_true rfl) ⟨Nat.le_of_ble_eq_true rfl, Nat.le_of_ble_eq_true rfl⟩ dX6_pay_118 ?_
            refine hq_if_ne (tgt := 126) C dX6_pay_121 (by decide) (fun c_121 => absurd c_121 (by decide)) (fun _ => ?_)
            refine hq_iconst (y := 0) C dX6_pay_124 (by decide) ?_
            exact hq_iret C hr hlk dX6_pay_125 (by rw [show (ps_pay P N x y z) = _ from (((if_neg c_32).trans (if_neg c_10)).trans (if_pos c_20))]; first | rfl | exact if_pos ⟨rfl, rfl⟩ | skip) (by rw [show (ps_pay P N x y z) = _ from (((if_neg c_32).trans (if_neg c_10)).trans (if_pos c_20))]; first | rfl | exact if_pos ⟨rfl, rfl⟩ | skip)
          · refine hq_aload_n (q := 2) C dX6_pay_53 rfl rfl ?_
            refine hq_getR (f := 26) (g := 35) (Nc := 1) (Ns := 38) C fr_X6_36 dX6_pay_54 rfl rfl rfl rfl rfl (by decide) Nat.one_pos ?_
            refine hq_bipush (y := 12) C dX6_pay_57 (by decide) ?_
            refine hq_iload_n (q := 3) C dX6_pay_59 rfl rfl ?_
            refine hq_imul C dX6_pay_60 ?_
            refine hq_iload_n (q := 4) C dX6_pay_61 rfl rfl ?_
            refine hq_iadd C dX6_pay_62 ?_
            refine hq_laldN0 (f := 35) (a := 12 * tn x + tn y) (g := 1) (Nc := 1) (Ns := 144) C dX6_pay_63 rfl rfl rfl rfl rfl rfl (ix12 hx hy) (by omega) Nat.one_pos ?_
            refine hq_iload_n (q := 5) C dX6_pay_64 rfl rfl ?_
            refine hq_i2l C dX6_pay_65 ?_
            refine hq_lcmp C dX6_pay_66 ?_
            refine hq_if_lt (tgt := 86) C dX6_pay_67 (by decide) (fun c_67 => ?_) (fun c_67 => ?_)
            · refine hq_iconst (y := 0) C dX6_pay_86 (by decide) ?_
              refine hq_istore (L' := [(6, .int _), (5, .int _), (4, .int _), (0, .ref _), (1, .int _), (2, .int _), (3, .int _)]) C dX6_pay_87 (by decide) rfl ?_
              refine hq_aload_n (q := 3) C dX6_pay_89 rfl rfl ?_
              refine hq_iload (q := 2) C dX6_pay_90 rfl ?_
              refine hq_if_ne (tgt := 99) C dX6_pay_92 (by decide) (fun c_92 => ?_) (fun c_92 => absurd c_92 c_32)
              refine hq_iload (q := 1) C dX6_pay_99 rfl ?_
              refine hq_if_ne (tgt := 108) C dX6_pay_101 (by decide) (fun c_101 => absurd c_101 (by decide)) (fun _ => ?_)
              refine hq_iconst (y := 2) C dX6_pay_104 (by decide) ?_
              refine hq_goto (tgt := 118) C dX6_pay_105 (by decide) ?_
              refine hq_cVr (As := [.int _]) (rm := rX6_goesWell) (f := 26) (Nc := 1) C (m_X6_goesWell) wv_X6_goesWell ml_X6_124 rfl rfl rfl Nat.one_pos rfl rfl rfl rfl ⟨Nat.le_of_ble_eq_true rfl, Nat.le_of_ble_eq_true rfl⟩ (Nat.le_of_ble_eq_true rfl) ⟨Nat.le_of_ble_eq_true rfl, Nat.le_of_ble_eq_true rfl⟩ dX6_pay_118 ?_
              refine hq_if_ne (tgt := 126) C dX6_pay_121 (by decide) (fun c_121 => absurd c_121 (by decide)) (fun _ => ?_)
              refine hq_iconst (y := 0) C dX6_pay_124 (by decide) ?_
              exact hq_iret C hr hlk dX6_pay_125 (by rw [show (ps_pay P N x y z) = _ from (((if_neg c_32).trans (if_neg c_10)).trans (if_pos c_20))]; first | rfl | exact if_pos ⟨rfl, rfl⟩ | skip) (by rw [show (ps_pay P N x y z) = _ from (((if_neg c_32).trans (if_neg c_10)).trans (if_pos c_20))]; first | rfl | exact if_pos ⟨rfl, rfl⟩ | skip)
            · refine hq_aload_n (q := 2) C dX6_pay_70 rfl rfl ?_
              refine hq_getR (f := 26) (g := 28) (Nc := 1) (Ns := 38) C fr_X6_13 dX6_pay_71 rfl rfl rfl rfl rfl (by decide) Nat.one_pos ?_
              refine hq_iload_n (q := 3) C dX6_pay_74 rfl rfl ?_
              refine hq_laldN0 (f := 28) (a := tn x) (g := 0) (Nc := 1) (Ns := 12) C dX6_pay_75 rfl rfl rfl rfl rfl rfl hx (by omega) Nat.one_pos ?_
              refine hq_iload_n (q := 5) C dX6_pay_76 rfl rfl ?_
              refine hq_i2l C dX6_pay_77 ?_
              refine hq_lcmp C dX6_pay_78 ?_
              refine hq_if_lt (tgt := 86) C dX6_pay_79 (by decide) (fun c_79 => ?_) (fun c_79 => ?_)
              · refine hq_iconst (y := 0) C dX6_pay_86 (by decide) ?_
                refine hq_istore (L' := [(6, .int _), (5, .int _), (4, .int _), (0, .ref _), (1, .int _), (2, .int _), (3, .int _)]) C dX6_pay_87 (by decide) rfl ?_
                refine hq_aload_n (q := 3) C dX6_pay_89 rfl rfl ?_
                refine hq_iload (q := 2) C dX6_pay_90 rfl ?_
                refine hq_if_ne (tgt := 99) C dX6_pay_92 (by decide) (fun c_92 => ?_) (fun c_92 => absurd c_92 c_32)
                refine hq_iload (q := 1) C dX6_pay_99 rfl ?_
                refine hq_if_ne (tgt := 108) C dX6_pay_101 (by decide) (fun c_101 => absurd c_101 (by decide)) (fun _ => ?_)
                refine hq_iconst (y := 2) C dX6_pay_104 (by decide) ?_
                refine hq_goto (tgt := 118) C dX6_pay_105 (by decide) ?_
                refine hq_cVr (As := [.int _]) (rm := rX6_goesWell) (f := 26) (Nc := 1) C (m_X6_goesWell) wv_X6_goesWell ml_X6_124 rfl rfl rfl Nat.one_pos rfl rfl rfl rfl ⟨Nat.le_of_ble_eq_true rfl, Nat.le_of_ble_eq_true rfl⟩ (Nat.le_of_ble_eq_true rfl) ⟨Nat.le_of_ble_eq_true rfl, Nat.le_of_ble_eq_true rfl⟩ dX6_pay_118 ?_
                refine hq_if_ne (tgt := 126) C dX6_pay_121 (by decide) (fun c_121 => absurd c_121 (by decide)) (fun _ => ?_)
                refine hq_iconst (y := 0) C dX6_pay_124 (by decide) ?_
                exact hq_iret C hr hlk dX6_pay_125 (by rw [show (ps_pay P N x y z) = _ from (((if_neg c_32).trans (if_neg c_10)).trans (if_pos c_20))]; first | rfl | exact if_pos ⟨rfl, rfl⟩ | skip) (by rw [show (ps_pay P N x y z) = _ from (((if_neg c_32).trans (if_neg c_10)).trans (if_pos c_20))]; first | rfl | exact if_pos ⟨rfl, rfl⟩ | skip)
              · refine hq_iconst (y := 1) C dX6_pay_82 (by decide) ?_
                refine hq_goto (tgt := 87) C dX6_pay_83 (by decide) ?_
                refine hq_istore (L' := [(6, .int _), (5, .int _), (4, .int _), (0, .ref _), (1, .int _), (2, .int _), (3, .int _)]) C dX6_pay_87 (by decide) rfl ?_
                refine hq_aload_n (q := 3) C dX6_pay_89 rfl rfl ?_
                refine hq_iload (q := 2) C dX6_pay_90 rfl ?_
                refine hq_if_ne (tgt := 99) C dX6_pay_92 (by decide) (fun c_92 => ?_) (fun c_92 => absurd c_92 c_32)
                refine hq_iload (q := 1) C dX6_pay_99 rfl ?_
                refine hq_if_ne (tgt := 108) C dX6_pay_101 (by decide) (fun c_101 => absurd c_101 (by decide)) (fun _ => ?_)
                refine hq_iconst (y := 2) C dX6_pay_104 (by decide) ?_
                refine hq_goto (tgt := 118) C dX6_pay_105 (by decide) ?_
                refine hq_cVr (As := [.int _]) (rm := rX6_goesWell) (f := 26) (Nc := 1) C (m_X6_goesWell) wv_X6_goesWell ml_X6_124 rfl rfl rfl Nat.one_pos rfl rfl rfl rfl ⟨Nat.le_of_ble_eq_true rfl, Nat.le_of_ble_eq_true rfl⟩ (Nat.le_of_ble_eq_true rfl) ⟨Nat.le_of_ble_eq_true rfl, Nat.le_of_ble_eq_true rfl⟩ dX6_pay_118 ?_
                refine hq_if_ne (tgt := 126) C dX6_pay_121 (by decide) (fun c_121 => absurd c_121 (by decide)) (fun _ => ?_)
                refine hq_iconst (y := 0) C dX6_pay_124 (by decide) ?_
                exact hq_iret C hr hlk dX6_pay_125 (by rw [show (ps_pay P N x y z) = _ from (((if_neg c_32).trans (if_neg c_10)).trans (if_pos c_20))]; first | rfl | exact if_pos ⟨rfl, rfl⟩ | skip) (by rw [show (ps_pay P N x y z) = _ from (((if_neg c_32).trans (if_neg c_10)).trans (if_pos c_20))]; first | rfl | exact if_pos ⟨rfl, rfl⟩ | skip)
    · refine hq_iconst (y := 1) C dX6_pay_23 (by decide) ?_
      refine hq_goto (tgt := 28) C dX6_pay_24 (by decide) ?_
      refine hq_istore (L' := [(5, .int _), (4, .int _), (0, .ref _), (1, .int _), (2, .int _), (3, .int _)]) C dX6_pay_28 (by decide) rfl ?_
      refine hq_iload (q := 1) C dX6_pay_30 rfl ?_
      refine hq_if_eq (tgt := 86) C dX6_pay_32 (by decide) (fun c_32 => ?_) (fun c_32 => ?_)
      · refine hq_iconst (y := 0) C dX6_pay_86 (by decide) ?_
        refine hq_istore (L' := [(6, .int _), (5, .int _), (4, .int _), (0, .ref _), (1, .int _), (2, .int _), (3, .int _)]) C dX6_pay_87 (by decide) rfl ?_
        refine hq_aload_n (q := 3) C dX6_pay_89 rfl rfl ?_
        refine hq_iload (q := 2) C dX6_pay_90 rfl ?_
        refine hq_if_ne (tgt := 99) C dX6_pay_92 (by decide) (fun c_92 => absurd c_32 c_92) (fun c_92 => ?_)
        refine hq_iconst (y := 1) C dX6_pay_95 (by decide) ?_
        refine hq_goto (tgt := 118) C dX6_pay_96 (by decide) ?_
        refine hq_cVr (As := [.int _]) (rm := rX6_goesWell) (f := 26) (Nc := 1) C (m_X6_goesWell) wv_X6_goesWell ml_X6_124 rfl rfl rfl Nat.one_pos rfl rfl rfl rfl ⟨Nat.le_of_ble_eq_true rfl, Nat.le_of_ble_eq_true rfl⟩ (Nat.le_of_ble_eq_true rfl) ⟨Nat.le_of_ble_eq_true rfl, Nat.le_of_ble_eq_true rfl⟩ dX6_pay_118 ?_
        refine hq_if_ne (tgt := 126) C dX6_pay_121 (by decide) (fun c_121 => absurd c_121 (by decide)) (fun _ => ?_)
        refine hq_iconst (y := 0) C dX6_pay_124 (by decide) ?_
        exact hq_iret C hr hlk dX6_pay_125 (by rw [show (ps_pay P N x y z) = _ from (if_pos c_32)]; first | rfl | exact if_pos ⟨rfl, rfl⟩ | skip) (by rw [show (ps_pay P N x y z) = _ from (if_pos c_32)]; first | rfl | exact if_pos ⟨rfl, rfl⟩ | skip)
      · obtain ⟨⟨hx, hxb⟩, hy, hyb⟩ := br2_n hbc (by omega) c_32
        refine hq_aload_n (q := 2) C dX6_pay_35 rfl rfl ?_
        refine hq_getR (f := 26) (g := 30) (Nc := 1) (Ns := 38) C fr_X6_20 dX6_pay_36 rfl rfl rfl rfl rfl (by decide) Nat.one_pos ?_
        refine hq_iload_n (q := 3) C dX6_pay_39 rfl rfl ?_
        refine hq_ialdP0 (f := 30) (a := tn x) (g := 7) (Nc := 1) (Ns := 12) C dX6_pay_40 rfl rfl rfl rfl rfl rfl hx (by omega) Nat.one_pos ?_
        refine hq_if_ne (tgt := 86) C dX6_pay_41 (by decide) (fun c_41 => ?_) (fun c_41 => ?_)
        · refine hq_iconst (y := 0) C dX6_pay_86 (by decide) ?_
          refine hq_istore (L' := [(6, .int _), (5, .int _), (4, .int _), (0, .ref _), (1, .int _), (2, .int _), (3, .int _)]) C dX6_pay_87 (by decide) rfl ?_
          refine hq_aload_n (q := 3) C dX6_pay_89 rfl rfl ?_
          refine hq_iload (q := 2) C dX6_pay_90 rfl ?_
          refine hq_if_ne (tgt := 99) C dX6_pay_92 (by decide) (fun c_92 => ?_) (fun c_92 => absurd c_92 c_32)
          refine hq_iload (q := 1) C dX6_pay_99 rfl ?_
          refine hq_if_ne (tgt := 108) C dX6_pay_101 (by decide) (fun _ => ?_) (fun c_101 => absurd c_101 (by decide))
          refine hq_iload (q := 0) C dX6_pay_108 rfl ?_
          refine hq_if_eq (tgt := 117) C dX6_pay_110 (by decide) (fun _ => ?_) (fun c_110 => absurd c_110 (by decide))
          refine hq_iconst (y := 3) C dX6_pay_117 (by decide) ?_
          refine hq_cVr (As := [.int _]) (rm := rX6_goesWell) (f := 26) (Nc := 1) C (m_X6_goesWell) wv_X6_goesWell ml_X6_124 rfl rfl rfl Nat.one_pos rfl rfl rfl rfl ⟨Nat.le_of_ble_eq_true rfl, Nat.le_of_ble_eq_true rfl⟩ (Nat.le_of_ble_eq_true rfl) ⟨Nat.le_of_ble_eq_true rfl, Nat.le_of_ble_eq_true rfl⟩ dX6_pay_118 ?_
          refine hq_if_ne (tgt := 126) C dX6_pay_121 (by decide) (fun c_121 => absurd c_121 (by decide)) (fun _ => ?_)
          refine hq_iconst (y := 0) C dX6_pay_124 (by decide) ?_
          exact hq_iret C hr hlk dX6_pay_125 (by rw [show (ps_pay P N x y z) = _ from ((((if_neg c_32).trans (if_neg c_10)).trans (if_neg c_20)).trans (if_pos c_41))]; first | rfl | exact if_pos ⟨rfl, rfl⟩ | skip) (by rw [show (ps_pay P N x y z) = _ from ((((if_neg c_32).trans (if_neg c_10)).trans (if_neg c_20)).trans (if_pos c_41))]; first | rfl | exact if_pos ⟨rfl, rfl⟩ | skip)
        · refine hq_aload_n (q := 2) C dX6_pay_44 rfl rfl ?_
          refine hq_getR (f := 26) (g := 30) (Nc := 1) (Ns := 38) C fr_X6_20 dX6_pay_45 rfl rfl rfl rfl rfl (by decide) Nat.one_pos ?_
          refine hq_iload_n (q := 4) C dX6_pay_48 rfl rfl ?_
          refine hq_ialdP0 (f := 30) (a := tn y) (g := 7) (Nc := 1) (Ns := 12) C dX6_pay_49 rfl rfl rfl rfl rfl rfl hy (by omega) Nat.one_pos ?_
          refine hq_if_ne (tgt := 86) C dX6_pay_50 (by decide) (fun c_50 => ?_) (fun c_50 => ?_)
          · refine hq_iconst (y := 0) C dX6_pay_86 (by decide) ?_
            refine hq_istore (L' := [(6, .int _), (5, .int _), (4, .int _), (0, .ref _), (1, .int _), (2, .int _), (3, .int _)]) C dX6_pay_87 (by decide) rfl ?_
            refine hq_aload_n (q := 3) C dX6_pay_89 rfl rfl ?_
            refine hq_iload (q := 2) C dX6_pay_90 rfl ?_
            refine hq_if_ne (tgt := 99) C dX6_pay_92 (by decide) (fun c_92 => ?_) (fun c_92 => absurd c_92 c_32)
            refine hq_iload (q := 1) C dX6_pay_99 rfl ?_
            refine hq_if_ne (tgt := 108) C dX6_pay_101 (by decide) (fun _ => ?_) (fun c_101 => absurd c_101 (by decide))
            refine hq_iload (q := 0) C dX6_pay_108 rfl ?_
            refine hq_if_eq (tgt := 117) C dX6_pay_110 (by decide) (fun _ => ?_) (fun c_110 => absurd c_110 (by decide))
            refine hq_iconst (y := 3) C dX6_pay_117 (by decide) ?_
            refine hq_cVr (As := [.int _]) (rm := rX6_goesWell) (f := 26) (Nc := 1) C (m_X6_goesWell) wv_X6_goesWell ml_X6_124 rfl rfl rfl Nat.one_pos rfl rfl rfl rfl ⟨Nat.le_of_ble_eq_true rfl, Nat.le_of_ble_eq_true rfl⟩ (Nat.le_of_ble_eq_true rfl) ⟨Nat.le_of_ble_eq_true rfl, Nat.le_of_ble_eq_true rfl⟩ dX6_pay_118 ?_
            refine hq_if_ne (tgt := 126) C dX6_pay_121 (by decide) (fun c_121 => absurd c_121 (by decide)) (fun _ => ?_)
            refine hq_iconst (y := 0) C dX6_pay_124 (by decide) ?_
            exact hq_iret C hr hlk dX6_pay_125 (by rw [show (ps_pay P N x y z) = _ from (((((if_neg c_32).trans (if_neg c_10)).trans (if_neg c_20)).trans (if_neg (fun z9 => z9 c_41))).trans (if_pos c_50))]; first | rfl | exact if_pos ⟨rfl, rfl⟩ | skip) (by rw [show (ps_pay P N x y z) = _ from (((((if_neg c_32).trans (if_neg c_10)).trans (if_neg c_20)).trans (if_neg (fun z9 => z9 c_41))).trans (if_pos c_50))]; first | rfl | exact if_pos ⟨rfl, rfl⟩ | skip)
          · refine hq_aload_n (q := 2) C dX6_pay_53 rfl rfl ?_
            refine hq_getR (f := 26) (g := 35) (Nc := 1) (Ns := 38) C fr_X6_36 dX6_pay_54 rfl rfl rfl rfl rfl (by decide) Nat.one_pos ?_
            refine hq_bipush (y := 12) C dX6_pay_57 (by decide) ?_
            refine hq_iload_n (q := 3) C dX6_pay_59 rfl rfl ?_
            refine hq_imul C dX6_pay_60 ?_
            refine hq_iload_n (q := 4) C dX6_pay_61 rfl rfl ?_
            refine hq_iadd C dX6_pay_62 ?_
            refine hq_laldN0 (f := 35) (a := 12 * tn x + tn y) (g := 1) (Nc := 1) (Ns := 144) C dX6_pay_63 rfl rfl rfl rfl rfl rfl (ix12 hx hy) (by omega) Nat.one_pos ?_
            refine hq_iload_n (q := 5) C dX6_pay_64 rfl rfl ?_
            refine hq_i2l C dX6_pay_65 ?_
            refine hq_lcmp C dX6_pay_66 ?_
            refine hq_if_lt (tgt := 86) C dX6_pay_67 (by decide) (fun c_67 => ?_) (fun c_67 => ?_)
            · refine hq_iconst (y := 0) C dX6_pay_86 (by decide) ?_
              refine hq_istore (L' := [(6, .int _), (5, .int _), (4, .int _), (0, .ref _), (1, .int _), (2, .int _), (3, .int _)]) C dX6_pay_87 (by decide) rfl ?_
              refine hq_aload_n (q := 3) C dX6_pay_89 rfl rfl ?_
              refine hq_iload (q := 2) C dX6_pay_90 rfl ?_
              refine hq_if_ne (tgt := 99) C dX6_pay_92 (by decide) (fun c_92 => ?_) (fun c_92 => absurd c_92 c_32)
              refine hq_iload (q := 1) C dX6_pay_99 rfl ?_
              refine hq_if_ne (tgt := 108) C dX6_pay_101 (by decide) (fun _ => ?_) (fun c_101 => absurd c_101 (by decide))
              refine hq_iload (q := 0) C dX6_pay_108 rfl ?_
              refine hq_if_eq (tgt := 117) C dX6_pay_110 (by decide) (fun _ => ?_) (fun c_110 => absurd c_110 (by decide))
              refine hq_iconst (y := 3) C dX6_pay_117 (by decide) ?_
              refine hq_cVr (As := [.int _]) (rm := rX6_goesWell) (f := 26) (Nc := 1) C (m_X6_goesWell) wv_X6_goesWell ml_X6_124 rfl rfl rfl Nat.one_pos rfl rfl rfl rfl ⟨Nat.le_of_ble_eq_true rfl, Nat.le_of_ble_eq_true rfl⟩ (Nat.le_of_ble_eq_true rfl) ⟨Nat.le_of_ble_eq_true rfl, Nat.le_of_ble_eq_true rfl⟩ dX6_pay_118 ?_
              refine hq_if_ne (tgt := 126) C dX6_pay_121 (by decide) (fun c_121 => absurd c_121 (by decide)) (fun _ => ?_)
              refine hq_iconst (y := 0) C dX6_pay_124 (by decide) ?_
              exact hq_iret C hr hlk dX6_pay_125 (by rw [show (ps_pay P N x y z) = _ from ((((((if_neg c_32).trans (if_neg c_10)).trans (if_neg c_20)).trans (if_neg (fun z9 => z9 c_41))).trans (if_neg (fun z9 => z9 c_50))).trans (if_pos c_67))]; first | rfl | exact if_pos ⟨rfl, rfl⟩ | skip) (by rw [show (ps_pay P N x y z) = _ from ((((((if_neg c_32).trans (if_neg c_10)).trans (if_neg c_20)).trans (if_neg (fun z9 => z9 c_41))).trans (if_neg (fun z9 => z9 c_50))).trans (if_pos c_67))]; first | rfl | exact if_pos ⟨rfl, rfl⟩ | skip)
            · refine hq_aload_n (q := 2) C dX6_pay_70 rfl rfl ?_
              refine hq_getR (f := 26) (g := 28) (Nc := 1) (Ns := 38) C fr_X6_13 dX6_pay_71 rfl rfl rfl rfl rfl (by decide) Nat.one_pos ?_
              refine hq_iload_n (q := 3) C dX6_pay_74 rfl rfl ?_
              refine hq_laldN0 (f := 28) (a := tn x) (g := 0) (Nc := 1) (Ns := 12) C dX6_pay_75 rfl rfl rfl rfl rfl rfl hx (by omega) Nat.one_pos ?_
              refine hq_iload_n (q := 5) C dX6_pay_76 rfl rfl ?_
              refine hq_i2l C dX6_pay_77 ?_
              refine hq_lcmp C dX6_pay_78 ?_
              refine hq_if_lt (tgt := 86) C dX6_pay_79 (by decide) (fun c_79 => ?_) (fun c_79 => ?_)
              · refine hq_iconst (y := 0) C dX6_pay_86 (by decide) ?_
                refine hq_istore (L' := [(6, .int _), (5, .int _), (4, .int _), (0, .ref _), (1, .int _), (2, .int _), (3, .int _)]) C dX6_pay_87 (by decide) rfl ?_
                refine hq_aload_n (q := 3) C dX6_pay_89 rfl rfl ?_
                refine hq_iload (q := 2) C dX6_pay_90 rfl ?_
                refine hq_if_ne (tgt := 99) C dX6_pay_92 (by decide) (fun c_92 => ?_) (fun c_92 => absurd c_92 c_32)
                refine hq_iload (q := 1) C dX6_pay_99 rfl ?_
                refine hq_if_ne (tgt := 108) C dX6_pay_101 (by decide) (fun _ => ?_) (fun c_101 => absurd c_101 (by decide))
                refine hq_iload (q := 0) C dX6_pay_108 rfl ?_
                refine hq_if_eq (tgt := 117) C dX6_pay_110 (by decide) (fun _ => ?_) (fun c_110 => absurd c_110 (by decide))
                refine hq_iconst (y := 3) C dX6_pay_117 (by decide) ?_
                refine hq_cVr (As := [.int _]) (rm := rX6_goesWell) (f := 26) (Nc := 1) C (m_X6_goesWell) wv_X6_goesWell ml_X6_124 rfl rfl rfl Nat.one_pos rfl rfl rfl rfl ⟨Nat.le_of_ble_eq_true rfl, Nat.le_of_ble_eq_true rfl⟩ (Nat.le_of_ble_eq_true rfl) ⟨Nat.le_of_ble_eq_true rfl, Nat.le_of_ble_eq_true rfl⟩ dX6_pay_118 ?_
                refine hq_if_ne (tgt := 126) C dX6_pay_121 (by decide) (fun c_121 => absurd c_121 (by decide)) (fun _ => ?_)
                refine hq_iconst (y := 0) C dX6_pay_124 (by decide) ?_
                exact hq_iret C hr hlk dX6_pay_125 (by rw [show (ps_pay P N x y z) = _ from (((((((if_neg c_32).trans (if_neg c_10)).trans (if_neg c_20)).trans (if_neg (fun z9 => z9 c_41))).trans (if_neg (fun z9 => z9 c_50))).trans (if_neg c_67)).trans (if_pos c_79))]; first | rfl | exact if_pos ⟨rfl, rfl⟩ | skip) (by rw [show (ps_pay P N x y z) = _ from (((((((if_neg c_32).trans (if_neg c_10)).trans (if_neg c_20)).trans (if_neg (fun z9 => z9 c_41))).trans (if_neg (fun z9 => z9 c_50))).trans (if_neg c_67)).trans (if_pos c_79))]; first | rfl | exact if_pos ⟨rfl, rfl⟩ | skip)
              · refine hq_iconst (y := 1) C dX6_pay_82 (by decide) ?_
                refine hq_goto (tgt := 87) C dX6_pay_83 (by decide) ?_
                refine hq_istore (L' := [(6, .int _), (5, .int _), (4, .int _), (0, .ref _), (1, .int _), (2, .int _), (3, .int _)]) C dX6_pay_87 (by decide) rfl ?_
                refine hq_aload_n (q := 3) C dX6_pay_89 rfl rfl ?_
                refine hq_iload (q := 2) C dX6_pay_90 rfl ?_
                refine hq_if_ne (tgt := 99) C dX6_pay_92 (by decide) (fun c_92 => ?_) (fun c_92 => absurd c_92 c_32)
                refine hq_iload (q := 1) C dX6_pay_99 rfl ?_
                refine hq_if_ne (tgt := 108) C dX6_pay_101 (by decide) (fun _ => ?_) (fun c_101 => absurd c_101 (by decide))
                refine hq_iload (q := 0) C dX6_pay_108 rfl ?_
                refine hq_if_eq (tgt := 117) C dX6_pay_110 (by decide) (fun c_110 => absurd c_110 (by decide)) (fun _ => ?_)
                refine hq_iconst (y := 0) C dX6_pay_113 (by decide) ?_
                refine hq_goto (tgt := 118) C dX6_pay_114 (by decide) ?_
                refine hq_cVr (As := [.int _]) (rm := rX6_goesWell) (f := 26) (Nc := 1) C (m_X6_goesWell) wv_X6_goesWell ml_X6_124 rfl rfl rfl Nat.one_pos rfl rfl rfl rfl ⟨Nat.le_of_ble_eq_true rfl, Nat.le_of_ble_eq_true rfl⟩ (Nat.le_of_ble_eq_true rfl) ⟨Nat.le_of_ble_eq_true rfl, Nat.le_of_ble_eq_true rfl⟩ dX6_pay_118 ?_
                refine hq_if_ne (tgt := 126) C dX6_pay_121 (by decide) (fun _ => ?_) (fun c_121 => absurd c_121 (by decide))
                refine hq_aload_n (q := 3) C dX6_pay_126 rfl rfl ?_
                refine hq_getR (f := 26) (g := 28) (Nc := 1) (Ns := 38) C fr_X6_13 dX6_pay_127 rfl rfl rfl rfl rfl (by decide) Nat.one_pos ?_
                refine hq_iload_n (q := 4) C dX6_pay_130 rfl rfl ?_
                refine hq_dup2 C dX6_pay_131 rfl rfl ?_
                refine hq_laldN0 (f := 28) (a := tn x) (g := 0) (Nc := 1) (Ns := 12) C dX6_pay_132 rfl rfl rfl rfl rfl rfl hx (by omega) Nat.one_pos ?_
                refine hq_iload_n (q := 6) C dX6_pay_133 rfl rfl ?_
                refine hq_i2l C dX6_pay_134 ?_
                refine hq_lsub C dX6_pay_135 ?_
                refine hq_lastN0 (f := 28) (a := tn x) (g := 0) (Nc := 1) (Ns := 12) C dX6_pay_136 rfl rfl rfl rfl rfl rfl hx (by omega) Nat.one_pos ?_
                refine hq_aload_n (q := 3) C dX6_pay_137 rfl rfl ?_
                refine hq_getR (f := 26) (g := 28) (Nc := 1) (Ns := 38) C fr_X6_13 dX6_pay_138 rfl rfl rfl rfl rfl (by decide) Nat.one_pos ?_
                refine hq_iload_n (q := 5) C dX6_pay_141 rfl rfl ?_
                refine hq_dup2 C dX6_pay_142 rfl rfl ?_
                refine hq_laldN0 (f := 28) (a := tn y) (g := 0) (Nc := 1) (Ns := 12) C dX6_pay_143 rfl rfl rfl rfl rfl rfl hy (by omega) Nat.one_pos ?_
                refine hq_iload_n (q := 6) C dX6_pay_144 rfl rfl ?_
                refine hq_i2l C dX6_pay_145 ?_
                refine hq_ladd C dX6_pay_146 ?_
                refine hq_lastN0 (f := 28) (a := tn y) (g := 0) (Nc := 1) (Ns := 12) C dX6_pay_147 rfl rfl rfl rfl rfl rfl hy (by omega) Nat.one_pos ?_
                refine hq_aload_n (q := 3) C dX6_pay_148 rfl rfl ?_
                refine hq_iload_n (q := 4) C dX6_pay_149 rfl rfl ?_
                refine hq_iload_n (q := 5) C dX6_pay_150 rfl rfl ?_
                refine hq_iload_n (q := 6) C dX6_pay_151 rfl rfl ?_
                refine hq_ineg C dX6_pay_152 ?_
                refine hq_i2l C dX6_pay_153 ?_
                refine hq_cVv (As := [.int _, .int _, .long _]) (rm := rX6_oweBoth) (f := 26) (Nc := 1) C (m_X6_oweBoth (a := tn x) (b := tn y) hx (by omega) hy (by omega)) wv_X6_oweBoth ml_X6_203 rfl rfl rfl Nat.one_pos rfl rfl rfl rfl ⟨Nat.le_of_ble_eq_true rfl, Nat.le_of_ble_eq_true rfl⟩ (Nat.le_of_ble_eq_true rfl) ⟨Nat.le_of_ble_eq_true rfl, Nat.le_of_ble_eq_true rfl⟩ dX6_pay_154 ?_
                refine hq_aload_n (q := 3) C dX6_pay_157 rfl rfl ?_
                refine hq_getR (f := 26) (g := 35) (Nc := 1) (Ns := 38) C fr_X6_36 dX6_pay_158 rfl rfl rfl rfl rfl (by decide) Nat.one_pos ?_
                refine hq_bipush (y := 12) C dX6_pay_161 (by decide) ?_
                refine hq_iload_n (q := 4) C dX6_pay_163 rfl rfl ?_
                refine hq_imul C dX6_pay_164 ?_
                refine hq_iload_n (q := 5) C dX6_pay_165 rfl rfl ?_
                refine hq_iadd C dX6_pay_166 ?_
                refine hq_laldN0 (f := 35) (a := 12 * tn x + tn y) (g := 1) (Nc := 1) (Ns := 144) C dX6_pay_167 rfl rfl rfl rfl rfl rfl (ix12 hx hy) (by omega) Nat.one_pos ?_
                refine hq_l2i C dX6_pay_168 ?_
                exact hq_iret C hr hlk dX6_pay_169 (by rw [show (ps_pay P N x y z) = _ from (((((((if_neg c_32).trans (if_neg c_10)).trans (if_neg c_20)).trans (if_neg (fun z9 => z9 c_41))).trans (if_neg (fun z9 => z9 c_50))).trans (if_neg c_67)).trans (if_neg c_79))]; first | rfl | exact if_pos ⟨rfl, rfl⟩ | skip) (by rw [show (ps_pay P N x y z) = _ from (((((((if_neg c_32).trans (if_neg c_10)).trans (if_neg c_20)).trans (if_neg (fun z9 => z9 c_41))).trans (if_neg (fun z9 => z9 c_50))).trans (if_neg c_67)).trans (if_neg c_79))]; first | rfl | exact if_pos ⟨rfl, rfl⟩ | skip)
def pj_deliver (N : MJ) (x y z : Int32) : MJ := ps_both N (tn x) (tn y) (-z).toInt64
def ps_deliver (P : MI) (N : MJ) (x y z : Int32) : Int32 × MI × MJ := if sx_br2 P x y = 0 then (0, uI P 40 0 1, N) else if x = y then (0, uI P 40 0 2, N) else if sx_in z 1 1000000 = 0 then (0, uI P 40 0 2, N) else if P 7 (tn x) = 2 then (0, uI P 40 0 3, N) else if P 7 (tn y) = 2 then (0, uI P 40 0 3, N) else if lg_cmp (N 1 (12 * tn x + tn y)) z.toInt64 < 0 then (0, uI P 40 0 3, N) else ((pj_deliver N x y z 1 (12 * tn x + tn y)).toInt32, uI P 40 0 0, pj_deliver N x y z)
set_option maxHeartbeats 4000000 in
set_option maxRecDepth 100000 in
theorem m_X6_deliver {l : Launch} {D : va_G} {b0 : Nat} {I : MI} {J : MJ} {P : MI} {N : MJ} {o : Int64} {x y z : Int32} {nb no nc : Nat} (h : pv_iv P nb no nc) : hM l yX6_deliver cX6_deliver 7 (some .int) rX6_deliver D b0 [.ref (hw_ad b0 26 0), .int x, .int y, .int z] I J P N o (some (.int (ps_deliver P N x y z).1)) I J (ps_deliver P N x y z).2.1 (ps_deliver P N x y z).2.2 o := by
  have hnb := h.1.2
  have hno := h.2.1.2
  have hnc := h.2.2.1.2
  have hbc := h.1.1
  have hoc := h.2.1.1
  have hcc := h.2.2.1.1
  refine hw_Mof (by decide) [(0, .ref _), (1, .int _), (2, .int _), (3, .int _)] rfl (Nat.le_of_ble_eq_true rfl) ?_
  intro p e s m args below meth c C hr hlk hnm
  refine hq_aload_n (q := 0) C dX6_deliver_0 rfl rfl ?_
  refine hq_iload_n (q := 1) C dX6_deliver_1 rfl rfl ?_
  refine hq_iload_n (q := 2) C dX6_deliver_2 rfl rfl ?_
  refine hq_cVr (As := [.int _, .int _]) (rm := rX6_areBrokers) (f := 26) (Nc := 1) C (m_X6_areBrokers) wv_X6_areBrokers ml_X6_127 rfl rfl rfl Nat.one_pos rfl rfl rfl rfl ⟨Nat.le_of_ble_eq_true rfl, Nat.le_of_ble_eq_true rfl⟩ (Nat.le_of_ble_eq_true rfl) ⟨Nat.le_of_ble_eq_true rfl, Nat.le_of_ble_eq_true rfl⟩ dX6_deliver_3 ?_
  refine hq_istore (L' := [(4, .int _), (0, .ref _), (1, .int _), (2, .int _), (3, .int _)]) C dX6_deliver_6 (by decide) rfl ?_
  refine hq_iload_n (q := 2) C dX6_deliver_8 rfl rfl ?_
  refine hq_iload_n (q := 3) C dX6_deliver_9 rfl rfl ?_
  refine hq_icmp_eq (tgt := 27) C dX6_deliver_10 (by decide) (fun c_10 => ?_) (fun c_10 => ?_)
  · refine hq_iconst (y := 0) C dX6_deliver_27 (by decide) ?_
    refine hq_istore (L' := [(5, .int _), (4, .int _), (0, .ref _), (1, .int _), (2, .int _), (3, .int _)]) C dX6_deliver_28 (by decide) rfl ?_
    refine hq_iload (q := 1) C dX6_deliver_30 rfl ?_
    refine hq_if_eq (tgt := 76) C dX6_deliver_32 (by decide) (fun c_32 => ?_) (fun c_32 => ?_)
    · refine hq_iconst (y := 0) C dX6_deliver_76 (by decide) ?_
      refine hq_istore (L' := [(6, .int _), (5, .int _), (4, .int _), (0, .ref _), (1, .int _), (2, .int _), (3, .int _)]) C dX6_deliver_77 (by decide) rfl ?_
      refine hq_aload_n (q := 3) C dX6_deliver_79 rfl rfl ?_
      refine hq_iload (q := 2) C dX6_deliver_80 rfl ?_
      refine hq_if_ne (tgt := 89) C dX6_deliver_82 (by decide) (fun c_82 => absurd c_32 c_82) (fun c_82 => ?_)
      refine hq_iconst (y := 1) C dX6_deliver_85 (by decide) ?_
      refine hq_goto (tgt := 108) C dX6_deliver_86 (by decide) ?_
      refine hq_cVr (As := [.int _]) (rm := rX6_goesWell) (f := 26) (Nc := 1) C (m_X6_goesWell) wv_X6_goesWell ml_X6_124 rfl rfl rfl Nat.one_pos rfl rfl rfl rfl ⟨Nat.le_of_ble_eq_true rfl, Nat.le_of_ble_eq_true rfl⟩ (Nat.le_of_ble_eq_true rfl) ⟨Nat.le_of_ble_eq_true rfl, Nat.le_of_ble_eq_true rfl⟩ dX6_deliver_108 ?_
      refine hq_if_ne (tgt := 116) C dX6_deliver_111 (by decide) (fun c_111 => absurd c_111 (by decide)) (fun _ => ?_)
      refine hq_iconst (y := 0) C dX6_deliver_114 (by decide) ?_
      exact hq_iret C hr hlk dX6_deliver_115 (by rw [show (ps_deliver P N x y z) = _ from (if_pos c_32)]; first | rfl | exact if_pos ⟨rfl, rfl⟩ | skip) (by rw [show (ps_deliver P N x y z) = _ from (if_pos c_32)]; first | rfl | exact if_pos ⟨rfl, rfl⟩ | skip)
    · obtain ⟨⟨hx, hxb⟩, hy, hyb⟩ := br2_n hbc (by omega) c_32
      refine hq_aload_n (q := 2) C dX6_deliver_35 rfl rfl ?_
      refine hq_getR (f := 26) (g := 30) (Nc := 1) (Ns := 38) C fr_X6_20 dX6_deliver_36 rfl rfl rfl rfl rfl (by decide) Nat.one_pos ?_
      refine hq_iload_n (q := 3) C dX6_deliver_39 rfl rfl ?_
      refine hq_ialdP0 (f := 30) (a := tn x) (g := 7) (Nc := 1) (Ns := 12) C dX6_deliver_40 rfl rfl rfl rfl rfl rfl hx (by omega) Nat.one_pos ?_
      refine hq_iconst (y := 2) C dX6_deliver_41 (by decide) ?_
      refine hq_icmp_eq (tgt := 76) C dX6_deliver_42 (by decide) (fun c_42 => ?_) (fun c_42 => ?_)
      · refine hq_iconst (y := 0) C dX6_deliver_76 (by decide) ?_
        refine hq_istore (L' := [(6, .int _), (5, .int _), (4, .int _), (0, .ref _), (1, .int _), (2, .int _), (3, .int _)]) C dX6_deliver_77 (by decide) rfl ?_
        refine hq_aload_n (q := 3) C dX6_deliver_79 rfl rfl ?_
        refine hq_iload (q := 2) C dX6_deliver_80 rfl ?_
        refine hq_if_ne (tgt := 89) C dX6_deliver_82 (by decide) (fun c_82 => ?_) (fun c_82 => absurd c_82 c_32)
        refine hq_iload (q := 1) C dX6_deliver_89 rfl ?_
        refine hq_if_ne (tgt := 98) C dX6_deliver_91 (by decide) (fun c_91 => absurd c_91 (by decide)) (fun _ => ?_)
        refine hq_iconst (y := 2) C dX6_deliver_94 (by decide) ?_
        refine hq_goto (tgt := 108) C dX6_deliver_95 (by decide) ?_
        refine hq_cVr (As := [.int _]) (rm := rX6_goesWell) (f := 26) (Nc := 1) C (m_X6_goesWell) wv_X6_goesWell ml_X6_124 rfl rfl rfl Nat.one_pos rfl rfl rfl rfl ⟨Nat.le_of_ble_eq_true rfl, Nat.le_of_ble_eq_true rfl⟩ (Nat.le_of_ble_eq_true rfl) ⟨Nat.le_of_ble_eq_true rfl, Nat.le_of_ble_eq_true rfl⟩ dX6_deliver_108 ?_
        refine hq_if_ne (tgt := 116) C dX6_deliver_111 (by decide) (fun c_111 => absurd c_111 (by decide)) (fun _ => ?_)
        refine hq_iconst (y := 0) C dX6_deliver_114 (by decide) ?_
        exact hq_iret C hr hlk dX6_deliver_115 (by rw [show (ps_deliver P N x y z) = _ from ((if_neg c_32).trans (if_pos c_10))]; first | rfl | exact if_pos ⟨rfl, rfl⟩ | skip) (by rw [show (ps_deliver P N x y z) = _ from ((if_neg c_32).trans (if_pos c_10))]; first | rfl | exact if_pos ⟨rfl, rfl⟩ | skip)
      · refine hq_aload_n (q := 2) C dX6_deliver_45 rfl rfl ?_
        refine hq_getR (f := 26) (g := 30) (Nc := 1) (Ns := 38) C fr_X6_20 dX6_deliver_46 rfl rfl rfl rfl rfl (by decide) Nat.one_pos ?_
        refine hq_iload_n (q := 4) C dX6_deliver_49 rfl rfl ?_
        refine hq_ialdP0 (f := 30) (a := tn y) (g := 7) (Nc := 1) (Ns := 12) C dX6_deliver_50 rfl rfl rfl rfl rfl rfl hy (by omega) Nat.one_pos ?_
        refine hq_iconst (y := 2) C dX6_deliver_51 (by decide) ?_
        refine hq_icmp_eq (tgt := 76) C dX6_deliver_52 (by decide) (fun c_52 => ?_) (fun c_52 => ?_)
        · refine hq_iconst (y := 0) C dX6_deliver_76 (by decide) ?_
          refine hq_istore (L' := [(6, .int _), (5, .int _), (4, .int _), (0, .ref _), (1, .int _), (2, .int _), (3, .int _)]) C dX6_deliver_77 (by decide) rfl ?_
          refine hq_aload_n (q := 3) C dX6_deliver_79 rfl rfl ?_
          refine hq_iload (q := 2) C dX6_deliver_80 rfl ?_
          refine hq_if_ne (tgt := 89) C dX6_deliver_82 (by decide) (fun c_82 => ?_) (fun c_82 => absurd c_82 c_32)
          refine hq_iload (q := 1) C dX6_deliver_89 rfl ?_
          refine hq_if_ne (tgt := 98) C dX6_deliver_91 (by decide) (fun c_91 => absurd c_91 (by decide)) (fun _ => ?_)
          refine hq_iconst (y := 2) C dX6_deliver_94 (by decide) ?_
          refine hq_goto (tgt := 108) C dX6_deliver_95 (by decide) ?_
          refine hq_cVr (As := [.int _]) (rm := rX6_goesWell) (f := 26) (Nc := 1) C (m_X6_goesWell) wv_X6_goesWell ml_X6_124 rfl rfl rfl Nat.one_pos rfl rfl rfl rfl ⟨Nat.le_of_ble_eq_true rfl, Nat.le_of_ble_eq_true rfl⟩ (Nat.le_of_ble_eq_true rfl) ⟨Nat.le_of_ble_eq_true rfl, Nat.le_of_ble_eq_true rfl⟩ dX6_deliver_108 ?_
          refine hq_if_ne (tgt := 116) C dX6_deliver_111 (by decide) (fun c_111 => absurd c_111 (by decide)) (fun _ => ?_)
          refine hq_iconst (y := 0) C dX6_deliver_114 (by decide) ?_
          exact hq_iret C hr hlk dX6_deliver_115 (by rw [show (ps_deliver P N x y z) = _ from ((if_neg c_32).trans (if_pos c_10))]; first | rfl | exact if_pos ⟨rfl, rfl⟩ | skip) (by rw [show (ps_deliver P N x y z) = _ from ((if_neg c_32).trans (if_pos c_10))]; first | rfl | exact if_pos ⟨rfl, rfl⟩ | skip)
        · refine hq_aload_n (q := 2) C dX6_deliver_55 rfl rfl ?_
          refine hq_getR (f := 26) (g := 35) (Nc := 1) (Ns := 38) C fr_X6_36 dX6_deliver_56 rfl rfl rfl rfl rfl (by decide) Nat.one_pos ?_
          refine hq_bipush (y := 12) C dX6_deliver_59 (by decide) ?_
          refine hq_iload_n (q := 3) C dX6_deliver_61 rfl rfl ?_
          refine hq_imul C dX6_deliver_62 ?_
          refine hq_iload_n (q := 4) C dX6_deliver_63 rfl rfl ?_
          refine hq_iadd C dX6_deliver_64 ?_
          refine hq_laldN0 (f := 35) (a := 12 * tn x + tn y) (g := 1) (Nc := 1) (Ns := 144) C dX6_deliver_65 rfl rfl rfl rfl rfl rfl (ix12 hx hy) (by omega) Nat.one_pos ?_
          refine hq_iload_n (q := 5) C dX6_deliver_66 rfl rfl ?_
          refine hq_i2l C dX6_deliver_67 ?_
          refine hq_lcmp C dX6_deliver_68 ?_
          refine hq_if_lt (tgt := 76) C dX6_deliver_69 (by decide) (fun c_69 => ?_) (fun c_69 => ?_)
          · refine hq_iconst (y := 0) C dX6_deliver_76 (by decide) ?_
            refine hq_istore (L' := [(6, .int _), (5, .int _), (4, .int _), (0, .ref _), (1, .int _), (2, .int _), (3, .int _)]) C dX6_deliver_77 (by decide) rfl ?_
            refine hq_aload_n (q := 3) C dX6_deliver_79 rfl rfl ?_
            refine hq_iload (q := 2) C dX6_deliver_80 rfl ?_
            refine hq_if_ne (tgt := 89) C dX6_deliver_82 (by decide) (fun c_82 => ?_) (fun c_82 => absurd c_82 c_32)
            refine hq_iload (q := 1) C dX6_deliver_89 rfl ?_
            refine hq_if_ne (tgt := 98) C dX6_deliver_91 (by decide) (fun c_91 => absurd c_91 (by decide)) (fun _ => ?_)
            refine hq_iconst (y := 2) C dX6_deliver_94 (by decide) ?_
            refine hq_goto (tgt := 108) C dX6_deliver_95 (by decide) ?_
            refine hq_cVr (As := [.int _]) (rm := rX6_goesWell) (f := 26) (Nc := 1) C (m_X6_goesWell) wv_X6_goesWell ml_X6_124 rfl rfl rfl Nat.one_pos rfl rfl rfl rfl ⟨Nat.le_of_ble_eq_true rfl, Nat.le_of_ble_eq_true rfl⟩ (Nat.le_of_ble_eq_true rfl) ⟨Nat.le_of_ble_eq_true rfl, Nat.le_of_ble_eq_true rfl⟩ dX6_deliver_108 ?_
            refine hq_if_ne (tgt := 116) C dX6_deliver_111 (by decide) (fun c_111 => absurd c_111 (by decide)) (fun _ => ?_)
            refine hq_iconst (y := 0) C dX6_deliver_114 (by decide) ?_
            exact hq_iret C hr hlk dX6_deliver_115 (by rw [show (ps_deliver P N x y z) = _ from ((if_neg c_32).trans (if_pos c_10))]; first | rfl | exact if_pos ⟨rfl, rfl⟩ | skip) (by rw [show (ps_deliver P N x y z) = _ from ((if_neg c_32).trans (if_pos c_10))]; first | rfl | exact if_pos ⟨rfl, rfl⟩ | skip)
          · refine hq_iconst (y := 1) C dX6_deliver_72 (by decide) ?_
            refine hq_goto (tgt := 77) C dX6_deliver_73 (by decide) ?_
            refine hq_istore (L' := [(6, .int _), (5, .int _), (4, .int _), (0, .ref _), (1, .int _), (2, .int _), (3, .int _)]) C dX6_deliver_77 (by decide) rfl ?_
            refine hq_aload_n (q := 3) C dX6_deliver_79 rfl rfl ?_
            refine hq_iload (q := 2) C dX6_deliver_80 rfl ?_
            refine hq_if_ne (tgt := 89) C dX6_deliver_82 (by decide) (fun c_82 => ?_) (fun c_82 => absurd c_82 c_32)
            refine hq_iload (q := 1) C dX6_deliver_89 rfl ?_
            refine hq_if_ne (tgt := 98) C dX6_deliver_91 (by decide) (fun c_91 => absurd c_91 (by decide)) (fun _ => ?_)
            refine hq_iconst (y := 2) C dX6_deliver_94 (by decide) ?_
            refine hq_goto (tgt := 108) C dX6_deliver_95 (by decide) ?_
            refine hq_cVr (As := [.int _]) (rm := rX6_goesWell) (f := 26) (Nc := 1) C (m_X6_goesWell) wv_X6_goesWell ml_X6_124 rfl rfl rfl Nat.one_pos rfl rfl rfl rfl ⟨Nat.le_of_ble_eq_true rfl, Nat.le_of_ble_eq_true rfl⟩ (Nat.le_of_ble_eq_true rfl) ⟨Nat.le_of_ble_eq_true rfl, Nat.le_of_ble_eq_true rfl⟩ dX6_deliver_108 ?_
            refine hq_if_ne (tgt := 116) C dX6_deliver_111 (by decide) (fun c_111 => absurd c_111 (by decide)) (fun _ => ?_)
            refine hq_iconst (y := 0) C dX6_deliver_114 (by decide) ?_
            exact hq_iret C hr hlk dX6_deliver_115 (by rw [show (ps_deliver P N x y z) = _ from ((if_neg c_32).trans (if_pos c_10))]; first | rfl | exact if_pos ⟨rfl, rfl⟩ | skip) (by rw [show (ps_deliver P N x y z) = _ from ((if_neg c_32).trans (if_pos c_10))]; first | rfl | exact if_pos ⟨rfl, rfl⟩ | skip)
  · refine hq_iload_n (q := 4) C dX6_deliver_13 rfl rfl ?_
    refine hq_iconst (y := 1) C dX6_deliver_14 (by decide) ?_
    refine hq_ldc C wc_X6_87 dX6_deliver_15 ?_
    refine hq_cSr (As := [.int _, .int _, .int _]) (rm := rX6_in) (Cn := "") C (m_X6_in) ws_X6_in ml_X6_116 rfl rfl rfl rfl ⟨Nat.le_of_ble_eq_true rfl, Nat.le_of_ble_eq_true rfl⟩ (Nat.le_of_ble_eq_true rfl) ⟨Nat.le_of_ble_eq_true rfl, Nat.le_of_ble_eq_true rfl⟩ dX6_deliver_17 ?_
    refine hq_if_eq (tgt := 27) C dX6_deliver_20 (by decide) (fun c_20 => ?_) (fun c_20 => ?_)
    · refine hq_iconst (y := 0) C dX6_deliver_27 (by decide) ?_
      refine hq_istore (L' := [(5, .int _), (4, .int _), (0, .ref _), (1, .int _), (2, .int _), (3, .int _)]) C dX6_deliver_28 (by decide) rfl ?_
      refine hq_iload (q := 1) C dX6_deliver_30 rfl ?_
      refine hq_if_eq (tgt := 76) C dX6_deliver_32 (by decide) (fun c_32 => ?_) (fun c_32 => ?_)
      · refine hq_iconst (y := 0) C dX6_deliver_76 (by decide) ?_
        refine hq_istore (L' := [(6, .int _), (5, .int _), (4, .int _), (0, .ref _), (1, .int _), (2, .int _), (3, .int _)]) C dX6_deliver_77 (by decide) rfl ?_
        refine hq_aload_n (q := 3) C dX6_deliver_79 rfl rfl ?_
        refine hq_iload (q := 2) C dX6_deliver_80 rfl ?_
        refine hq_if_ne (tgt := 89) C dX6_deliver_82 (by decide) (fun c_82 => absurd c_32 c_82) (fun c_82 => ?_)
        refine hq_iconst (y := 1) C dX6_deliver_85 (by decide) ?_
        refine hq_goto (tgt := 108) C dX6_deliver_86 (by decide) ?_
        refine hq_cVr (As := [.int _]) (rm := rX6_goesWell) (f := 26) (Nc := 1) C (m_X6_goesWell) wv_X6_goesWell ml_X6_124 rfl rfl rfl Nat.one_pos rfl rfl rfl rfl ⟨Nat.le_of_ble_eq_true rfl, Nat.le_of_ble_eq_true rfl⟩ (Nat.le_of_ble_eq_true rfl) ⟨Nat.le_of_ble_eq_true rfl, Nat.le_of_ble_eq_true rfl⟩ dX6_deliver_108 ?_
        refine hq_if_ne (tgt := 116) C dX6_deliver_111 (by decide) (fun c_111 => absurd c_111 (by decide)) (fun _ => ?_)
        refine hq_iconst (y := 0) C dX6_deliver_114 (by decide) ?_
        exact hq_iret C hr hlk dX6_deliver_115 (by rw [show (ps_deliver P N x y z) = _ from (if_pos c_32)]; first | rfl | exact if_pos ⟨rfl, rfl⟩ | skip) (by rw [show (ps_deliver P N x y z) = _ from (if_pos c_32)]; first | rfl | exact if_pos ⟨rfl, rfl⟩ | skip)
      · obtain ⟨⟨hx, hxb⟩, hy, hyb⟩ := br2_n hbc (by omega) c_32
        refine hq_aload_n (q := 2) C dX6_deliver_35 rfl rfl ?_
        refine hq_getR (f := 26) (g := 30) (Nc := 1) (Ns := 38) C fr_X6_20 dX6_deliver_36 rfl rfl rfl rfl rfl (by decide) Nat.one_pos ?_
        refine hq_iload_n (q := 3) C dX6_deliver_39 rfl rfl ?_
        refine hq_ialdP0 (f := 30) (a := tn x) (g := 7) (Nc := 1) (Ns := 12) C dX6_deliver_40 rfl rfl rfl rfl rfl rfl hx (by omega) Nat.one_pos ?_
        refine hq_iconst (y := 2) C dX6_deliver_41 (by decide) ?_
        refine hq_icmp_eq (tgt := 76) C dX6_deliver_42 (by decide) (fun c_42 => ?_) (fun c_42 => ?_)
        · refine hq_iconst (y := 0) C dX6_deliver_76 (by decide) ?_
          refine hq_istore (L' := [(6, .int _), (5, .int _), (4, .int _), (0, .ref _), (1, .int _), (2, .int _), (3, .int _)]) C dX6_deliver_77 (by decide) rfl ?_
          refine hq_aload_n (q := 3) C dX6_deliver_79 rfl rfl ?_
          refine hq_iload (q := 2) C dX6_deliver_80 rfl ?_
          refine hq_if_ne (tgt := 89) C dX6_deliver_82 (by decide) (fun c_82 => ?_) (fun c_82 => absurd c_82 c_32)
          refine hq_iload (q := 1) C dX6_deliver_89 rfl ?_
          refine hq_if_ne (tgt := 98) C dX6_deliver_91 (by decide) (fun c_91 => absurd c_91 (by decide)) (fun _ => ?_)
          refine hq_iconst (y := 2) C dX6_deliver_94 (by decide) ?_
          refine hq_goto (tgt := 108) C dX6_deliver_95 (by decide) ?_
          refine hq_cVr (As := [.int _]) (rm := rX6_goesWell) (f := 26) (Nc := 1) C (m_X6_goesWell) wv_X6_goesWell ml_X6_124 rfl rfl rfl Nat.one_pos rfl rfl rfl rfl ⟨Nat.le_of_ble_eq_true rfl, Nat.le_of_ble_eq_true rfl⟩ (Nat.le_of_ble_eq_true rfl) ⟨Nat.le_of_ble_eq_true rfl, Nat.le_of_ble_eq_true rfl⟩ dX6_deliver_108 ?_
          refine hq_if_ne (tgt := 116) C dX6_deliver_111 (by decide) (fun c_111 => absurd c_111 (by decide)) (fun _ => ?_)
          refine hq_iconst (y := 0) C dX6_deliver_114 (by decide) ?_
          exact hq_iret C hr hlk dX6_deliver_115 (by rw [show (ps_deliver P N x y z) = _ from (((if_neg c_32).trans (if_neg c_10)).trans (if_pos c_20))]; first | rfl | exact if_pos ⟨rfl, rfl⟩ | skip) (by rw [show (ps_deliver P N x y z) = _ from (((if_neg c_32).trans (if_neg c_10)).trans (if_pos c_20))]; first | rfl | exact if_pos ⟨rfl, rfl⟩ | skip)
        · refine hq_aload_n (q := 2) C dX6_deliver_45 rfl rfl ?_
          refine hq_getR (f := 26) (g := 30) (Nc := 1) (Ns := 38) C fr_X6_20 dX6_deliver_46 rfl rfl rfl rfl rfl (by decide) Nat.one_pos ?_
          refine hq_iload_n (q := 4) C dX6_deliver_49 rfl rfl ?_
          refine hq_ialdP0 (f := 30) (a := tn y) (g := 7) (Nc := 1) (Ns := 12) C dX6_deliver_50 rfl rfl rfl rfl rfl rfl hy (by omega) Nat.one_pos ?_
          refine hq_iconst (y := 2) C dX6_deliver_51 (by decide) ?_
          refine hq_icmp_eq (tgt := 76) C dX6_deliver_52 (by decide) (fun c_52 => ?_) (fun c_52 => ?_)
          · refine hq_iconst (y := 0) C dX6_deliver_76 (by decide) ?_
            refine hq_istore (L' := [(6, .int _), (5, .int _), (4, .int _), (0, .ref _), (1, .int _), (2, .int _), (3, .int _)]) C dX6_deliver_77 (by decide) rfl ?_
            refine hq_aload_n (q := 3) C dX6_deliver_79 rfl rfl ?_
            refine hq_iload (q := 2) C dX6_deliver_80 rfl ?_
            refine hq_if_ne (tgt := 89) C dX6_deliver_82 (by decide) (fun c_82 => ?_) (fun c_82 => absurd c_82 c_32)
            refine hq_iload (q := 1) C dX6_deliver_89 rfl ?_
            refine hq_if_ne (tgt := 98) C dX6_deliver_91 (by decide) (fun c_91 => absurd c_91 (by decide)) (fun _ => ?_)
            refine hq_iconst (y := 2) C dX6_deliver_94 (by decide) ?_
            refine hq_goto (tgt := 108) C dX6_deliver_95 (by decide) ?_
            refine hq_cVr (As := [.int _]) (rm := rX6_goesWell) (f := 26) (Nc := 1) C (m_X6_goesWell) wv_X6_goesWell ml_X6_124 rfl rfl rfl Nat.one_pos rfl rfl rfl rfl ⟨Nat.le_of_ble_eq_true rfl, Nat.le_of_ble_eq_true rfl⟩ (Nat.le_of_ble_eq_true rfl) ⟨Nat.le_of_ble_eq_true rfl, Nat.le_of_ble_eq_true rfl⟩ dX6_deliver_108 ?_
            refine hq_if_ne (tgt := 116) C dX6_deliver_111 (by decide) (fun c_111 => absurd c_111 (by decide)) (fun _ => ?_)
            refine hq_iconst (y := 0) C dX6_deliver_114 (by decide) ?_
            exact hq_iret C hr hlk dX6_deliver_115 (by rw [show (ps_deliver P N x y z) = _ from (((if_neg c_32).trans (if_neg c_10)).trans (if_pos c_20))]; first | rfl | exact if_pos ⟨rfl, rfl⟩ | skip) (by rw [show (ps_deliver P N x y z) = _ from (((if_neg c_32).trans (if_neg c_10)).trans (if_pos c_20))]; first | rfl | exact if_pos ⟨rfl, rfl⟩ | skip)
          · refine hq_aload_n (q := 2) C dX6_deliver_55 rfl rfl ?_
            refine hq_getR (f := 26) (g := 35) (Nc := 1) (Ns := 38) C fr_X6_36 dX6_deliver_56 rfl rfl rfl rfl rfl (by decide) Nat.one_pos ?_
            refine hq_bipush (y := 12) C dX6_deliver_59 (by decide) ?_
            refine hq_iload_n (q := 3) C dX6_deliver_61 rfl rfl ?_
            refine hq_imul C dX6_deliver_62 ?_
            refine hq_iload_n (q := 4) C dX6_deliver_63 rfl rfl ?_
            refine hq_iadd C dX6_deliver_64 ?_
            refine hq_laldN0 (f := 35) (a := 12 * tn x + tn y) (g := 1) (Nc := 1) (Ns := 144) C dX6_deliver_65 rfl rfl rfl rfl rfl rfl (ix12 hx hy) (by omega) Nat.one_pos ?_
            refine hq_iload_n (q := 5) C dX6_deliver_66 rfl rfl ?_
            refine hq_i2l C dX6_deliver_67 ?_
            refine hq_lcmp C dX6_deliver_68 ?_
            refine hq_if_lt (tgt := 76) C dX6_deliver_69 (by decide) (fun c_69 => ?_) (fun c_69 => ?_)
            · refine hq_iconst (y := 0) C dX6_deliver_76 (by decide) ?_
              refine hq_istore (L' := [(6, .int _), (5, .int _), (4, .int _), (0, .ref _), (1, .int _), (2, .int _), (3, .int _)]) C dX6_deliver_77 (by decide) rfl ?_
              refine hq_aload_n (q := 3) C dX6_deliver_79 rfl rfl ?_
              refine hq_iload (q := 2) C dX6_deliver_80 rfl ?_
              refine hq_if_ne (tgt := 89) C dX6_deliver_82 (by decide) (fun c_82 => ?_) (fun c_82 => absurd c_82 c_32)
              refine hq_iload (q := 1) C dX6_deliver_89 rfl ?_
              refine hq_if_ne (tgt := 98) C dX6_deliver_91 (by decide) (fun c_91 => absurd c_91 (by decide)) (fun _ => ?_)
              refine hq_iconst (y := 2) C dX6_deliver_94 (by decide) ?_
              refine hq_goto (tgt := 108) C dX6_deliver_95 (by decide) ?_
              refine hq_cVr (As := [.int _]) (rm := rX6_goesWell) (f := 26) (Nc := 1) C (m_X6_goesWell) wv_X6_goesWell ml_X6_124 rfl rfl rfl Nat.one_pos rfl rfl rfl rfl ⟨Nat.le_of_ble_eq_true rfl, Nat.le_of_ble_eq_true rfl⟩ (Nat.le_of_ble_eq_true rfl) ⟨Nat.le_of_ble_eq_true rfl, Nat.le_of_ble_eq_true rfl⟩ dX6_deliver_108 ?_
              refine hq_if_ne (tgt := 116) C dX6_deliver_111 (by decide) (fun c_111 => absurd c_111 (by decide)) (fun _ => ?_)
              refine hq_iconst (y := 0) C dX6_deliver_114 (by decide) ?_
              exact hq_iret C hr hlk dX6_deliver_115 (by rw [show (ps_deliver P N x y z) = _ from (((if_neg c_32).trans (if_neg c_10)).trans (if_pos c_20))]; first | rfl | exact if_pos ⟨rfl, rfl⟩ | skip) (by rw [show (ps_deliver P N x y z) = _ from (((if_neg c_32).trans (if_neg c_10)).trans (if_pos c_20))]; first | rfl | exact if_pos ⟨rfl, rfl⟩ | skip)
            · refine hq_iconst (y := 1) C dX6_deliver_72 (by decide) ?_
              refine hq_goto (tgt := 77) C dX6_deliver_73 (by decide) ?_
              refine hq_istore (L' := [(6, .int _), (5, .int _), (4, .int _), (0, .ref _), (1, .int _), (2, .int _), (3, .int _)]) C dX6_deliver_77 (by decide) rfl ?_
              refine hq_aload_n (q := 3) C dX6_deliver_79 rfl rfl ?_
              refine hq_iload (q := 2) C dX6_deliver_80 rfl ?_
              refine hq_if_ne (tgt := 89) C dX6_deliver_82 (by decide) (fun c_82 => ?_) (fun c_82 => absurd c_82 c_32)
              refine hq_iload (q := 1) C dX6_deliver_89 rfl ?_
              refine hq_if_ne (tgt := 98) C dX6_deliver_91 (by decide) (fun c_91 => absurd c_91 (by decide)) (fun _ => ?_)
              refine hq_iconst (y := 2) C dX6_deliver_94 (by decide) ?_
              refine hq_goto (tgt := 108) C dX6_deliver_95 (by decide) ?_
              refine hq_cVr (As := [.int _]) (rm := rX6_goesWell) (f := 26) (Nc := 1) C (m_X6_goesWell) wv_X6_goesWell ml_X6_124 rfl rfl rfl Nat.one_pos rfl rfl rfl rfl ⟨Nat.le_of_ble_eq_true rfl, Nat.le_of_ble_eq_true rfl⟩ (Nat.le_of_ble_eq_true rfl) ⟨Nat.le_of_ble_eq_true rfl, Nat.le_of_ble_eq_true rfl⟩ dX6_deliver_108 ?_
              refine hq_if_ne (tgt := 116) C dX6_deliver_111 (by decide) (fun c_111 => absurd c_111 (by decide)) (fun _ => ?_)
              refine hq_iconst (y := 0) C dX6_deliver_114 (by decide) ?_
              exact hq_iret C hr hlk dX6_deliver_115 (by rw [show (ps_deliver P N x y z) = _ from (((if_neg c_32).trans (if_neg c_10)).trans (if_pos c_20))]; first | rfl | exact if_pos ⟨rfl, rfl⟩ | skip) (by rw [show (ps_deliver P N x y z) = _ from (((if_neg c_32).trans (if_neg c_10)).trans (if_pos c_20))]; first | rfl | exact if_pos ⟨rfl, rfl⟩ | skip)
    · refine hq_iconst (y := 1) C dX6_deliver_23 (by decide) ?_
      refine hq_goto (tgt := 28) C dX6_deliver_24 (by decide) ?_
      refine hq_istore (L' := [(5, .int _), (4, .int _), (0, .ref _), (1, .int _), (2, .int _), (3, .int _)]) C dX6_deliver_28 (by decide) rfl ?_
      refine hq_iload (q := 1) C dX6_deliver_30 rfl ?_
      refine hq_if_eq (tgt := 76) C dX6_deliver_32 (by decide) (fun c_32 => ?_) (fun c_32 => ?_)
      · refine hq_iconst (y := 0) C dX6_deliver_76 (by decide) ?_
        refine hq_istore (L' := [(6, .int _), (5, .int _), (4, .int _), (0, .ref _), (1, .int _), (2, .int _), (3, .int _)]) C dX6_deliver_77 (by decide) rfl ?_
        refine hq_aload_n (q := 3) C dX6_deliver_79 rfl rfl ?_
        refine hq_iload (q := 2) C dX6_deliver_80 rfl ?_
        refine hq_if_ne (tgt := 89) C dX6_deliver_82 (by decide) (fun c_82 => absurd c_32 c_82) (fun c_82 => ?_)
        refine hq_iconst (y := 1) C dX6_deliver_85 (by decide) ?_
        refine hq_goto (tgt := 108) C dX6_deliver_86 (by decide) ?_
        refine hq_cVr (As := [.int _]) (rm := rX6_goesWell) (f := 26) (Nc := 1) C (m_X6_goesWell) wv_X6_goesWell ml_X6_124 rfl rfl rfl Nat.one_pos rfl rfl rfl rfl ⟨Nat.le_of_ble_eq_true rfl, Nat.le_of_ble_eq_true rfl⟩ (Nat.le_of_ble_eq_true rfl) ⟨Nat.le_of_ble_eq_true rfl, Nat.le_of_ble_eq_true rfl⟩ dX6_deliver_108 ?_
        refine hq_if_ne (tgt := 116) C dX6_deliver_111 (by decide) (fun c_111 => absurd c_111 (by decide)) (fun _ => ?_)
        refine hq_iconst (y := 0) C dX6_deliver_114 (by decide) ?_
        exact hq_iret C hr hlk dX6_deliver_115 (by rw [show (ps_deliver P N x y z) = _ from (if_pos c_32)]; first | rfl | exact if_pos ⟨rfl, rfl⟩ | skip) (by rw [show (ps_deliver P N x y z) = _ from (if_pos c_32)]; first | rfl | exact if_pos ⟨rfl, rfl⟩ | skip)
      · obtain ⟨⟨hx, hxb⟩, hy, hyb⟩ := br2_n hbc (by omega) c_32
        refine hq_aload_n (q := 2) C dX6_deliver_35 rfl rfl ?_
        refine hq_getR (f := 26) (g := 30) (Nc := 1) (Ns := 38) C fr_X6_20 dX6_deliver_36 rfl rfl rfl rfl rfl (by decide) Nat.one_pos ?_
        refine hq_iload_n (q := 3) C dX6_deliver_39 rfl rfl ?_
        refine hq_ialdP0 (f := 30) (a := tn x) (g := 7) (Nc := 1) (Ns := 12) C dX6_deliver_40 rfl rfl rfl rfl rfl rfl hx (by omega) Nat.one_pos ?_
        refine hq_iconst (y := 2) C dX6_deliver_41 (by decide) ?_
        refine hq_icmp_eq (tgt := 76) C dX6_deliver_42 (by decide) (fun c_42 => ?_) (fun c_42 => ?_)
        · refine hq_iconst (y := 0) C dX6_deliver_76 (by decide) ?_
          refine hq_istore (L' := [(6, .int _), (5, .int _), (4, .int _), (0, .ref _), (1, .int _), (2, .int _), (3, .int _)]) C dX6_deliver_77 (by decide) rfl ?_
          refine hq_aload_n (q := 3) C dX6_deliver_79 rfl rfl ?_
          refine hq_iload (q := 2) C dX6_deliver_80 rfl ?_
          refine hq_if_ne (tgt := 89) C dX6_deliver_82 (by decide) (fun c_82 => ?_) (fun c_82 => absurd c_82 c_32)
          refine hq_iload (q := 1) C dX6_deliver_89 rfl ?_
          refine hq_if_ne (tgt := 98) C dX6_deliver_91 (by decide) (fun _ => ?_) (fun c_91 => absurd c_91 (by decide))
          refine hq_iload (q := 0) C dX6_deliver_98 rfl ?_
          refine hq_if_eq (tgt := 107) C dX6_deliver_100 (by decide) (fun _ => ?_) (fun c_100 => absurd c_100 (by decide))
          refine hq_iconst (y := 3) C dX6_deliver_107 (by decide) ?_
          refine hq_cVr (As := [.int _]) (rm := rX6_goesWell) (f := 26) (Nc := 1) C (m_X6_goesWell) wv_X6_goesWell ml_X6_124 rfl rfl rfl Nat.one_pos rfl rfl rfl rfl ⟨Nat.le_of_ble_eq_true rfl, Nat.le_of_ble_eq_true rfl⟩ (Nat.le_of_ble_eq_true rfl) ⟨Nat.le_of_ble_eq_true rfl, Nat.le_of_ble_eq_true rfl⟩ dX6_deliver_108 ?_
          refine hq_if_ne (tgt := 116) C dX6_deliver_111 (by decide) (fun c_111 => absurd c_111 (by decide)) (fun _ => ?_)
          refine hq_iconst (y := 0) C dX6_deliver_114 (by decide) ?_
          exact hq_iret C hr hlk dX6_deliver_115 (by rw [show (ps_deliver P N x y z) = _ from ((((if_neg c_32).trans (if_neg c_10)).trans (if_neg c_20)).trans (if_pos c_42))]; first | rfl | exact if_pos ⟨rfl, rfl⟩ | skip) (by rw [show (ps_deliver P N x y z) = _ from ((((if_neg c_32).trans (if_neg c_10)).trans (if_neg c_20)).trans (if_pos c_42))]; first | rfl | exact if_pos ⟨rfl, rfl⟩ | skip)
        · refine hq_aload_n (q := 2) C dX6_deliver_45 rfl rfl ?_
          refine hq_getR (f := 26) (g := 30) (Nc := 1) (Ns := 38) C fr_X6_20 dX6_deliver_46 rfl rfl rfl rfl rfl (by decide) Nat.one_pos ?_
          refine hq_iload_n (q := 4) C dX6_deliver_49 rfl rfl ?_
          refine hq_ialdP0 (f := 30) (a := tn y) (g := 7) (Nc := 1) (Ns := 12) C dX6_deliver_50 rfl rfl rfl rfl rfl rfl hy (by omega) Nat.one_pos ?_
          refine hq_iconst (y := 2) C dX6_deliver_51 (by decide) ?_
          refine hq_icmp_eq (tgt := 76) C dX6_deliver_52 (by decide) (fun c_52 => ?_) (fun c_52 => ?_)
          · refine hq_iconst (y := 0) C dX6_deliver_76 (by decide) ?_
            refine hq_istore (L' := [(6, .int _), (5, .int _), (4, .int _), (0, .ref _), (1, .int _), (2, .int _), (3, .int _)]) C dX6_deliver_77 (by decide) rfl ?_
            refine hq_aload_n (q := 3) C dX6_deliver_79 rfl rfl ?_
            refine hq_iload (q := 2) C dX6_deliver_80 rfl ?_
            refine hq_if_ne (tgt := 89) C dX6_deliver_82 (by decide) (fun c_82 => ?_) (fun c_82 => absurd c_82 c_32)
            refine hq_iload (q := 1) C dX6_deliver_89 rfl ?_
            refine hq_if_ne (tgt := 98) C dX6_deliver_91 (by decide) (fun _ => ?_) (fun c_91 => absurd c_91 (by decide))
            refine hq_iload (q := 0) C dX6_deliver_98 rfl ?_
            refine hq_if_eq (tgt := 107) C dX6_deliver_100 (by decide) (fun _ => ?_) (fun c_100 => absurd c_100 (by decide))
            refine hq_iconst (y := 3) C dX6_deliver_107 (by decide) ?_
            refine hq_cVr (As := [.int _]) (rm := rX6_goesWell) (f := 26) (Nc := 1) C (m_X6_goesWell) wv_X6_goesWell ml_X6_124 rfl rfl rfl Nat.one_pos rfl rfl rfl rfl ⟨Nat.le_of_ble_eq_true rfl, Nat.le_of_ble_eq_true rfl⟩ (Nat.le_of_ble_eq_true rfl) ⟨Nat.le_of_ble_eq_true rfl, Nat.le_of_ble_eq_true rfl⟩ dX6_deliver_108 ?_
            refine hq_if_ne (tgt := 116) C dX6_deliver_111 (by decide) (fun c_111 => absurd c_111 (by decide)) (fun _ => ?_)
            refine hq_iconst (y := 0) C dX6_deliver_114 (by decide) ?_
            exact hq_iret C hr hlk dX6_deliver_115 (by rw [show (ps_deliver P N x y z) = _ from (((((if_neg c_32).trans (if_neg c_10)).trans (if_neg c_20)).trans (if_neg c_42)).trans (if_pos c_52))]; first | rfl | exact if_pos ⟨rfl, rfl⟩ | skip) (by rw [show (ps_deliver P N x y z) = _ from (((((if_neg c_32).trans (if_neg c_10)).trans (if_neg c_20)).trans (if_neg c_42)).trans (if_pos c_52))]; first | rfl | exact if_pos ⟨rfl, rfl⟩ | skip)
          · refine hq_aload_n (q := 2) C dX6_deliver_55 rfl rfl ?_
            refine hq_getR (f := 26) (g := 35) (Nc := 1) (Ns := 38) C fr_X6_36 dX6_deliver_56 rfl rfl rfl rfl rfl (by decide) Nat.one_pos ?_
            refine hq_bipush (y := 12) C dX6_deliver_59 (by decide) ?_
            refine hq_iload_n (q := 3) C dX6_deliver_61 rfl rfl ?_
            refine hq_imul C dX6_deliver_62 ?_
            refine hq_iload_n (q := 4) C dX6_deliver_63 rfl rfl ?_
            refine hq_iadd C dX6_deliver_64 ?_
            refine hq_laldN0 (f := 35) (a := 12 * tn x + tn y) (g := 1) (Nc := 1) (Ns := 144) C dX6_deliver_65 rfl rfl rfl rfl rfl rfl (ix12 hx hy) (by omega) Nat.one_pos ?_
            refine hq_iload_n (q := 5) C dX6_deliver_66 rfl rfl ?_
            refine hq_i2l C dX6_deliver_67 ?_
            refine hq_lcmp C dX6_deliver_68 ?_
            refine hq_if_lt (tgt := 76) C dX6_deliver_69 (by decide) (fun c_69 => ?_) (fun c_69 => ?_)
            · refine hq_iconst (y := 0) C dX6_deliver_76 (by decide) ?_
              refine hq_istore (L' := [(6, .int _), (5, .int _), (4, .int _), (0, .ref _), (1, .int _), (2, .int _), (3, .int _)]) C dX6_deliver_77 (by decide) rfl ?_
              refine hq_aload_n (q := 3) C dX6_deliver_79 rfl rfl ?_
              refine hq_iload (q := 2) C dX6_deliver_80 rfl ?_
              refine hq_if_ne (tgt := 89) C dX6_deliver_82 (by decide) (fun c_82 => ?_) (fun c_82 => absurd c_82 c_32)
              refine hq_iload (q := 1) C dX6_deliver_89 rfl ?_
              refine hq_if_ne (tgt := 98) C dX6_deliver_91 (by decide) (fun _ => ?_) (fun c_91 => absurd c_91 (by decide))
              refine hq_iload (q := 0) C dX6_deliver_98 rfl ?_
              refine hq_if_eq (tgt := 107) C dX6_deliver_100 (by decide) (fun _ => ?_) (fun c_100 => absurd c_100 (by decide))
              refine hq_iconst (y := 3) C dX6_deliver_107 (by decide) ?_
              refine hq_cVr (As := [.int _]) (rm := rX6_goesWell) (f := 26) (Nc := 1) C (m_X6_goesWell) wv_X6_goesWell ml_X6_124 rfl rfl rfl Nat.one_pos rfl rfl rfl rfl ⟨Nat.le_of_ble_eq_true rfl, Nat.le_of_ble_eq_true rfl⟩ (Nat.le_of_ble_eq_true rfl) ⟨Nat.le_of_ble_eq_true rfl, Nat.le_of_ble_eq_true rfl⟩ dX6_deliver_108 ?_
              refine hq_if_ne (tgt := 116) C dX6_deliver_111 (by decide) (fun c_111 => absurd c_111 (by decide)) (fun _ => ?_)
              refine hq_iconst (y := 0) C dX6_deliver_114 (by decide) ?_
              exact hq_iret C hr hlk dX6_deliver_115 (by rw [show (ps_deliver P N x y z) = _ from ((((((if_neg c_32).trans (if_neg c_10)).trans (if_neg c_20)).trans (if_neg c_42)).trans (if_neg c_52)).trans (if_pos c_69))]; first | rfl | exact if_pos ⟨rfl, rfl⟩ | skip) (by rw [show (ps_deliver P N x y z) = _ from ((((((if_neg c_32).trans (if_neg c_10)).trans (if_neg c_20)).trans (if_neg c_42)).trans (if_neg c_52)).trans (if_pos c_69))]; first | rfl | exact if_pos ⟨rfl, rfl⟩ | skip)
            · refine hq_iconst (y := 1) C dX6_deliver_72 (by decide) ?_
              refine hq_goto (tgt := 77) C dX6_deliver_73 (by decide) ?_
              refine hq_istore (L' := [(6, .int _), (5, .int _), (4, .int _), (0, .ref _), (1, .int _), (2, .int _), (3, .int _)]) C dX6_deliver_77 (by decide) rfl ?_
              refine hq_aload_n (q := 3) C dX6_deliver_79 rfl rfl ?_
              refine hq_iload (q := 2) C dX6_deliver_80 rfl ?_
              refine hq_if_ne (tgt := 89) C dX6_deliver_82 (by decide) (fun c_82 => ?_) (fun c_82 => absurd c_82 c_32)
              refine hq_iload (q := 1) C dX6_deliver_89 rfl ?_
              refine hq_if_ne (tgt := 98) C dX6_deliver_91 (by decide) (fun _ => ?_) (fun c_91 => absurd c_91 (by decide))
              refine hq_iload (q := 0) C dX6_deliver_98 rfl ?_
              refine hq_if_eq (tgt := 107) C dX6_deliver_100 (by decide) (fun c_100 => absurd c_100 (by decide)) (fun _ => ?_)
              refine hq_iconst (y := 0) C dX6_deliver_103 (by decide) ?_
              refine hq_goto (tgt := 108) C dX6_deliver_104 (by decide) ?_
              refine hq_cVr (As := [.int _]) (rm := rX6_goesWell) (f := 26) (Nc := 1) C (m_X6_goesWell) wv_X6_goesWell ml_X6_124 rfl rfl rfl Nat.one_pos rfl rfl rfl rfl ⟨Nat.le_of_ble_eq_true rfl, Nat.le_of_ble_eq_true rfl⟩ (Nat.le_of_ble_eq_true rfl) ⟨Nat.le_of_ble_eq_true rfl, Nat.le_of_ble_eq_true rfl⟩ dX6_deliver_108 ?_
              refine hq_if_ne (tgt := 116) C dX6_deliver_111 (by decide) (fun _ => ?_) (fun c_111 => absurd c_111 (by decide))
              refine hq_aload_n (q := 3) C dX6_deliver_116 rfl rfl ?_
              refine hq_iload_n (q := 4) C dX6_deliver_117 rfl rfl ?_
              refine hq_iload_n (q := 5) C dX6_deliver_118 rfl rfl ?_
              refine hq_iload_n (q := 6) C dX6_deliver_119 rfl rfl ?_
              refine hq_ineg C dX6_deliver_120 ?_
              refine hq_i2l C dX6_deliver_121 ?_
              refine hq_cVv (As := [.int _, .int _, .long _]) (rm := rX6_oweBoth) (f := 26) (Nc := 1) C (m_X6_oweBoth (a := tn x) (b := tn y) hx (by omega) hy (by omega)) wv_X6_oweBoth ml_X6_203 rfl rfl rfl Nat.one_pos rfl rfl rfl rfl ⟨Nat.le_of_ble_eq_true rfl, Nat.le_of_ble_eq_true rfl⟩ (Nat.le_of_ble_eq_true rfl) ⟨Nat.le_of_ble_eq_true rfl, Nat.le_of_ble_eq_true rfl⟩ dX6_deliver_122 ?_
              refine hq_aload_n (q := 3) C dX6_deliver_125 rfl rfl ?_
              refine hq_getR (f := 26) (g := 35) (Nc := 1) (Ns := 38) C fr_X6_36 dX6_deliver_126 rfl rfl rfl rfl rfl (by decide) Nat.one_pos ?_
              refine hq_bipush (y := 12) C dX6_deliver_129 (by decide) ?_
              refine hq_iload_n (q := 4) C dX6_deliver_131 rfl rfl ?_
              refine hq_imul C dX6_deliver_132 ?_
              refine hq_iload_n (q := 5) C dX6_deliver_133 rfl rfl ?_
              refine hq_iadd C dX6_deliver_134 ?_
              refine hq_laldN0 (f := 35) (a := 12 * tn x + tn y) (g := 1) (Nc := 1) (Ns := 144) C dX6_deliver_135 rfl rfl rfl rfl rfl rfl (ix12 hx hy) (by omega) Nat.one_pos ?_
              refine hq_l2i C dX6_deliver_136 ?_
              exact hq_iret C hr hlk dX6_deliver_137 (by rw [show (ps_deliver P N x y z) = _ from ((((((if_neg c_32).trans (if_neg c_10)).trans (if_neg c_20)).trans (if_neg c_42)).trans (if_neg c_52)).trans (if_neg c_69))]; first | rfl | exact if_pos ⟨rfl, rfl⟩ | skip) (by rw [show (ps_deliver P N x y z) = _ from ((((((if_neg c_32).trans (if_neg c_10)).trans (if_neg c_20)).trans (if_neg c_42)).trans (if_neg c_52)).trans (if_neg c_69))]; first | rfl | exact if_pos ⟨rfl, rfl⟩ | skip)
def ps_courier (P : MI) (N : MJ) (x y z w : Int32) (nc : Nat) : Int32 × MI × MJ := if sx_br2 P x y = 0 then (0, uI P 40 0 1, N) else if x = y then (0, uI P 40 0 2, N) else if sx_in z 1 1000000 = 0 then (0, uI P 40 0 2, N) else if sx_in w 1 500 = 0 then (0, uI P 40 0 2, N) else if 40 ≤ P 2 0 then (0, uI P 40 0 3, N) else if ¬ P 7 (tn x) = 0 then (0, uI P 40 0 3, N) else if lg_cmp (N 0 (tn x)) z.toInt64 < 0 then (0, uI P 40 0 3, N) else (P 2 0 + 1 - 1, uI (uI (uI (uI (uI (uI P 40 0 0) 24 nc z) 22 nc x) 23 nc y) 25 nc (P 3 0 + w)) 2 0 (P 2 0 + 1), uJ N 0 (tn x) (N 0 (tn x) - z.toInt64))
set_option maxHeartbeats 4000000 in
set_option maxRecDepth 100000 in
theorem m_X6_courier {l : Launch} {D : va_G} {b0 : Nat} {I : MI} {J : MJ} {P : MI} {N : MJ} {o : Int64} {x y z w : Int32} {nb no nc : Nat} (h : pv_iv P nb no nc) : hM l yX6_courier cX6_courier 8 (some .int) rX6_courier D b0 [.ref (hw_ad b0 26 0), .int x, .int y, .int z, .int w] I J P N o (some (.int (ps_courier P N x y z w nc).1)) I J (ps_courier P N x y z w nc).2.1 (ps_courier P N x y z w nc).2.2 o := by
  have hnb := h.1.2
  have hno := h.2.1.2
  have hnc := h.2.2.1.2
  have hbc := h.1.1
  have hoc := h.2.1.1
  have hcc := h.2.2.1.1
  refine hw_Mof (by decide) [(0, .ref _), (1, .int _), (2, .int _), (3, .int _), (4, .int _)] rfl (Nat.le_of_ble_eq_true rfl) ?_
  intro p e s m args below meth c C hr hlk hnm
  refine hq_aload_n (q := 0) C dX6_courier_0 rfl rfl ?_
  refine hq_iload_n (q := 1) C dX6_courier_1 rfl rfl ?_
  refine hq_iload_n (q := 2) C dX6_courier_2 rfl rfl ?_
  refine hq_cVr (As := [.int _, .int _]) (rm := rX6_areBrokers) (f := 26) (Nc := 1) C (m_X6_areBrokers) wv_X6_areBrokers ml_X6_127 rfl rfl rfl Nat.one_pos rfl rfl rfl rfl ⟨Nat.le_of_ble_eq_true rfl, Nat.le_of_ble_eq_true rfl⟩ (Nat.le_of_ble_eq_true rfl) ⟨Nat.le_of_ble_eq_true rfl, Nat.le_of_ble_eq_true rfl⟩ dX6_courier_3 ?_
  refine hq_istore (L' := [(5, .int _), (0, .ref _), (1, .int _), (2, .int _), (3, .int _), (4, .int _)]) C dX6_courier_6 (by decide) rfl ?_
  refine hq_iload_n (q := 2) C dX6_courier_8 rfl rfl ?_
  refine hq_iload_n (q := 3) C dX6_courier_9 rfl rfl ?_
  refine hq_icmp_eq (tgt := 39) C dX6_courier_10 (by decide) (fun c_10 => ?_) (fun c_10 => ?_)
  · refine hq_iconst (y := 0) C dX6_courier_39 (by decide) ?_
    refine hq_istore (L' := [(6, .int _), (5, .int _), (0, .ref _), (1, .int _), (2, .int _), (3, .int _), (4, .int _)]) C dX6_courier_40 (by decide) rfl ?_
    refine hq_iload (q := 1) C dX6_courier_42 rfl ?_
    refine hq_if_eq (tgt := 81) C dX6_courier_44 (by decide) (fun c_44 => ?_) (fun c_44 => ?_)
    · refine hq_iconst (y := 0) C dX6_courier_81 (by decide) ?_
      refine hq_istore (L' := [(7, .int _), (6, .int _), (5, .int _), (0, .ref _), (1, .int _), (2, .int _), (3, .int _), (4, .int _)]) C dX6_courier_82 (by decide) rfl ?_
      refine hq_aload_n (q := 3) C dX6_courier_84 rfl rfl ?_
      refine hq_iload (q := 2) C dX6_courier_85 rfl ?_
      refine hq_if_ne (tgt := 94) C dX6_courier_87 (by decide) (fun c_87 => absurd c_44 c_87) (fun c_87 => ?_)
      refine hq_iconst (y := 1) C dX6_courier_90 (by decide) ?_
      refine hq_goto (tgt := 113) C dX6_courier_91 (by decide) ?_
      refine hq_cVr (As := [.int _]) (rm := rX6_goesWell) (f := 26) (Nc := 1) C (m_X6_goesWell) wv_X6_goesWell ml_X6_124 rfl rfl rfl Nat.one_pos rfl rfl rfl rfl ⟨Nat.le_of_ble_eq_true rfl, Nat.le_of_ble_eq_true rfl⟩ (Nat.le_of_ble_eq_true rfl) ⟨Nat.le_of_ble_eq_true rfl, Nat.le_of_ble_eq_true rfl⟩ dX6_courier_113 ?_
      refine hq_if_ne (tgt := 121) C dX6_courier_116 (by decide) (fun c_116 => absurd c_116 (by decide)) (fun _ => ?_)
      refine hq_iconst (y := 0) C dX6_courier_119 (by decide) ?_
      exact hq_iret C hr hlk dX6_courier_120 (by rw [show (ps_courier P N x y z w nc) = _ from (if_pos c_44)]; first | rfl | exact if_pos ⟨rfl, rfl⟩ | skip) (by rw [show (ps_courier P N x y z w nc) = _ from (if_pos c_44)]; first | rfl | exact if_pos ⟨rfl, rfl⟩ | skip)
    · obtain ⟨⟨hx, hxb⟩, hy, hyb⟩ := br2_n hbc (by omega) c_44
      refine hq_aload_n (q := 2) C dX6_courier_47 rfl rfl ?_
      refine hq_getP (f := 26) (g := 2) (Nc := 1) (Ns := 38) C fr_X6_200 dX6_courier_48 rfl rfl rfl rfl rfl (by decide) Nat.one_pos ?_
      refine hq_bipush (y := 40) C dX6_courier_51 (by decide) ?_
      refine hq_icmp_ge (tgt := 81) C dX6_courier_53 (by decide) (fun c_53 => ?_) (fun c_53 => ?_)
      · refine hq_iconst (y := 0) C dX6_courier_81 (by decide) ?_
        refine hq_istore (L' := [(7, .int _), (6, .int _), (5, .int _), (0, .ref _), (1, .int _), (2, .int _), (3, .int _), (4, .int _)]) C dX6_courier_82 (by decide) rfl ?_
        refine hq_aload_n (q := 3) C dX6_courier_84 rfl rfl ?_
        refine hq_iload (q := 2) C dX6_courier_85 rfl ?_
        refine hq_if_ne (tgt := 94) C dX6_courier_87 (by decide) (fun c_87 => ?_) (fun c_87 => absurd c_87 c_44)
        refine hq_iload (q := 1) C dX6_courier_94 rfl ?_
        refine hq_if_ne (tgt := 103) C dX6_courier_96 (by decide) (fun c_96 => absurd c_96 (by decide)) (fun _ => ?_)
        refine hq_iconst (y := 2) C dX6_courier_99 (by decide) ?_
        refine hq_goto (tgt := 113) C dX6_courier_100 (by decide) ?_
        refine hq_cVr (As := [.int _]) (rm := rX6_goesWell) (f := 26) (Nc := 1) C (m_X6_goesWell) wv_X6_goesWell ml_X6_124 rfl rfl rfl Nat.one_pos rfl rfl rfl rfl ⟨Nat.le_of_ble_eq_true rfl, Nat.le_of_ble_eq_true rfl⟩ (Nat.le_of_ble_eq_true rfl) ⟨Nat.le_of_ble_eq_true rfl, Nat.le_of_ble_eq_true rfl⟩ dX6_courier_113 ?_
        refine hq_if_ne (tgt := 121) C dX6_courier_116 (by decide) (fun c_116 => absurd c_116 (by decide)) (fun _ => ?_)
        refine hq_iconst (y := 0) C dX6_courier_119 (by decide) ?_
        exact hq_iret C hr hlk dX6_courier_120 (by rw [show (ps_courier P N x y z w nc) = _ from ((if_neg c_44).trans (if_pos c_10))]; first | rfl | exact if_pos ⟨rfl, rfl⟩ | skip) (by rw [show (ps_courier P N x y z w nc) = _ from ((if_neg c_44).trans (if_pos c_10))]; first | rfl | exact if_pos ⟨rfl, rfl⟩ | skip)
      · refine hq_aload_n (q := 2) C dX6_courier_56 rfl rfl ?_
        refine hq_getR (f := 26) (g := 30) (Nc := 1) (Ns := 38) C fr_X6_20 dX6_courier_57 rfl rfl rfl rfl rfl (by decide) Nat.one_pos ?_
        refine hq_iload_n (q := 3) C dX6_courier_60 rfl rfl ?_
        refine hq_ialdP0 (f := 30) (a := tn x) (g := 7) (Nc := 1) (Ns := 12) C dX6_courier_61 rfl rfl rfl rfl rfl rfl hx (by omega) Nat.one_pos ?_
        refine hq_if_ne (tgt := 81) C dX6_courier_62 (by decide) (fun c_62 => ?_) (fun c_62 => ?_)
        · refine hq_iconst (y := 0) C dX6_courier_81 (by decide) ?_
          refine hq_istore (L' := [(7, .int _), (6, .int _), (5, .int _), (0, .ref _), (1, .int _), (2, .int _), (3, .int _), (4, .int _)]) C dX6_courier_82 (by decide) rfl ?_
          refine hq_aload_n (q := 3) C dX6_courier_84 rfl rfl ?_
          refine hq_iload (q := 2) C dX6_courier_85 rfl ?_
          refine hq_if_ne (tgt := 94) C dX6_courier_87 (by decide) (fun c_87 => ?_) (fun c_87 => absurd c_87 c_44)
          refine hq_iload (q := 1) C dX6_courier_94 rfl ?_
          refine hq_if_ne (tgt := 103) C dX6_courier_96 (by decide) (fun c_96 => absurd c_96 (by decide)) (fun _ => ?_)
          refine hq_iconst (y := 2) C dX6_courier_99 (by decide) ?_
          refine hq_goto (tgt := 113) C dX6_courier_100 (by decide) ?_
          refine hq_cVr (As := [.int _]) (rm := rX6_goesWell) (f := 26) (Nc := 1) C (m_X6_goesWell) wv_X6_goesWell ml_X6_124 rfl rfl rfl Nat.one_pos rfl rfl rfl rfl ⟨Nat.le_of_ble_eq_true rfl, Nat.le_of_ble_eq_true rfl⟩ (Nat.le_of_ble_eq_true rfl) ⟨Nat.le_of_ble_eq_true rfl, Nat.le_of_ble_eq_true rfl⟩ dX6_courier_113 ?_
          refine hq_if_ne (tgt := 121) C dX6_courier_116 (by decide) (fun c_116 => absurd c_116 (by decide)) (fun _ => ?_)
          refine hq_iconst (y := 0) C dX6_courier_119 (by decide) ?_
          exact hq_iret C hr hlk dX6_courier_120 (by rw [show (ps_courier P N x y z w nc) = _ from ((if_neg c_44).trans (if_pos c_10))]; first | rfl | exact if_pos ⟨rfl, rfl⟩ | skip) (by rw [show (ps_courier P N x y z w nc) = _ from ((if_neg c_44).trans (if_pos c_10))]; first | rfl | exact if_pos ⟨rfl, rfl⟩ | skip)
        · refine hq_aload_n (q := 2) C dX6_courier_65 rfl rfl ?_
          refine hq_getR (f := 26) (g := 28) (Nc := 1) (Ns := 38) C fr_X6_13 dX6_courier_66 rfl rfl rfl rfl rfl (by decide) Nat.one_pos ?_
          refine hq_iload_n (q := 3) C dX6_courier_69 rfl rfl ?_
          refine hq_laldN0 (f := 28) (a := tn x) (g := 0) (Nc := 1) (Ns := 12) C dX6_courier_70 rfl rfl rfl rfl rfl rfl hx (by omega) Nat.one_pos ?_
          refine hq_iload_n (q := 5) C dX6_courier_71 rfl rfl ?_
          refine hq_i2l C dX6_courier_72 ?_
          refine hq_lcmp C dX6_courier_73 ?_
          refine hq_if_lt (tgt := 81) C dX6_courier_74 (by decide) (fun c_74 => ?_) (fun c_74 => ?_)
          · refine hq_iconst (y := 0) C dX6_courier_81 (by decide) ?_
            refine hq_istore (L' := [(7, .int _), (6, .int _), (5, .int _), (0, .ref _), (1, .int _), (2, .int _), (3, .int _), (4, .int _)]) C dX6_courier_82 (by decide) rfl ?_
            refine hq_aload_n (q := 3) C dX6_courier_84 rfl rfl ?_
            refine hq_iload (q := 2) C dX6_courier_85 rfl ?_
            refine hq_if_ne (tgt := 94) C dX6_courier_87 (by decide) (fun c_87 => ?_) (fun c_87 => absurd c_87 c_44)
            refine hq_iload (q := 1) C dX6_courier_94 rfl ?_
            refine hq_if_ne (tgt := 103) C dX6_courier_96 (by decide) (fun c_96 => absurd c_96 (by decide)) (fun _ => ?_)
            refine hq_iconst (y := 2) C dX6_courier_99 (by decide) ?_
            refine hq_goto (tgt := 113) C dX6_courier_100 (by decide) ?_
            refine hq_cVr (As := [.int _]) (rm := rX6_goesWell) (f := 26) (Nc := 1) C (m_X6_goesWell) wv_X6_goesWell ml_X6_124 rfl rfl rfl Nat.one_pos rfl rfl rfl rfl ⟨Nat.le_of_ble_eq_true rfl, Nat.le_of_ble_eq_true rfl⟩ (Nat.le_of_ble_eq_true rfl) ⟨Nat.le_of_ble_eq_true rfl, Nat.le_of_ble_eq_true rfl⟩ dX6_courier_113 ?_
            refine hq_if_ne (tgt := 121) C dX6_courier_116 (by decide) (fun c_116 => absurd c_116 (by decide)) (fun _ => ?_)
            refine hq_iconst (y := 0) C dX6_courier_119 (by decide) ?_
            exact hq_iret C hr hlk dX6_courier_120 (by rw [show (ps_courier P N x y z w nc) = _ from ((if_neg c_44).trans (if_pos c_10))]; first | rfl | exact if_pos ⟨rfl, rfl⟩ | skip) (by rw [show (ps_courier P N x y z w nc) = _ from ((if_neg c_44).trans (if_pos c_10))]; first | rfl | exact if_pos ⟨rfl, rfl⟩ | skip)
          · refine hq_iconst (y := 1) C dX6_courier_77 (by decide) ?_
            refine hq_goto (tgt := 82) C dX6_courier_78 (by decide) ?_
            refine hq_istore (L' := [(7, .int _), (6, .int _), (5, .int _), (0, .ref _), (1, .int _), (2, .int _), (3, .int _), (4, .int _)]) C dX6_courier_82 (by decide) rfl ?_
            refine hq_aload_n (q := 3) C dX6_courier_84 rfl rfl ?_
            refine hq_iload (q := 2) C dX6_courier_85 rfl ?_
            refine hq_if_ne (tgt := 94) C dX6_courier_87 (by decide) (fun c_87 => ?_) (fun c_87 => absurd c_87 c_44)
            refine hq_iload (q := 1) C dX6_courier_94 rfl ?_
            refine hq_if_ne (tgt := 103) C dX6_courier_96 (by decide) (fun c_96 => absurd c_96 (by decide)) (fun _ => ?_)
            refine hq_iconst (y := 2) C dX6_courier_99 (by decide) ?_
            refine hq_goto (tgt := 113) C dX6_courier_100 (by decide) ?_
            refine hq_cVr (As := [.int _]) (rm := rX6_goesWell) (f := 26) (Nc := 1) C (m_X6_goesWell) wv_X6_goesWell ml_X6_124 rfl rfl rfl Nat.one_pos rfl rfl rfl rfl ⟨Nat.le_of_ble_eq_true rfl, Nat.le_of_ble_eq_true rfl⟩ (Nat.le_of_ble_eq_true rfl) ⟨Nat.le_of_ble_eq_true rfl, Nat.le_of_ble_eq_true rfl⟩ dX6_courier_113 ?_
            refine hq_if_ne (tgt := 121) C dX6_courier_116 (by decide) (fun c_116 => absurd c_116 (by decide)) (fun _ => ?_)
            refine hq_iconst (y := 0) C dX6_courier_119 (by decide) ?_
            exact hq_iret C hr hlk dX6_courier_120 (by rw [show (ps_courier P N x y z w nc) = _ from ((if_neg c_44).trans (if_pos c_10))]; first | rfl | exact if_pos ⟨rfl, rfl⟩ | skip) (by rw [show (ps_courier P N x y z w nc) = _ from ((if_neg c_44).trans (if_pos c_10))]; first | rfl | exact if_pos ⟨rfl, rfl⟩ | skip)
  · refine hq_iload_n (q := 4) C dX6_courier_13 rfl rfl ?_
    refine hq_iconst (y := 1) C dX6_courier_14 (by decide) ?_
    refine hq_ldc C wc_X6_87 dX6_courier_15 ?_
    refine hq_cSr (As := [.int _, .int _, .int _]) (rm := rX6_in) (Cn := "") C (m_X6_in) ws_X6_in ml_X6_116 rfl rfl rfl rfl ⟨Nat.le_of_ble_eq_true rfl, Nat.le_of_ble_eq_true rfl⟩ (Nat.le_of_ble_eq_true rfl) ⟨Nat.le_of_ble_eq_true rfl, Nat.le_of_ble_eq_true rfl⟩ dX6_courier_17 ?_
    refine hq_if_eq (tgt := 39) C dX6_courier_20 (by decide) (fun c_20 => ?_) (fun c_20 => ?_)
    · refine hq_iconst (y := 0) C dX6_courier_39 (by decide) ?_
      refine hq_istore (L' := [(6, .int _), (5, .int _), (0, .ref _), (1, .int _), (2, .int _), (3, .int _), (4, .int _)]) C dX6_courier_40 (by decide) rfl ?_
      refine hq_iload (q := 1) C dX6_courier_42 rfl ?_
      refine hq_if_eq (tgt := 81) C dX6_courier_44 (by decide) (fun c_44 => ?_) (fun c_44 => ?_)
      · refine hq_iconst (y := 0) C dX6_courier_81 (by decide) ?_
        refine hq_istore (L' := [(7, .int _), (6, .int _), (5, .int _), (0, .ref _), (1, .int _), (2, .int _), (3, .int _), (4, .int _)]) C dX6_courier_82 (by decide) rfl ?_
        refine hq_aload_n (q := 3) C dX6_courier_84 rfl rfl ?_
        refine hq_iload (q := 2) C dX6_courier_85 rfl ?_
        refine hq_if_ne (tgt := 94) C dX6_courier_87 (by decide) (fun c_87 => absurd c_44 c_87) (fun c_87 => ?_)
        refine hq_iconst (y := 1) C dX6_courier_90 (by decide) ?_
        refine hq_goto (tgt := 113) C dX6_courier_91 (by decide) ?_
        refine hq_cVr (As := [.int _]) (rm := rX6_goesWell) (f := 26) (Nc := 1) C (m_X6_goesWell) wv_X6_goesWell ml_X6_124 rfl rfl rfl Nat.one_pos rfl rfl rfl rfl ⟨Nat.le_of_ble_eq_true rfl, Nat.le_of_ble_eq_true rfl⟩ (Nat.le_of_ble_eq_true rfl) ⟨Nat.le_of_ble_eq_true rfl, Nat.le_of_ble_eq_true rfl⟩ dX6_courier_113 ?_
        refine hq_if_ne (tgt := 121) C dX6_courier_116 (by decide) (fun c_116 => absurd c_116 (by decide)) (fun _ => ?_)
        refine hq_iconst (y := 0) C dX6_courier_119 (by decide) ?_
        exact hq_iret C hr hlk dX6_courier_120 (by rw [show (ps_courier P N x y z w nc) = _ from (if_pos c_44)]; first | rfl | exact if_pos ⟨rfl, rfl⟩ | skip) (by rw [show (ps_courier P N x y z w nc) = _ from (if_pos c_44)]; first | rfl | exact if_pos ⟨rfl, rfl⟩ | skip)
      · obtain ⟨⟨hx, hxb⟩, hy, hyb⟩ := br2_n hbc (by omega) c_44
        refine hq_aload_n (q := 2) C dX6_courier_47 rfl rfl ?_
        refine hq_getP (f := 26) (g := 2) (Nc := 1) (Ns := 38) C fr_X6_200 dX6_courier_48 rfl rfl rfl rfl rfl (by decide) Nat.one_pos ?_
        refine hq_bipush (y := 40) C dX6_courier_51 (by decide) ?_
        refine hq_icmp_ge (tgt := 81) C dX6_courier_53 (by decide) (fun c_53 => ?_) (fun c_53 => ?_)
        · refine hq_iconst (y := 0) C dX6_courier_81 (by decide) ?_
          refine hq_istore (L' := [(7, .int _), (6, .int _), (5, .int _), (0, .ref _), (1, .int _), (2, .int _), (3, .int _), (4, .int _)]) C dX6_courier_82 (by decide) rfl ?_
          refine hq_aload_n (q := 3) C dX6_courier_84 rfl rfl ?_
          refine hq_iload (q := 2) C dX6_courier_85 rfl ?_
          refine hq_if_ne (tgt := 94) C dX6_courier_87 (by decide) (fun c_87 => ?_) (fun c_87 => absurd c_87 c_44)
          refine hq_iload (q := 1) C dX6_courier_94 rfl ?_
          refine hq_if_ne (tgt := 103) C dX6_courier_96 (by decide) (fun c_96 => absurd c_96 (by decide)) (fun _ => ?_)
          refine hq_iconst (y := 2) C dX6_courier_99 (by decide) ?_
          refine hq_goto (tgt := 113) C dX6_courier_100 (by decide) ?_
          refine hq_cVr (As := [.int _]) (rm := rX6_goesWell) (f := 26) (Nc := 1) C (m_X6_goesWell) wv_X6_goesWell ml_X6_124 rfl rfl rfl Nat.one_pos rfl rfl rfl rfl ⟨Nat.le_of_ble_eq_true rfl, Nat.le_of_ble_eq_true rfl⟩ (Nat.le_of_ble_eq_true rfl) ⟨Nat.le_of_ble_eq_true rfl, Nat.le_of_ble_eq_true rfl⟩ dX6_courier_113 ?_
          refine hq_if_ne (tgt := 121) C dX6_courier_116 (by decide) (fun c_116 => absurd c_116 (by decide)) (fun _ => ?_)
          refine hq_iconst (y := 0) C dX6_courier_119 (by decide) ?_
          exact hq_iret C hr hlk dX6_courier_120 (by rw [show (ps_courier P N x y z w nc) = _ from (((if_neg c_44).trans (if_neg c_10)).trans (if_pos c_20))]; first | rfl | exact if_pos ⟨rfl, rfl⟩ | skip) (by rw [show (ps_courier P N x y z w nc) = _ from (((if_neg c_44).trans (if_neg c_10)).trans (if_pos c_20))]; first | rfl | exact if_pos ⟨rfl, rfl⟩ | skip)
        · refine hq_aload_n (q := 2) C dX6_courier_56 rfl rfl ?_
          refine hq_getR (f := 26) (g := 30) (Nc := 1) (Ns := 38) C fr_X6_20 dX6_courier_57 rfl rfl rfl rfl rfl (by decide) Nat.one_pos ?_
          refine hq_iload_n (q := 3) C dX6_courier_60 rfl rfl ?_
          refine hq_ialdP0 (f := 30) (a := tn x) (g := 7) (Nc := 1) (Ns := 12) C dX6_courier_61 rfl rfl rfl rfl rfl rfl hx (by omega) Nat.one_pos ?_
          refine hq_if_ne (tgt := 81) C dX6_courier_62 (by decide) (fun c_62 => ?_) (fun c_62 => ?_)
          · refine hq_iconst (y := 0) C dX6_courier_81 (by decide) ?_
            refine hq_istore (L' := [(7, .int _), (6, .int _), (5, .int _), (0, .ref _), (1, .int _), (2, .int _), (3, .int _), (4, .int _)]) C dX6_courier_82 (by decide) rfl ?_
            refine hq_aload_n (q := 3) C dX6_courier_84 rfl rfl ?_
            refine hq_iload (q := 2) C dX6_courier_85 rfl ?_
            refine hq_if_ne (tgt := 94) C dX6_courier_87 (by decide) (fun c_87 => ?_) (fun c_87 => absurd c_87 c_44)
            refine hq_iload (q := 1) C dX6_courier_94 rfl ?_
            refine hq_if_ne (tgt := 103) C dX6_courier_96 (by decide) (fun c_96 => absurd c_96 (by decide)) (fun _ => ?_)
            refine hq_iconst (y := 2) C dX6_courier_99 (by decide) ?_
            refine hq_goto (tgt := 113) C dX6_courier_100 (by decide) ?_
            refine hq_cVr (As := [.int _]) (rm := rX6_goesWell) (f := 26) (Nc := 1) C (m_X6_goesWell) wv_X6_goesWell ml_X6_124 rfl rfl rfl Nat.one_pos rfl rfl rfl rfl ⟨Nat.le_of_ble_eq_true rfl, Nat.le_of_ble_eq_true rfl⟩ (Nat.le_of_ble_eq_true rfl) ⟨Nat.le_of_ble_eq_true rfl, Nat.le_of_ble_eq_true rfl⟩ dX6_courier_113 ?_
            refine hq_if_ne (tgt := 121) C dX6_courier_116 (by decide) (fun c_116 => absurd c_116 (by decide)) (fun _ => ?_)
            refine hq_iconst (y := 0) C dX6_courier_119 (by decide) ?_
            exact hq_iret C hr hlk dX6_courier_120 (by rw [show (ps_courier P N x y z w nc) = _ from (((if_neg c_44).trans (if_neg c_10)).trans (if_pos c_20))]; first | rfl | exact if_pos ⟨rfl, rfl⟩ | skip) (by rw [show (ps_courier P N x y z w nc) = _ from (((if_neg c_44).trans (if_neg c_10)).trans (if_pos c_20))]; first | rfl | exact if_pos ⟨rfl, rfl⟩ | skip)
          · refine hq_aload_n (q := 2) C dX6_courier_65 rfl rfl ?_
            refine hq_getR (f := 26) (g := 28) (Nc := 1) (Ns := 38) C fr_X6_13 dX6_courier_66 rfl rfl rfl rfl rfl (by decide) Nat.one_pos ?_
            refine hq_iload_n (q := 3) C dX6_courier_69 rfl rfl ?_
            refine hq_laldN0 (f := 28) (a := tn x) (g := 0) (Nc := 1) (Ns := 12) C dX6_courier_70 rfl rfl rfl rfl rfl rfl hx (by omega) Nat.one_pos ?_
            refine hq_iload_n (q := 5) C dX6_courier_71 rfl rfl ?_
            refine hq_i2l C dX6_courier_72 ?_
            refine hq_lcmp C dX6_courier_73 ?_
            refine hq_if_lt (tgt := 81) C dX6_courier_74 (by decide) (fun c_74 => ?_) (fun c_74 => ?_)
            · refine hq_iconst (y := 0) C dX6_courier_81 (by decide) ?_
              refine hq_istore (L' := [(7, .int _), (6, .int _), (5, .int _), (0, .ref _), (1, .int _), (2, .int _), (3, .int _), (4, .int _)]) C dX6_courier_82 (by decide) rfl ?_
              refine hq_aload_n (q := 3) C dX6_courier_84 rfl rfl ?_
              refine hq_iload (q := 2) C dX6_courier_85 rfl ?_
              refine hq_if_ne (tgt := 94) C dX6_courier_87 (by decide) (fun c_87 => ?_) (fun c_87 => absurd c_87 c_44)
              refine hq_iload (q := 1) C dX6_courier_94 rfl ?_
              refine hq_if_ne (tgt := 103) C dX6_courier_96 (by decide) (fun c_96 => absurd c_96 (by decide)) (fun _ => ?_)
              refine hq_iconst (y := 2) C dX6_courier_99 (by decide) ?_
              refine hq_goto (tgt := 113) C dX6_courier_100 (by decide) ?_
              refine hq_cVr (As := [.int _]) (rm := rX6_goesWell) (f := 26) (Nc := 1) C (m_X6_goesWell) wv_X6_goesWell ml_X6_124 rfl rfl rfl Nat.one_pos rfl rfl rfl rfl ⟨Nat.le_of_ble_eq_true rfl, Nat.le_of_ble_eq_true rfl⟩ (Nat.le_of_ble_eq_true rfl) ⟨Nat.le_of_ble_eq_true rfl, Nat.le_of_ble_eq_true rfl⟩ dX6_courier_113 ?_
              refine hq_if_ne (tgt := 121) C dX6_courier_116 (by decide) (fun c_116 => absurd c_116 (by decide)) (fun _ => ?_)
              refine hq_iconst (y := 0) C dX6_courier_119 (by decide) ?_
              exact hq_iret C hr hlk dX6_courier_120 (by rw [show (ps_courier P N x y z w nc) = _ from (((if_neg c_44).trans (if_neg c_10)).trans (if_pos c_20))]; first | rfl | exact if_pos ⟨rfl, rfl⟩ | skip) (by rw [show (ps_courier P N x y z w nc) = _ from (((if_neg c_44).trans (if_neg c_10)).trans (if_pos c_20))]; first | rfl | exact if_pos ⟨rfl, rfl⟩ | skip)
            · refine hq_iconst (y := 1) C dX6_courier_77 (by decide) ?_
              refine hq_goto (tgt := 82) C dX6_courier_78 (by decide) ?_
              refine hq_istore (L' := [(7, .int _), (6, .int _), (5, .int _), (0, .ref _), (1, .int _), (2, .int _), (3, .int _), (4, .int _)]) C dX6_courier_82 (by decide) rfl ?_
              refine hq_aload_n (q := 3) C dX6_courier_84 rfl rfl ?_
              refine hq_iload (q := 2) C dX6_courier_85 rfl ?_
              refine hq_if_ne (tgt := 94) C dX6_courier_87 (by decide) (fun c_87 => ?_) (fun c_87 => absurd c_87 c_44)
              refine hq_iload (q := 1) C dX6_courier_94 rfl ?_
              refine hq_if_ne (tgt := 103) C dX6_courier_96 (by decide) (fun c_96 => absurd c_96 (by decide)) (fun _ => ?_)
              refine hq_iconst (y := 2) C dX6_courier_99 (by decide) ?_
              refine hq_goto (tgt := 113) C dX6_courier_100 (by decide) ?_
              refine hq_cVr (As := [.int _]) (rm := rX6_goesWell) (f := 26) (Nc := 1) C (m_X6_goesWell) wv_X6_goesWell ml_X6_124 rfl rfl rfl Nat.one_pos rfl rfl rfl rfl ⟨Nat.le_of_ble_eq_true rfl, Nat.le_of_ble_eq_true rfl⟩ (Nat.le_of_ble_eq_true rfl) ⟨Nat.le_of_ble_eq_true rfl, Nat.le_of_ble_eq_true rfl⟩ dX6_courier_113 ?_
              refine hq_if_ne (tgt := 121) C dX6_courier_116 (by decide) (fun c_116 => absurd c_116 (by decide)) (fun _ => ?_)
              refine hq_iconst (y := 0) C dX6_courier_119 (by decide) ?_
              exact hq_iret C hr hlk dX6_courier_120 (by rw [show (ps_courier P N x y z w nc) = _ from (((if_neg c_44).trans (if_neg c_10)).trans (if_pos c_20))]; first | rfl | exact if_pos ⟨rfl, rfl⟩ | skip) (by rw [show (ps_courier P N x y z w nc) = _ from (((if_neg c_44).trans (if_neg c_10)).trans (if_pos c_20))]; first | rfl | exact if_pos ⟨rfl, rfl⟩ | skip)
    · refine hq_iload (q := 5) C dX6_courier_23 rfl ?_
      refine hq_iconst (y := 1) C dX6_courier_25 (by decide) ?_
      refine hq_sipush (y := 500) C dX6_courier_26 (by decide) ?_
      refine hq_cSr (As := [.int _, .int _, .int _]) (rm := rX6_in) (Cn := "") C (m_X6_in) ws_X6_in ml_X6_116 rfl rfl rfl rfl ⟨Nat.le_of_ble_eq_true rfl, Nat.le_of_ble_eq_true rfl⟩ (Nat.le_of_ble_eq_true rfl) ⟨Nat.le_of_ble_eq_true rfl, Nat.le_of_ble_eq_true rfl⟩ dX6_courier_29 ?_
      refine hq_if_eq (tgt := 39) C dX6_courier_32 (by decide) (fun c_32 => ?_) (fun c_32 => ?_)
      · refine hq_iconst (y := 0) C dX6_courier_39 (by decide) ?_
        refine hq_istore (L' := [(6, .int _), (5, .int _), (0, .ref _), (1, .int _), (2, .int _), (3, .int _), (4, .int _)]) C dX6_courier_40 (by decide) rfl ?_
        refine hq_iload (q := 1) C dX6_courier_42 rfl ?_
        refine hq_if_eq (tgt := 81) C dX6_courier_44 (by decide) (fun c_44 => ?_) (fun c_44 => ?_)
        · refine hq_iconst (y := 0) C dX6_courier_81 (by decide) ?_
          refine hq_istore (L' := [(7, .int _), (6, .int _), (5, .int _), (0, .ref _), (1, .int _), (2, .int _), (3, .int _), (4, .int _)]) C dX6_courier_82 (by decide) rfl ?_
          refine hq_aload_n (q := 3) C dX6_courier_84 rfl rfl ?_
          refine hq_iload (q := 2) C dX6_courier_85 rfl ?_
          refine hq_if_ne (tgt := 94) C dX6_courier_87 (by decide) (fun c_87 => absurd c_44 c_87) (fun c_87 => ?_)
          refine hq_iconst (y := 1) C dX6_courier_90 (by decide) ?_
          refine hq_goto (tgt := 113) C dX6_courier_91 (by decide) ?_
          refine hq_cVr (As := [.int _]) (rm := rX6_goesWell) (f := 26) (Nc := 1) C (m_X6_goesWell) wv_X6_goesWell ml_X6_124 rfl rfl rfl Nat.one_pos rfl rfl rfl rfl ⟨Nat.le_of_ble_eq_true rfl, Nat.le_of_ble_eq_true rfl⟩ (Nat.le_of_ble_eq_true rfl) ⟨Nat.le_of_ble_eq_true rfl, Nat.le_of_ble_eq_true rfl⟩ dX6_courier_113 ?_
          refine hq_if_ne (tgt := 121) C dX6_courier_116 (by decide) (fun c_116 => absurd c_116 (by decide)) (fun _ => ?_)
          refine hq_iconst (y := 0) C dX6_courier_119 (by decide) ?_
          exact hq_iret C hr hlk dX6_courier_120 (by rw [show (ps_courier P N x y z w nc) = _ from (if_pos c_44)]; first | rfl | exact if_pos ⟨rfl, rfl⟩ | skip) (by rw [show (ps_courier P N x y z w nc) = _ from (if_pos c_44)]; first | rfl | exact if_pos ⟨rfl, rfl⟩ | skip)
        · obtain ⟨⟨hx, hxb⟩, hy, hyb⟩ := br2_n hbc (by omega) c_44
          refine hq_aload_n (q := 2) C dX6_courier_47 rfl rfl ?_
          refine hq_getP (f := 26) (g := 2) (Nc := 1) (Ns := 38) C fr_X6_200 dX6_courier_48 rfl rfl rfl rfl rfl (by decide) Nat.one_pos ?_
          refine hq_bipush (y := 40) C dX6_courier_51 (by decide) ?_
          refine hq_icmp_ge (tgt := 81) C dX6_courier_53 (by decide) (fun c_53 => ?_) (fun c_53 => ?_)
          · refine hq_iconst (y := 0) C dX6_courier_81 (by decide) ?_
            refine hq_istore (L' := [(7, .int _), (6, .int _), (5, .int _), (0, .ref _), (1, .int _), (2, .int _), (3, .int _), (4, .int _)]) C dX6_courier_82 (by decide) rfl ?_
            refine hq_aload_n (q := 3) C dX6_courier_84 rfl rfl ?_
            refine hq_iload (q := 2) C dX6_courier_85 rfl ?_
            refine hq_if_ne (tgt := 94) C dX6_courier_87 (by decide) (fun c_87 => ?_) (fun c_87 => absurd c_87 c_44)
            refine hq_iload (q := 1) C dX6_courier_94 rfl ?_
            refine hq_if_ne (tgt := 103) C dX6_courier_96 (by decide) (fun c_96 => absurd c_96 (by decide)) (fun _ => ?_)
            refine hq_iconst (y := 2) C dX6_courier_99 (by decide) ?_
            refine hq_goto (tgt := 113) C dX6_courier_100 (by decide) ?_
            refine hq_cVr (As := [.int _]) (rm := rX6_goesWell) (f := 26) (Nc := 1) C (m_X6_goesWell) wv_X6_goesWell ml_X6_124 rfl rfl rfl Nat.one_pos rfl rfl rfl rfl ⟨Nat.le_of_ble_eq_true rfl, Nat.le_of_ble_eq_true rfl⟩ (Nat.le_of_ble_eq_true rfl) ⟨Nat.le_of_ble_eq_true rfl, Nat.le_of_ble_eq_true rfl⟩ dX6_courier_113 ?_
            refine hq_if_ne (tgt := 121) C dX6_courier_116 (by decide) (fun c_116 => absurd c_116 (by decide)) (fun _ => ?_)
            refine hq_iconst (y := 0) C dX6_courier_119 (by decide) ?_
            exact hq_iret C hr hlk dX6_courier_120 (by rw [show (ps_courier P N x y z w nc) = _ from ((((if_neg c_44).trans (if_neg c_10)).trans (if_neg c_20)).trans (if_pos c_32))]; first | rfl | exact if_pos ⟨rfl, rfl⟩ | skip) (by rw [show (ps_courier P N x y z w nc) = _ from ((((if_neg c_44).trans (if_neg c_10)).trans (if_neg c_20)).trans (if_pos c_32))]; first | rfl | exact if_pos ⟨rfl, rfl⟩ | skip)
          · refine hq_aload_n (q := 2) C dX6_courier_56 rfl rfl ?_
            refine hq_getR (f := 26) (g := 30) (Nc := 1) (Ns := 38) C fr_X6_20 dX6_courier_57 rfl rfl rfl rfl rfl (by decide) Nat.one_pos ?_
            refine hq_iload_n (q := 3) C dX6_courier_60 rfl rfl ?_
            refine hq_ialdP0 (f := 30) (a := tn x) (g := 7) (Nc := 1) (Ns := 12) C dX6_courier_61 rfl rfl rfl rfl rfl rfl hx (by omega) Nat.one_pos ?_
            refine hq_if_ne (tgt := 81) C dX6_courier_62 (by decide) (fun c_62 => ?_) (fun c_62 => ?_)
            · refine hq_iconst (y := 0) C dX6_courier_81 (by decide) ?_
              refine hq_istore (L' := [(7, .int _), (6, .int _), (5, .int _), (0, .ref _), (1, .int _), (2, .int _), (3, .int _), (4, .int _)]) C dX6_courier_82 (by decide) rfl ?_
              refine hq_aload_n (q := 3) C dX6_courier_84 rfl rfl ?_
              refine hq_iload (q := 2) C dX6_courier_85 rfl ?_
              refine hq_if_ne (tgt := 94) C dX6_courier_87 (by decide) (fun c_87 => ?_) (fun c_87 => absurd c_87 c_44)
              refine hq_iload (q := 1) C dX6_courier_94 rfl ?_
              refine hq_if_ne (tgt := 103) C dX6_courier_96 (by decide) (fun c_96 => absurd c_96 (by decide)) (fun _ => ?_)
              refine hq_iconst (y := 2) C dX6_courier_99 (by decide) ?_
              refine hq_goto (tgt := 113) C dX6_courier_100 (by decide) ?_
              refine hq_cVr (As := [.int _]) (rm := rX6_goesWell) (f := 26) (Nc := 1) C (m_X6_goesWell) wv_X6_goesWell ml_X6_124 rfl rfl rfl Nat.one_pos rfl rfl rfl rfl ⟨Nat.le_of_ble_eq_true rfl, Nat.le_of_ble_eq_true rfl⟩ (Nat.le_of_ble_eq_true rfl) ⟨Nat.le_of_ble_eq_true rfl, Nat.le_of_ble_eq_true rfl⟩ dX6_courier_113 ?_
              refine hq_if_ne (tgt := 121) C dX6_courier_116 (by decide) (fun c_116 => absurd c_116 (by decide)) (fun _ => ?_)
              refine hq_iconst (y := 0) C dX6_courier_119 (by decide) ?_
              exact hq_iret C hr hlk dX6_courier_120 (by rw [show (ps_courier P N x y z w nc) = _ from ((((if_neg c_44).trans (if_neg c_10)).trans (if_neg c_20)).trans (if_pos c_32))]; first | rfl | exact if_pos ⟨rfl, rfl⟩ | skip) (by rw [show (ps_courier P N x y z w nc) = _ from ((((if_neg c_44).trans (if_neg c_10)).trans (if_neg c_20)).trans (if_pos c_32))]; first | rfl | exact if_pos ⟨rfl, rfl⟩ | skip)
            · refine hq_aload_n (q := 2) C dX6_courier_65 rfl rfl ?_
              refine hq_getR (f := 26) (g := 28) (Nc := 1) (Ns := 38) C fr_X6_13 dX6_courier_66 rfl rfl rfl rfl rfl (by decide) Nat.one_pos ?_
              refine hq_iload_n (q := 3) C dX6_courier_69 rfl rfl ?_
              refine hq_laldN0 (f := 28) (a := tn x) (g := 0) (Nc := 1) (Ns := 12) C dX6_courier_70 rfl rfl rfl rfl rfl rfl hx (by omega) Nat.one_pos ?_
              refine hq_iload_n (q := 5) C dX6_courier_71 rfl rfl ?_
              refine hq_i2l C dX6_courier_72 ?_
              refine hq_lcmp C dX6_courier_73 ?_
              refine hq_if_lt (tgt := 81) C dX6_courier_74 (by decide) (fun c_74 => ?_) (fun c_74 => ?_)
              · refine hq_iconst (y := 0) C dX6_courier_81 (by decide) ?_
                refine hq_istore (L' := [(7, .int _), (6, .int _), (5, .int _), (0, .ref _), (1, .int _), (2, .int _), (3, .int _), (4, .int _)]) C dX6_courier_82 (by decide) rfl ?_
                refine hq_aload_n (q := 3) C dX6_courier_84 rfl rfl ?_
                refine hq_iload (q := 2) C dX6_courier_85 rfl ?_
                refine hq_if_ne (tgt := 94) C dX6_courier_87 (by decide) (fun c_87 => ?_) (fun c_87 => absurd c_87 c_44)
                refine hq_iload (q := 1) C dX6_courier_94 rfl ?_
                refine hq_if_ne (tgt := 103) C dX6_courier_96 (by decide) (fun c_96 => absurd c_96 (by decide)) (fun _ => ?_)
                refine hq_iconst (y := 2) C dX6_courier_99 (by decide) ?_
                refine hq_goto (tgt := 113) C dX6_courier_100 (by decide) ?_
                refine hq_cVr (As := [.int _]) (rm := rX6_goesWell) (f := 26) (Nc := 1) C (m_X6_goesWell) wv_X6_goesWell ml_X6_124 rfl rfl rfl Nat.one_pos rfl rfl rfl rfl ⟨Nat.le_of_ble_eq_true rfl, Nat.le_of_ble_eq_true rfl⟩ (Nat.le_of_ble_eq_true rfl) ⟨Nat.le_of_ble_eq_true rfl, Nat.le_of_ble_eq_true rfl⟩ dX6_courier_113 ?_
                refine hq_if_ne (tgt := 121) C dX6_courier_116 (by decide) (fun c_116 => absurd c_116 (by decide)) (fun _ => ?_)
                refine hq_iconst (y := 0) C dX6_courier_119 (by decide) ?_
                exact hq_iret C hr hlk dX6_courier_120 (by rw [show (ps_courier P N x y z w nc) = _ from ((((if_neg c_44).trans (if_neg c_10)).trans (if_neg c_20)).trans (if_pos c_32))]; first | rfl | exact if_pos ⟨rfl, rfl⟩ | skip) (by rw [show (ps_courier P N x y z w nc) = _ from ((((if_neg c_44).trans (if_neg c_10)).trans (if_neg c_20)).trans (if_pos c_32))]; first | rfl | exact if_pos ⟨rfl, rfl⟩ | skip)
              · refine hq_iconst (y := 1) C dX6_courier_77 (by decide) ?_
                refine hq_goto (tgt := 82) C dX6_courier_78 (by decide) ?_
                refine hq_istore (L' := [(7, .int _), (6, .int _), (5, .int _), (0, .ref _), (1, .int _), (2, .int _), (3, .int _), (4, .int _)]) C dX6_courier_82 (by decide) rfl ?_
                refine hq_aload_n (q := 3) C dX6_courier_84 rfl rfl ?_
                refine hq_iload (q := 2) C dX6_courier_85 rfl ?_
                refine hq_if_ne (tgt := 94) C dX6_courier_87 (by decide) (fun c_87 => ?_) (fun c_87 => absurd c_87 c_44)
                refine hq_iload (q := 1) C dX6_courier_94 rfl ?_
                refine hq_if_ne (tgt := 103) C dX6_courier_96 (by decide) (fun c_96 => absurd c_96 (by decide)) (fun _ => ?_)
                refine hq_iconst (y := 2) C dX6_courier_99 (by decide) ?_
                refine hq_goto (tgt := 113) C dX6_courier_100 (by decide) ?_
                refine hq_cVr (As := [.int _]) (rm := rX6_goesWell) (f := 26) (Nc := 1) C (m_X6_goesWell) wv_X6_goesWell ml_X6_124 rfl rfl rfl Nat.one_pos rfl rfl rfl rfl ⟨Nat.le_of_ble_eq_true rfl, Nat.le_of_ble_eq_true rfl⟩ (Nat.le_of_ble_eq_true rfl) ⟨Nat.le_of_ble_eq_true rfl, Nat.le_of_ble_eq_true rfl⟩ dX6_courier_113 ?_
                refine hq_if_ne (tgt := 121) C dX6_courier_116 (by decide) (fun c_116 => absurd c_116 (by decide)) (fun _ => ?_)
                refine hq_iconst (y := 0) C dX6_courier_119 (by decide) ?_
                exact hq_iret C hr hlk dX6_courier_120 (by rw [show (ps_courier P N x y z w nc) = _ from ((((if_neg c_44).trans (if_neg c_10)).trans (if_neg c_20)).trans (if_pos c_32))]; first | rfl | exact if_pos ⟨rfl, rfl⟩ | skip) (by rw [show (ps_courier P N x y z w nc) = _ from ((((if_neg c_44).trans (if_neg c_10)).trans (if_neg c_20)).trans (if_pos c_32))]; first | rfl | exact if_pos ⟨rfl, rfl⟩ | skip)
      · refine hq_iconst (y := 1) C dX6_courier_35 (by decide) ?_
        refine hq_goto (tgt := 40) C dX6_courier_36 (by decide) ?_
        refine hq_istore (L' := [(6, .int _), (5, .int _), (0, .ref _), (1, .int _), (2, .int _), (3, .int _), (4, .int _)]) C dX6_courier_40 (by decide) rfl ?_
        refine hq_iload (q := 1) C dX6_courier_42 rfl ?_
        refine hq_if_eq (tgt := 81) C dX6_courier_44 (by decide) (fun c_44 => ?_) (fun c_44 => ?_)
        · refine hq_iconst (y := 0) C dX6_courier_81 (by decide) ?_
          refine hq_istore (L' := [(7, .int _), (6, .int _), (5, .int _), (0, .ref _), (1, .int _), (2, .int _), (3, .int _), (4, .int _)]) C dX6_courier_82 (by decide) rfl ?_
          refine hq_aload_n (q := 3) C dX6_courier_84 rfl rfl ?_
          refine hq_iload (q := 2) C dX6_courier_85 rfl ?_
          refine hq_if_ne (tgt := 94) C dX6_courier_87 (by decide) (fun c_87 => absurd c_44 c_87) (fun c_87 => ?_)
          refine hq_iconst (y := 1) C dX6_courier_90 (by decide) ?_
          refine hq_goto (tgt := 113) C dX6_courier_91 (by decide) ?_
          refine hq_cVr (As := [.int _]) (rm := rX6_goesWell) (f := 26) (Nc := 1) C (m_X6_goesWell) wv_X6_goesWell ml_X6_124 rfl rfl rfl Nat.one_pos rfl rfl rfl rfl ⟨Nat.le_of_ble_eq_true rfl, Nat.le_of_ble_eq_true rfl⟩ (Nat.le_of_ble_eq_true rfl) ⟨Nat.le_of_ble_eq_true rfl, Nat.le_of_ble_eq_true rfl⟩ dX6_courier_113 ?_
          refine hq_if_ne (tgt := 121) C dX6_courier_116 (by decide) (fun c_116 => absurd c_116 (by decide)) (fun _ => ?_)
          refine hq_iconst (y := 0) C dX6_courier_119 (by decide) ?_
          exact hq_iret C hr hlk dX6_courier_120 (by rw [show (ps_courier P N x y z w nc) = _ from (if_pos c_44)]; first | rfl | exact if_pos ⟨rfl, rfl⟩ | skip) (by rw [show (ps_courier P N x y z w nc) = _ from (if_pos c_44)]; first | rfl | exact if_pos ⟨rfl, rfl⟩ | skip)
        · obtain ⟨⟨hx, hxb⟩, hy, hyb⟩ := br2_n hbc (by omega) c_44
          refine hq_aload_n (q := 2) C dX6_courier_47 rfl rfl ?_
          refine hq_getP (f := 26) (g := 2) (Nc := 1) (Ns := 38) C fr_X6_200 dX6_courier_48 rfl rfl rfl rfl rfl (by decide) Nat.one_pos ?_
          refine hq_bipush (y := 40) C dX6_courier_51 (by decide) ?_
          refine hq_icmp_ge (tgt := 81) C dX6_courier_53 (by decide) (fun c_53 => ?_) (fun c_53 => ?_)
          · refine hq_iconst (y := 0) C dX6_courier_81 (by decide) ?_
            refine hq_istore (L' := [(7, .int _), (6, .int _), (5, .int _), (0, .ref _), (1, .int _), (2, .int _), (3, .int _), (4, .int _)]) C dX6_courier_82 (by decide) rfl ?_
            refine hq_aload_n (q := 3) C dX6_courier_84 rfl rfl ?_
            refine hq_iload (q := 2) C dX6_courier_85 rfl ?_
            refine hq_if_ne (tgt := 94) C dX6_courier_87 (by decide) (fun c_87 => ?_) (fun c_87 => absurd c_87 c_44)
            refine hq_iload (q := 1) C dX6_courier_94 rfl ?_
            refine hq_if_ne (tgt := 103) C dX6_courier_96 (by decide) (fun _ => ?_) (fun c_96 => absurd c_96 (by decide))
            refine hq_iload (q := 0) C dX6_courier_103 rfl ?_
            refine hq_if_eq (tgt := 112) C dX6_courier_105 (by decide) (fun _ => ?_) (fun c_105 => absurd c_105 (by decide))
            refine hq_iconst (y := 3) C dX6_courier_112 (by decide) ?_
            refine hq_cVr (As := [.int _]) (rm := rX6_goesWell) (f := 26) (Nc := 1) C (m_X6_goesWell) wv_X6_goesWell ml_X6_124 rfl rfl rfl Nat.one_pos rfl rfl rfl rfl ⟨Nat.le_of_ble_eq_true rfl, Nat.le_of_ble_eq_true rfl⟩ (Nat.le_of_ble_eq_true rfl) ⟨Nat.le_of_ble_eq_true rfl, Nat.le_of_ble_eq_true rfl⟩ dX6_courier_113 ?_
            refine hq_if_ne (tgt := 121) C dX6_courier_116 (by decide) (fun c_116 => absurd c_116 (by decide)) (fun _ => ?_)
            refine hq_iconst (y := 0) C dX6_courier_119 (by decide) ?_
            exact hq_iret C hr hlk dX6_courier_120 (by rw [show (ps_courier P N x y z w nc) = _ from (((((if_neg c_44).trans (if_neg c_10)).trans (if_neg c_20)).trans (if_neg c_32)).trans (if_pos c_53))]; first | rfl | exact if_pos ⟨rfl, rfl⟩ | skip) (by rw [show (ps_courier P N x y z w nc) = _ from (((((if_neg c_44).trans (if_neg c_10)).trans (if_neg c_20)).trans (if_neg c_32)).trans (if_pos c_53))]; first | rfl | exact if_pos ⟨rfl, rfl⟩ | skip)
          · refine hq_aload_n (q := 2) C dX6_courier_56 rfl rfl ?_
            refine hq_getR (f := 26) (g := 30) (Nc := 1) (Ns := 38) C fr_X6_20 dX6_courier_57 rfl rfl rfl rfl rfl (by decide) Nat.one_pos ?_
            refine hq_iload_n (q := 3) C dX6_courier_60 rfl rfl ?_
            refine hq_ialdP0 (f := 30) (a := tn x) (g := 7) (Nc := 1) (Ns := 12) C dX6_courier_61 rfl rfl rfl rfl rfl rfl hx (by omega) Nat.one_pos ?_
            refine hq_if_ne (tgt := 81) C dX6_courier_62 (by decide) (fun c_62 => ?_) (fun c_62 => ?_)
            · refine hq_iconst (y := 0) C dX6_courier_81 (by decide) ?_
              refine hq_istore (L' := [(7, .int _), (6, .int _), (5, .int _), (0, .ref _), (1, .int _), (2, .int _), (3, .int _), (4, .int _)]) C dX6_courier_82 (by decide) rfl ?_
              refine hq_aload_n (q := 3) C dX6_courier_84 rfl rfl ?_
              refine hq_iload (q := 2) C dX6_courier_85 rfl ?_
              refine hq_if_ne (tgt := 94) C dX6_courier_87 (by decide) (fun c_87 => ?_) (fun c_87 => absurd c_87 c_44)
              refine hq_iload (q := 1) C dX6_courier_94 rfl ?_
              refine hq_if_ne (tgt := 103) C dX6_courier_96 (by decide) (fun _ => ?_) (fun c_96 => absurd c_96 (by decide))
              refine hq_iload (q := 0) C dX6_courier_103 rfl ?_
              refine hq_if_eq (tgt := 112) C dX6_courier_105 (by decide) (fun _ => ?_) (fun c_105 => absurd c_105 (by decide))
              refine hq_iconst (y := 3) C dX6_courier_112 (by decide) ?_
              refine hq_cVr (As := [.int _]) (rm := rX6_goesWell) (f := 26) (Nc := 1) C (m_X6_goesWell) wv_X6_goesWell ml_X6_124 rfl rfl rfl Nat.one_pos rfl rfl rfl rfl ⟨Nat.le_of_ble_eq_true rfl, Nat.le_of_ble_eq_true rfl⟩ (Nat.le_of_ble_eq_true rfl) ⟨Nat.le_of_ble_eq_true rfl, Nat.le_of_ble_eq_true rfl⟩ dX6_courier_113 ?_
              refine hq_if_ne (tgt := 121) C dX6_courier_116 (by decide) (fun c_116 => absurd c_116 (by decide)) (fun _ => ?_)
              refine hq_iconst (y := 0) C dX6_courier_119 (by decide) ?_
              exact hq_iret C hr hlk dX6_courier_120 (by rw [show (ps_courier P N x y z w nc) = _ from ((((((if_neg c_44).trans (if_neg c_10)).trans (if_neg c_20)).trans (if_neg c_32)).trans (if_neg c_53)).trans (if_pos c_62))]; first | rfl | exact if_pos ⟨rfl, rfl⟩ | skip) (by rw [show (ps_courier P N x y z w nc) = _ from ((((((if_neg c_44).trans (if_neg c_10)).trans (if_neg c_20)).trans (if_neg c_32)).trans (if_neg c_53)).trans (if_pos c_62))]; first | rfl | exact if_pos ⟨rfl, rfl⟩ | skip)
            · refine hq_aload_n (q := 2) C dX6_courier_65 rfl rfl ?_
              refine hq_getR (f := 26) (g := 28) (Nc := 1) (Ns := 38) C fr_X6_13 dX6_courier_66 rfl rfl rfl rfl rfl (by decide) Nat.one_pos ?_
              refine hq_iload_n (q := 3) C dX6_courier_69 rfl rfl ?_
              refine hq_laldN0 (f := 28) (a := tn x) (g := 0) (Nc := 1) (Ns := 12) C dX6_courier_70 rfl rfl rfl rfl rfl rfl hx (by omega) Nat.one_pos ?_
              refine hq_iload_n (q := 5) C dX6_courier_71 rfl rfl ?_
              refine hq_i2l C dX6_courier_72 ?_
              refine hq_lcmp C dX6_courier_73 ?_
              refine hq_if_lt (tgt := 81) C dX6_courier_74 (by decide) (fun c_74 => ?_) (fun c_74 => ?_)
              · refine hq_iconst (y := 0) C dX6_courier_81 (by decide) ?_
                refine hq_istore (L' := [(7, .int _), (6, .int _), (5, .int _), (0, .ref _), (1, .int _), (2, .int _), (3, .int _), (4, .int _)]) C dX6_courier_82 (by decide) rfl ?_
                refine hq_aload_n (q := 3) C dX6_courier_84 rfl rfl ?_
                refine hq_iload (q := 2) C dX6_courier_85 rfl ?_
                refine hq_if_ne (tgt := 94) C dX6_courier_87 (by decide) (fun c_87 => ?_) (fun c_87 => absurd c_87 c_44)
                refine hq_iload (q := 1) C dX6_courier_94 rfl ?_
                refine hq_if_ne (tgt := 103) C dX6_courier_96 (by decide) (fun _ => ?_) (fun c_96 => absurd c_96 (by decide))
                refine hq_iload (q := 0) C dX6_courier_103 rfl ?_
                refine hq_if_eq (tgt := 112) C dX6_courier_105 (by decide) (fun _ => ?_) (fun c_105 => absurd c_105 (by decide))
                refine hq_iconst (y := 3) C dX6_courier_112 (by decide) ?_
                refine hq_cVr (As := [.int _]) (rm := rX6_goesWell) (f := 26) (Nc := 1) C (m_X6_goesWell) wv_X6_goesWell ml_X6_124 rfl rfl rfl Nat.one_pos rfl rfl rfl rfl ⟨Nat.le_of_ble_eq_true rfl, Nat.le_of_ble_eq_true rfl⟩ (Nat.le_of_ble_eq_true rfl) ⟨Nat.le_of_ble_eq_true rfl, Nat.le_of_ble_eq_true rfl⟩ dX6_courier_113 ?_
                refine hq_if_ne (tgt := 121) C dX6_courier_116 (by decide) (fun c_116 => absurd c_116 (by decide)) (fun _ => ?_)
                refine hq_iconst (y := 0) C dX6_courier_119 (by decide) ?_
                exact hq_iret C hr hlk dX6_courier_120 (by rw [show (ps_courier P N x y z w nc) = _ from (((((((if_neg c_44).trans (if_neg c_10)).trans (if_neg c_20)).trans (if_neg c_32)).trans (if_neg c_53)).trans (if_neg (fun z9 => z9 c_62))).trans (if_pos c_74))]; first | rfl | exact if_pos ⟨rfl, rfl⟩ | skip) (by rw [show (ps_courier P N x y z w nc) = _ from (((((((if_neg c_44).trans (if_neg c_10)).trans (if_neg c_20)).trans (if_neg c_32)).trans (if_neg c_53)).trans (if_neg (fun z9 => z9 c_62))).trans (if_pos c_74))]; first | rfl | exact if_pos ⟨rfl, rfl⟩ | skip)
              · refine hq_iconst (y := 1) C dX6_courier_77 (by decide) ?_
                refine hq_goto (tgt := 82) C dX6_courier_78 (by decide) ?_
                refine hq_istore (L' := [(7, .int _), (6, .int _), (5, .int _), (0, .ref _), (1, .int _), (2, .int _), (3, .int _), (4, .int _)]) C dX6_courier_82 (by decide) rfl ?_
                refine hq_aload_n (q := 3) C dX6_courier_84 rfl rfl ?_
                refine hq_iload (q := 2) C dX6_courier_85 rfl ?_
                refine hq_if_ne (tgt := 94) C dX6_courier_87 (by decide) (fun c_87 => ?_) (fun c_87 => absurd c_87 c_44)
                refine hq_iload (q := 1) C dX6_courier_94 rfl ?_
                refine hq_if_ne (tgt := 103) C dX6_courier_96 (by decide) (fun _ => ?_) (fun c_96 => absurd c_96 (by decide))
                refine hq_iload (q := 0) C dX6_courier_103 rfl ?_
                refine hq_if_eq (tgt := 112) C dX6_courier_105 (by decide) (fun c_105 => absurd c_105 (by decide)) (fun _ => ?_)
                refine hq_iconst (y := 0) C dX6_courier_108 (by decide) ?_
                refine hq_goto (tgt := 113) C dX6_courier_109 (by decide) ?_
                refine hq_cVr (As := [.int _]) (rm := rX6_goesWell) (f := 26) (Nc := 1) C (m_X6_goesWell) wv_X6_goesWell ml_X6_124 rfl rfl rfl Nat.one_pos rfl rfl rfl rfl ⟨Nat.le_of_ble_eq_true rfl, Nat.le_of_ble_eq_true rfl⟩ (Nat.le_of_ble_eq_true rfl) ⟨Nat.le_of_ble_eq_true rfl, Nat.le_of_ble_eq_true rfl⟩ dX6_courier_113 ?_
                refine hq_if_ne (tgt := 121) C dX6_courier_116 (by decide) (fun _ => ?_) (fun c_116 => absurd c_116 (by decide))
                refine hq_aload_n (q := 3) C dX6_courier_121 rfl rfl ?_
                refine hq_getR (f := 26) (g := 28) (Nc := 1) (Ns := 38) C fr_X6_13 dX6_courier_122 rfl rfl rfl rfl rfl (by decide) Nat.one_pos ?_
                refine hq_iload_n (q := 4) C dX6_courier_125 rfl rfl ?_
                refine hq_dup2 C dX6_courier_126 rfl rfl ?_
                refine hq_laldN0 (f := 28) (a := tn x) (g := 0) (Nc := 1) (Ns := 12) C dX6_courier_127 rfl rfl rfl rfl rfl rfl hx (by omega) Nat.one_pos ?_
                refine hq_iload_n (q := 6) C dX6_courier_128 rfl rfl ?_
                refine hq_i2l C dX6_courier_129 ?_
                refine hq_lsub C dX6_courier_130 ?_
                refine hq_lastN0 (f := 28) (a := tn x) (g := 0) (Nc := 1) (Ns := 12) C dX6_courier_131 rfl rfl rfl rfl rfl rfl hx (by omega) Nat.one_pos ?_
                refine hq_aload_n (q := 3) C dX6_courier_132 rfl rfl ?_
                refine hq_getR (f := 26) (g := 47) (Nc := 1) (Ns := 38) C fr_X6_72 dX6_courier_133 rfl rfl rfl rfl rfl (by decide) Nat.one_pos ?_
                refine hq_aload_n (q := 3) C dX6_courier_136 rfl rfl ?_
                refine hq_getP (f := 26) (g := 2) (Nc := 1) (Ns := 38) C fr_X6_200 dX6_courier_137 rfl rfl rfl rfl rfl (by decide) Nat.one_pos ?_
                refine hq_iload_n (q := 6) C dX6_courier_140 rfl rfl ?_
                refine hq_iastP0 (f := 47) (a := nc) (g := 24) (Nc := 1) (Ns := 41) C dX6_courier_141 rfl rfl rfl rfl rfl rfl hcc (by omega) Nat.one_pos ?_
                refine hq_aload_n (q := 3) C dX6_courier_142 rfl rfl ?_
                refine hq_getR (f := 26) (g := 48) (Nc := 1) (Ns := 38) C fr_X6_75 dX6_courier_143 rfl rfl rfl rfl rfl (by decide) Nat.one_pos ?_
                refine hq_aload_n (q := 3) C dX6_courier_146 rfl rfl ?_
                refine hq_getP (f := 26) (g := 2) (Nc := 1) (Ns := 38) C fr_X6_200 dX6_courier_147 rfl rfl rfl rfl rfl (by decide) Nat.one_pos ?_
                refine hq_iload_n (q := 4) C dX6_courier_150 rfl rfl ?_
                refine hq_iastP0 (f := 48) (a := nc) (g := 22) (Nc := 1) (Ns := 41) C dX6_courier_151 rfl rfl rfl rfl rfl rfl hcc (by omega) Nat.one_pos ?_
                refine hq_aload_n (q := 3) C dX6_courier_152 rfl rfl ?_
                refine hq_getR (f := 26) (g := 49) (Nc := 1) (Ns := 38) C fr_X6_78 dX6_courier_153 rfl rfl rfl rfl rfl (by decide) Nat.one_pos ?_
                refine hq_aload_n (q := 3) C dX6_courier_156 rfl rfl ?_
                refine hq_getP (f := 26) (g := 2) (Nc := 1) (Ns := 38) C fr_X6_200 dX6_courier_157 rfl rfl rfl rfl rfl (by decide) Nat.one_pos ?_
                refine hq_iload_n (q := 5) C dX6_courier_160 rfl rfl ?_
                refine hq_iastP0 (f := 49) (a := nc) (g := 23) (Nc := 1) (Ns := 41) C dX6_courier_161 rfl rfl rfl rfl rfl rfl hcc (by omega) Nat.one_pos ?_
                refine hq_aload_n (q := 3) C dX6_courier_162 rfl rfl ?_
                refine hq_getR (f := 26) (g := 50) (Nc := 1) (Ns := 38) C fr_X6_81 dX6_courier_163 rfl rfl rfl rfl rfl (by decide) Nat.one_pos ?_
                refine hq_aload_n (q := 3) C dX6_courier_166 rfl rfl ?_
                refine hq_getP (f := 26) (g := 2) (Nc := 1) (Ns := 38) C fr_X6_200 dX6_courier_167 rfl rfl rfl rfl rfl (by decide) Nat.one_pos ?_
                refine hq_aload_n (q := 3) C dX6_courier_170 rfl rfl ?_
                refine hq_getP (f := 26) (g := 3) (Nc := 1) (Ns := 38) C fr_X6_194 dX6_courier_171 rfl rfl rfl rfl rfl (by decide) Nat.one_pos ?_
                refine hq_iload (q := 7) C dX6_courier_174 rfl ?_
                refine hq_iadd C dX6_courier_176 ?_
                refine hq_iastP0 (f := 50) (a := nc) (g := 25) (Nc := 1) (Ns := 41) C dX6_courier_177 rfl rfl rfl rfl rfl rfl hcc (by omega) Nat.one_pos ?_
                refine hq_aload_n (q := 3) C dX6_courier_178 rfl rfl ?_
                refine hq_dup C dX6_courier_179 rfl ?_
                refine hq_getP (f := 26) (g := 2) (Nc := 1) (Ns := 38) C fr_X6_200 dX6_courier_180 rfl rfl rfl rfl rfl (by decide) Nat.one_pos ?_
                refine hq_iconst (y := 1) C dX6_courier_183 (by decide) ?_
                refine hq_iadd C dX6_courier_184 ?_
                refine hq_putP (f := 26) (g := 2) (Nc := 1) (Ns := 38) C fl_X6_200 dX6_courier_185 rfl rfl rfl rfl rfl (by decide) Nat.one_pos rfl rfl ?_
                refine hq_aload_n (q := 3) C dX6_courier_188 rfl rfl ?_
                refine hq_getP (f := 26) (g := 2) (Nc := 1) (Ns := 38) C fr_X6_200 dX6_courier_189 rfl rfl rfl rfl rfl (by decide) Nat.one_pos ?_
                refine hq_iconst (y := 1) C dX6_courier_192 (by decide) ?_
                refine hq_isub C dX6_courier_193 ?_
                exact hq_iret C hr hlk dX6_courier_194 (by rw [show (ps_courier P N x y z w nc) = _ from (((((((if_neg c_44).trans (if_neg c_10)).trans (if_neg c_20)).trans (if_neg c_32)).trans (if_neg c_53)).trans (if_neg (fun z9 => z9 c_62))).trans (if_neg c_74))]; first | rfl | exact if_pos ⟨rfl, rfl⟩ | skip) (by rw [show (ps_courier P N x y z w nc) = _ from (((((((if_neg c_44).trans (if_neg c_10)).trans (if_neg c_20)).trans (if_neg c_32)).trans (if_neg c_53)).trans (if_neg (fun z9 => z9 c_62))).trans (if_neg c_74))]; first | rfl | exact if_pos ⟨rfl, rfl⟩ | skip)
def ps_rob (P : MI) (N : MJ) (x : Int32) : Int32 × MI × MJ := if sx_in x 0 (P 2 0 - 1) = 0 then (0, uI P 40 0 1, N) else if ¬ P 41 (tn x) = 0 then (0, uI P 40 0 2, N) else (P 24 (tn x), uI (uI P 40 0 0) 41 (tn x) 1, uJ N 4 3 (N 4 3 + (P 24 (tn x)).toInt64))
set_option maxHeartbeats 4000000 in
set_option maxRecDepth 100000 in
theorem m_X6_rob {l : Launch} {D : va_G} {b0 : Nat} {I : MI} {J : MJ} {P : MI} {N : MJ} {o : Int64} {x : Int32} {nb no nc : Nat} (h : pv_iv P nb no nc) : hM l yX6_rob cX6_rob 3 (some .int) rX6_rob D b0 [.ref (hw_ad b0 26 0), .int x] I J P N o (some (.int (ps_rob P N x).1)) I J (ps_rob P N x).2.1 (ps_rob P N x).2.2 o := by
  have hnb := h.1.2
  have hno := h.2.1.2
  have hnc := h.2.2.1.2
  have hbc := h.1.1
  have hoc := h.2.1.1
  have hcc := h.2.2.1.1
  refine hw_Mof (by decide) [(0, .ref _), (1, .int _)] rfl (Nat.le_of_ble_eq_true rfl) ?_
  intro p e s m args below meth c C hr hlk hnm
  refine hq_iload_n (q := 1) C dX6_rob_0 rfl rfl ?_
  refine hq_iconst (y := 0) C dX6_rob_1 (by decide) ?_
  refine hq_aload_n (q := 0) C dX6_rob_2 rfl rfl ?_
  refine hq_getP (f := 26) (g := 2) (Nc := 1) (Ns := 38) C fr_X6_200 dX6_rob_3 rfl rfl rfl rfl rfl (by decide) Nat.one_pos ?_
  refine hq_iconst (y := 1) C dX6_rob_6 (by decide) ?_
  refine hq_isub C dX6_rob_7 ?_
  refine hq_cSr (As := [.int _, .int _, .int _]) (rm := rX6_in) (Cn := "") C (m_X6_in) ws_X6_in ml_X6_116 rfl rfl rfl rfl ⟨Nat.le_of_ble_eq_true rfl, Nat.le_of_ble_eq_true rfl⟩ (Nat.le_of_ble_eq_true rfl) ⟨Nat.le_of_ble_eq_true rfl, Nat.le_of_ble_eq_true rfl⟩ dX6_rob_8 ?_
  refine hq_istore_n (L' := [(2, .int _), (0, .ref _), (1, .int _)]) C dX6_rob_11 rfl (by decide) rfl ?_
  refine hq_aload_n (q := 1) C dX6_rob_12 rfl rfl ?_
  refine hq_iload_n (q := 0) C dX6_rob_13 rfl rfl ?_
  refine hq_if_ne (tgt := 21) C dX6_rob_14 (by decide) (fun c_14 => ?_) (fun c_14 => ?_)
  · obtain ⟨hx, hxb⟩ := in_n hcc (by omega) c_14
    refine hq_aload_n (q := 1) C dX6_rob_21 rfl rfl ?_
    refine hq_getR (f := 26) (g := 51) (Nc := 1) (Ns := 38) C fr_X6_84 dX6_rob_22 rfl rfl rfl rfl rfl (by decide) Nat.one_pos ?_
    refine hq_iload_n (q := 2) C dX6_rob_25 rfl rfl ?_
    refine hq_zaldP0 (f := 51) (a := tn x) (g := 41) (Nc := 1) (Ns := 41) C dX6_rob_26 rfl rfl rfl rfl rfl rfl hx (by omega) Nat.one_pos ?_
    refine hq_if_eq (tgt := 34) C dX6_rob_27 (by decide) (fun c_27 => ?_) (fun c_27 => ?_)
    · refine hq_iconst (y := 0) C dX6_rob_34 (by decide) ?_
      refine hq_cVr (As := [.int _]) (rm := rX6_goesWell) (f := 26) (Nc := 1) C (m_X6_goesWell) wv_X6_goesWell ml_X6_124 rfl rfl rfl Nat.one_pos rfl rfl rfl rfl ⟨Nat.le_of_ble_eq_true rfl, Nat.le_of_ble_eq_true rfl⟩ (Nat.le_of_ble_eq_true rfl) ⟨Nat.le_of_ble_eq_true rfl, Nat.le_of_ble_eq_true rfl⟩ dX6_rob_35 ?_
      refine hq_if_ne (tgt := 43) C dX6_rob_38 (by decide) (fun _ => ?_) (fun c_38 => absurd c_38 (by decide))
      refine hq_aload_n (q := 1) C dX6_rob_43 rfl rfl ?_
      refine hq_getR (f := 26) (g := 51) (Nc := 1) (Ns := 38) C fr_X6_84 dX6_rob_44 rfl rfl rfl rfl rfl (by decide) Nat.one_pos ?_
      refine hq_iload_n (q := 2) C dX6_rob_47 rfl rfl ?_
      refine hq_iconst (y := 1) C dX6_rob_48 (by decide) ?_
      refine hq_zastP0 (f := 51) (a := tn x) (g := 41) (Nc := 1) (Ns := 41) C dX6_rob_49 rfl rfl rfl rfl rfl rfl hx (by omega) Nat.one_pos (by decide) ?_
      refine hq_aload_n (q := 1) C dX6_rob_50 rfl rfl ?_
      refine hq_getR (f := 26) (g := 55) (Nc := 1) (Ns := 38) C fr_X6_97 dX6_rob_51 rfl rfl rfl rfl rfl (by decide) Nat.one_pos ?_
      refine hq_iconst (y := 3) C dX6_rob_54 (by decide) ?_
      refine hq_dup2 C dX6_rob_55 rfl rfl ?_
      refine hq_laldN0 (f := 55) (a := 3) (g := 4) (Nc := 1) (Ns := 5) C dX6_rob_56 rfl rfl rfl rfl rfl rfl rfl (by decide) Nat.one_pos ?_
      refine hq_aload_n (q := 1) C dX6_rob_57 rfl rfl ?_
      refine hq_getR (f := 26) (g := 47) (Nc := 1) (Ns := 38) C fr_X6_72 dX6_rob_58 rfl rfl rfl rfl rfl (by decide) Nat.one_pos ?_
      refine hq_iload_n (q := 2) C dX6_rob_61 rfl rfl ?_
      refine hq_ialdP0 (f := 47) (a := tn x) (g := 24) (Nc := 1) (Ns := 41) C dX6_rob_62 rfl rfl rfl rfl rfl rfl hx (by omega) Nat.one_pos ?_
      refine hq_i2l C dX6_rob_63 ?_
      refine hq_ladd C dX6_rob_64 ?_
      refine hq_lastN0 (f := 55) (a := 3) (g := 4) (Nc := 1) (Ns := 5) C dX6_rob_65 rfl rfl rfl rfl rfl rfl rfl (by decide) Nat.one_pos ?_
      refine hq_aload_n (q := 1) C dX6_rob_66 rfl rfl ?_
      refine hq_getR (f := 26) (g := 47) (Nc := 1) (Ns := 38) C fr_X6_72 dX6_rob_67 rfl rfl rfl rfl rfl (by decide) Nat.one_pos ?_
      refine hq_iload_n (q := 2) C dX6_rob_70 rfl rfl ?_
      refine hq_ialdP0 (f := 47) (a := tn x) (g := 24) (Nc := 1) (Ns := 41) C dX6_rob_71 rfl rfl rfl rfl rfl rfl hx (by omega) Nat.one_pos ?_
      exact hq_iret C hr hlk dX6_rob_72 (by rw [show (ps_rob P N x) = _ from ((if_neg c_14).trans (if_neg (fun z9 => z9 c_27)))]; first | rfl | exact if_pos ⟨rfl, rfl⟩ | skip) (by rw [show (ps_rob P N x) = _ from ((if_neg c_14).trans (if_neg (fun z9 => z9 c_27)))]; first | rfl | exact if_pos ⟨rfl, rfl⟩ | skip)
    · refine hq_iconst (y := 2) C dX6_rob_30 (by decide) ?_
      refine hq_goto (tgt := 35) C dX6_rob_31 (by decide) ?_
      refine hq_cVr (As := [.int _]) (rm := rX6_goesWell) (f := 26) (Nc := 1) C (m_X6_goesWell) wv_X6_goesWell ml_X6_124 rfl rfl rfl Nat.one_pos rfl rfl rfl rfl ⟨Nat.le_of_ble_eq_true rfl, Nat.le_of_ble_eq_true rfl⟩ (Nat.le_of_ble_eq_true rfl) ⟨Nat.le_of_ble_eq_true rfl, Nat.le_of_ble_eq_true rfl⟩ dX6_rob_35 ?_
      refine hq_if_ne (tgt := 43) C dX6_rob_38 (by decide) (fun c_38 => absurd c_38 (by decide)) (fun _ => ?_)
      refine hq_iconst (y := 0) C dX6_rob_41 (by decide) ?_
      exact hq_iret C hr hlk dX6_rob_42 (by rw [show (ps_rob P N x) = _ from ((if_neg c_14).trans (if_pos c_27))]; first | rfl | exact if_pos ⟨rfl, rfl⟩ | skip) (by rw [show (ps_rob P N x) = _ from ((if_neg c_14).trans (if_pos c_27))]; first | rfl | exact if_pos ⟨rfl, rfl⟩ | skip)
  · refine hq_iconst (y := 1) C dX6_rob_17 (by decide) ?_
    refine hq_goto (tgt := 35) C dX6_rob_18 (by decide) ?_
    refine hq_cVr (As := [.int _]) (rm := rX6_goesWell) (f := 26) (Nc := 1) C (m_X6_goesWell) wv_X6_goesWell ml_X6_124 rfl rfl rfl Nat.one_pos rfl rfl rfl rfl ⟨Nat.le_of_ble_eq_true rfl, Nat.le_of_ble_eq_true rfl⟩ (Nat.le_of_ble_eq_true rfl) ⟨Nat.le_of_ble_eq_true rfl, Nat.le_of_ble_eq_true rfl⟩ dX6_rob_35 ?_
    refine hq_if_ne (tgt := 43) C dX6_rob_38 (by decide) (fun c_38 => absurd c_38 (by decide)) (fun _ => ?_)
    refine hq_iconst (y := 0) C dX6_rob_41 (by decide) ?_
    exact hq_iret C hr hlk dX6_rob_42 (by rw [show (ps_rob P N x) = _ from (if_pos c_14)]; first | rfl | exact if_pos ⟨rfl, rfl⟩ | skip) (by rw [show (ps_rob P N x) = _ from (if_pos c_14)]; first | rfl | exact if_pos ⟨rfl, rfl⟩ | skip)
def ps_law (P : MI) (N : MJ) (x y : Int32) : Int32 × MI × MJ := if sx_in x 0 7 = 0 then (0, uI P 40 0 1, N) else if sx_in y 0 1000000 = 0 then (0, uI P 40 0 2, N) else (P 29 (tn x), uI (uI P 40 0 0) 28 (tn x) y, N)
set_option maxHeartbeats 4000000 in
set_option maxRecDepth 100000 in
theorem m_X6_law {l : Launch} {D : va_G} {b0 : Nat} {I : MI} {J : MJ} {P : MI} {N : MJ} {o : Int64} {x y : Int32} {nb no nc : Nat} (h : pv_iv P nb no nc) : hM l yX6_law cX6_law 4 (some .int) rX6_law D b0 [.ref (hw_ad b0 26 0), .int x, .int y] I J P N o (some (.int (ps_law P N x y).1)) I J (ps_law P N x y).2.1 (ps_law P N x y).2.2 o := by
  have hnb := h.1.2
  have hno := h.2.1.2
  have hnc := h.2.2.1.2
  have hbc := h.1.1
  have hoc := h.2.1.1
  have hcc := h.2.2.1.1
  refine hw_Mof (by decide) [(0, .ref _), (1, .int _), (2, .int _)] rfl (Nat.le_of_ble_eq_true rfl) ?_
  intro p e s m args below meth c C hr hlk hnm
  refine hq_iload_n (q := 1) C dX6_law_0 rfl rfl ?_
  refine hq_iconst (y := 0) C dX6_law_1 (by decide) ?_
  refine hq_bipush (y := 7) C dX6_law_2 (by decide) ?_
  refine hq_cSr (As := [.int _, .int _, .int _]) (rm := rX6_in) (Cn := "") C (m_X6_in) ws_X6_in ml_X6_116 rfl rfl rfl rfl ⟨Nat.le_of_ble_eq_true rfl, Nat.le_of_ble_eq_true rfl⟩ (Nat.le_of_ble_eq_true rfl) ⟨Nat.le_of_ble_eq_true rfl, Nat.le_of_ble_eq_true rfl⟩ dX6_law_4 ?_
  refine hq_istore_n (L' := [(3, .int _), (0, .ref _), (1, .int _), (2, .int _)]) C dX6_law_7 rfl (by decide) rfl ?_
  refine hq_aload_n (q := 1) C dX6_law_8 rfl rfl ?_
  refine hq_iload_n (q := 0) C dX6_law_9 rfl rfl ?_
  refine hq_if_ne (tgt := 17) C dX6_law_10 (by decide) (fun c_10 => ?_) (fun c_10 => ?_)
  · refine hq_iload_n (q := 3) C dX6_law_17 rfl rfl ?_
    refine hq_iconst (y := 0) C dX6_law_18 (by decide) ?_
    refine hq_ldc C wc_X6_87 dX6_law_19 ?_
    refine hq_cSr (As := [.int _, .int _, .int _]) (rm := rX6_in) (Cn := "") C (m_X6_in) ws_X6_in ml_X6_116 rfl rfl rfl rfl ⟨Nat.le_of_ble_eq_true rfl, Nat.le_of_ble_eq_true rfl⟩ (Nat.le_of_ble_eq_true rfl) ⟨Nat.le_of_ble_eq_true rfl, Nat.le_of_ble_eq_true rfl⟩ dX6_law_21 ?_
    refine hq_if_eq (tgt := 31) C dX6_law_24 (by decide) (fun c_24 => ?_) (fun c_24 => ?_)
    · refine hq_iconst (y := 2) C dX6_law_31 (by decide) ?_
      refine hq_cVr (As := [.int _]) (rm := rX6_goesWell) (f := 26) (Nc := 1) C (m_X6_goesWell) wv_X6_goesWell ml_X6_124 rfl rfl rfl Nat.one_pos rfl rfl rfl rfl ⟨Nat.le_of_ble_eq_true rfl, Nat.le_of_ble_eq_true rfl⟩ (Nat.le_of_ble_eq_true rfl) ⟨Nat.le_of_ble_eq_true rfl, Nat.le_of_ble_eq_true rfl⟩ dX6_law_32 ?_
      refine hq_if_ne (tgt := 40) C dX6_law_35 (by decide) (fun c_35 => absurd c_35 (by decide)) (fun _ => ?_)
      refine hq_iconst (y := 0) C dX6_law_38 (by decide) ?_
      exact hq_iret C hr hlk dX6_law_39 (by rw [show (ps_law P N x y) = _ from ((if_neg c_10).trans (if_pos c_24))]; first | rfl | exact if_pos ⟨rfl, rfl⟩ | skip) (by rw [show (ps_law P N x y) = _ from ((if_neg c_10).trans (if_pos c_24))]; first | rfl | exact if_pos ⟨rfl, rfl⟩ | skip)
    · refine hq_iconst (y := 0) C dX6_law_27 (by decide) ?_
      refine hq_goto (tgt := 32) C dX6_law_28 (by decide) ?_
      refine hq_cVr (As := [.int _]) (rm := rX6_goesWell) (f := 26) (Nc := 1) C (m_X6_goesWell) wv_X6_goesWell ml_X6_124 rfl rfl rfl Nat.one_pos rfl rfl rfl rfl ⟨Nat.le_of_ble_eq_true rfl, Nat.le_of_ble_eq_true rfl⟩ (Nat.le_of_ble_eq_true rfl) ⟨Nat.le_of_ble_eq_true rfl, Nat.le_of_ble_eq_true rfl⟩ dX6_law_32 ?_
      refine hq_if_ne (tgt := 40) C dX6_law_35 (by decide) (fun _ => ?_) (fun c_35 => absurd c_35 (by decide))
      obtain ⟨hx, hxb⟩ := in_c (n := 7) (by decide) (by omega) c_10
      refine hq_aload_n (q := 1) C dX6_law_40 rfl rfl ?_
      refine hq_getR (f := 26) (g := 52) (Nc := 1) (Ns := 38) C fr_X6_88 dX6_law_41 rfl rfl rfl rfl rfl (by decide) Nat.one_pos ?_
      refine hq_iload_n (q := 2) C dX6_law_44 rfl rfl ?_
      refine hq_iload_n (q := 3) C dX6_law_45 rfl rfl ?_
      refine hq_iastP0 (f := 52) (a := tn x) (g := 28) (Nc := 1) (Ns := 8) C dX6_law_46 rfl rfl rfl rfl rfl rfl hx (by omega) Nat.one_pos ?_
      refine hq_aload_n (q := 1) C dX6_law_47 rfl rfl ?_
      refine hq_getR (f := 26) (g := 53) (Nc := 1) (Ns := 38) C fr_X6_91 dX6_law_48 rfl rfl rfl rfl rfl (by decide) Nat.one_pos ?_
      refine hq_iload_n (q := 2) C dX6_law_51 rfl rfl ?_
      refine hq_ialdP0 (f := 53) (a := tn x) (g := 29) (Nc := 1) (Ns := 8) C dX6_law_52 rfl rfl rfl rfl rfl rfl hx (by omega) Nat.one_pos ?_
      exact hq_iret C hr hlk dX6_law_53 (by rw [show (ps_law P N x y) = _ from ((if_neg c_10).trans (if_neg c_24))]; first | rfl | exact if_pos ⟨rfl, rfl⟩ | skip) (by rw [show (ps_law P N x y) = _ from ((if_neg c_10).trans (if_neg c_24))]; first | rfl | exact if_pos ⟨rfl, rfl⟩ | skip)
  · refine hq_iconst (y := 1) C dX6_law_13 (by decide) ?_
    refine hq_goto (tgt := 32) C dX6_law_14 (by decide) ?_
    refine hq_cVr (As := [.int _]) (rm := rX6_goesWell) (f := 26) (Nc := 1) C (m_X6_goesWell) wv_X6_goesWell ml_X6_124 rfl rfl rfl Nat.one_pos rfl rfl rfl rfl ⟨Nat.le_of_ble_eq_true rfl, Nat.le_of_ble_eq_true rfl⟩ (Nat.le_of_ble_eq_true rfl) ⟨Nat.le_of_ble_eq_true rfl, Nat.le_of_ble_eq_true rfl⟩ dX6_law_32 ?_
    refine hq_if_ne (tgt := 40) C dX6_law_35 (by decide) (fun c_35 => absurd c_35 (by decide)) (fun _ => ?_)
    refine hq_iconst (y := 0) C dX6_law_38 (by decide) ?_
    exact hq_iret C hr hlk dX6_law_39 (by rw [show (ps_law P N x y) = _ from (if_pos c_10)]; first | rfl | exact if_pos ⟨rfl, rfl⟩ | skip) (by rw [show (ps_law P N x y) = _ from (if_pos c_10)]; first | rfl | exact if_pos ⟨rfl, rfl⟩ | skip)
def ps_list (P : MI) (N : MJ) (x : Int32) : Int32 × MI × MJ := if sx_in x 0 19 = 0 then (0, uI P 40 0 1, N) else if ¬ P 30 (tn x) = 0 then (0, uI (uI P 40 0 0) 30 (tn x) 0, N) else (1, uI (uI P 40 0 0) 30 (tn x) 1, N)
set_option maxHeartbeats 4000000 in
set_option maxRecDepth 100000 in
theorem m_X6_list {l : Launch} {D : va_G} {b0 : Nat} {I : MI} {J : MJ} {P : MI} {N : MJ} {o : Int64} {x : Int32} {nb no nc : Nat} (h : pv_iv P nb no nc) : hM l yX6_list cX6_list 2 (some .boolean) rX6_list D b0 [.ref (hw_ad b0 26 0), .int x] I J P N o (some (.int (ps_list P N x).1)) I J (ps_list P N x).2.1 (ps_list P N x).2.2 o := by
  have hnb := h.1.2
  have hno := h.2.1.2
  have hnc := h.2.2.1.2
  have hbc := h.1.1
  have hoc := h.2.1.1
  have hcc := h.2.2.1.1
  refine hw_Mof (by decide) [(0, .ref _), (1, .int _)] rfl (Nat.le_of_ble_eq_true rfl) ?_
  intro p e s m args below meth c C hr hlk hnm
  refine hq_aload_n (q := 0) C dX6_list_0 rfl rfl ?_
  refine hq_iload_n (q := 1) C dX6_list_1 rfl rfl ?_
  refine hq_iconst (y := 0) C dX6_list_2 (by decide) ?_
  refine hq_bipush (y := 19) C dX6_list_3 (by decide) ?_
  refine hq_cSr (As := [.int _, .int _, .int _]) (rm := rX6_in) (Cn := "") C (m_X6_in) ws_X6_in ml_X6_116 rfl rfl rfl rfl ⟨Nat.le_of_ble_eq_true rfl, Nat.le_of_ble_eq_true rfl⟩ (Nat.le_of_ble_eq_true rfl) ⟨Nat.le_of_ble_eq_true rfl, Nat.le_of_ble_eq_true rfl⟩ dX6_list_5 ?_
  refine hq_if_eq (tgt := 15) C dX6_list_8 (by decide) (fun c_8 => ?_) (fun c_8 => ?_)
  · refine hq_iconst (y := 1) C dX6_list_15 (by decide) ?_
    refine hq_cVr (As := [.int _]) (rm := rX6_goesWell) (f := 26) (Nc := 1) C (m_X6_goesWell) wv_X6_goesWell ml_X6_124 rfl rfl rfl Nat.one_pos rfl rfl rfl rfl ⟨Nat.le_of_ble_eq_true rfl, Nat.le_of_ble_eq_true rfl⟩ (Nat.le_of_ble_eq_true rfl) ⟨Nat.le_of_ble_eq_true rfl, Nat.le_of_ble_eq_true rfl⟩ dX6_list_16 ?_
    refine hq_if_ne (tgt := 24) C dX6_list_19 (by decide) (fun c_19 => absurd c_19 (by decide)) (fun _ => ?_)
    refine hq_iconst (y := 0) C dX6_list_22 (by decide) ?_
    exact hq_zret C hr hlk dX6_list_23 (by decide) (by rw [show (ps_list P N x) = _ from (if_pos c_8)]; first | rfl | exact if_pos ⟨rfl, rfl⟩ | skip) (by rw [show (ps_list P N x) = _ from (if_pos c_8)]; first | rfl | exact if_pos ⟨rfl, rfl⟩ | skip)
  · refine hq_iconst (y := 0) C dX6_list_11 (by decide) ?_
    refine hq_goto (tgt := 16) C dX6_list_12 (by decide) ?_
    refine hq_cVr (As := [.int _]) (rm := rX6_goesWell) (f := 26) (Nc := 1) C (m_X6_goesWell) wv_X6_goesWell ml_X6_124 rfl rfl rfl Nat.one_pos rfl rfl rfl rfl ⟨Nat.le_of_ble_eq_true rfl, Nat.le_of_ble_eq_true rfl⟩ (Nat.le_of_ble_eq_true rfl) ⟨Nat.le_of_ble_eq_true rfl, Nat.le_of_ble_eq_true rfl⟩ dX6_list_16 ?_
    refine hq_if_ne (tgt := 24) C dX6_list_19 (by decide) (fun _ => ?_) (fun c_19 => absurd c_19 (by decide))
    obtain ⟨hx, hxb⟩ := in_c (n := 19) (by decide) (by omega) c_8
    refine hq_aload_n (q := 0) C dX6_list_24 rfl rfl ?_
    refine hq_getR (f := 26) (g := 54) (Nc := 1) (Ns := 38) C fr_X6_94 dX6_list_25 rfl rfl rfl rfl rfl (by decide) Nat.one_pos ?_
    refine hq_iload_n (q := 1) C dX6_list_28 rfl rfl ?_
    refine hq_aload_n (q := 0) C dX6_list_29 rfl rfl ?_
    refine hq_getR (f := 26) (g := 54) (Nc := 1) (Ns := 38) C fr_X6_94 dX6_list_30 rfl rfl rfl rfl rfl (by decide) Nat.one_pos ?_
    refine hq_iload_n (q := 1) C dX6_list_33 rfl rfl ?_
    refine hq_zaldP0 (f := 54) (a := tn x) (g := 30) (Nc := 1) (Ns := 20) C dX6_list_34 rfl rfl rfl rfl rfl rfl hx (by omega) Nat.one_pos ?_
    refine hq_if_ne (tgt := 42) C dX6_list_35 (by decide) (fun c_35 => ?_) (fun c_35 => ?_)
    · refine hq_iconst (y := 0) C dX6_list_42 (by decide) ?_
      refine hq_zastP0 (f := 54) (a := tn x) (g := 30) (Nc := 1) (Ns := 20) C dX6_list_43 rfl rfl rfl rfl rfl rfl hx (by omega) Nat.one_pos (by decide) ?_
      refine hq_aload_n (q := 0) C dX6_list_44 rfl rfl ?_
      refine hq_getR (f := 26) (g := 54) (Nc := 1) (Ns := 38) C fr_X6_94 dX6_list_45 rfl rfl rfl rfl rfl (by decide) Nat.one_pos ?_
      refine hq_iload_n (q := 1) C dX6_list_48 rfl rfl ?_
      refine hq_zaldP0 (f := 54) (a := tn x) (g := 30) (Nc := 1) (Ns := 20) C dX6_list_49 rfl rfl rfl rfl rfl rfl hx (by omega) Nat.one_pos ?_
      exact hq_zret C hr hlk dX6_list_50 (hw_bon (by first | exact Or.inl (if_pos ⟨rfl, rfl⟩) | exact Or.inr (if_pos ⟨rfl, rfl⟩))) (by rw [show (ps_list P N x) = _ from ((if_neg c_8).trans (if_pos c_35))]; first | rfl | exact if_pos ⟨rfl, rfl⟩ | skip) (by rw [show (ps_list P N x) = _ from ((if_neg c_8).trans (if_pos c_35))]; first | rfl | exact if_pos ⟨rfl, rfl⟩ | skip)
    · refine hq_iconst (y := 1) C dX6_list_38 (by decide) ?_
      refine hq_goto (tgt := 43) C dX6_list_39 (by decide) ?_
      refine hq_zastP0 (f := 54) (a := tn x) (g := 30) (Nc := 1) (Ns := 20) C dX6_list_43 rfl rfl rfl rfl rfl rfl hx (by omega) Nat.one_pos (by decide) ?_
      refine hq_aload_n (q := 0) C dX6_list_44 rfl rfl ?_
      refine hq_getR (f := 26) (g := 54) (Nc := 1) (Ns := 38) C fr_X6_94 dX6_list_45 rfl rfl rfl rfl rfl (by decide) Nat.one_pos ?_
      refine hq_iload_n (q := 1) C dX6_list_48 rfl rfl ?_
      refine hq_zaldP0 (f := 54) (a := tn x) (g := 30) (Nc := 1) (Ns := 20) C dX6_list_49 rfl rfl rfl rfl rfl rfl hx (by omega) Nat.one_pos ?_
      exact hq_zret C hr hlk dX6_list_50 (hw_bon (by first | exact Or.inl (if_pos ⟨rfl, rfl⟩) | exact Or.inr (if_pos ⟨rfl, rfl⟩))) (by rw [show (ps_list P N x) = _ from ((if_neg c_8).trans (if_neg (fun z9 => z9 c_35)))]; first | rfl | exact if_pos ⟨rfl, rfl⟩ | skip) (by rw [show (ps_list P N x) = _ from ((if_neg c_8).trans (if_neg (fun z9 => z9 c_35)))]; first | rfl | exact if_pos ⟨rfl, rfl⟩ | skip)
