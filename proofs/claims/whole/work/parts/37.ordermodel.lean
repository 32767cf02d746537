/-! the model: order -/
def po_W (P : MI) (N : MJ) (y z : Int32) (nb : Nat) : MI × MJ := ps_fws P N y z 0 nb
def po_n (P : MI) (N : MJ) (x y z : Int32) (nb : Nat) : Nat := tn ((po_W P N y z nb).1 42 (tn x)) - 1
def po_p (P : MI) (N : MJ) (x y z : Int32) (nb : Nat) : Nat → Nat := pf_pp (po_W P N y z nb).1 (po_W P N y z nb).2 (tn x) z nb
def po_K (P : MI) (N : MJ) (x y z : Int32) (nb : Nat) : MI := uI (lp (pf_fd (po_p P N x y z nb)) (po_n P N x y z nb) 0 (po_W P N y z nb).1) 43 (po_n P N x y z nb) y
def po_far (P : MI) (N : MJ) (x y z : Int32) (nb : Nat) : Prop := 0 ≤ lg_cmp ((po_W P N y z nb).2 5 (tn x)) 1000000000000
def po_way (P : MI) (N : MJ) (x y z : Int32) (nb : Nat) : Prop := lg_cmp ((po_W P N y z nb).2 5 (tn x)) 1000000000000 < 0 ∧ 1 ≤ po_n P N x y z nb ∧ po_n P N x y z nb < 12 ∧ po_p P N x y z nb (po_n P N x y z nb) = tn y ∧ ∀ k, k < po_n P N x y z nb → po_p P N x y z nb k < 12 ∧ po_p P N x y z nb k ≠ tn y ∧ pf_nx (po_W P N y z nb).1 (po_W P N y z nb).2 (po_p P N x y z nb k) z nb = nI (po_p P N x y z nb (k + 1))
theorem po_K_oth {P : MI} {N : MJ} {x y z : Int32} {nb g j : Nat} (h : g ≠ 43) (h2 : g ≠ 42) : po_K P N x y z nb g j = P g j := by
  unfold po_K
  rw [u43 _ _ _ (fun z => h z.1), fd_oth _ (fun z => h z.1)]
  exact fws_oth h2
theorem po_K_at {P : MI} {N : MJ} {x y z : Int32} {nb k : Nat} (hy : y = nI (tn y)) (hw : po_way P N x y z nb) (hk : k ≤ po_n P N x y z nb) : po_K P N x y z nb 43 k = nI (po_p P N x y z nb k) := by
  unfold po_K
  by_cases e : k = po_n P N x y z nb
  · rw [e, show ∀ (X : MI) (n : Nat) (v : Int32), uI X 43 n v 43 n = v from fun X n v => if_pos ⟨rfl, rfl⟩, hw.2.2.2.1]
    exact hy
  · rw [u43 _ _ _ (fun z => e z.2)]
    exact fd_at _ (by omega)
theorem po_p_lt {P : MI} {N : MJ} {x y z : Int32} {nb k : Nat} (hy : tn y < 12) (hw : po_way P N x y z nb) (hk : k ≤ po_n P N x y z nb) : po_p P N x y z nb k < 12 := by
  by_cases e : k = po_n P N x y z nb
  · rw [e, hw.2.2.2.1]; exact hy
  · exact (hw.2.2.2.2 k (by omega)).1
theorem lay_oth {P : MI} {N : MJ} {i q w g j : Nat} (h : g ≠ 19) (h2 : g ≠ 20) (h3 : g ≠ 21) : (ps_lay P N i q w).1 g j = P g j := by
  have e := lp_inv (pf_l2 i q) (fun _ σ => σ.1 g j = lp (pf_l1 i q) (w + 1) 0 (uI P 19 i (nI (q + (w + 1)))) g j) w (fun k σ _ hs => by
    have : (pf_l2 i q k σ).1 g j = σ.1 g j := by simp [pf_l2, uI, h3]
    exact this.trans hs) w 0 (lp (pf_l1 i q) (w + 1) 0 (uI P 19 i (nI (q + (w + 1)))), N) (by omega) rfl
  refine e.trans ((l1_oth (w + 1) (fun z => h2 z.1)).trans ?_)
  simp [uI, h]
def po_tell (L : MI) (z : Int32) (t : Nat) : MI := uI L 29 t (L 29 t + (if z ≤ L 28 t then 0 else 1))
theorem po_tell_a {L : MI} {z : Int32} {t : Nat} (h : z ≤ L 28 t) : po_tell L z t = uI L 29 t (L 29 t + 0) := by unfold po_tell; rw [if_pos h]
theorem po_tell_b {L : MI} {z : Int32} {t : Nat} (h : ¬ z ≤ L 28 t) : po_tell L z t = uI L 29 t (L 29 t + 1) := by unfold po_tell; rw [if_neg h]
def po_g (W : MI × MJ) (x z : Int32) : Int32 := (z.toInt64 + W.2 5 (tn x)).toInt32
def po_P (K : MI) (W : MI × MJ) (x z v : Int32) (no : Nat) : MI := uI (uI (uI (uI (uI (uI (uI K 40 0 0) 1 0 (K 1 0 + 1)) 16 no 0) 12 no z) 14 no (po_g W x z)) 13 no v) 15 no (K 3 0)
def po_N (Q : MI) (W : MI × MJ) (x : Int32) (no : Nat) : MJ := uJ (uJ W.2 0 (tn x) (W.2 0 (tn x) + (Q 14 no).toInt64)) 4 0 (W.2 4 0 + (Q 14 no).toInt64)
def po_L (P : MI) (N : MJ) (x y z v : Int32) (nb no : Nat) : MI × MJ := ps_lay (po_P (po_K P N x y z nb) (po_W P N y z nb) x z v no) (po_N (po_P (po_K P N x y z nb) (po_W P N y z nb) x z v no) (po_W P N y z nb) x no) no 0 (po_n P N x y z nb)
def ps_order (P : MI) (N : MJ) (x y z w v : Int32) (nb no : Nat) : Int32 × MI × MJ := if sx_br2 P x y = 0 then (0, uI P 40 0 1, N) else if sx_in w 0 19 = 0 then (0, uI P 40 0 1, N) else if x = y then (0, uI P 40 0 2, N) else if sx_in z 1 1000000 = 0 then (0, uI P 40 0 2, N) else if sx_in v 0 9999 = 0 then (0, uI P 40 0 2, N) else if 40 ≤ P 1 0 then (0, uI P 40 0 3, N) else if ¬ P 30 (tn w) = 0 then (0, uI P 40 0 3, N)
  else if 0 ≤ lg_cmp ((po_W P N y z nb).2 5 (tn x)) 1000000000000 then (0, uI (po_W P N y z nb).1 40 0 3, (po_W P N y z nb).2)
  else (po_K P N x y z nb 1 0, po_tell (po_L P N x y z v nb no).1 z (tn ((po_L P N x y z v nb no).1 5 (tn x))), (po_L P N x y z v nb no).2)
set_option maxHeartbeats 4000000 in
set_option maxRecDepth 100000 in
theorem m_X6_order_a {l : Launch} {D : va_G} {b0 : Nat} {I : MI} {J : MJ} {P : MI} {N : MJ} {o : Int64} {x y z w v : Int32} {nb no nc : Nat} (h : pv_iv P nb no nc) (ht : ∀ i, i < 12 → ∃ t : Nat, t < 8 ∧ P 5 i = nI t) (hf : po_far P N x y z nb) : hM l yX6_order cX6_order 10 (some .int) rX6_order D b0 [.ref (hw_ad b0 26 0), .int x, .int y, .int z, .int w, .int v] I J P N o (some (.int (ps_order P N x y z w v nb no).1)) I J (ps_order P N x y z w v nb no).2.1 (ps_order P N x y z w v nb no).2.2 o := by
  have hnb := h.1.2
  have hno := h.2.1.2
  have hbc := h.1.1
  have hoc := h.2.1.1
  refine hw_Mof (by decide) [(0, .ref _), (1, .int _), (2, .int _), (3, .int _), (4, .int _), (5, .int _)] rfl (Nat.le_of_ble_eq_true rfl) ?_
  intro p e s m args below meth c C hr hlk hnm
  refine hq_aload_n (q := 0) C dX6_order_0 rfl rfl ?_
  refine hq_iload_n (q := 1) C dX6_order_1 rfl rfl ?_
  refine hq_iload_n (q := 2) C dX6_order_2 rfl rfl ?_
  refine hq_cVr (As := [.int _, .int _]) (rm := rX6_areBrokers) (f := 26) (Nc := 1) C (m_X6_areBrokers) wv_X6_areBrokers ml_X6_127 rfl rfl rfl Nat.one_pos rfl rfl rfl rfl ⟨Nat.le_of_ble_eq_true rfl, Nat.le_of_ble_eq_true rfl⟩ (Nat.le_of_ble_eq_true rfl) ⟨Nat.le_of_ble_eq_true rfl, Nat.le_of_ble_eq_true rfl⟩ dX6_order_3 ?_
  refine hq_if_eq (tgt := 24) C dX6_order_6 (by decide) (fun c_6 => ?_) (fun c_6 => ?_)
  · refine hq_iconst (y := 0) C dX6_order_24 (by decide) ?_
    refine hq_istore (L' := [(6, .int _), (0, .ref _), (1, .int _), (2, .int _), (3, .int _), (4, .int _), (5, .int _)]) C dX6_order_25 (by decide) rfl ?_
    refine hq_iload_n (q := 2) C dX6_order_27 rfl rfl ?_
    refine hq_iload_n (q := 3) C dX6_order_28 rfl rfl ?_
    refine hq_icmp_eq (tgt := 58) C dX6_order_29 (by decide) (fun c_29 => ?_) (fun c_29 => ?_)
    · refine hq_iconst (y := 0) C dX6_order_58 (by decide) ?_
      refine hq_istore (L' := [(7, .int _), (6, .int _), (0, .ref _), (1, .int _), (2, .int _), (3, .int _), (4, .int _), (5, .int _)]) C dX6_order_59 (by decide) rfl ?_
      refine hq_iload (q := 1) C dX6_order_61 rfl ?_
      refine hq_if_eq (tgt := 101) C dX6_order_63 (by decide) (fun _ => ?_) (fun c_63 => absurd c_63 (by decide))
      refine hq_iconst (y := 0) C dX6_order_101 (by decide) ?_
      refine hq_istore (L' := [(8, .int _), (7, .int _), (6, .int _), (0, .ref _), (1, .int _), (2, .int _), (3, .int _), (4, .int _), (5, .int _)]) C dX6_order_102 (by decide) rfl ?_
      refine hq_aload_n (q := 3) C dX6_order_104 rfl rfl ?_
      refine hq_iload (q := 2) C dX6_order_105 rfl ?_
      refine hq_if_ne (tgt := 114) C dX6_order_107 (by decide) (fun c_107 => absurd c_107 (by decide)) (fun _ => ?_)
      refine hq_iconst (y := 1) C dX6_order_110 (by decide) ?_
      refine hq_goto (tgt := 133) C dX6_order_111 (by decide) ?_
      refine hq_cVr (As := [.int _]) (rm := rX6_goesWell) (f := 26) (Nc := 1) C (m_X6_goesWell) wv_X6_goesWell ml_X6_124 rfl rfl rfl Nat.one_pos rfl rfl rfl rfl ⟨Nat.le_of_ble_eq_true rfl, Nat.le_of_ble_eq_true rfl⟩ (Nat.le_of_ble_eq_true rfl) ⟨Nat.le_of_ble_eq_true rfl, Nat.le_of_ble_eq_true rfl⟩ dX6_order_133 ?_
      refine hq_if_ne (tgt := 141) C dX6_order_136 (by decide) (fun c_136 => absurd c_136 (by decide)) (fun _ => ?_)
      refine hq_iconst (y := 0) C dX6_order_139 (by decide) ?_
      exact hq_iret C hr hlk dX6_order_140 (by rw [show (ps_order P N x y z w v nb no) = _ from (if_pos c_6)]; first | rfl | exact if_pos ⟨rfl, rfl⟩ | skip) (by rw [show (ps_order P N x y z w v nb no) = _ from (if_pos c_6)]; first | rfl | exact if_pos ⟨rfl, rfl⟩ | skip)
    · refine hq_iload_n (q := 4) C dX6_order_32 rfl rfl ?_
      refine hq_iconst (y := 1) C dX6_order_33 (by decide) ?_
      refine hq_ldc C wc_X6_87 dX6_order_34 ?_
      refine hq_cSr (As := [.int _, .int _, .int _]) (rm := rX6_in) (Cn := "") C (m_X6_in) ws_X6_in ml_X6_116 rfl rfl rfl rfl ⟨Nat.le_of_ble_eq_true rfl, Nat.le_of_ble_eq_true rfl⟩ (Nat.le_of_ble_eq_true rfl) ⟨Nat.le_of_ble_eq_true rfl, Nat.le_of_ble_eq_true rfl⟩ dX6_order_36 ?_
      refine hq_if_eq (tgt := 58) C dX6_order_39 (by decide) (fun c_39 => ?_) (fun c_39 => ?_)
      · refine hq_iconst (y := 0) C dX6_order_58 (by decide) ?_
        refine hq_istore (L' := [(7, .int _), (6, .int _), (0, .ref _), (1, .int _), (2, .int _), (3, .int _), (4, .int _), (5, .int _)]) C dX6_order_59 (by decide) rfl ?_
        refine hq_iload (q := 1) C dX6_order_61 rfl ?_
        refine hq_if_eq (tgt := 101) C dX6_order_63 (by decide) (fun _ => ?_) (fun c_63 => absurd c_63 (by decide))
        refine hq_iconst (y := 0) C dX6_order_101 (by decide) ?_
        refine hq_istore (L' := [(8, .int _), (7, .int _), (6, .int _), (0, .ref _), (1, .int _), (2, .int _), (3, .int _), (4, .int _), (5, .int _)]) C dX6_order_102 (by decide) rfl ?_
        refine hq_aload_n (q := 3) C dX6_order_104 rfl rfl ?_
        refine hq_iload (q := 2) C dX6_order_105 rfl ?_
        refine hq_if_ne (tgt := 114) C dX6_order_107 (by decide) (fun c_107 => absurd c_107 (by decide)) (fun _ => ?_)
        refine hq_iconst (y := 1) C dX6_order_110 (by decide) ?_
        refine hq_goto (tgt := 133) C dX6_order_111 (by decide) ?_
        refine hq_cVr (As := [.int _]) (rm := rX6_goesWell) (f := 26) (Nc := 1) C (m_X6_goesWell) wv_X6_goesWell ml_X6_124 rfl rfl rfl Nat.one_pos rfl rfl rfl rfl ⟨Nat.le_of_ble_eq_true rfl, Nat.le_of_ble_eq_true rfl⟩ (Nat.le_of_ble_eq_true rfl) ⟨Nat.le_of_ble_eq_true rfl, Nat.le_of_ble_eq_true rfl⟩ dX6_order_133 ?_
        refine hq_if_ne (tgt := 141) C dX6_order_136 (by decide) (fun c_136 => absurd c_136 (by decide)) (fun _ => ?_)
        refine hq_iconst (y := 0) C dX6_order_139 (by decide) ?_
        exact hq_iret C hr hlk dX6_order_140 (by rw [show (ps_order P N x y z w v nb no) = _ from (if_pos c_6)]; first | rfl | exact if_pos ⟨rfl, rfl⟩ | skip) (by rw [show (ps_order P N x y z w v nb no) = _ from (if_pos c_6)]; first | rfl | exact if_pos ⟨rfl, rfl⟩ | skip)
      · refine hq_iload (q := 6) C dX6_order_42 rfl ?_
        refine hq_iconst (y := 0) C dX6_order_44 (by decide) ?_
        refine hq_sipush (y := 9999) C dX6_order_45 (by decide) ?_
        refine hq_cSr (As := [.int _, .int _, .int _]) (rm := rX6_in) (Cn := "") C (m_X6_in) ws_X6_in ml_X6_116 rfl rfl rfl rfl ⟨Nat.le_of_ble_eq_true rfl, Nat.le_of_ble_eq_true rfl⟩ (Nat.le_of_ble_eq_true rfl) ⟨Nat.le_of_ble_eq_true rfl, Nat.le_of_ble_eq_true rfl⟩ dX6_order_48 ?_
        refine hq_if_eq (tgt := 58) C dX6_order_51 (by decide) (fun c_51 => ?_) (fun c_51 => ?_)
        · refine hq_iconst (y := 0) C dX6_order_58 (by decide) ?_
          refine hq_istore (L' := [(7, .int _), (6, .int _), (0, .ref _), (1, .int _), (2, .int _), (3, .int _), (4, .int _), (5, .int _)]) C dX6_order_59 (by decide) rfl ?_
          refine hq_iload (q := 1) C dX6_order_61 rfl ?_
          refine hq_if_eq (tgt := 101) C dX6_order_63 (by decide) (fun _ => ?_) (fun c_63 => absurd c_63 (by decide))
          refine hq_iconst (y := 0) C dX6_order_101 (by decide) ?_
          refine hq_istore (L' := [(8, .int _), (7, .int _), (6, .int _), (0, .ref _), (1, .int _), (2, .int _), (3, .int _), (4, .int _), (5, .int _)]) C dX6_order_102 (by decide) rfl ?_
          refine hq_aload_n (q := 3) C dX6_order_104 rfl rfl ?_
          refine hq_iload (q := 2) C dX6_order_105 rfl ?_
          refine hq_if_ne (tgt := 114) C dX6_order_107 (by decide) (fun c_107 => absurd c_107 (by decide)) (fun _ => ?_)
          refine hq_iconst (y := 1) C dX6_order_110 (by decide) ?_
          refine hq_goto (tgt := 133) C dX6_order_111 (by decide) ?_
          refine hq_cVr (As := [.int _]) (rm := rX6_goesWell) (f := 26) (Nc := 1) C (m_X6_goesWell) wv_X6_goesWell ml_X6_124 rfl rfl rfl Nat.one_pos rfl rfl rfl rfl ⟨Nat.le_of_ble_eq_true rfl, Nat.le_of_ble_eq_true rfl⟩ (Nat.le_of_ble_eq_true rfl) ⟨Nat.le_of_ble_eq_true rfl, Nat.le_of_ble_eq_true rfl⟩ dX6_order_133 ?_
          refine hq_if_ne (tgt := 141) C dX6_order_136 (by decide) (fun c_136 => absurd c_136 (by decide)) (fun _ => ?_)
          refine hq_iconst (y := 0) C dX6_order_139 (by decide) ?_
          exact hq_iret C hr hlk dX6_order_140 (by rw [show (ps_order P N x y z w v nb no) = _ from (if_pos c_6)]; first | rfl | exact if_pos ⟨rfl, rfl⟩ | skip) (by rw [show (ps_order P N x y z w v nb no) = _ from (if_pos c_6)]; first | rfl | exact if_pos ⟨rfl, rfl⟩ | skip)
        · refine hq_iconst (y := 1) C dX6_order_54 (by decide) ?_
          refine hq_goto (tgt := 59) C dX6_order_55 (by decide) ?_
          refine hq_istore (L' := [(7, .int _), (6, .int _), (0, .ref _), (1, .int _), (2, .int _), (3, .int _), (4, .int _), (5, .int _)]) C dX6_order_59 (by decide) rfl ?_
          refine hq_iload (q := 1) C dX6_order_61 rfl ?_
          refine hq_if_eq (tgt := 101) C dX6_order_63 (by decide) (fun _ => ?_) (fun c_63 => absurd c_63 (by decide))
          refine hq_iconst (y := 0) C dX6_order_101 (by decide) ?_
          refine hq_istore (L' := [(8, .int _), (7, .int _), (6, .int _), (0, .ref _), (1, .int _), (2, .int _), (3, .int _), (4, .int _), (5, .int _)]) C dX6_order_102 (by decide) rfl ?_
          refine hq_aload_n (q := 3) C dX6_order_104 rfl rfl ?_
          refine hq_iload (q := 2) C dX6_order_105 rfl ?_
          refine hq_if_ne (tgt := 114) C dX6_order_107 (by decide) (fun c_107 => absurd c_107 (by decide)) (fun _ => ?_)
          refine hq_iconst (y := 1) C dX6_order_110 (by decide) ?_
          refine hq_goto (tgt := 133) C dX6_order_111 (by decide) ?_
          refine hq_cVr (As := [.int _]) (rm := rX6_goesWell) (f := 26) (Nc := 1) C (m_X6_goesWell) wv_X6_goesWell ml_X6_124 rfl rfl rfl Nat.one_pos rfl rfl rfl rfl ⟨Nat.le_of_ble_eq_true rfl, Nat.le_of_ble_eq_true rfl⟩ (Nat.le_of_ble_eq_true rfl) ⟨Nat.le_of_ble_eq_true rfl, Nat.le_of_ble_eq_true rfl⟩ dX6_order_133 ?_
          refine hq_if_ne (tgt := 141) C dX6_order_136 (by decide) (fun c_136 => absurd c_136 (by decide)) (fun _ => ?_)
          refine hq_iconst (y := 0) C dX6_order_139 (by decide) ?_
          exact hq_iret C hr hlk dX6_order_140 (by rw [show (ps_order P N x y z w v nb no) = _ from (if_pos c_6)]; first | rfl | exact if_pos ⟨rfl, rfl⟩ | skip) (by rw [show (ps_order P N x y z w v nb no) = _ from (if_pos c_6)]; first | rfl | exact if_pos ⟨rfl, rfl⟩ | skip)
  · refine hq_iload (q := 4) C dX6_order_9 rfl ?_
    refine hq_iconst (y := 0) C dX6_order_11 (by decide) ?_
    refine hq_bipush (y := 19) C dX6_order_12 (by decide) ?_
    refine hq_cSr (As := [.int _, .int _, .int _]) (rm := rX6_in) (Cn := "") C (m_X6_in) ws_X6_in ml_X6_116 rfl rfl rfl rfl ⟨Nat.le_of_ble_eq_true rfl, Nat.le_of_ble_eq_true rfl⟩ (Nat.le_of_ble_eq_true rfl) ⟨Nat.le_of_ble_eq_true rfl, Nat.le_of_ble_eq_true rfl⟩ dX6_order_14 ?_
    refine hq_if_eq (tgt := 24) C dX6_order_17 (by decide) (fun c_17 => ?_) (fun c_17 => ?_)
    · refine hq_iconst (y := 0) C dX6_order_24 (by decide) ?_
      refine hq_istore (L' := [(6, .int _), (0, .ref _), (1, .int _), (2, .int _), (3, .int _), (4, .int _), (5, .int _)]) C dX6_order_25 (by decide) rfl ?_
      refine hq_iload_n (q := 2) C dX6_order_27 rfl rfl ?_
      refine hq_iload_n (q := 3) C dX6_order_28 rfl rfl ?_
      refine hq_icmp_eq (tgt := 58) C dX6_order_29 (by decide) (fun c_29 => ?_) (fun c_29 => ?_)
      · refine hq_iconst (y := 0) C dX6_order_58 (by decide) ?_
        refine hq_istore (L' := [(7, .int _), (6, .int _), (0, .ref _), (1, .int _), (2, .int _), (3, .int _), (4, .int _), (5, .int _)]) C dX6_order_59 (by decide) rfl ?_
        refine hq_iload (q := 1) C dX6_order_61 rfl ?_
        refine hq_if_eq (tgt := 101) C dX6_order_63 (by decide) (fun _ => ?_) (fun c_63 => absurd c_63 (by decide))
        refine hq_iconst (y := 0) C dX6_order_101 (by decide) ?_
        refine hq_istore (L' := [(8, .int _), (7, .int _), (6, .int _), (0, .ref _), (1, .int _), (2, .int _), (3, .int _), (4, .int _), (5, .int _)]) C dX6_order_102 (by decide) rfl ?_
        refine hq_aload_n (q := 3) C dX6_order_104 rfl rfl ?_
        refine hq_iload (q := 2) C dX6_order_105 rfl ?_
        refine hq_if_ne (tgt := 114) C dX6_order_107 (by decide) (fun c_107 => absurd c_107 (by decide)) (fun _ => ?_)
        refine hq_iconst (y := 1) C dX6_order_110 (by decide) ?_
        refine hq_goto (tgt := 133) C dX6_order_111 (by decide) ?_
        refine hq_cVr (As := [.int _]) (rm := rX6_goesWell) (f := 26) (Nc := 1) C (m_X6_goesWell) wv_X6_goesWell ml_X6_124 rfl rfl rfl Nat.one_pos rfl rfl rfl rfl ⟨Nat.le_of_ble_eq_true rfl, Nat.le_of_ble_eq_true rfl⟩ (Nat.le_of_ble_eq_true rfl) ⟨Nat.le_of_ble_eq_true rfl, Nat.le_of_ble_eq_true rfl⟩ dX6_order_133 ?_
        refine hq_if_ne (tgt := 141) C dX6_order_136 (by decide) (fun c_136 => absurd c_136 (by decide)) (fun _ => ?_)
        refine hq_iconst (y := 0) C dX6_order_139 (by decide) ?_
        exact hq_iret C hr hlk dX6_order_140 (by rw [show (ps_order P N x y z w v nb no) = _ from ((if_neg c_6).trans (if_pos c_17))]; first | rfl | exact if_pos ⟨rfl, rfl⟩ | skip) (by rw [show (ps_order P N x y z w v nb no) = _ from ((if_neg c_6).trans (if_pos c_17))]; first | rfl | exact if_pos ⟨rfl, rfl⟩ | skip)
      · refine hq_iload_n (q := 4) C dX6_order_32 rfl rfl ?_
        refine hq_iconst (y := 1) C dX6_order_33 (by decide) ?_
        refine hq_ldc C wc_X6_87 dX6_order_34 ?_
        refine hq_cSr (As := [.int _, .int _, .int _]) (rm := rX6_in) (Cn := "") C (m_X6_in) ws_X6_in ml_X6_116 rfl rfl rfl rfl ⟨Nat.le_of_ble_eq_true rfl, Nat.le_of_ble_eq_true rfl⟩ (Nat.le_of_ble_eq_true rfl) ⟨Nat.le_of_ble_eq_true rfl, Nat.le_of_ble_eq_true rfl⟩ dX6_order_36 ?_
        refine hq_if_eq (tgt := 58) C dX6_order_39 (by decide) (fun c_39 => ?_) (fun c_39 => ?_)
        · refine hq_iconst (y := 0) C dX6_order_58 (by decide) ?_
          refine hq_istore (L' := [(7, .int _), (6, .int _), (0, .ref _), (1, .int _), (2, .int _), (3, .int _), (4, .int _), (5, .int _)]) C dX6_order_59 (by decide) rfl ?_
          refine hq_iload (q := 1) C dX6_order_61 rfl ?_
          refine hq_if_eq (tgt := 101) C dX6_order_63 (by decide) (fun _ => ?_) (fun c_63 => absurd c_63 (by decide))
          refine hq_iconst (y := 0) C dX6_order_101 (by decide) ?_
          refine hq_istore (L' := [(8, .int _), (7, .int _), (6, .int _), (0, .ref _), (1, .int _), (2, .int _), (3, .int _), (4, .int _), (5, .int _)]) C dX6_order_102 (by decide) rfl ?_
          refine hq_aload_n (q := 3) C dX6_order_104 rfl rfl ?_
          refine hq_iload (q := 2) C dX6_order_105 rfl ?_
          refine hq_if_ne (tgt := 114) C dX6_order_107 (by decide) (fun c_107 => absurd c_107 (by decide)) (fun _ => ?_)
          refine hq_iconst (y := 1) C dX6_order_110 (by decide) ?_
          refine hq_goto (tgt := 133) C dX6_order_111 (by decide) ?_
          refine hq_cVr (As := [.int _]) (rm := rX6_goesWell) (f := 26) (Nc := 1) C (m_X6_goesWell) wv_X6_goesWell ml_X6_124 rfl rfl rfl Nat.one_pos rfl rfl rfl rfl ⟨Nat.le_of_ble_eq_true rfl, Nat.le_of_ble_eq_true rfl⟩ (Nat.le_of_ble_eq_true rfl) ⟨Nat.le_of_ble_eq_true rfl, Nat.le_of_ble_eq_true rfl⟩ dX6_order_133 ?_
          refine hq_if_ne (tgt := 141) C dX6_order_136 (by decide) (fun c_136 => absurd c_136 (by decide)) (fun _ => ?_)
          refine hq_iconst (y := 0) C dX6_order_139 (by decide) ?_
          exact hq_iret C hr hlk dX6_order_140 (by rw [show (ps_order P N x y z w v nb no) = _ from ((if_neg c_6).trans (if_pos c_17))]; first | rfl | exact if_pos ⟨rfl, rfl⟩ | skip) (by rw [show (ps_order P N x y z w v nb no) = _ from ((if_neg c_6).trans (if_pos c_17))]; first | rfl | exact if_pos ⟨rfl, rfl⟩ | skip)
        · refine hq_iload (q := 6) C dX6_order_42 rfl ?_
          refine hq_iconst (y := 0) C dX6_order_44 (by decide) ?_
          refine hq_sipush (y := 9999) C dX6_order_45 (by decide) ?_
          refine hq_cSr (As := [.int _, .int _, .int _]) (rm := rX6_in) (Cn := "") C (m_X6_in) ws_X6_in ml_X6_116 rfl rfl rfl rfl ⟨Nat.le_of_ble_eq_true rfl, Nat.le_of_ble_eq_true rfl⟩ (Nat.le_of_ble_eq_true rfl) ⟨Nat.le_of_ble_eq_true rfl, Nat.le_of_ble_eq_true rfl⟩ dX6_order_48 ?_
          refine hq_if_eq (tgt := 58) C dX6_order_51 (by decide) (fun c_51 => ?_) (fun c_51 => ?_)
          · refine hq_iconst (y := 0) C dX6_order_58 (by decide) ?_
            refine hq_istore (L' := [(7, .int _), (6, .int _), (0, .ref _), (1, .int _), (2, .int _), (3, .int _), (4, .int _), (5, .int _)]) C dX6_order_59 (by decide) rfl ?_
            refine hq_iload (q := 1) C dX6_order_61 rfl ?_
            refine hq_if_eq (tgt := 101) C dX6_order_63 (by decide) (fun _ => ?_) (fun c_63 => absurd c_63 (by decide))
            refine hq_iconst (y := 0) C dX6_order_101 (by decide) ?_
            refine hq_istore (L' := [(8, .int _), (7, .int _), (6, .int _), (0, .ref _), (1, .int _), (2, .int _), (3, .int _), (4, .int _), (5, .int _)]) C dX6_order_102 (by decide) rfl ?_
            refine hq_aload_n (q := 3) C dX6_order_104 rfl rfl ?_
            refine hq_iload (q := 2) C dX6_order_105 rfl ?_
            refine hq_if_ne (tgt := 114) C dX6_order_107 (by decide) (fun c_107 => absurd c_107 (by decide)) (fun _ => ?_)
            refine hq_iconst (y := 1) C dX6_order_110 (by decide) ?_
            refine hq_goto (tgt := 133) C dX6_order_111 (by decide) ?_
            refine hq_cVr (As := [.int _]) (rm := rX6_goesWell) (f := 26) (Nc := 1) C (m_X6_goesWell) wv_X6_goesWell ml_X6_124 rfl rfl rfl Nat.one_pos rfl rfl rfl rfl ⟨Nat.le_of_ble_eq_true rfl, Nat.le_of_ble_eq_true rfl⟩ (Nat.le_of_ble_eq_true rfl) ⟨Nat.le_of_ble_eq_true rfl, Nat.le_of_ble_eq_true rfl⟩ dX6_order_133 ?_
            refine hq_if_ne (tgt := 141) C dX6_order_136 (by decide) (fun c_136 => absurd c_136 (by decide)) (fun _ => ?_)
            refine hq_iconst (y := 0) C dX6_order_139 (by decide) ?_
            exact hq_iret C hr hlk dX6_order_140 (by rw [show (ps_order P N x y z w v nb no) = _ from ((if_neg c_6).trans (if_pos c_17))]; first | rfl | exact if_pos ⟨rfl, rfl⟩ | skip) (by rw [show (ps_order P N x y z w v nb no) = _ from ((if_neg c_6).trans (if_pos c_17))]; first | rfl | exact if_pos ⟨rfl, rfl⟩ | skip)
          · refine hq_iconst (y := 1) C dX6_order_54 (by decide) ?_
            refine hq_goto (tgt := 59) C dX6_order_55 (by decide) ?_
            refine hq_istore (L' := [(7, .int _), (6, .int _), (0, .ref _), (1, .int _), (2, .int _), (3, .int _), (4, .int _), (5, .int _)]) C dX6_order_59 (by decide) rfl ?_
            refine hq_iload (q := 1) C dX6_order_61 rfl ?_
            refine hq_if_eq (tgt := 101) C dX6_order_63 (by decide) (fun _ => ?_) (fun c_63 => absurd c_63 (by decide))
            refine hq_iconst (y := 0) C dX6_order_101 (by decide) ?_
            refine hq_istore (L' := [(8, .int _), (7, .int _), (6, .int _), (0, .ref _), (1, .int _), (2, .int _), (3, .int _), (4, .int _), (5, .int _)]) C dX6_order_102 (by decide) rfl ?_
            refine hq_aload_n (q := 3) C dX6_order_104 rfl rfl ?_
            refine hq_iload (q := 2) C dX6_order_105 rfl ?_
            refine hq_if_ne (tgt := 114) C dX6_order_107 (by decide) (fun c_107 => absurd c_107 (by decide)) (fun _ => ?_)
            refine hq_iconst (y := 1) C dX6_order_110 (by decide) ?_
            refine hq_goto (tgt := 133) C dX6_order_111 (by decide) ?_
            refine hq_cVr (As := [.int _]) (rm := rX6_goesWell) (f := 26) (Nc := 1) C (m_X6_goesWell) wv_X6_goesWell ml_X6_124 rfl rfl rfl Nat.one_pos rfl rfl rfl rfl ⟨Nat.le_of_ble_eq_true rfl, Nat.le_of_ble_eq_true rfl⟩ (Nat.le_of_ble_eq_true rfl) ⟨Nat.le_of_ble_eq_true rfl, Nat.le_of_ble_eq_true rfl⟩ dX6_order_133 ?_
            refine hq_if_ne (tgt := 141) C dX6_order_136 (by decide) (fun c_136 => absurd c_136 (by decide)) (fun _ => ?_)
            refine hq_iconst (y := 0) C dX6_order_139 (by decide) ?_
            exact hq_iret C hr hlk dX6_order_140 (by rw [show (ps_order P N x y z w v nb no) = _ from ((if_neg c_6).trans (if_pos c_17))]; first | rfl | exact if_pos ⟨rfl, rfl⟩ | skip) (by rw [show (ps_order P N x y z w v nb no) = _ from ((if_neg c_6).trans (if_pos c_17))]; first | rfl | exact if_pos ⟨rfl, rfl⟩ | skip)
    · refine hq_iconst (y := 1) C dX6_order_20 (by decide) ?_
      refine hq_goto (tgt := 25) C dX6_order_21 (by decide) ?_
      refine hq_istore (L' := [(6, .int _), (0, .ref _), (1, .int _), (2, .int _), (3, .int _), (4, .int _), (5, .int _)]) C dX6_order_25 (by decide) rfl ?_
      refine hq_iload_n (q := 2) C dX6_order_27 rfl rfl ?_
      refine hq_iload_n (q := 3) C dX6_order_28 rfl rfl ?_
      refine hq_icmp_eq (tgt := 58) C dX6_order_29 (by decide) (fun c_29 => ?_) (fun c_29 => ?_)
      · refine hq_iconst (y := 0) C dX6_order_58 (by decide) ?_
        refine hq_istore (L' := [(7, .int _), (6, .int _), (0, .ref _), (1, .int _), (2, .int _), (3, .int _), (4, .int _), (5, .int _)]) C dX6_order_59 (by decide) rfl ?_
        refine hq_iload (q := 1) C dX6_order_61 rfl ?_
        refine hq_if_eq (tgt := 101) C dX6_order_63 (by decide) (fun c_63 => absurd c_63 (by decide)) (fun _ => ?_)
        refine hq_iload (q := 0) C dX6_order_66 rfl ?_
        refine hq_if_eq (tgt := 101) C dX6_order_68 (by decide) (fun _ => ?_) (fun c_68 => absurd c_68 (by decide))
        refine hq_iconst (y := 0) C dX6_order_101 (by decide) ?_
        refine hq_istore (L' := [(8, .int _), (7, .int _), (6, .int _), (0, .ref _), (1, .int _), (2, .int _), (3, .int _), (4, .int _), (5, .int _)]) C dX6_order_102 (by decide) rfl ?_
        refine hq_aload_n (q := 3) C dX6_order_104 rfl rfl ?_
        refine hq_iload (q := 2) C dX6_order_105 rfl ?_
        refine hq_if_ne (tgt := 114) C dX6_order_107 (by decide) (fun _ => ?_) (fun c_107 => absurd c_107 (by decide))
        refine hq_iload (q := 1) C dX6_order_114 rfl ?_
        refine hq_if_ne (tgt := 123) C dX6_order_116 (by decide) (fun c_116 => absurd c_116 (by decide)) (fun _ => ?_)
        refine hq_iconst (y := 2) C dX6_order_119 (by decide) ?_
        refine hq_goto (tgt := 133) C dX6_order_120 (by decide) ?_
        refine hq_cVr (As := [.int _]) (rm := rX6_goesWell) (f := 26) (Nc := 1) C (m_X6_goesWell) wv_X6_goesWell ml_X6_124 rfl rfl rfl Nat.one_pos rfl rfl rfl rfl ⟨Nat.le_of_ble_eq_true rfl, Nat.le_of_ble_eq_true rfl⟩ (Nat.le_of_ble_eq_true rfl) ⟨Nat.le_of_ble_eq_true rfl, Nat.le_of_ble_eq_true rfl⟩ dX6_order_133 ?_
        refine hq_if_ne (tgt := 141) C dX6_order_136 (by decide) (fun c_136 => absurd c_136 (by decide)) (fun _ => ?_)
        refine hq_iconst (y := 0) C dX6_order_139 (by decide) ?_
        exact hq_iret C hr hlk dX6_order_140 (by rw [show (ps_order P N x y z w v nb no) = _ from (((if_neg c_6).trans (if_neg c_17)).trans (if_pos c_29))]; first | rfl | exact if_pos ⟨rfl, rfl⟩ | skip) (by rw [show (ps_order P N x y z w v nb no) = _ from (((if_neg c_6).trans (if_neg c_17)).trans (if_pos c_29))]; first | rfl | exact if_pos ⟨rfl, rfl⟩ | skip)
      · refine hq_iload_n (q := 4) C dX6_order_32 rfl rfl ?_
        refine hq_iconst (y := 1) C dX6_order_33 (by decide) ?_
        refine hq_ldc C wc_X6_87 dX6_order_34 ?_
        refine hq_cSr (As := [.int _, .int _, .int _]) (rm := rX6_in) (Cn := "") C (m_X6_in) ws_X6_in ml_X6_116 rfl rfl rfl rfl ⟨Nat.le_of_ble_eq_true rfl, Nat.le_of_ble_eq_true rfl⟩ (Nat.le_of_ble_eq_true rfl) ⟨Nat.le_of_ble_eq_true rfl, Nat.le_of_ble_eq_true rfl⟩ dX6_order_36 ?_
        refine hq_if_eq (tgt := 58) C dX6_order_39 (by decide) (fun c_39 => ?_) (fun c_39 => ?_)
        · refine hq_iconst (y := 0) C dX6_order_58 (by decide) ?_
          refine hq_istore (L' := [(7, .int _), (6, .int _), (0, .ref _), (1, .int _), (2, .int _), (3, .int _), (4, .int _), (5, .int _)]) C dX6_order_59 (by decide) rfl ?_
          refine hq_iload (q := 1) C dX6_order_61 rfl ?_
          refine hq_if_eq (tgt := 101) C dX6_order_63 (by decide) (fun c_63 => absurd c_63 (by decide)) (fun _ => ?_)
          refine hq_iload (q := 0) C dX6_order_66 rfl ?_
          refine hq_if_eq (tgt := 101) C dX6_order_68 (by decide) (fun _ => ?_) (fun c_68 => absurd c_68 (by decide))
          refine hq_iconst (y := 0) C dX6_order_101 (by decide) ?_
          refine hq_istore (L' := [(8, .int _), (7, .int _), (6, .int _), (0, .ref _), (1, .int _), (2, .int _), (3, .int _), (4, .int _), (5, .int _)]) C dX6_order_102 (by decide) rfl ?_
          refine hq_aload_n (q := 3) C dX6_order_104 rfl rfl ?_
          refine hq_iload (q := 2) C dX6_order_105 rfl ?_
          refine hq_if_ne (tgt := 114) C dX6_order_107 (by decide) (fun _ => ?_) (fun c_107 => absurd c_107 (by decide))
          refine hq_iload (q := 1) C dX6_order_114 rfl ?_
          refine hq_if_ne (tgt := 123) C dX6_order_116 (by decide) (fun c_116 => absurd c_116 (by decide)) (fun _ => ?_)
          refine hq_iconst (y := 2) C dX6_order_119 (by decide) ?_
          refine hq_goto (tgt := 133) C dX6_order_120 (by decide) ?_
          refine hq_cVr (As := [.int _]) (rm := rX6_goesWell) (f := 26) (Nc := 1) C (m_X6_goesWell) wv_X6_goesWell ml_X6_124 rfl rfl rfl Nat.one_pos rfl rfl rfl rfl ⟨Nat.le_of_ble_eq_true rfl, Nat.le_of_ble_eq_true rfl⟩ (Nat.le_of_ble_eq_true rfl) ⟨Nat.le_of_ble_eq_true rfl, Nat.le_of_ble_eq_true rfl⟩ dX6_order_133 ?_
          refine hq_if_ne (tgt := 141) C dX6_order_136 (by decide) (fun c_136 => absurd c_136 (by decide)) (fun _ => ?_)
          refine hq_iconst (y := 0) C dX6_order_139 (by decide) ?_
          exact hq_iret C hr hlk dX6_order_140 (by rw [show (ps_order P N x y z w v nb no) = _ from ((((if_neg c_6).trans (if_neg c_17)).trans (if_neg c_29)).trans (if_pos c_39))]; first | rfl | exact if_pos ⟨rfl, rfl⟩ | skip) (by rw [show (ps_order P N x y z w v nb no) = _ from ((((if_neg c_6).trans (if_neg c_17)).trans (if_neg c_29)).trans (if_pos c_39))]; first | rfl | exact if_pos ⟨rfl, rfl⟩ | skip)
        · refine hq_iload (q := 6) C dX6_order_42 rfl ?_
          refine hq_iconst (y := 0) C dX6_order_44 (by decide) ?_
          refine hq_sipush (y := 9999) C dX6_order_45 (by decide) ?_
          refine hq_cSr (As := [.int _, .int _, .int _]) (rm := rX6_in) (Cn := "") C (m_X6_in) ws_X6_in ml_X6_116 rfl rfl rfl rfl ⟨Nat.le_of_ble_eq_true rfl, Nat.le_of_ble_eq_true rfl⟩ (Nat.le_of_ble_eq_true rfl) ⟨Nat.le_of_ble_eq_true rfl, Nat.le_of_ble_eq_true rfl⟩ dX6_order_48 ?_
          refine hq_if_eq (tgt := 58) C dX6_order_51 (by decide) (fun c_51 => ?_) (fun c_51 => ?_)
          · refine hq_iconst (y := 0) C dX6_order_58 (by decide) ?_
            refine hq_istore (L' := [(7, .int _), (6, .int _), (0, .ref _), (1, .int _), (2, .int _), (3, .int _), (4, .int _), (5, .int _)]) C dX6_order_59 (by decide) rfl ?_
            refine hq_iload (q := 1) C dX6_order_61 rfl ?_
            refine hq_if_eq (tgt := 101) C dX6_order_63 (by decide) (fun c_63 => absurd c_63 (by decide)) (fun _ => ?_)
            refine hq_iload (q := 0) C dX6_order_66 rfl ?_
            refine hq_if_eq (tgt := 101) C dX6_order_68 (by decide) (fun _ => ?_) (fun c_68 => absurd c_68 (by decide))
            refine hq_iconst (y := 0) C dX6_order_101 (by decide) ?_
            refine hq_istore (L' := [(8, .int _), (7, .int _), (6, .int _), (0, .ref _), (1, .int _), (2, .int _), (3, .int _), (4, .int _), (5, .int _)]) C dX6_order_102 (by decide) rfl ?_
            refine hq_aload_n (q := 3) C dX6_order_104 rfl rfl ?_
            refine hq_iload (q := 2) C dX6_order_105 rfl ?_
            refine hq_if_ne (tgt := 114) C dX6_order_107 (by decide) (fun _ => ?_) (fun c_107 => absurd c_107 (by decide))
            refine hq_iload (q := 1) C dX6_order_114 rfl ?_
            refine hq_if_ne (tgt := 123) C dX6_order_116 (by decide) (fun c_116 => absurd c_116 (by decide)) (fun _ => ?_)
            refine hq_iconst (y := 2) C dX6_order_119 (by decide) ?_
            refine hq_goto (tgt := 133) C dX6_order_120 (by decide) ?_
            refine hq_cVr (As := [.int _]) (rm := rX6_goesWell) (f := 26) (Nc := 1) C (m_X6_goesWell) wv_X6_goesWell ml_X6_124 rfl rfl rfl Nat.one_pos rfl rfl rfl rfl ⟨Nat.le_of_ble_eq_true rfl, Nat.le_of_ble_eq_true rfl⟩ (Nat.le_of_ble_eq_true rfl) ⟨Nat.le_of_ble_eq_true rfl, Nat.le_of_ble_eq_true rfl⟩ dX6_order_133 ?_
            refine hq_if_ne (tgt := 141) C dX6_order_136 (by decide) (fun c_136 => absurd c_136 (by decide)) (fun _ => ?_)
            refine hq_iconst (y := 0) C dX6_order_139 (by decide) ?_
            exact hq_iret C hr hlk dX6_order_140 (by rw [show (ps_order P N x y z w v nb no) = _ from (((((if_neg c_6).trans (if_neg c_17)).trans (if_neg c_29)).trans (if_neg c_39)).trans (if_pos c_51))]; first | rfl | exact if_pos ⟨rfl, rfl⟩ | skip) (by rw [show (ps_order P N x y z w v nb no) = _ from (((((if_neg c_6).trans (if_neg c_17)).trans (if_neg c_29)).trans (if_neg c_39)).trans (if_pos c_51))]; first | rfl | exact if_pos ⟨rfl, rfl⟩ | skip)
          · refine hq_iconst (y := 1) C dX6_order_54 (by decide) ?_
            refine hq_goto (tgt := 59) C dX6_order_55 (by decide) ?_
            refine hq_istore (L' := [(7, .int _), (6, .int _), (0, .ref _), (1, .int _), (2, .int _), (3, .int _), (4, .int _), (5, .int _)]) C dX6_order_59 (by decide) rfl ?_
            refine hq_iload (q := 1) C dX6_order_61 rfl ?_
            refine hq_if_eq (tgt := 101) C dX6_order_63 (by decide) (fun c_63 => absurd c_63 (by decide)) (fun _ => ?_)
            refine hq_iload (q := 0) C dX6_order_66 rfl ?_
            refine hq_if_eq (tgt := 101) C dX6_order_68 (by decide) (fun c_68 => absurd c_68 (by decide)) (fun _ => ?_)
            refine hq_aload_n (q := 2) C dX6_order_71 rfl rfl ?_
            refine hq_getP (f := 26) (g := 1) (Nc := 1) (Ns := 38) C fr_X6_181 dX6_order_72 rfl rfl rfl rfl rfl (by decide) Nat.one_pos ?_
            refine hq_bipush (y := 40) C dX6_order_75 (by decide) ?_
            refine hq_icmp_ge (tgt := 101) C dX6_order_77 (by decide) (fun c_77 => ?_) (fun c_77 => ?_)
            · refine hq_iconst (y := 0) C dX6_order_101 (by decide) ?_
              refine hq_istore (L' := [(8, .int _), (7, .int _), (6, .int _), (0, .ref _), (1, .int _), (2, .int _), (3, .int _), (4, .int _), (5, .int _)]) C dX6_order_102 (by decide) rfl ?_
              refine hq_aload_n (q := 3) C dX6_order_104 rfl rfl ?_
              refine hq_iload (q := 2) C dX6_order_105 rfl ?_
              refine hq_if_ne (tgt := 114) C dX6_order_107 (by decide) (fun _ => ?_) (fun c_107 => absurd c_107 (by decide))
              refine hq_iload (q := 1) C dX6_order_114 rfl ?_
              refine hq_if_ne (tgt := 123) C dX6_order_116 (by decide) (fun _ => ?_) (fun c_116 => absurd c_116 (by decide))
              refine hq_iload (q := 0) C dX6_order_123 rfl ?_
              refine hq_if_ne (tgt := 132) C dX6_order_125 (by decide) (fun c_125 => absurd c_125 (by decide)) (fun _ => ?_)
              refine hq_iconst (y := 3) C dX6_order_128 (by decide) ?_
              refine hq_goto (tgt := 133) C dX6_order_129 (by decide) ?_
              refine hq_cVr (As := [.int _]) (rm := rX6_goesWell) (f := 26) (Nc := 1) C (m_X6_goesWell) wv_X6_goesWell ml_X6_124 rfl rfl rfl Nat.one_pos rfl rfl rfl rfl ⟨Nat.le_of_ble_eq_true rfl, Nat.le_of_ble_eq_true rfl⟩ (Nat.le_of_ble_eq_true rfl) ⟨Nat.le_of_ble_eq_true rfl, Nat.le_of_ble_eq_true rfl⟩ dX6_order_133 ?_
              refine hq_if_ne (tgt := 141) C dX6_order_136 (by decide) (fun c_136 => absurd c_136 (by decide)) (fun _ => ?_)
              refine hq_iconst (y := 0) C dX6_order_139 (by decide) ?_
              exact hq_iret C hr hlk dX6_order_140 (by rw [show (ps_order P N x y z w v nb no) = _ from ((((((if_neg c_6).trans (if_neg c_17)).trans (if_neg c_29)).trans (if_neg c_39)).trans (if_neg c_51)).trans (if_pos c_77))]; first | rfl | exact if_pos ⟨rfl, rfl⟩ | skip) (by rw [show (ps_order P N x y z w v nb no) = _ from ((((((if_neg c_6).trans (if_neg c_17)).trans (if_neg c_29)).trans (if_neg c_39)).trans (if_neg c_51)).trans (if_pos c_77))]; first | rfl | exact if_pos ⟨rfl, rfl⟩ | skip)
            · have h40 : no < 40 := by
                rcases Nat.lt_or_ge no 40 with z9 | z9
                · exact z9
                · exact absurd (by rw [hoc]; exact nI_le z9 (by omega) : (40 : Int32) ≤ P 1 0) c_77
              obtain ⟨hwx, hwb⟩ := in_c (n := 19) (by decide) (by omega) c_17
              refine hq_aload_n (q := 2) C dX6_order_80 rfl rfl ?_
              refine hq_getR (f := 26) (g := 54) (Nc := 1) (Ns := 38) C fr_X6_94 dX6_order_81 rfl rfl rfl rfl rfl (by decide) Nat.one_pos ?_
              refine hq_iload (q := 6) C dX6_order_84 rfl ?_
              refine hq_zaldP0 (f := 54) (a := tn w) (g := 30) (Nc := 1) (Ns := 20) C dX6_order_86 rfl rfl rfl rfl rfl rfl hwx (by omega) Nat.one_pos ?_
              refine hq_if_ne (tgt := 101) C dX6_order_87 (by decide) (fun c_87 => ?_) (fun c_87 => ?_)
              · refine hq_iconst (y := 0) C dX6_order_101 (by decide) ?_
                refine hq_istore (L' := [(8, .int _), (7, .int _), (6, .int _), (0, .ref _), (1, .int _), (2, .int _), (3, .int _), (4, .int _), (5, .int _)]) C dX6_order_102 (by decide) rfl ?_
                refine hq_aload_n (q := 3) C dX6_order_104 rfl rfl ?_
                refine hq_iload (q := 2) C dX6_order_105 rfl ?_
                refine hq_if_ne (tgt := 114) C dX6_order_107 (by decide) (fun _ => ?_) (fun c_107 => absurd c_107 (by decide))
                refine hq_iload (q := 1) C dX6_order_114 rfl ?_
                refine hq_if_ne (tgt := 123) C dX6_order_116 (by decide) (fun _ => ?_) (fun c_116 => absurd c_116 (by decide))
                refine hq_iload (q := 0) C dX6_order_123 rfl ?_
                refine hq_if_ne (tgt := 132) C dX6_order_125 (by decide) (fun c_125 => absurd c_125 (by decide)) (fun _ => ?_)
                refine hq_iconst (y := 3) C dX6_order_128 (by decide) ?_
                refine hq_goto (tgt := 133) C dX6_order_129 (by decide) ?_
                refine hq_cVr (As := [.int _]) (rm := rX6_goesWell) (f := 26) (Nc := 1) C (m_X6_goesWell) wv_X6_goesWell ml_X6_124 rfl rfl rfl Nat.one_pos rfl rfl rfl rfl ⟨Nat.le_of_ble_eq_true rfl, Nat.le_of_ble_eq_true rfl⟩ (Nat.le_of_ble_eq_true rfl) ⟨Nat.le_of_ble_eq_true rfl, Nat.le_of_ble_eq_true rfl⟩ dX6_order_133 ?_
                refine hq_if_ne (tgt := 141) C dX6_order_136 (by decide) (fun c_136 => absurd c_136 (by decide)) (fun _ => ?_)
                refine hq_iconst (y := 0) C dX6_order_139 (by decide) ?_
                exact hq_iret C hr hlk dX6_order_140 (by rw [show (ps_order P N x y z w v nb no) = _ from (((((((if_neg c_6).trans (if_neg c_17)).trans (if_neg c_29)).trans (if_neg c_39)).trans (if_neg c_51)).trans (if_neg c_77)).trans (if_pos c_87))]; first | rfl | exact if_pos ⟨rfl, rfl⟩ | skip) (by rw [show (ps_order P N x y z w v nb no) = _ from (((((((if_neg c_6).trans (if_neg c_17)).trans (if_neg c_29)).trans (if_neg c_39)).trans (if_neg c_51)).trans (if_neg c_77)).trans (if_pos c_87))]; first | rfl | exact if_pos ⟨rfl, rfl⟩ | skip)
              · obtain ⟨⟨hx, hxb⟩, hy, hyb⟩ := br2_n hbc (by omega) c_6
                refine hq_aload_n (q := 2) C dX6_order_90 rfl rfl ?_
                refine hq_iload_n (q := 3) C dX6_order_91 rfl rfl ?_
                refine hq_iload_n (q := 4) C dX6_order_92 rfl rfl ?_
                refine hq_iload_n (q := 5) C dX6_order_93 rfl rfl ?_
                refine hq_iconst (y := 0) C dX6_order_94 (by decide) ?_
                refine hq_cVr (As := [.int _, .int _, .int _, .int _]) (rm := rX6_findWay) (f := 26) (Nc := 1) C (m_X6_findWay_a (nb := nb) (a := tn x) hbc hnb hx (by omega) hf) wv_X6_findWay ml_X6_170 rfl rfl rfl Nat.one_pos rfl rfl rfl rfl ⟨Nat.le_of_ble_eq_true rfl, Nat.le_of_ble_eq_true rfl⟩ (Nat.le_of_ble_eq_true rfl) ⟨Nat.le_of_ble_eq_true rfl, Nat.le_of_ble_eq_true rfl⟩ dX6_order_95 ?_
                refine hq_goto (tgt := 102) C dX6_order_98 (by decide) ?_
                refine hq_istore (L' := [(8, .int _), (7, .int _), (6, .int _), (0, .ref _), (1, .int _), (2, .int _), (3, .int _), (4, .int _), (5, .int _)]) C dX6_order_102 (by decide) rfl ?_
                refine hq_aload_n (q := 3) C dX6_order_104 rfl rfl ?_
                refine hq_iload (q := 2) C dX6_order_105 rfl ?_
                refine hq_if_ne (tgt := 114) C dX6_order_107 (by decide) (fun _ => ?_) (fun c_107 => absurd c_107 (by decide))
                refine hq_iload (q := 1) C dX6_order_114 rfl ?_
                refine hq_if_ne (tgt := 123) C dX6_order_116 (by decide) (fun _ => ?_) (fun c_116 => absurd c_116 (by decide))
                refine hq_iload (q := 0) C dX6_order_123 rfl ?_
                refine hq_if_ne (tgt := 132) C dX6_order_125 (by decide) (fun c_125 => absurd rfl c_125) (fun c_125 => ?_)
                refine hq_iconst (y := 3) C dX6_order_128 (by decide) ?_
                refine hq_goto (tgt := 133) C dX6_order_129 (by decide) ?_
                refine hq_cVr (As := [.int _]) (rm := rX6_goesWell) (f := 26) (Nc := 1) C (m_X6_goesWell) wv_X6_goesWell ml_X6_124 rfl rfl rfl Nat.one_pos rfl rfl rfl rfl ⟨Nat.le_of_ble_eq_true rfl, Nat.le_of_ble_eq_true rfl⟩ (Nat.le_of_ble_eq_true rfl) ⟨Nat.le_of_ble_eq_true rfl, Nat.le_of_ble_eq_true rfl⟩ dX6_order_133 ?_
                refine hq_if_ne (tgt := 141) C dX6_order_136 (by decide) (fun c_136 => absurd c_136 (by decide)) (fun _ => ?_)
                refine hq_iconst (y := 0) C dX6_order_139 (by decide) ?_
                exact hq_iret C hr hlk dX6_order_140 (by rw [show (ps_order P N x y z w v nb no) = _ from ((((((((if_neg c_6).trans (if_neg c_17)).trans (if_neg c_29)).trans (if_neg c_39)).trans (if_neg c_51)).trans (if_neg c_77)).trans (if_neg (fun z9 => z9 c_87))).trans (if_pos hf))]; try rfl) (by rw [show (ps_order P N x y z w v nb no) = _ from ((((((((if_neg c_6).trans (if_neg c_17)).trans (if_neg c_29)).trans (if_neg c_39)).trans (if_neg c_51)).trans (if_neg c_77)).trans (if_neg (fun z9 => z9 c_87))).trans (if_pos hf))]; try rfl)
set_option maxHeartbeats 4000000 in
set_option maxRecDepth 100000 in
theorem m_X6_order_b {l : Launch} {D : va_G} {b0 : Nat} {I : MI} {J : MJ} {P : MI} {N : MJ} {o : Int64} {x y z w v : Int32} {nb no nc : Nat} (h : pv_iv P nb no nc) (ht : ∀ i, i < 12 → ∃ t : Nat, t < 8 ∧ P 5 i = nI t) (hw : po_way P N x y z nb) : hM l yX6_order cX6_order 10 (some .int) rX6_order D b0 [.ref (hw_ad b0 26 0), .int x, .int y, .int z, .int w, .int v] I J P N o (some (.int (ps_order P N x y z w v nb no).1)) I J (ps_order P N x y z w v nb no).2.1 (ps_order P N x y z w v nb no).2.2 o := by
  have hnb := h.1.2
  have hno := h.2.1.2
  have hbc := h.1.1
  have hoc := h.2.1.1
  have hnf : ¬ po_far P N x y z nb := fun z9 => absurd hw.1 (fun y9 => absurd z9 (Int32.not_le.mpr y9))
  refine hw_Mof (by decide) [(0, .ref _), (1, .int _), (2, .int _), (3, .int _), (4, .int _), (5, .int _)] rfl (Nat.le_of_ble_eq_true rfl) ?_
  intro p e s m args below meth c C hr hlk hnm
  refine hq_aload_n (q := 0) C dX6_order_0 rfl rfl ?_
  refine hq_iload_n (q := 1) C dX6_order_1 rfl rfl ?_
  refine hq_iload_n (q := 2) C dX6_order_2 rfl rfl ?_
  refine hq_cVr (As := [.int _, .int _]) (rm := rX6_areBrokers) (f := 26) (Nc := 1) C (m_X6_areBrokers) wv_X6_areBrokers ml_X6_127 rfl rfl rfl Nat.one_pos rfl rfl rfl rfl ⟨Nat.le_of_ble_eq_true rfl, Nat.le_of_ble_eq_true rfl⟩ (Nat.le_of_ble_eq_true rfl) ⟨Nat.le_of_ble_eq_true rfl, Nat.le_of_ble_eq_true rfl⟩ dX6_order_3 ?_
  refine hq_if_eq (tgt := 24) C dX6_order_6 (by decide) (fun c_6 => ?_) (fun c_6 => ?_)
  · refine hq_iconst (y := 0) C dX6_order_24 (by decide) ?_
    refine hq_istore (L' := [(6, .int _), (0, .ref _), (1, .int _), (2, .int _), (3, .int _), (4, .int _), (5, .int _)]) C dX6_order_25 (by decide) rfl ?_
    refine hq_iload_n (q := 2) C dX6_order_27 rfl rfl ?_
    refine hq_iload_n (q := 3) C dX6_order_28 rfl rfl ?_
    refine hq_icmp_eq (tgt := 58) C dX6_order_29 (by decide) (fun c_29 => ?_) (fun c_29 => ?_)
    · refine hq_iconst (y := 0) C dX6_order_58 (by decide) ?_
      refine hq_istore (L' := [(7, .int _), (6, .int _), (0, .ref _), (1, .int _), (2, .int _), (3, .int _), (4, .int _), (5, .int _)]) C dX6_order_59 (by decide) rfl ?_
      refine hq_iload (q := 1) C dX6_order_61 rfl ?_
      refine hq_if_eq (tgt := 101) C dX6_order_63 (by decide) (fun _ => ?_) (fun c_63 => absurd c_63 (by decide))
      refine hq_iconst (y := 0) C dX6_order_101 (by decide) ?_
      refine hq_istore (L' := [(8, .int _), (7, .int _), (6, .int _), (0, .ref _), (1, .int _), (2, .int _), (3, .int _), (4, .int _), (5, .int _)]) C dX6_order_102 (by decide) rfl ?_
      refine hq_aload_n (q := 3) C dX6_order_104 rfl rfl ?_
      refine hq_iload (q := 2) C dX6_order_105 rfl ?_
      refine hq_if_ne (tgt := 114) C dX6_order_107 (by decide) (fun c_107 => absurd c_107 (by decide)) (fun _ => ?_)
      refine hq_iconst (y := 1) C dX6_order_110 (by decide) ?_
      refine hq_goto (tgt := 133) C dX6_order_111 (by decide) ?_
      refine hq_cVr (As := [.int _]) (rm := rX6_goesWell) (f := 26) (Nc := 1) C (m_X6_goesWell) wv_X6_goesWell ml_X6_124 rfl rfl rfl Nat.one_pos rfl rfl rfl rfl ⟨Nat.le_of_ble_eq_true rfl, Nat.le_of_ble_eq_true rfl⟩ (Nat.le_of_ble_eq_true rfl) ⟨Nat.le_of_ble_eq_true rfl, Nat.le_of_ble_eq_true rfl⟩ dX6_order_133 ?_
      refine hq_if_ne (tgt := 141) C dX6_order_136 (by decide) (fun c_136 => absurd c_136 (by decide)) (fun _ => ?_)
      refine hq_iconst (y := 0) C dX6_order_139 (by decide) ?_
      exact hq_iret C hr hlk dX6_order_140 (by rw [show (ps_order P N x y z w v nb no) = _ from (if_pos c_6)]; first | rfl | exact if_pos ⟨rfl, rfl⟩ | skip) (by rw [show (ps_order P N x y z w v nb no) = _ from (if_pos c_6)]; first | rfl | exact if_pos ⟨rfl, rfl⟩ | skip)
    · refine hq_iload_n (q := 4) C dX6_order_32 rfl rfl ?_
      refine hq_iconst (y := 1) C dX6_order_33 (by decide) ?_
      refine hq_ldc C wc_X6_87 dX6_order_34 ?_
      refine hq_cSr (As := [.int _, .int _, .int _]) (rm := rX6_in) (Cn := "") C (m_X6_in) ws_X6_in ml_X6_116 rfl rfl rfl rfl ⟨Nat.le_of_ble_eq_true rfl, Nat.le_of_ble_eq_true rfl⟩ (Nat.le_of_ble_eq_true rfl) ⟨Nat.le_of_ble_eq_true rfl, Nat.le_of_ble_eq_true rfl⟩ dX6_order_36 ?_
      refine hq_if_eq (tgt := 58) C dX6_order_39 (by decide) (fun c_39 => ?_) (fun c_39 => ?_)
      · refine hq_iconst (y := 0) C dX6_order_58 (by decide) ?_
        refine hq_istore (L' := [(7, .int _), (6, .int _), (0, .ref _), (1, .int _), (2, .int _), (3, .int _), (4, .int _), (5, .int _)]) C dX6_order_59 (by decide) rfl ?_
        refine hq_iload (q := 1) C dX6_order_61 rfl ?_
        refine hq_if_eq (tgt := 101) C dX6_order_63 (by decide) (fun _ => ?_) (fun c_63 => absurd c_63 (by decide))
        refine hq_iconst (y := 0) C dX6_order_101 (by decide) ?_
        refine hq_istore (L' := [(8, .int _), (7, .int _), (6, .int _), (0, .ref _), (1, .int _), (2, .int _), (3, .int _), (4, .int _), (5, .int _)]) C dX6_order_102 (by decide) rfl ?_
        refine hq_aload_n (q := 3) C dX6_order_104 rfl rfl ?_
        refine hq_iload (q := 2) C dX6_order_105 rfl ?_
        refine hq_if_ne (tgt := 114) C dX6_order_107 (by decide) (fun c_107 => absurd c_107 (by decide)) (fun _ => ?_)
        refine hq_iconst (y := 1) C dX6_order_110 (by decide) ?_
        refine hq_goto (tgt := 133) C dX6_order_111 (by decide) ?_
        refine hq_cVr (As := [.int _]) (rm := rX6_goesWell) (f := 26) (Nc := 1) C (m_X6_goesWell) wv_X6_goesWell ml_X6_124 rfl rfl rfl Nat.one_pos rfl rfl rfl rfl ⟨Nat.le_of_ble_eq_true rfl, Nat.le_of_ble_eq_true rfl⟩ (Nat.le_of_ble_eq_true rfl) ⟨Nat.le_of_ble_eq_true rfl, Nat.le_of_ble_eq_true rfl⟩ dX6_order_133 ?_
        refine hq_if_ne (tgt := 141) C dX6_order_136 (by decide) (fun c_136 => absurd c_136 (by decide)) (fun _ => ?_)
        refine hq_iconst (y := 0) C dX6_order_139 (by decide) ?_
        exact hq_iret C hr hlk dX6_order_140 (by rw [show (ps_order P N x y z w v nb no) = _ from (if_pos c_6)]; first | rfl | exact if_pos ⟨rfl, rfl⟩ | skip) (by rw [show (ps_order P N x y z w v nb no) = _ from (if_pos c_6)]; first | rfl | exact if_pos ⟨rfl, rfl⟩ | skip)
      · refine hq_iload (q := 6) C dX6_order_42 rfl ?_
        refine hq_iconst (y := 0) C dX6_order_44 (by decide) ?_
        refine hq_sipush (y := 9999) C dX6_order_45 (by decide) ?_
        refine hq_cSr (As := [.int _, .int _, .int _]) (rm := rX6_in) (Cn := "") C (m_X6_in) ws_X6_in ml_X6_116 rfl rfl rfl rfl ⟨Nat.le_of_ble_eq_true rfl, Nat.le_of_ble_eq_true rfl⟩ (Nat.le_of_ble_eq_true rfl) ⟨Nat.le_of_ble_eq_true rfl, Nat.le_of_ble_eq_true rfl⟩ dX6_order_48 ?_
        refine hq_if_eq (tgt := 58) C dX6_order_51 (by decide) (fun c_51 => ?_) (fun c_51 => ?_)
        · refine hq_iconst (y := 0) C dX6_order_58 (by decide) ?_
          refine hq_istore (L' := [(7, .int _), (6, .int _), (0, .ref _), (1, .int _), (2, .int _), (3, .int _), (4, .int _), (5, .int _)]) C dX6_order_59 (by decide) rfl ?_
          refine hq_iload (q := 1) C dX6_order_61 rfl ?_
          refine hq_if_eq (tgt := 101) C dX6_order_63 (by decide) (fun _ => ?_) (fun c_63 => absurd c_63 (by decide))
          refine hq_iconst (y := 0) C dX6_order_101 (by decide) ?_
          refine hq_istore (L' := [(8, .int _), (7, .int _), (6, .int _), (0, .ref _), (1, .int _), (2, .int _), (3, .int _), (4, .int _), (5, .int _)]) C dX6_order_102 (by decide) rfl ?_
          refine hq_aload_n (q := 3) C dX6_order_104 rfl rfl ?_
          refine hq_iload (q := 2) C dX6_order_105 rfl ?_
          refine hq_if_ne (tgt := 114) C dX6_order_107 (by decide) (fun c_107 => absurd c_107 (by decide)) (fun _ => ?_)
          refine hq_iconst (y := 1) C dX6_order_110 (by decide) ?_
          refine hq_goto (tgt := 133) C dX6_order_111 (by decide) ?_
          refine hq_cVr (As := [.int _]) (rm := rX6_goesWell) (f := 26) (Nc := 1) C (m_X6_goesWell) wv_X6_goesWell ml_X6_124 rfl rfl rfl Nat.one_pos rfl rfl rfl rfl ⟨Nat.le_of_ble_eq_true rfl, Nat.le_of_ble_eq_true rfl⟩ (Nat.le_of_ble_eq_true rfl) ⟨Nat.le_of_ble_eq_true rfl, Nat.le_of_ble_eq_true rfl⟩ dX6_order_133 ?_
          refine hq_if_ne (tgt := 141) C dX6_order_136 (by decide) (fun c_136 => absurd c_136 (by decide)) (fun _ => ?_)
          refine hq_iconst (y := 0) C dX6_order_139 (by decide) ?_
          exact hq_iret C hr hlk dX6_order_140 (by rw [show (ps_order P N x y z w v nb no) = _ from (if_pos c_6)]; first | rfl | exact if_pos ⟨rfl, rfl⟩ | skip) (by rw [show (ps_order P N x y z w v nb no) = _ from (if_pos c_6)]; first | rfl | exact if_pos ⟨rfl, rfl⟩ | skip)
        · refine hq_iconst (y := 1) C dX6_order_54 (by decide) ?_
          refine hq_goto (tgt := 59) C dX6_order_55 (by decide) ?_
          refine hq_istore (L' := [(7, .int _), (6, .int _), (0, .ref _), (1, .int _), (2, .int _), (3, .int _), (4, .int _), (5, .int _)]) C dX6_order_59 (by decide) rfl ?_
          refine hq_iload (q := 1) C dX6_order_61 rfl ?_
          refine hq_if_eq (tgt := 101) C dX6_order_63 (by decide) (fun _ => ?_) (fun c_63 => absurd c_63 (by decide))
          refine hq_iconst (y := 0) C dX6_order_101 (by decide) ?_
          refine hq_istore (L' := [(8, .int _), (7, .int _), (6, .int _), (0, .ref _), (1, .int _), (2, .int _), (3, .int _), (4, .int _), (5, .int _)]) C dX6_order_102 (by decide) rfl ?_
          refine hq_aload_n (q := 3) C dX6_order_104 rfl rfl ?_
          refine hq_iload (q := 2) C dX6_order_105 rfl ?_
          refine hq_if_ne (tgt := 114) C dX6_order_107 (by decide) (fun c_107 => absurd c_107 (by decide)) (fun _ => ?_)
          refine hq_iconst (y := 1) C dX6_order_110 (by decide) ?_
          refine hq_goto (tgt := 133) C dX6_order_111 (by decide) ?_
          refine hq_cVr (As := [.int _]) (rm := rX6_goesWell) (f := 26) (Nc := 1) C (m_X6_goesWell) wv_X6_goesWell ml_X6_124 rfl rfl rfl Nat.one_pos rfl rfl rfl rfl ⟨Nat.le_of_ble_eq_true rfl, Nat.le_of_ble_eq_true rfl⟩ (Nat.le_of_ble_eq_true rfl) ⟨Nat.le_of_ble_eq_true rfl, Nat.le_of_ble_eq_true rfl⟩ dX6_order_133 ?_
          refine hq_if_ne (tgt := 141) C dX6_order_136 (by decide) (fun c_136 => absurd c_136 (by decide)) (fun _ => ?_)
          refine hq_iconst (y := 0) C dX6_order_139 (by decide) ?_
          exact hq_iret C hr hlk dX6_order_140 (by rw [show (ps_order P N x y z w v nb no) = _ from (if_pos c_6)]; first | rfl | exact if_pos ⟨rfl, rfl⟩ | skip) (by rw [show (ps_order P N x y z w v nb no) = _ from (if_pos c_6)]; first | rfl | exact if_pos ⟨rfl, rfl⟩ | skip)
  · refine hq_iload (q := 4) C dX6_order_9 rfl ?_
    refine hq_iconst (y := 0) C dX6_order_11 (by decide) ?_
    refine hq_bipush (y := 19) C dX6_order_12 (by decide) ?_
    refine hq_cSr (As := [.int _, .int _, .int _]) (rm := rX6_in) (Cn := "") C (m_X6_in) ws_X6_in ml_X6_116 rfl rfl rfl rfl ⟨Nat.le_of_ble_eq_true rfl, Nat.le_of_ble_eq_true rfl⟩ (Nat.le_of_ble_eq_true rfl) ⟨Nat.le_of_ble_eq_true rfl, Nat.le_of_ble_eq_true rfl⟩ dX6_order_14 ?_
    refine hq_if_eq (tgt := 24) C dX6_order_17 (by decide) (fun c_17 => ?_) (fun c_17 => ?_)
    · refine hq_iconst (y := 0) C dX6_order_24 (by decide) ?_
      refine hq_istore (L' := [(6, .int _), (0, .ref _), (1, .int _), (2, .int _), (3, .int _), (4, .int _), (5, .int _)]) C dX6_order_25 (by decide) rfl ?_
      refine hq_iload_n (q := 2) C dX6_order_27 rfl rfl ?_
      refine hq_iload_n (q := 3) C dX6_order_28 rfl rfl ?_
      refine hq_icmp_eq (tgt := 58) C dX6_order_29 (by decide) (fun c_29 => ?_) (fun c_29 => ?_)
      · refine hq_iconst (y := 0) C dX6_order_58 (by decide) ?_
        refine hq_istore (L' := [(7, .int _), (6, .int _), (0, .ref _), (1, .int _), (2, .int _), (3, .int _), (4, .int _), (5, .int _)]) C dX6_order_59 (by decide) rfl ?_
        refine hq_iload (q := 1) C dX6_order_61 rfl ?_
        refine hq_if_eq (tgt := 101) C dX6_order_63 (by decide) (fun _ => ?_) (fun c_63 => absurd c_63 (by decide))
        refine hq_iconst (y := 0) C dX6_order_101 (by decide) ?_
        refine hq_istore (L' := [(8, .int _), (7, .int _), (6, .int _), (0, .ref _), (1, .int _), (2, .int _), (3, .int _), (4, .int _), (5, .int _)]) C dX6_order_102 (by decide) rfl ?_
        refine hq_aload_n (q := 3) C dX6_order_104 rfl rfl ?_
        refine hq_iload (q := 2) C dX6_order_105 rfl ?_
        refine hq_if_ne (tgt := 114) C dX6_order_107 (by decide) (fun c_107 => absurd c_107 (by decide)) (fun _ => ?_)
        refine hq_iconst (y := 1) C dX6_order_110 (by decide) ?_
        refine hq_goto (tgt := 133) C dX6_order_111 (by decide) ?_
        refine hq_cVr (As := [.int _]) (rm := rX6_goesWell) (f := 26) (Nc := 1) C (m_X6_goesWell) wv_X6_goesWell ml_X6_124 rfl rfl rfl Nat.one_pos rfl rfl rfl rfl ⟨Nat.le_of_ble_eq_true rfl, Nat.le_of_ble_eq_true rfl⟩ (Nat.le_of_ble_eq_true rfl) ⟨Nat.le_of_ble_eq_true rfl, Nat.le_of_ble_eq_true rfl⟩ dX6_order_133 ?_
        refine hq_if_ne (tgt := 141) C dX6_order_136 (by decide) (fun c_136 => absurd c_136 (by decide)) (fun _ => ?_)
        refine hq_iconst (y := 0) C dX6_order_139 (by decide) ?_
        exact hq_iret C hr hlk dX6_order_140 (by rw [show (ps_order P N x y z w v nb no) = _ from ((if_neg c_6).trans (if_pos c_17))]; first | rfl | exact if_pos ⟨rfl, rfl⟩ | skip) (by rw [show (ps_order P N x y z w v nb no) = _ from ((if_neg c_6).trans (if_pos c_17))]; first | rfl | exact if_pos ⟨rfl, rfl⟩ | skip)
      · refine hq_iload_n (q := 4) C dX6_order_32 rfl rfl ?_
        refine hq_iconst (y := 1) C dX6_order_33 (by decide) ?_
        refine hq_ldc C wc_X6_87 dX6_order_34 ?_
        refine hq_cSr (As := [.int _, .int _, .int _]) (rm := rX6_in) (Cn := "") C (m_X6_in) ws_X6_in ml_X6_116 rfl rfl rfl rfl ⟨Nat.le_of_ble_eq_true rfl, Nat.le_of_ble_eq_true rfl⟩ (Nat.le_of_ble_eq_true rfl) ⟨Nat.le_of_ble_eq_true rfl, Nat.le_of_ble_eq_true rfl⟩ dX6_order_36 ?_
        refine hq_if_eq (tgt := 58) C dX6_order_39 (by decide) (fun c_39 => ?_) (fun c_39 => ?_)
        · refine hq_iconst (y := 0) C dX6_order_58 (by decide) ?_
          refine hq_istore (L' := [(7, .int _), (6, .int _), (0, .ref _), (1, .int _), (2, .int _), (3, .int _), (4, .int _), (5, .int _)]) C dX6_order_59 (by decide) rfl ?_
          refine hq_iload (q := 1) C dX6_order_61 rfl ?_
          refine hq_if_eq (tgt := 101) C dX6_order_63 (by decide) (fun _ => ?_) (fun c_63 => absurd c_63 (by decide))
          refine hq_iconst (y := 0) C dX6_order_101 (by decide) ?_
          refine hq_istore (L' := [(8, .int _), (7, .int _), (6, .int _), (0, .ref _), (1, .int _), (2, .int _), (3, .int _), (4, .int _), (5, .int _)]) C dX6_order_102 (by decide) rfl ?_
          refine hq_aload_n (q := 3) C dX6_order_104 rfl rfl ?_
          refine hq_iload (q := 2) C dX6_order_105 rfl ?_
          refine hq_if_ne (tgt := 114) C dX6_order_107 (by decide) (fun c_107 => absurd c_107 (by decide)) (fun _ => ?_)
          refine hq_iconst (y := 1) C dX6_order_110 (by decide) ?_
          refine hq_goto (tgt := 133) C dX6_order_111 (by decide) ?_
          refine hq_cVr (As := [.int _]) (rm := rX6_goesWell) (f := 26) (Nc := 1) C (m_X6_goesWell) wv_X6_goesWell ml_X6_124 rfl rfl rfl Nat.one_pos rfl rfl rfl rfl ⟨Nat.le_of_ble_eq_true rfl, Nat.le_of_ble_eq_true rfl⟩ (Nat.le_of_ble_eq_true rfl) ⟨Nat.le_of_ble_eq_true rfl, Nat.le_of_ble_eq_true rfl⟩ dX6_order_133 ?_
          refine hq_if_ne (tgt := 141) C dX6_order_136 (by decide) (fun c_136 => absurd c_136 (by decide)) (fun _ => ?_)
          refine hq_iconst (y := 0) C dX6_order_139 (by decide) ?_
          exact hq_iret C hr hlk dX6_order_140 (by rw [show (ps_order P N x y z w v nb no) = _ from ((if_neg c_6).trans (if_pos c_17))]; first | rfl | exact if_pos ⟨rfl, rfl⟩ | skip) (by rw [show (ps_order P N x y z w v nb no) = _ from ((if_neg c_6).trans (if_pos c_17))]; first | rfl | exact if_pos ⟨rfl, rfl⟩ | skip)
        · refine hq_iload (q := 6) C dX6_order_42 rfl ?_
          refine hq_iconst (y := 0) C dX6_order_44 (by decide) ?_
          refine hq_sipush (y := 9999) C dX6_order_45 (by decide) ?_
          refine hq_cSr (As := [.int _, .int _, .int _]) (rm := rX6_in) (Cn := "") C (m_X6_in) ws_X6_in ml_X6_116 rfl rfl rfl rfl ⟨Nat.le_of_ble_eq_true rfl, Nat.le_of_ble_eq_true rfl⟩ (Nat.le_of_ble_eq_true rfl) ⟨Nat.le_of_ble_eq_true rfl, Nat.le_of_ble_eq_true rfl⟩ dX6_order_48 ?_
          refine hq_if_eq (tgt := 58) C dX6_order_51 (by decide) (fun c_51 => ?_) (fun c_51 => ?_)
          · refine hq_iconst (y := 0) C dX6_order_58 (by decide) ?_
            refine hq_istore (L' := [(7, .int _), (6, .int _), (0, .ref _), (1, .int _), (2, .int _), (3, .int _), (4, .int _), (5, .int _)]) C dX6_order_59 (by decide) rfl ?_
            refine hq_iload (q := 1) C dX6_order_61 rfl ?_
            refine hq_if_eq (tgt := 101) C dX6_order_63 (by decide) (fun _ => ?_) (fun c_63 => absurd c_63 (by decide))
            refine hq_iconst (y := 0) C dX6_order_101 (by decide) ?_
            refine hq_istore (L' := [(8, .int _), (7, .int _), (6, .int _), (0, .ref _), (1, .int _), (2, .int _), (3, .int _), (4, .int _), (5, .int _)]) C dX6_order_102 (by decide) rfl ?_
            refine hq_aload_n (q := 3) C dX6_order_104 rfl rfl ?_
            refine hq_iload (q := 2) C dX6_order_105 rfl ?_
            refine hq_if_ne (tgt := 114) C dX6_order_107 (by decide) (fun c_107 => absurd c_107 (by decide)) (fun _ => ?_)
            refine hq_iconst (y := 1) C dX6_order_110 (by decide) ?_
            refine hq_goto (tgt := 133) C dX6_order_111 (by decide) ?_
            refine hq_cVr (As := [.int _]) (rm := rX6_goesWell) (f := 26) (Nc := 1) C (m_X6_goesWell) wv_X6_goesWell ml_X6_124 rfl rfl rfl Nat.one_pos rfl rfl rfl rfl ⟨Nat.le_of_ble_eq_true rfl, Nat.le_of_ble_eq_true rfl⟩ (Nat.le_of_ble_eq_true rfl) ⟨Nat.le_of_ble_eq_true rfl, Nat.le_of_ble_eq_true rfl⟩ dX6_order_133 ?_
            refine hq_if_ne (tgt := 141) C dX6_order_136 (by decide) (fun c_136 => absurd c_136 (by decide)) (fun _ => ?_)
            refine hq_iconst (y := 0) C dX6_order_139 (by decide) ?_
            exact hq_iret C hr hlk dX6_order_140 (by rw [show (ps_order P N x y z w v nb no) = _ from ((if_neg c_6).trans (if_pos c_17))]; first | rfl | exact if_pos ⟨rfl, rfl⟩ | skip) (by rw [show (ps_order P N x y z w v nb no) = _ from ((if_neg c_6).trans (if_pos c_17))]; first | rfl | exact if_pos ⟨rfl, rfl⟩ | skip)
          · refine hq_iconst (y := 1) C dX6_order_54 (by decide) ?_
            refine hq_goto (tgt := 59) C dX6_order_55 (by decide) ?_
            refine hq_istore (L' := [(7, .int _), (6, .int _), (0, .ref _), (1, .int _), (2, .int _), (3, .int _), (4, .int _), (5, .int _)]) C dX6_order_59 (by decide) rfl ?_
            refine hq_iload (q := 1) C dX6_order_61 rfl ?_
            refine hq_if_eq (tgt := 101) C dX6_order_63 (by decide) (fun _ => ?_) (fun c_63 => absurd c_63 (by decide))
            refine hq_iconst (y := 0) C dX6_order_101 (by decide) ?_
            refine hq_istore (L' := [(8, .int _), (7, .int _), (6, .int _), (0, .ref _), (1, .int _), (2, .int _), (3, .int _), (4, .int _), (5, .int _)]) C dX6_order_102 (by decide) rfl ?_
            refine hq_aload_n (q := 3) C dX6_order_104 rfl rfl ?_
            refine hq_iload (q := 2) C dX6_order_105 rfl ?_
            refine hq_if_ne (tgt := 114) C dX6_order_107 (by decide) (fun c_107 => absurd c_107 (by decide)) (fun _ => ?_)
            refine hq_iconst (y := 1) C dX6_order_110 (by decide) ?_
            refine hq_goto (tgt := 133) C dX6_order_111 (by decide) ?_
            refine hq_cVr (As := [.int _]) (rm := rX6_goesWell) (f := 26) (Nc := 1) C (m_X6_goesWell) wv_X6_goesWell ml_X6_124 rfl rfl rfl Nat.one_pos rfl rfl rfl rfl ⟨Nat.le_of_ble_eq_true rfl, Nat.le_of_ble_eq_true rfl⟩ (Nat.le_of_ble_eq_true rfl) ⟨Nat.le_of_ble_eq_true rfl, Nat.le_of_ble_eq_true rfl⟩ dX6_order_133 ?_
            refine hq_if_ne (tgt := 141) C dX6_order_136 (by decide) (fun c_136 => absurd c_136 (by decide)) (fun _ => ?_)
            refine hq_iconst (y := 0) C dX6_order_139 (by decide) ?_
            exact hq_iret C hr hlk dX6_order_140 (by rw [show (ps_order P N x y z w v nb no) = _ from ((if_neg c_6).trans (if_pos c_17))]; first | rfl | exact if_pos ⟨rfl, rfl⟩ | skip) (by rw [show (ps_order P N x y z w v nb no) = _ from ((if_neg c_6).trans (if_pos c_17))]; first | rfl | exact if_pos ⟨rfl, rfl⟩ | skip)
    · refine hq_iconst (y := 1) C dX6_order_20 (by decide) ?_
      refine hq_goto (tgt := 25) C dX6_order_21 (by decide) ?_
      refine hq_istore (L' := [(6, .int _), (0, .ref _), (1, .int _), (2, .int _), (3, .int _), (4, .int _), (5, .int _)]) C dX6_order_25 (by decide) rfl ?_
      refine hq_iload_n (q := 2) C dX6_order_27 rfl rfl ?_
      refine hq_iload_n (q := 3) C dX6_order_28 rfl rfl ?_
      refine hq_icmp_eq (tgt := 58) C dX6_order_29 (by decide) (fun c_29 => ?_) (fun c_29 => ?_)
      · refine hq_iconst (y := 0) C dX6_order_58 (by decide) ?_
        refine hq_istore (L' := [(7, .int _), (6, .int _), (0, .ref _), (1, .int _), (2, .int _), (3, .int _), (4, .int _), (5, .int _)]) C dX6_order_59 (by decide) rfl ?_
        refine hq_iload (q := 1) C dX6_order_61 rfl ?_
        refine hq_if_eq (tgt := 101) C dX6_order_63 (by decide) (fun c_63 => absurd c_63 (by decide)) (fun _ => ?_)
        refine hq_iload (q := 0) C dX6_order_66 rfl ?_
        refine hq_if_eq (tgt := 101) C dX6_order_68 (by decide) (fun _ => ?_) (fun c_68 => absurd c_68 (by decide))
        refine hq_iconst (y := 0) C dX6_order_101 (by decide) ?_
        refine hq_istore (L' := [(8, .int _), (7, .int _), (6, .int _), (0, .ref _), (1, .int _), (2, .int _), (3, .int _), (4, .int _), (5, .int _)]) C dX6_order_102 (by decide) rfl ?_
        refine hq_aload_n (q := 3) C dX6_order_104 rfl rfl ?_
        refine hq_iload (q := 2) C dX6_order_105 rfl ?_
        refine hq_if_ne (tgt := 114) C dX6_order_107 (by decide) (fun _ => ?_) (fun c_107 => absurd c_107 (by decide))
        refine hq_iload (q := 1) C dX6_order_114 rfl ?_
        refine hq_if_ne (tgt := 123) C dX6_order_116 (by decide) (fun c_116 => absurd c_116 (by decide)) (fun _ => ?_)
        refine hq_iconst (y := 2) C dX6_order_119 (by decide) ?_
        refine hq_goto (tgt := 133) C dX6_order_120 (by decide) ?_
        refine hq_cVr (As := [.int _]) (rm := rX6_goesWell) (f := 26) (Nc := 1) C (m_X6_goesWell) wv_X6_goesWell ml_X6_124 rfl rfl rfl Nat.one_pos rfl rfl rfl rfl ⟨Nat.le_of_ble_eq_true rfl, Nat.le_of_ble_eq_true rfl⟩ (Nat.le_of_ble_eq_true rfl) ⟨Nat.le_of_ble_eq_true rfl, Nat.le_of_ble_eq_true rfl⟩ dX6_order_133 ?_
        refine hq_if_ne (tgt := 141) C dX6_order_136 (by decide) (fun c_136 => absurd c_136 (by decide)) (fun _ => ?_)
        refine hq_iconst (y := 0) C dX6_order_139 (by decide) ?_
        exact hq_iret C hr hlk dX6_order_140 (by rw [show (ps_order P N x y z w v nb no) = _ from (((if_neg c_6).trans (if_neg c_17)).trans (if_pos c_29))]; first | rfl | exact if_pos ⟨rfl, rfl⟩ | skip) (by rw [show (ps_order P N x y z w v nb no) = _ from (((if_neg c_6).trans (if_neg c_17)).trans (if_pos c_29))]; first | rfl | exact if_pos ⟨rfl, rfl⟩ | skip)
      · refine hq_iload_n (q := 4) C dX6_order_32 rfl rfl ?_
        refine hq_iconst (y := 1) C dX6_order_33 (by decide) ?_
        refine hq_ldc C wc_X6_87 dX6_order_34 ?_
        refine hq_cSr (As := [.int _, .int _, .int _]) (rm := rX6_in) (Cn := "") C (m_X6_in) ws_X6_in ml_X6_116 rfl rfl rfl rfl ⟨Nat.le_of_ble_eq_true rfl, Nat.le_of_ble_eq_true rfl⟩ (Nat.le_of_ble_eq_true rfl) ⟨Nat.le_of_ble_eq_true rfl, Nat.le_of_ble_eq_true rfl⟩ dX6_order_36 ?_
        refine hq_if_eq (tgt := 58) C dX6_order_39 (by decide) (fun c_39 => ?_) (fun c_39 => ?_)
        · refine hq_iconst (y := 0) C dX6_order_58 (by decide) ?_
          refine hq_istore (L' := [(7, .int _), (6, .int _), (0, .ref _), (1, .int _), (2, .int _), (3, .int _), (4, .int _), (5, .int _)]) C dX6_order_59 (by decide) rfl ?_
          refine hq_iload (q := 1) C dX6_order_61 rfl ?_
          refine hq_if_eq (tgt := 101) C dX6_order_63 (by decide) (fun c_63 => absurd c_63 (by decide)) (fun _ => ?_)
          refine hq_iload (q := 0) C dX6_order_66 rfl ?_
          refine hq_if_eq (tgt := 101) C dX6_order_68 (by decide) (fun _ => ?_) (fun c_68 => absurd c_68 (by decide))
          refine hq_iconst (y := 0) C dX6_order_101 (by decide) ?_
          refine hq_istore (L' := [(8, .int _), (7, .int _), (6, .int _), (0, .ref _), (1, .int _), (2, .int _), (3, .int _), (4, .int _), (5, .int _)]) C dX6_order_102 (by decide) rfl ?_
          refine hq_aload_n (q := 3) C dX6_order_104 rfl rfl ?_
          refine hq_iload (q := 2) C dX6_order_105 rfl ?_
          refine hq_if_ne (tgt := 114) C dX6_order_107 (by decide) (fun _ => ?_) (fun c_107 => absurd c_107 (by decide))
          refine hq_iload (q := 1) C dX6_order_114 rfl ?_
          refine hq_if_ne (tgt := 123) C dX6_order_116 (by decide) (fun c_116 => absurd c_116 (by decide)) (fun _ => ?_)
          refine hq_iconst (y := 2) C dX6_order_119 (by decide) ?_
          refine hq_goto (tgt := 133) C dX6_order_120 (by decide) ?_
          refine hq_cVr (As := [.int _]) (rm := rX6_goesWell) (f := 26) (Nc := 1) C (m_X6_goesWell) wv_X6_goesWell ml_X6_124 rfl rfl rfl Nat.one_pos rfl rfl rfl rfl ⟨Nat.le_of_ble_eq_true rfl, Nat.le_of_ble_eq_true rfl⟩ (Nat.le_of_ble_eq_true rfl) ⟨Nat.le_of_ble_eq_true rfl, Nat.le_of_ble_eq_true rfl⟩ dX6_order_133 ?_
          refine hq_if_ne (tgt := 141) C dX6_order_136 (by decide) (fun c_136 => absurd c_136 (by decide)) (fun _ => ?_)
          refine hq_iconst (y := 0) C dX6_order_139 (by decide) ?_
          exact hq_iret C hr hlk dX6_order_140 (by rw [show (ps_order P N x y z w v nb no) = _ from ((((if_neg c_6).trans (if_neg c_17)).trans (if_neg c_29)).trans (if_pos c_39))]; first | rfl | exact if_pos ⟨rfl, rfl⟩ | skip) (by rw [show (ps_order P N x y z w v nb no) = _ from ((((if_neg c_6).trans (if_neg c_17)).trans (if_neg c_29)).trans (if_pos c_39))]; first | rfl | exact if_pos ⟨rfl, rfl⟩ | skip)
        · refine hq_iload (q := 6) C dX6_order_42 rfl ?_
          refine hq_iconst (y := 0) C dX6_order_44 (by decide) ?_
          refine hq_sipush (y := 9999) C dX6_order_45 (by decide) ?_
          refine hq_cSr (As := [.int _, .int _, .int _]) (rm := rX6_in) (Cn := "") C (m_X6_in) ws_X6_in ml_X6_116 rfl rfl rfl rfl ⟨Nat.le_of_ble_eq_true rfl, Nat.le_of_ble_eq_true rfl⟩ (Nat.le_of_ble_eq_true rfl) ⟨Nat.le_of_ble_eq_true rfl, Nat.le_of_ble_eq_true rfl⟩ dX6_order_48 ?_
          refine hq_if_eq (tgt := 58) C dX6_order_51 (by decide) (fun c_51 => ?_) (fun c_51 => ?_)
          · refine hq_iconst (y := 0) C dX6_order_58 (by decide) ?_
            refine hq_istore (L' := [(7, .int _), (6, .int _), (0, .ref _), (1, .int _), (2, .int _), (3, .int _), (4, .int _), (5, .int _)]) C dX6_order_59 (by decide) rfl ?_
            refine hq_iload (q := 1) C dX6_order_61 rfl ?_
            refine hq_if_eq (tgt := 101) C dX6_order_63 (by decide) (fun c_63 => absurd c_63 (by decide)) (fun _ => ?_)
            refine hq_iload (q := 0) C dX6_order_66 rfl ?_
            refine hq_if_eq (tgt := 101) C dX6_order_68 (by decide) (fun _ => ?_) (fun c_68 => absurd c_68 (by decide))
            refine hq_iconst (y := 0) C dX6_order_101 (by decide) ?_
            refine hq_istore (L' := [(8, .int _), (7, .int _), (6, .int _), (0, .ref _), (1, .int _), (2, .int _), (3, .int _), (4, .int _), (5, .int _)]) C dX6_order_102 (by decide) rfl ?_
            refine hq_aload_n (q := 3) C dX6_order_104 rfl rfl ?_
            refine hq_iload (q := 2) C dX6_order_105 rfl ?_
            refine hq_if_ne (tgt := 114) C dX6_order_107 (by decide) (fun _ => ?_) (fun c_107 => absurd c_107 (by decide))
            refine hq_iload (q := 1) C dX6_order_114 rfl ?_
            refine hq_if_ne (tgt := 123) C dX6_order_116 (by decide) (fun c_116 => absurd c_116 (by decide)) (fun _ => ?_)
            refine hq_iconst (y := 2) C dX6_order_119 (by decide) ?_
            refine hq_goto (tgt := 133) C dX6_order_120 (by decide) ?_
            refine hq_cVr (As := [.int _]) (rm := rX6_goesWell) (f := 26) (Nc := 1) C (m_X6_goesWell) wv_X6_goesWell ml_X6_124 rfl rfl rfl Nat.one_pos rfl rfl rfl rfl ⟨Nat.le_of_ble_eq_true rfl, Nat.le_of_ble_eq_true rfl⟩ (Nat.le_of_ble_eq_true rfl) ⟨Nat.le_of_ble_eq_true rfl, Nat.le_of_ble_eq_true rfl⟩ dX6_order_133 ?_
            refine hq_if_ne (tgt := 141) C dX6_order_136 (by decide) (fun c_136 => absurd c_136 (by decide)) (fun _ => ?_)
            refine hq_iconst (y := 0) C dX6_order_139 (by decide) ?_
            exact hq_iret C hr hlk dX6_order_140 (by rw [show (ps_order P N x y z w v nb no) = _ from (((((if_neg c_6).trans (if_neg c_17)).trans (if_neg c_29)).trans (if_neg c_39)).trans (if_pos c_51))]; first | rfl | exact if_pos ⟨rfl, rfl⟩ | skip) (by rw [show (ps_order P N x y z w v nb no) = _ from (((((if_neg c_6).trans (if_neg c_17)).trans (if_neg c_29)).trans (if_neg c_39)).trans (if_pos c_51))]; first | rfl | exact if_pos ⟨rfl, rfl⟩ | skip)
          · refine hq_iconst (y := 1) C dX6_order_54 (by decide) ?_
            refine hq_goto (tgt := 59) C dX6_order_55 (by decide) ?_
            refine hq_istore (L' := [(7, .int _), (6, .int _), (0, .ref _), (1, .int _), (2, .int _), (3, .int _), (4, .int _), (5, .int _)]) C dX6_order_59 (by decide) rfl ?_
            refine hq_iload (q := 1) C dX6_order_61 rfl ?_
            refine hq_if_eq (tgt := 101) C dX6_order_63 (by decide) (fun c_63 => absurd c_63 (by decide)) (fun _ => ?_)
            refine hq_iload (q := 0) C dX6_order_66 rfl ?_
            refine hq_if_eq (tgt := 101) C dX6_order_68 (by decide) (fun c_68 => absurd c_68 (by decide)) (fun _ => ?_)
            refine hq_aload_n (q := 2) C dX6_order_71 rfl rfl ?_
            refine hq_getP (f := 26) (g := 1) (Nc := 1) (Ns := 38) C fr_X6_181 dX6_order_72 rfl rfl rfl rfl rfl (by decide) Nat.one_pos ?_
            refine hq_bipush (y := 40) C dX6_order_75 (by decide) ?_
            refine hq_icmp_ge (tgt := 101) C dX6_order_77 (by decide) (fun c_77 => ?_) (fun c_77 => ?_)
            · refine hq_iconst (y := 0) C dX6_order_101 (by decide) ?_
              refine hq_istore (L' := [(8, .int _), (7, .int _), (6, .int _), (0, .ref _), (1, .int _), (2, .int _), (3, .int _), (4, .int _), (5, .int _)]) C dX6_order_102 (by decide) rfl ?_
              refine hq_aload_n (q := 3) C dX6_order_104 rfl rfl ?_
              refine hq_iload (q := 2) C dX6_order_105 rfl ?_
              refine hq_if_ne (tgt := 114) C dX6_order_107 (by decide) (fun _ => ?_) (fun c_107 => absurd c_107 (by decide))
              refine hq_iload (q := 1) C dX6_order_114 rfl ?_
              refine hq_if_ne (tgt := 123) C dX6_order_116 (by decide) (fun _ => ?_) (fun c_116 => absurd c_116 (by decide))
              refine hq_iload (q := 0) C dX6_order_123 rfl ?_
              refine hq_if_ne (tgt := 132) C dX6_order_125 (by decide) (fun c_125 => absurd c_125 (by decide)) (fun _ => ?_)
              refine hq_iconst (y := 3) C dX6_order_128 (by decide) ?_
              refine hq_goto (tgt := 133) C dX6_order_129 (by decide) ?_
              refine hq_cVr (As := [.int _]) (rm := rX6_goesWell) (f := 26) (Nc := 1) C (m_X6_goesWell) wv_X6_goesWell ml_X6_124 rfl rfl rfl Nat.one_pos rfl rfl rfl rfl ⟨Nat.le_of_ble_eq_true rfl, Nat.le_of_ble_eq_true rfl⟩ (Nat.le_of_ble_eq_true rfl) ⟨Nat.le_of_ble_eq_true rfl, Nat.le_of_ble_eq_true rfl⟩ dX6_order_133 ?_
              refine hq_if_ne (tgt := 141) C dX6_order_136 (by decide) (fun c_136 => absurd c_136 (by decide)) (fun _ => ?_)
              refine hq_iconst (y := 0) C dX6_order_139 (by decide) ?_
              exact hq_iret C hr hlk dX6_order_140 (by rw [show (ps_order P N x y z w v nb no) = _ from ((((((if_neg c_6).trans (if_neg c_17)).trans (if_neg c_29)).trans (if_neg c_39)).trans (if_neg c_51)).trans (if_pos c_77))]; first | rfl | exact if_pos ⟨rfl, rfl⟩ | skip) (by rw [show (ps_order P N x y z w v nb no) = _ from ((((((if_neg c_6).trans (if_neg c_17)).trans (if_neg c_29)).trans (if_neg c_39)).trans (if_neg c_51)).trans (if_pos c_77))]; first | rfl | exact if_pos ⟨rfl, rfl⟩ | skip)
            · have h40 : no < 40 := by
                rcases Nat.lt_or_ge no 40 with z9 | z9
                · exact z9
                · exact absurd (by rw [hoc]; exact nI_le z9 (by omega) : (40 : Int32) ≤ P 1 0) c_77
              obtain ⟨hwx, hwb⟩ := in_c (n := 19) (by decide) (by omega) c_17
              refine hq_aload_n (q := 2) C dX6_order_80 rfl rfl ?_
              refine hq_getR (f := 26) (g := 54) (Nc := 1) (Ns := 38) C fr_X6_94 dX6_order_81 rfl rfl rfl rfl rfl (by decide) Nat.one_pos ?_
              refine hq_iload (q := 6) C dX6_order_84 rfl ?_
              refine hq_zaldP0 (f := 54) (a := tn w) (g := 30) (Nc := 1) (Ns := 20) C dX6_order_86 rfl rfl rfl rfl rfl rfl hwx (by omega) Nat.one_pos ?_
              refine hq_if_ne (tgt := 101) C dX6_order_87 (by decide) (fun c_87 => ?_) (fun c_87 => ?_)
              · refine hq_iconst (y := 0) C dX6_order_101 (by decide) ?_
                refine hq_istore (L' := [(8, .int _), (7, .int _), (6, .int _), (0, .ref _), (1, .int _), (2, .int _), (3, .int _), (4, .int _), (5, .int _)]) C dX6_order_102 (by decide) rfl ?_
                refine hq_aload_n (q := 3) C dX6_order_104 rfl rfl ?_
                refine hq_iload (q := 2) C dX6_order_105 rfl ?_
                refine hq_if_ne (tgt := 114) C dX6_order_107 (by decide) (fun _ => ?_) (fun c_107 => absurd c_107 (by decide))
                refine hq_iload (q := 1) C dX6_order_114 rfl ?_
                refine hq_if_ne (tgt := 123) C dX6_order_116 (by decide) (fun _ => ?_) (fun c_116 => absurd c_116 (by decide))
                refine hq_iload (q := 0) C dX6_order_123 rfl ?_
                refine hq_if_ne (tgt := 132) C dX6_order_125 (by decide) (fun c_125 => absurd c_125 (by decide)) (fun _ => ?_)
                refine hq_iconst (y := 3) C dX6_order_128 (by decide) ?_
                refine hq_goto (tgt := 133) C dX6_order_129 (by decide) ?_
                refine hq_cVr (As := [.int _]) (rm := rX6_goesWell) (f := 26) (Nc := 1) C (m_X6_goesWell) wv_X6_goesWell ml_X6_124 rfl rfl rfl Nat.one_pos rfl rfl rfl rfl ⟨Nat.le_of_ble_eq_true rfl, Nat.le_of_ble_eq_true rfl⟩ (Nat.le_of_ble_eq_true rfl) ⟨Nat.le_of_ble_eq_true rfl, Nat.le_of_ble_eq_true rfl⟩ dX6_order_133 ?_
                refine hq_if_ne (tgt := 141) C dX6_order_136 (by decide) (fun c_136 => absurd c_136 (by decide)) (fun _ => ?_)
                refine hq_iconst (y := 0) C dX6_order_139 (by decide) ?_
                exact hq_iret C hr hlk dX6_order_140 (by rw [show (ps_order P N x y z w v nb no) = _ from (((((((if_neg c_6).trans (if_neg c_17)).trans (if_neg c_29)).trans (if_neg c_39)).trans (if_neg c_51)).trans (if_neg c_77)).trans (if_pos c_87))]; first | rfl | exact if_pos ⟨rfl, rfl⟩ | skip) (by rw [show (ps_order P N x y z w v nb no) = _ from (((((((if_neg c_6).trans (if_neg c_17)).trans (if_neg c_29)).trans (if_neg c_39)).trans (if_neg c_51)).trans (if_neg c_77)).trans (if_pos c_87))]; first | rfl | exact if_pos ⟨rfl, rfl⟩ | skip)
              · obtain ⟨⟨hx, hxb⟩, hy, hyb⟩ := br2_n hbc (by omega) c_6
                refine hq_aload_n (q := 2) C dX6_order_90 rfl rfl ?_
                refine hq_iload_n (q := 3) C dX6_order_91 rfl rfl ?_
                refine hq_iload_n (q := 4) C dX6_order_92 rfl rfl ?_
                refine hq_iload_n (q := 5) C dX6_order_93 rfl rfl ?_
                refine hq_iconst (y := 0) C dX6_order_94 (by decide) ?_
                refine hq_cVr (As := [.int _, .int _, .int _, .int _]) (rm := rX6_findWay) (f := 26) (Nc := 1) C (m_X6_findWay_b (nb := nb) (a := tn x) (t := tn y) (n9 := po_n P N x y z nb) (pp := po_p P N x y z nb) hbc hnb hx (by omega) hy (by omega) hw.1 hw.2.2.1 rfl hw.2.2.2.1 hw.2.2.2.2) wv_X6_findWay ml_X6_170 rfl rfl rfl Nat.one_pos rfl rfl rfl rfl ⟨Nat.le_of_ble_eq_true rfl, Nat.le_of_ble_eq_true rfl⟩ (Nat.le_of_ble_eq_true rfl) ⟨Nat.le_of_ble_eq_true rfl, Nat.le_of_ble_eq_true rfl⟩ dX6_order_95 ?_
                refine hq_goto (tgt := 102) C dX6_order_98 (by decide) ?_
                refine hq_istore (L' := [(8, .int _), (7, .int _), (6, .int _), (0, .ref _), (1, .int _), (2, .int _), (3, .int _), (4, .int _), (5, .int _)]) C dX6_order_102 (by decide) rfl ?_
                refine hq_aload_n (q := 3) C dX6_order_104 rfl rfl ?_
                refine hq_iload (q := 2) C dX6_order_105 rfl ?_
                refine hq_if_ne (tgt := 114) C dX6_order_107 (by decide) (fun _ => ?_) (fun c_107 => absurd c_107 (by decide))
                refine hq_iload (q := 1) C dX6_order_114 rfl ?_
                refine hq_if_ne (tgt := 123) C dX6_order_116 (by decide) (fun _ => ?_) (fun c_116 => absurd c_116 (by decide))
                refine hq_iload (q := 0) C dX6_order_123 rfl ?_
                refine hq_if_ne (tgt := 132) C dX6_order_125 (by decide) (fun c_125 => ?_) (fun c_125 => absurd c_125 (nI_ne0 (by omega) (by have := hw.2.2.1; omega)))
                refine hq_iconst (y := 0) C dX6_order_132 (by decide) ?_
                refine hq_cVr (As := [.int _]) (rm := rX6_goesWell) (f := 26) (Nc := 1) C (m_X6_goesWell) wv_X6_goesWell ml_X6_124 rfl rfl rfl Nat.one_pos rfl rfl rfl rfl ⟨Nat.le_of_ble_eq_true rfl, Nat.le_of_ble_eq_true rfl⟩ (Nat.le_of_ble_eq_true rfl) ⟨Nat.le_of_ble_eq_true rfl, Nat.le_of_ble_eq_true rfl⟩ dX6_order_133 ?_
                refine hq_if_ne (tgt := 141) C dX6_order_136 (by decide) (fun _ => ?_) (fun c_136 => absurd c_136 (by decide))
                have e9 : po_K P N x y z nb 1 0 = nI no := (po_K_oth (by decide) (by decide)).trans hoc
                obtain ⟨t, t1, t2⟩ := ht (tn x) (by omega)
                have q5 : (po_L P N x y z v nb no).1 5 (tn x) = nI t := by
                  unfold po_L
                  rw [lay_oth (by decide) (by decide) (by decide)]
                  exact (show po_K P N x y z nb 5 (tn x) = P 5 (tn x) from po_K_oth (by decide) (by decide)).trans t2
                have t5 : (po_L P N x y z v nb no).1 5 (tn x) = nI (tn ((po_L P N x y z v nb no).1 5 (tn x))) := by rw [q5]; exact (congrArg nI (nI_clamp (by omega))).symm
                have t8 : tn ((po_L P N x y z v nb no).1 5 (tn x)) < 8 := by rw [q5]; show (nI t).toNatClampNeg < 8; rw [nI_clamp (by omega)]; exact t1
                refine hq_aload_n (q := 3) C dX6_order_141 rfl rfl ?_
                refine hq_getP (f := 26) (g := 1) (Nc := 1) (Ns := 38) C fr_X6_181 dX6_order_142 rfl rfl rfl rfl rfl (by decide) Nat.one_pos ?_
                refine hq_istore (L' := [(9, .int _), (8, .int _), (7, .int _), (6, .int _), (0, .ref _), (1, .int _), (2, .int _), (3, .int _), (4, .int _), (5, .int _)]) C dX6_order_145 (by decide) rfl ?_
                refine hq_aload_n (q := 4) C dX6_order_147 rfl rfl ?_
                refine hq_dup C dX6_order_148 rfl ?_
                refine hq_getP (f := 26) (g := 1) (Nc := 1) (Ns := 38) C fr_X6_181 dX6_order_149 rfl rfl rfl rfl rfl (by decide) Nat.one_pos ?_
                refine hq_iconst (y := 1) C dX6_order_152 (by decide) ?_
                refine hq_iadd C dX6_order_153 ?_
                refine hq_putP (f := 26) (g := 1) (Nc := 1) (Ns := 38) C fl_X6_181 dX6_order_154 rfl rfl rfl rfl rfl (by decide) Nat.one_pos rfl rfl ?_
                refine hq_aload_n (q := 4) C dX6_order_157 rfl rfl ?_
                refine hq_getR (f := 26) (g := 37) (Nc := 1) (Ns := 38) C fr_X6_42 dX6_order_158 rfl rfl rfl rfl rfl (by decide) Nat.one_pos ?_
                refine hq_iload (q := 0) C dX6_order_161 rfl ?_
                refine hq_iconst (y := 0) C dX6_order_163 (by decide) ?_
                refine hq_iastP0 (f := 37) (a := no) (g := 16) (Nc := 1) (Ns := 40) C dX6_order_164 rfl rfl rfl rfl rfl rfl e9 h40 Nat.one_pos ?_
                refine hq_aload_n (q := 4) C dX6_order_165 rfl rfl ?_
                refine hq_getR (f := 26) (g := 38) (Nc := 1) (Ns := 38) C fr_X6_45 dX6_order_166 rfl rfl rfl rfl rfl (by decide) Nat.one_pos ?_
                refine hq_iload (q := 0) C dX6_order_169 rfl ?_
                refine hq_iload_n (q := 7) C dX6_order_171 rfl rfl ?_
                refine hq_iastP0 (f := 38) (a := no) (g := 12) (Nc := 1) (Ns := 40) C dX6_order_172 rfl rfl rfl rfl rfl rfl e9 h40 Nat.one_pos ?_
                refine hq_aload_n (q := 4) C dX6_order_173 rfl rfl ?_
                refine hq_getR (f := 26) (g := 39) (Nc := 1) (Ns := 38) C fr_X6_48 dX6_order_174 rfl rfl rfl rfl rfl (by decide) Nat.one_pos ?_
                refine hq_iload (q := 0) C dX6_order_177 rfl ?_
                refine hq_iload_n (q := 7) C dX6_order_179 rfl rfl ?_
                refine hq_i2l C dX6_order_180 ?_
                refine hq_aload_n (q := 4) C dX6_order_181 rfl rfl ?_
                refine hq_getR (f := 26) (g := 56) (Nc := 1) (Ns := 38) C fr_X6_100 dX6_order_182 rfl rfl rfl rfl rfl (by decide) Nat.one_pos ?_
                refine hq_iload_n (q := 5) C dX6_order_185 rfl rfl ?_
                refine hq_laldN0 (f := 56) (a := tn x) (g := 5) (Nc := 1) (Ns := 12) C dX6_order_186 rfl rfl rfl rfl rfl rfl hx (by omega) Nat.one_pos ?_
                refine hq_ladd C dX6_order_187 ?_
                refine hq_l2i C dX6_order_188 ?_
                refine hq_iastP0 (f := 39) (a := no) (g := 14) (Nc := 1) (Ns := 40) C dX6_order_189 rfl rfl rfl rfl rfl rfl e9 h40 Nat.one_pos ?_
                refine hq_aload_n (q := 4) C dX6_order_190 rfl rfl ?_
                refine hq_getR (f := 26) (g := 40) (Nc := 1) (Ns := 38) C fr_X6_51 dX6_order_191 rfl rfl rfl rfl rfl (by decide) Nat.one_pos ?_
                refine hq_iload (q := 0) C dX6_order_194 rfl ?_
                refine hq_iload (q := 9) C dX6_order_196 rfl ?_
                refine hq_iastP0 (f := 40) (a := no) (g := 13) (Nc := 1) (Ns := 40) C dX6_order_198 rfl rfl rfl rfl rfl rfl e9 h40 Nat.one_pos ?_
                refine hq_aload_n (q := 4) C dX6_order_199 rfl rfl ?_
                refine hq_getR (f := 26) (g := 42) (Nc := 1) (Ns := 38) C fr_X6_57 dX6_order_200 rfl rfl rfl rfl rfl (by decide) Nat.one_pos ?_
                refine hq_iload (q := 0) C dX6_order_203 rfl ?_
                refine hq_aload_n (q := 4) C dX6_order_205 rfl rfl ?_
                refine hq_getP (f := 26) (g := 3) (Nc := 1) (Ns := 38) C fr_X6_194 dX6_order_206 rfl rfl rfl rfl rfl (by decide) Nat.one_pos ?_
                refine hq_iastP0 (f := 42) (a := no) (g := 15) (Nc := 1) (Ns := 40) C dX6_order_209 rfl rfl rfl rfl rfl rfl e9 h40 Nat.one_pos ?_
                refine hq_aload_n (q := 4) C dX6_order_210 rfl rfl ?_
                refine hq_getR (f := 26) (g := 28) (Nc := 1) (Ns := 38) C fr_X6_13 dX6_order_211 rfl rfl rfl rfl rfl (by decide) Nat.one_pos ?_
                refine hq_iload_n (q := 5) C dX6_order_214 rfl rfl ?_
                refine hq_dup2 C dX6_order_215 rfl rfl ?_
                refine hq_laldN0 (f := 28) (a := tn x) (g := 0) (Nc := 1) (Ns := 12) C dX6_order_216 rfl rfl rfl rfl rfl rfl hx (by omega) Nat.one_pos ?_
                refine hq_aload_n (q := 4) C dX6_order_217 rfl rfl ?_
                refine hq_getR (f := 26) (g := 39) (Nc := 1) (Ns := 38) C fr_X6_48 dX6_order_218 rfl rfl rfl rfl rfl (by decide) Nat.one_pos ?_
                refine hq_iload (q := 0) C dX6_order_221 rfl ?_
                refine hq_ialdP0 (f := 39) (a := no) (g := 14) (Nc := 1) (Ns := 40) C dX6_order_223 rfl rfl rfl rfl rfl rfl e9 h40 Nat.one_pos ?_
                refine hq_i2l C dX6_order_224 ?_
                refine hq_ladd C dX6_order_225 ?_
                refine hq_lastN0 (f := 28) (a := tn x) (g := 0) (Nc := 1) (Ns := 12) C dX6_order_226 rfl rfl rfl rfl rfl rfl hx (by omega) Nat.one_pos ?_
                refine hq_aload_n (q := 4) C dX6_order_227 rfl rfl ?_
                refine hq_getR (f := 26) (g := 55) (Nc := 1) (Ns := 38) C fr_X6_97 dX6_order_228 rfl rfl rfl rfl rfl (by decide) Nat.one_pos ?_
                refine hq_iconst (y := 0) C dX6_order_231 (by decide) ?_
                refine hq_dup2 C dX6_order_232 rfl rfl ?_
                refine hq_laldN0 (f := 55) (a := 0) (g := 4) (Nc := 1) (Ns := 5) C dX6_order_233 rfl rfl rfl rfl rfl rfl rfl (by decide) Nat.one_pos ?_
                refine hq_aload_n (q := 4) C dX6_order_234 rfl rfl ?_
                refine hq_getR (f := 26) (g := 39) (Nc := 1) (Ns := 38) C fr_X6_48 dX6_order_235 rfl rfl rfl rfl rfl (by decide) Nat.one_pos ?_
                refine hq_iload (q := 0) C dX6_order_238 rfl ?_
                refine hq_ialdP0 (f := 39) (a := no) (g := 14) (Nc := 1) (Ns := 40) C dX6_order_240 rfl rfl rfl rfl rfl rfl e9 h40 Nat.one_pos ?_
                refine hq_i2l C dX6_order_241 ?_
                refine hq_ladd C dX6_order_242 ?_
                refine hq_lastN0 (f := 55) (a := 0) (g := 4) (Nc := 1) (Ns := 5) C dX6_order_243 rfl rfl rfl rfl rfl rfl rfl (by decide) Nat.one_pos ?_
                refine hq_aload_n (q := 4) C dX6_order_244 rfl rfl ?_
                refine hq_iload (q := 0) C dX6_order_245 rfl ?_
                refine hq_iconst (y := 0) C dX6_order_247 (by decide) ?_
                refine hq_iload (q := 1) C dX6_order_248 rfl ?_
                refine hq_cVv (As := [.int _, .int _, .int _]) (rm := rX6_lay) (f := 26) (Nc := 1) C (m_X6_lay (i := no) (q := 0) (w := po_n P N x y z nb) h40 e9 rfl rfl (by have := hw.2.2.1; omega) (fun j hj => absurd hj (Nat.not_lt_zero j)) (fun k hk => ⟨_, po_p_lt (by omega) hw hk, po_K_at hy hw hk⟩)) wv_X6_lay ml_X6_174 rfl rfl rfl Nat.one_pos rfl rfl rfl rfl ⟨Nat.le_of_ble_eq_true rfl, Nat.le_of_ble_eq_true rfl⟩ (Nat.le_of_ble_eq_true rfl) ⟨Nat.le_of_ble_eq_true rfl, Nat.le_of_ble_eq_true rfl⟩ dX6_order_250 ?_
                refine hq_aload_n (q := 4) C dX6_order_253 rfl rfl ?_
                refine hq_getR (f := 26) (g := 53) (Nc := 1) (Ns := 38) C fr_X6_91 dX6_order_254 rfl rfl rfl rfl rfl (by decide) Nat.one_pos ?_
                refine hq_aload_n (q := 4) C dX6_order_257 rfl rfl ?_
                refine hq_getR (f := 26) (g := 27) (Nc := 1) (Ns := 38) C fr_X6_7 dX6_order_258 rfl rfl rfl rfl rfl (by decide) Nat.one_pos ?_
                refine hq_iload_n (q := 5) C dX6_order_261 rfl rfl ?_
                refine hq_ialdP0 (f := 27) (a := tn x) (g := 5) (Nc := 1) (Ns := 12) C dX6_order_262 rfl rfl rfl rfl rfl rfl hx (by omega) Nat.one_pos ?_
                refine hq_dup2 C dX6_order_263 rfl rfl ?_
                refine hq_ialdP0 (f := 53) (a := tn ((po_L P N x y z v nb no).1 5 (tn x))) (g := 29) (Nc := 1) (Ns := 8) C dX6_order_264 rfl rfl rfl rfl rfl rfl t5 t8 Nat.one_pos ?_
                refine hq_iload_n (q := 7) C dX6_order_265 rfl rfl ?_
                refine hq_aload_n (q := 4) C dX6_order_266 rfl rfl ?_
                refine hq_getR (f := 26) (g := 52) (Nc := 1) (Ns := 38) C fr_X6_88 dX6_order_267 rfl rfl rfl rfl rfl (by decide) Nat.one_pos ?_
                refine hq_aload_n (q := 4) C dX6_order_270 rfl rfl ?_
                refine hq_getR (f := 26) (g := 27) (Nc := 1) (Ns := 38) C fr_X6_7 dX6_order_271 rfl rfl rfl rfl rfl (by decide) Nat.one_pos ?_
                refine hq_iload_n (q := 5) C dX6_order_274 rfl rfl ?_
                refine hq_ialdP0 (f := 27) (a := tn x) (g := 5) (Nc := 1) (Ns := 12) C dX6_order_275 rfl rfl rfl rfl rfl rfl hx (by omega) Nat.one_pos ?_
                refine hq_ialdP0 (f := 52) (a := tn ((po_L P N x y z v nb no).1 5 (tn x))) (g := 28) (Nc := 1) (Ns := 8) C dX6_order_276 rfl rfl rfl rfl rfl rfl t5 t8 Nat.one_pos ?_
                refine hq_icmp_le (tgt := 284) C dX6_order_277 (by decide) (fun c_277 => ?_) (fun c_277 => ?_)
                · refine hq_iconst (y := 0) C dX6_order_284 (by decide) ?_
                  refine hq_iadd C dX6_order_285 ?_
                  refine hq_iastP0 (f := 53) (a := tn ((po_L P N x y z v nb no).1 5 (tn x))) (g := 29) (Nc := 1) (Ns := 8) C dX6_order_286 rfl rfl rfl rfl rfl rfl t5 t8 Nat.one_pos ?_
                  refine hq_iload (q := 0) C dX6_order_287 rfl ?_
                  exact hq_iret C hr hlk dX6_order_289 (by rw [show (ps_order P N x y z w v nb no) = _ from ((((((((if_neg c_6).trans (if_neg c_17)).trans (if_neg c_29)).trans (if_neg c_39)).trans (if_neg c_51)).trans (if_neg c_77)).trans (if_neg (fun z9 => z9 c_87))).trans (if_neg hnf))]; try rfl) (by rw [show (ps_order P N x y z w v nb no) = _ from ((((((((if_neg c_6).trans (if_neg c_17)).trans (if_neg c_29)).trans (if_neg c_39)).trans (if_neg c_51)).trans (if_neg c_77)).trans (if_neg (fun z9 => z9 c_87))).trans (if_neg hnf))]; rw [po_tell_a (L := (po_L P N x y z v nb no).1) (z := z) (t := tn ((po_L P N x y z v nb no).1 5 (tn x))) c_277]; try rfl)
                · refine hq_iconst (y := 1) C dX6_order_280 (by decide) ?_
                  refine hq_goto (tgt := 285) C dX6_order_281 (by decide) ?_
                  refine hq_iadd C dX6_order_285 ?_
                  refine hq_iastP0 (f := 53) (a := tn ((po_L P N x y z v nb no).1 5 (tn x))) (g := 29) (Nc := 1) (Ns := 8) C dX6_order_286 rfl rfl rfl rfl rfl rfl t5 t8 Nat.one_pos ?_
                  refine hq_iload (q := 0) C dX6_order_287 rfl ?_
                  exact hq_iret C hr hlk dX6_order_289 (by rw [show (ps_order P N x y z w v nb no) = _ from ((((((((if_neg c_6).trans (if_neg c_17)).trans (if_neg c_29)).trans (if_neg c_39)).trans (if_neg c_51)).trans (if_neg c_77)).trans (if_neg (fun z9 => z9 c_87))).trans (if_neg hnf))]; try rfl) (by rw [show (ps_order P N x y z w v nb no) = _ from ((((((((if_neg c_6).trans (if_neg c_17)).trans (if_neg c_29)).trans (if_neg c_39)).trans (if_neg c_51)).trans (if_neg c_77)).trans (if_neg (fun z9 => z9 c_87))).trans (if_neg hnf))]; rw [po_tell_b (L := (po_L P N x y z v nb no).1) (z := z) (t := tn ((po_L P N x y z v nb no).1 5 (tn x))) c_277]; try rfl)
