/-! the model: one way, another way -/
def pf_nk (P : MI) (N : MJ) (a : Nat) (am : Int32) (nb k : Nat) (r : Int32) : Int32 :=
  if ps_can P N a (nb - 1 - k) am = 0 then r else if ¬ lg_cmp (ps_fee P a am + N 5 (nb - 1 - k)) (N 5 a) = 0 then r else if ¬ P 42 (nb - 1 - k) + 1 = P 42 a then r else nI (nb - k) - 1
def pf_nx (P : MI) (N : MJ) (a : Nat) (am : Int32) (nb : Nat) : Int32 := lp (pf_nk P N a am nb) nb 0 (-1)
def pf_fd (p : Nat → Nat) (k : Nat) (P : MI) : MI := uI P 43 k (nI (p k))
theorem lp_fun {σ : Type} {f g : Nat → σ → σ} (h : ∀ k s, f k s = g k s) : ∀ n i s, lp f n i s = lp g n i s := by
  have : f = g := funext fun k => funext fun s => h k s
  intro n i s; rw [this]
theorem nx_congr {P P' : MI} {N : MJ} (h : ∀ g j, g ≠ 43 → P' g j = P g j) (a : Nat) (am : Int32) (nb : Nat) : pf_nx P' N a am nb = pf_nx P N a am nb := by
  unfold pf_nx
  apply lp_fun
  intro k r
  have h1 : ps_can P' N a (nb - 1 - k) am = ps_can P N a (nb - 1 - k) am := by
    unfold ps_can ps_lim
    rw [h 4 0 (by decide), h 10 _ (by decide), h 11 _ (by decide)]
  have h2 : ps_fee P' a am = ps_fee P a am := by unfold ps_fee; rw [h 6 _ (by decide)]
  unfold pf_nk
  rw [h1, h2, h 42 _ (by decide), h 42 _ (by decide)]
theorem dn_at {nb k : Nat} (h : k < nb) : nI (nb - k) - 1 = nI (nb - 1 - k) := by
  rw [show nb - k = (nb - 1 - k) + 1 by omega]; exact nI_pred _
theorem dn_dec {nb k : Nat} (h : k < nb) : nI (nb - k) - 1 + Int32.ofInt (-1) = nI (nb - (k + 1)) - 1 := by
  rw [dn_at h, show nb - (k + 1) = nb - 1 - k by omega, Int32.sub_eq_add_neg, show (-1 : Int32) = Int32.ofInt (-1) from by decide]
set_option maxHeartbeats 4000000 in
set_option maxRecDepth 100000 in
theorem m_X6_findWay_a {l : Launch} {D : va_G} {b0 : Nat} {I : MI} {J : MJ} {P : MI} {N : MJ} {o : Int64} {a nb : Nat} {x y am mk : Int32} (hbc : P 0 0 = nI nb) (hnb : nb ≤ 12) (hx : x = nI a) (ha : a < 12) (hno : 0 ≤ lg_cmp ((ps_fws P N y am mk nb).2 5 a) 1000000000000) : hM l yX6_findWay cX6_findWay 10 (some .int) rX6_findWay D b0 [.ref (hw_ad b0 26 0), .int x, .int y, .int am, .int mk] I J P N o (some (.int 0)) I J (ps_fws P N y am mk nb).1 (ps_fws P N y am mk nb).2 o := by
  refine hw_Mof (by decide) [(0, .ref _), (1, .int _), (2, .int _), (3, .int _), (4, .int _)] rfl (Nat.le_of_ble_eq_true rfl) ?_
  intro p e s m args below meth c C hr hlk hnm
  refine hq_aload_n (q := 0) C dX6_findWay_0 rfl rfl ?_
  refine hq_iload_n (q := 2) C dX6_findWay_1 rfl rfl ?_
  refine hq_iload_n (q := 3) C dX6_findWay_2 rfl rfl ?_
  refine hq_iload (q := 4) C dX6_findWay_3 rfl ?_
  refine hq_cVv (As := [.int _, .int _, .int _]) (rm := rX6_findWays) (f := 26) (Nc := 1) C (m_X6_findWays hbc hnb) wv_X6_findWays ml_X6_159 rfl rfl rfl Nat.one_pos rfl rfl rfl rfl ⟨Nat.le_of_ble_eq_true rfl, Nat.le_of_ble_eq_true rfl⟩ (Nat.le_of_ble_eq_true rfl) ⟨Nat.le_of_ble_eq_true rfl, Nat.le_of_ble_eq_true rfl⟩ dX6_findWay_5 ?_
  refine hq_aload_n (q := 0) C dX6_findWay_8 rfl rfl ?_
  refine hq_getR (f := 26) (g := 56) (Nc := 1) (Ns := 38) C fr_X6_100 dX6_findWay_9 rfl rfl rfl rfl rfl (by decide) Nat.one_pos ?_
  refine hq_iload_n (q := 1) C dX6_findWay_12 rfl rfl ?_
  refine hq_laldN0 (f := 56) (a := a) (g := 5) (Nc := 1) (Ns := 12) C dX6_findWay_13 rfl rfl rfl rfl rfl rfl hx ha Nat.one_pos ?_
  refine hq_ldc2 C wc_X6_147 dX6_findWay_14 ?_
  refine hq_lcmp C dX6_findWay_17 ?_
  refine hq_if_lt (tgt := 23) C dX6_findWay_18 (by decide) (fun c_18 => absurd c_18 (fun z => absurd hno (Int32.not_le.mpr z))) (fun c_18 => ?_)
  refine hq_iconst (y := 0) C dX6_findWay_21 (by decide) ?_
  exact hq_iret C hr hlk dX6_findWay_22 rfl rfl
set_option maxHeartbeats 4000000 in
set_option maxRecDepth 100000 in
theorem m_X6_findWay_b {l : Launch} {D : va_G} {b0 : Nat} {I : MI} {J : MJ} {P : MI} {N : MJ} {o : Int64} {a t n9 nb : Nat} {x y am mk : Int32} {pp : Nat → Nat} (hbc : P 0 0 = nI nb) (hnb : nb ≤ 12) (hx : x = nI a) (ha : a < 12) (hy : y = nI t) (ht9 : t < 12) (hyes : lg_cmp ((ps_fws P N y am mk nb).2 5 a) 1000000000000 < 0) (hn9 : n9 < 12) (hp0 : pp 0 = a) (hpn : pp n9 = t) (hpp : ∀ k, k < n9 → pp k < 12 ∧ pp k ≠ t ∧ pf_nx (ps_fws P N y am mk nb).1 (ps_fws P N y am mk nb).2 (pp k) am nb = nI (pp (k + 1))) : hM l yX6_findWay cX6_findWay 10 (some .int) rX6_findWay D b0 [.ref (hw_ad b0 26 0), .int x, .int y, .int am, .int mk] I J P N o (some (.int (nI (n9 + 1)))) I J (uI (lp (pf_fd pp) n9 0 (ps_fws P N y am mk nb).1) 43 n9 y) (ps_fws P N y am mk nb).2 o := by
  have hbc1 : (ps_fws P N y am mk nb).1 0 0 = nI nb := (fws_oth (by decide)).trans hbc
  refine hw_Mof (by decide) [(0, .ref _), (1, .int _), (2, .int _), (3, .int _), (4, .int _)] rfl (Nat.le_of_ble_eq_true rfl) ?_
  intro p e s m args below meth c C hr hlk hnm
  refine hq_aload_n (q := 0) C dX6_findWay_0 rfl rfl ?_
  refine hq_iload_n (q := 2) C dX6_findWay_1 rfl rfl ?_
  refine hq_iload_n (q := 3) C dX6_findWay_2 rfl rfl ?_
  refine hq_iload (q := 4) C dX6_findWay_3 rfl ?_
  refine hq_cVv (As := [.int _, .int _, .int _]) (rm := rX6_findWays) (f := 26) (Nc := 1) C (m_X6_findWays hbc hnb) wv_X6_findWays ml_X6_159 rfl rfl rfl Nat.one_pos rfl rfl rfl rfl ⟨Nat.le_of_ble_eq_true rfl, Nat.le_of_ble_eq_true rfl⟩ (Nat.le_of_ble_eq_true rfl) ⟨Nat.le_of_ble_eq_true rfl, Nat.le_of_ble_eq_true rfl⟩ dX6_findWay_5 ?_
  refine hq_aload_n (q := 0) C dX6_findWay_8 rfl rfl ?_
  refine hq_getR (f := 26) (g := 56) (Nc := 1) (Ns := 38) C fr_X6_100 dX6_findWay_9 rfl rfl rfl rfl rfl (by decide) Nat.one_pos ?_
  refine hq_iload_n (q := 1) C dX6_findWay_12 rfl rfl ?_
  refine hq_laldN0 (f := 56) (a := a) (g := 5) (Nc := 1) (Ns := 12) C dX6_findWay_13 rfl rfl rfl rfl rfl rfl hx ha Nat.one_pos ?_
  refine hq_ldc2 C wc_X6_147 dX6_findWay_14 ?_
  refine hq_lcmp C dX6_findWay_17 ?_
  refine hq_if_lt (tgt := 23) C dX6_findWay_18 (by decide) (fun c_18 => ?_) (fun c_18 => absurd hyes c_18)
  refine hq_iconst (y := 0) C dX6_findWay_23 (by decide) ?_
  refine hq_istore (L' := [(5, .int _), (0, .ref _), (1, .int _), (2, .int _), (3, .int _), (4, .int _)]) C dX6_findWay_24 (by decide) rfl ?_
  refine hq_iload_n (q := 2) C dX6_findWay_26 rfl rfl ?_
  refine hq_istore (L' := [(6, .int _), (5, .int _), (0, .ref _), (1, .int _), (2, .int _), (3, .int _), (4, .int _)]) C dX6_findWay_27 (by decide) rfl ?_
  subst hx
  refine hq_perm [0, 1, 2, 3, 4, 5, 6] (L' := [(6, .int (nI a)), (5, .int (nI 0)), (0, .ref (hw_ad b0 26 0)), (1, .int (nI a)), (2, .int y), (3, .int am), (4, .int mk)]) rfl ?_
  subst hp0
  refine lp_back (pf_fd pp) (fun (k9 : Nat) (σ : MI) => hw_V p l e rX6_findWay s m args below meth c (MQ below (hw_Q D b0 false 271 (some (.int (nI (n9 + 1)))) (hw_vl b0 I J (uI (lp (pf_fd pp) n9 0 (ps_fws P N y am mk nb).1) 43 n9 y) (ps_fws P N y am mk nb).2 o)) args s 0 0 (fun q => b0 ≤ q)) D b0 10 false 0 0 271 29 [(6, .int (nI (pp (k9)))), (5, .int (nI k9)), (0, .ref (hw_ad b0 26 0)), (1, .int (nI (pp 0))), (2, .int y), (3, .int am), (4, .int mk)] [] (hw_vl b0 I J σ (ps_fws P N y am mk nb).2 o)) (fun _ σ => ∀ g j, g ≠ 43 → σ g j = (ps_fws P N y am mk nb).1 g j) n9 ?_ (fun k σ _ hs g j hg => Eq.trans (show pf_fd pp k σ g j = σ g j from by simp [pf_fd, uI, hg]) (hs g j hg)) n9 0 (ps_fws P N y am mk nb).1 (by omega) (fun _ _ _ => rfl) ?_
  · intro k9 σ hi0 hinv0 k0
    have hi9 := hi0
    have hpk := (hpp k9 hi9).1
    have hnx : pf_nx (pf_fd pp k9 σ) (ps_fws P N y am mk nb).2 (pp k9) am nb = nI (pp (k9 + 1)) := by
      rw [nx_congr (P := (ps_fws P N y am mk nb).1) (fun g j hg => by
        have : pf_fd pp k9 σ g j = σ g j := by simp [pf_fd, uI, hg]
        exact this.trans (hinv0 g j hg))]
      exact (hpp k9 hi9).2.2
    refine hq_iload (q := 0) C dX6_findWay_29 rfl ?_
    refine hq_iload_n (q := 4) C dX6_findWay_31 rfl rfl ?_
    refine hq_icmp_eq (tgt := 154) C dX6_findWay_32 (by decide) (fun c_32 => absurd c_32 (by rw [hy]; exact fun z => (hpp k9 hi9).2.1 ((nI_eq (by have := (hpp k9 hi9).1; omega) (by omega)).mp z))) (fun c_32 => ?_)
    refine hq_aload_n (q := 2) C dX6_findWay_35 rfl rfl ?_
    refine hq_getR (f := 26) (g := 58) (Nc := 1) (Ns := 38) C fr_X6_106 dX6_findWay_36 rfl rfl rfl rfl rfl (by decide) Nat.one_pos ?_
    refine hq_iload (q := 1) C dX6_findWay_39 rfl ?_
    refine hq_iload (q := 0) C dX6_findWay_41 rfl ?_
    refine hq_iastP0 (f := 58) (a := k9) (g := 43) (Nc := 1) (Ns := 12) C dX6_findWay_43 rfl rfl rfl rfl rfl rfl rfl (by omega) Nat.one_pos ?_
    refine hq_iinc (q := 1) (y := nI (_ + 1)) (L' := [(5, .int _), (6, .int _), (0, .ref _), (1, .int _), (2, .int _), (3, .int _), (4, .int _)]) C dX6_findWay_44 rfl (hw_inc _) (by decide) rfl ?_
    refine hq_iconst (y := -1) C dX6_findWay_47 (by decide) ?_
    refine hq_istore (L' := [(7, .int _), (5, .int _), (6, .int _), (0, .ref _), (1, .int _), (2, .int _), (3, .int _), (4, .int _)]) C dX6_findWay_48 (by decide) rfl ?_
    refine hq_aload_n (q := 3) C dX6_findWay_50 rfl rfl ?_
    refine hq_getP (f := 26) (g := 0) (Nc := 1) (Ns := 38) C fr_X6_113 dX6_findWay_51 rfl rfl rfl rfl rfl (by decide) Nat.one_pos ?_
    refine hq_iconst (y := 1) C dX6_findWay_54 (by decide) ?_
    refine hq_isub C dX6_findWay_55 ?_
    refine hq_istore (L' := [(8, .int _), (7, .int _), (5, .int _), (6, .int _), (0, .ref _), (1, .int _), (2, .int _), (3, .int _), (4, .int _)]) C dX6_findWay_56 (by decide) rfl ?_
    rw [show uI σ 43 k9 (nI (pp k9)) 0 0 - 1 = nI (nb - 0) - 1 from by rw [show uI σ 43 k9 (nI (pp k9)) 0 0 = nI nb from (hinv0 0 0 (by decide)).trans hbc1, Nat.sub_zero]]
    refine hq_perm [0, 1, 3, 2, 4, 5, 6, 7, 8] (L' := [(8, .int (nI (nb - 0) - 1)), (7, .int (-1)), (6, .int (nI (pp k9))), (5, .int (nI (k9 + 1))), (0, .ref (hw_ad b0 26 0)), (1, .int (nI (pp 0))), (2, .int y), (3, .int am), (4, .int mk)]) rfl ?_
    refine lp_back (pf_nk (pf_fd pp k9 σ) (ps_fws P N y am mk nb).2 (pp k9) am nb) (fun (k8 : Nat) (τ : Int32) => hw_V p l e rX6_findWay s m args below meth c (MQ below (hw_Q D b0 false 271 (some (.int (nI (n9 + 1)))) (hw_vl b0 I J (uI (lp (pf_fd pp) n9 0 (ps_fws P N y am mk nb).1) 43 n9 y) (ps_fws P N y am mk nb).2 o)) args s 0 0 (fun q => b0 ≤ q)) D b0 10 false 0 0 271 58 [(8, .int (nI (nb - k8) - 1)), (7, .int τ), (6, .int (nI (pp k9))), (5, .int (nI (k9 + 1))), (0, .ref (hw_ad b0 26 0)), (1, .int (nI (pp 0))), (2, .int y), (3, .int am), (4, .int mk)] [] (hw_vl b0 I J (pf_fd pp k9 σ) (ps_fws P N y am mk nb).2 o)) (fun _ _ => True) nb ?_ (fun _ _ _ _ => trivial) nb 0 (-1) (by omega) trivial ?_
    · intro k8 τ hi1 hinv1 k1
      refine hq_iload (q := 0) C dX6_findWay_58 rfl ?_
      refine hq_if_lt (tgt := 147) C dX6_findWay_60 (by decide) (fun c_60 => absurd c_60 (by rw [dn_at hi1]; exact nI_pos (by omega))) (fun c_60 => ?_)
      refine hq_aload_n (q := 4) C dX6_findWay_63 rfl rfl ?_
      refine hq_iload (q := 2) C dX6_findWay_64 rfl ?_
      refine hq_iload (q := 0) C dX6_findWay_66 rfl ?_
      refine hq_iload_n (q := 7) C dX6_findWay_68 rfl rfl ?_
      refine hq_cVr (As := [.int _, .int _, .int _]) (rm := rX6_canOwe) (f := 26) (Nc := 1) C (m_X6_canOwe (a := pp k9) (c9 := nb - 1 - k8) rfl hpk (dn_at hi1) (by omega)) wv_X6_canOwe ml_X6_156 rfl rfl rfl Nat.one_pos rfl rfl rfl rfl ⟨Nat.le_of_ble_eq_true rfl, Nat.le_of_ble_eq_true rfl⟩ (Nat.le_of_ble_eq_true rfl) ⟨Nat.le_of_ble_eq_true rfl, Nat.le_of_ble_eq_true rfl⟩ dX6_findWay_69 ?_
      refine hq_if_eq (tgt := 124) C dX6_findWay_72 (by decide) (fun c_72 => ?_) (fun c_72 => ?_)
      · refine hq_iconst (y := 0) C dX6_findWay_124 (by decide) ?_
        refine hq_istore (L' := [(9, .int _), (8, .int _), (7, .int _), (6, .int _), (5, .int _), (0, .ref _), (1, .int _), (2, .int _), (3, .int _), (4, .int _)]) C dX6_findWay_125 (by decide) rfl ?_
        refine hq_iload (q := 0) C dX6_findWay_127 rfl ?_
        refine hq_if_eq (tgt := 137) C dX6_findWay_129 (by decide) (fun _ => ?_) (fun c_129 => absurd c_129 (by decide))
        refine hq_iload (q := 2) C dX6_findWay_137 rfl ?_
        refine hq_istore (L' := [(7, .int _), (9, .int _), (8, .int _), (6, .int _), (5, .int _), (0, .ref _), (1, .int _), (2, .int _), (3, .int _), (4, .int _)]) C dX6_findWay_139 (by decide) rfl ?_
        refine hq_iinc (q := 2) (y := nI (nb - (k8 + 1)) - 1) (L' := [(8, .int _), (7, .int _), (9, .int _), (6, .int _), (5, .int _), (0, .ref _), (1, .int _), (2, .int _), (3, .int _), (4, .int _)]) C dX6_findWay_141 rfl (dn_dec hi1) (by decide) rfl ?_
        refine hq_goto (tgt := 58) C dX6_findWay_144 (by decide) ?_
        exact hq_fin [0, 1, 3, 4, 5, 6, 7, 8, 9] (by first | rfl | (simp only [pf_nk, c_72, ↓reduceIte, not_true_eq_false, not_false_eq_true]; rfl) | simp [lv_pick, pf_nk, c_72]) (by first | rfl | (simp only [pf_nk, c_72, ↓reduceIte, not_true_eq_false, not_false_eq_true]; done) | (simp only [pf_nk, c_72, ↓reduceIte, not_true_eq_false, not_false_eq_true]; rfl) | simp [pf_nk, c_72]) (by first | rfl | (simp only [pf_nk, c_72, ↓reduceIte, not_true_eq_false, not_false_eq_true]; done) | (simp only [pf_nk, c_72, ↓reduceIte, not_true_eq_false, not_false_eq_true]; rfl) | simp [pf_nk, c_72]) (by first | rfl | (simp only [pf_nk, c_72, ↓reduceIte, not_true_eq_false, not_false_eq_true]; done) | (simp only [pf_nk, c_72, ↓reduceIte, not_true_eq_false, not_false_eq_true]; rfl) | simp [pf_nk, c_72]) (by first | rfl | (simp only [pf_nk, c_72, ↓reduceIte, not_true_eq_false, not_false_eq_true]; done) | (simp only [pf_nk, c_72, ↓reduceIte, not_true_eq_false, not_false_eq_true]; rfl) | simp [pf_nk, c_72]) (by first | rfl | (simp only [pf_nk, c_72, ↓reduceIte, not_true_eq_false, not_false_eq_true]; done) | (simp only [pf_nk, c_72, ↓reduceIte, not_true_eq_false, not_false_eq_true]; rfl) | simp [pf_nk, c_72]) k1
      · refine hq_aload_n (q := 4) C dX6_findWay_75 rfl rfl ?_
        refine hq_iload (q := 2) C dX6_findWay_76 rfl ?_
        refine hq_iload_n (q := 7) C dX6_findWay_78 rfl rfl ?_
        refine hq_cVr (As := [.int _, .int _]) (rm := rX6_feeOf) (f := 26) (Nc := 1) C (m_X6_feeOf (b := pp k9) rfl hpk) wv_X6_feeOf ml_X6_153 rfl rfl rfl Nat.one_pos rfl rfl rfl rfl ⟨Nat.le_of_ble_eq_true rfl, Nat.le_of_ble_eq_true rfl⟩ (Nat.le_of_ble_eq_true rfl) ⟨Nat.le_of_ble_eq_true rfl, Nat.le_of_ble_eq_true rfl⟩ dX6_findWay_79 ?_
        refine hq_aload_n (q := 4) C dX6_findWay_82 rfl rfl ?_
        refine hq_getR (f := 26) (g := 56) (Nc := 1) (Ns := 38) C fr_X6_100 dX6_findWay_83 rfl rfl rfl rfl rfl (by decide) Nat.one_pos ?_
        refine hq_iload (q := 0) C dX6_findWay_86 rfl ?_
        refine hq_laldN0 (f := 56) (a := nb - 1 - k8) (g := 5) (Nc := 1) (Ns := 12) C dX6_findWay_88 rfl rfl rfl rfl rfl rfl (dn_at hi1) (by omega) Nat.one_pos ?_
        refine hq_ladd C dX6_findWay_89 ?_
        refine hq_aload_n (q := 4) C dX6_findWay_90 rfl rfl ?_
        refine hq_getR (f := 26) (g := 56) (Nc := 1) (Ns := 38) C fr_X6_100 dX6_findWay_91 rfl rfl rfl rfl rfl (by decide) Nat.one_pos ?_
        refine hq_iload (q := 2) C dX6_findWay_94 rfl ?_
        refine hq_laldN0 (f := 56) (a := pp k9) (g := 5) (Nc := 1) (Ns := 12) C dX6_findWay_96 rfl rfl rfl rfl rfl rfl rfl hpk Nat.one_pos ?_
        refine hq_lcmp C dX6_findWay_97 ?_
        refine hq_if_ne (tgt := 124) C dX6_findWay_98 (by decide) (fun c_98 => ?_) (fun c_98 => ?_)
        · refine hq_iconst (y := 0) C dX6_findWay_124 (by decide) ?_
          refine hq_istore (L' := [(9, .int _), (8, .int _), (7, .int _), (6, .int _), (5, .int _), (0, .ref _), (1, .int _), (2, .int _), (3, .int _), (4, .int _)]) C dX6_findWay_125 (by decide) rfl ?_
          refine hq_iload (q := 0) C dX6_findWay_127 rfl ?_
          refine hq_if_eq (tgt := 137) C dX6_findWay_129 (by decide) (fun _ => ?_) (fun c_129 => absurd c_129 (by decide))
          refine hq_iload (q := 2) C dX6_findWay_137 rfl ?_
          refine hq_istore (L' := [(7, .int _), (9, .int _), (8, .int _), (6, .int _), (5, .int _), (0, .ref _), (1, .int _), (2, .int _), (3, .int _), (4, .int _)]) C dX6_findWay_139 (by decide) rfl ?_
          refine hq_iinc (q := 2) (y := nI (nb - (k8 + 1)) - 1) (L' := [(8, .int _), (7, .int _), (9, .int _), (6, .int _), (5, .int _), (0, .ref _), (1, .int _), (2, .int _), (3, .int _), (4, .int _)]) C dX6_findWay_141 rfl (dn_dec hi1) (by decide) rfl ?_
          refine hq_goto (tgt := 58) C dX6_findWay_144 (by decide) ?_
          exact hq_fin [0, 1, 3, 4, 5, 6, 7, 8, 9] (by first | rfl | (simp only [pf_nk, c_72, c_98, ↓reduceIte, not_true_eq_false, not_false_eq_true]; rfl) | simp [lv_pick, pf_nk, c_72, c_98]) (by first | rfl | (simp only [pf_nk, c_72, c_98, ↓reduceIte, not_true_eq_false, not_false_eq_true]; done) | (simp only [pf_nk, c_72, c_98, ↓reduceIte, not_true_eq_false, not_false_eq_true]; rfl) | simp [pf_nk, c_72, c_98]) (by first | rfl | (simp only [pf_nk, c_72, c_98, ↓reduceIte, not_true_eq_false, not_false_eq_true]; done) | (simp only [pf_nk, c_72, c_98, ↓reduceIte, not_true_eq_false, not_false_eq_true]; rfl) | simp [pf_nk, c_72, c_98]) (by first | rfl | (simp only [pf_nk, c_72, c_98, ↓reduceIte, not_true_eq_false, not_false_eq_true]; done) | (simp only [pf_nk, c_72, c_98, ↓reduceIte, not_true_eq_false, not_false_eq_true]; rfl) | simp [pf_nk, c_72, c_98]) (by first | rfl | (simp only [pf_nk, c_72, c_98, ↓reduceIte, not_true_eq_false, not_false_eq_true]; done) | (simp only [pf_nk, c_72, c_98, ↓reduceIte, not_true_eq_false, not_false_eq_true]; rfl) | simp [pf_nk, c_72, c_98]) (by first | rfl | (simp only [pf_nk, c_72, c_98, ↓reduceIte, not_true_eq_false, not_false_eq_true]; done) | (simp only [pf_nk, c_72, c_98, ↓reduceIte, not_true_eq_false, not_false_eq_true]; rfl) | simp [pf_nk, c_72, c_98]) k1
        · refine hq_aload_n (q := 4) C dX6_findWay_101 rfl rfl ?_
          refine hq_getR (f := 26) (g := 57) (Nc := 1) (Ns := 38) C fr_X6_103 dX6_findWay_102 rfl rfl rfl rfl rfl (by decide) Nat.one_pos ?_
          refine hq_iload (q := 0) C dX6_findWay_105 rfl ?_
          refine hq_ialdP0 (f := 57) (a := nb - 1 - k8) (g := 42) (Nc := 1) (Ns := 12) C dX6_findWay_107 rfl rfl rfl rfl rfl rfl (dn_at hi1) (by omega) Nat.one_pos ?_
          refine hq_iconst (y := 1) C dX6_findWay_108 (by decide) ?_
          refine hq_iadd C dX6_findWay_109 ?_
          refine hq_aload_n (q := 4) C dX6_findWay_110 rfl rfl ?_
          refine hq_getR (f := 26) (g := 57) (Nc := 1) (Ns := 38) C fr_X6_103 dX6_findWay_111 rfl rfl rfl rfl rfl (by decide) Nat.one_pos ?_
          refine hq_iload (q := 2) C dX6_findWay_114 rfl ?_
          refine hq_ialdP0 (f := 57) (a := pp k9) (g := 42) (Nc := 1) (Ns := 12) C dX6_findWay_116 rfl rfl rfl rfl rfl rfl rfl hpk Nat.one_pos ?_
          refine hq_icmp_ne (tgt := 124) C dX6_findWay_117 (by decide) (fun c_117 => ?_) (fun c_117 => ?_)
          · refine hq_iconst (y := 0) C dX6_findWay_124 (by decide) ?_
            refine hq_istore (L' := [(9, .int _), (8, .int _), (7, .int _), (6, .int _), (5, .int _), (0, .ref _), (1, .int _), (2, .int _), (3, .int _), (4, .int _)]) C dX6_findWay_125 (by decide) rfl ?_
            refine hq_iload (q := 0) C dX6_findWay_127 rfl ?_
            refine hq_if_eq (tgt := 137) C dX6_findWay_129 (by decide) (fun _ => ?_) (fun c_129 => absurd c_129 (by decide))
            refine hq_iload (q := 2) C dX6_findWay_137 rfl ?_
            refine hq_istore (L' := [(7, .int _), (9, .int _), (8, .int _), (6, .int _), (5, .int _), (0, .ref _), (1, .int _), (2, .int _), (3, .int _), (4, .int _)]) C dX6_findWay_139 (by decide) rfl ?_
            refine hq_iinc (q := 2) (y := nI (nb - (k8 + 1)) - 1) (L' := [(8, .int _), (7, .int _), (9, .int _), (6, .int _), (5, .int _), (0, .ref _), (1, .int _), (2, .int _), (3, .int _), (4, .int _)]) C dX6_findWay_141 rfl (dn_dec hi1) (by decide) rfl ?_
            refine hq_goto (tgt := 58) C dX6_findWay_144 (by decide) ?_
            exact hq_fin [0, 1, 3, 4, 5, 6, 7, 8, 9] (by first | rfl | (simp only [pf_nk, c_72, c_98, c_117, ↓reduceIte, not_true_eq_false, not_false_eq_true]; rfl) | simp [lv_pick, pf_nk, c_72, c_98, c_117]) (by first | rfl | (simp only [pf_nk, c_72, c_98, c_117, ↓reduceIte, not_true_eq_false, not_false_eq_true]; done) | (simp only [pf_nk, c_72, c_98, c_117, ↓reduceIte, not_true_eq_false, not_false_eq_true]; rfl) | simp [pf_nk, c_72, c_98, c_117]) (by first | rfl | (simp only [pf_nk, c_72, c_98, c_117, ↓reduceIte, not_true_eq_false, not_false_eq_true]; done) | (simp only [pf_nk, c_72, c_98, c_117, ↓reduceIte, not_true_eq_false, not_false_eq_true]; rfl) | simp [pf_nk, c_72, c_98, c_117]) (by first | rfl | (simp only [pf_nk, c_72, c_98, c_117, ↓reduceIte, not_true_eq_false, not_false_eq_true]; done) | (simp only [pf_nk, c_72, c_98, c_117, ↓reduceIte, not_true_eq_false, not_false_eq_true]; rfl) | simp [pf_nk, c_72, c_98, c_117]) (by first | rfl | (simp only [pf_nk, c_72, c_98, c_117, ↓reduceIte, not_true_eq_false, not_false_eq_true]; done) | (simp only [pf_nk, c_72, c_98, c_117, ↓reduceIte, not_true_eq_false, not_false_eq_true]; rfl) | simp [pf_nk, c_72, c_98, c_117]) (by first | rfl | (simp only [pf_nk, c_72, c_98, c_117, ↓reduceIte, not_true_eq_false, not_false_eq_true]; done) | (simp only [pf_nk, c_72, c_98, c_117, ↓reduceIte, not_true_eq_false, not_false_eq_true]; rfl) | simp [pf_nk, c_72, c_98, c_117]) k1
          · refine hq_iconst (y := 1) C dX6_findWay_120 (by decide) ?_
            refine hq_goto (tgt := 125) C dX6_findWay_121 (by decide) ?_
            refine hq_istore (L' := [(9, .int _), (8, .int _), (7, .int _), (6, .int _), (5, .int _), (0, .ref _), (1, .int _), (2, .int _), (3, .int _), (4, .int _)]) C dX6_findWay_125 (by decide) rfl ?_
            refine hq_iload (q := 0) C dX6_findWay_127 rfl ?_
            refine hq_if_eq (tgt := 137) C dX6_findWay_129 (by decide) (fun c_129 => absurd c_129 (by decide)) (fun _ => ?_)
            refine hq_iload (q := 1) C dX6_findWay_132 rfl ?_
            refine hq_goto (tgt := 139) C dX6_findWay_134 (by decide) ?_
            refine hq_istore (L' := [(7, .int _), (9, .int _), (8, .int _), (6, .int _), (5, .int _), (0, .ref _), (1, .int _), (2, .int _), (3, .int _), (4, .int _)]) C dX6_findWay_139 (by decide) rfl ?_
            refine hq_iinc (q := 2) (y := nI (nb - (k8 + 1)) - 1) (L' := [(8, .int _), (7, .int _), (9, .int _), (6, .int _), (5, .int _), (0, .ref _), (1, .int _), (2, .int _), (3, .int _), (4, .int _)]) C dX6_findWay_141 rfl (dn_dec hi1) (by decide) rfl ?_
            refine hq_goto (tgt := 58) C dX6_findWay_144 (by decide) ?_
            exact hq_fin [0, 1, 3, 4, 5, 6, 7, 8, 9] (by first | rfl | (simp only [pf_nk, c_72, c_98, c_117, ↓reduceIte, not_true_eq_false, not_false_eq_true]; rfl) | simp [lv_pick, pf_nk, c_72, c_98, c_117]) (by first | rfl | (simp only [pf_nk, c_72, c_98, c_117, ↓reduceIte, not_true_eq_false, not_false_eq_true]; done) | (simp only [pf_nk, c_72, c_98, c_117, ↓reduceIte, not_true_eq_false, not_false_eq_true]; rfl) | simp [pf_nk, c_72, c_98, c_117]) (by first | rfl | (simp only [pf_nk, c_72, c_98, c_117, ↓reduceIte, not_true_eq_false, not_false_eq_true]; done) | (simp only [pf_nk, c_72, c_98, c_117, ↓reduceIte, not_true_eq_false, not_false_eq_true]; rfl) | simp [pf_nk, c_72, c_98, c_117]) (by first | rfl | (simp only [pf_nk, c_72, c_98, c_117, ↓reduceIte, not_true_eq_false, not_false_eq_true]; done) | (simp only [pf_nk, c_72, c_98, c_117, ↓reduceIte, not_true_eq_false, not_false_eq_true]; rfl) | simp [pf_nk, c_72, c_98, c_117]) (by first | rfl | (simp only [pf_nk, c_72, c_98, c_117, ↓reduceIte, not_true_eq_false, not_false_eq_true]; done) | (simp only [pf_nk, c_72, c_98, c_117, ↓reduceIte, not_true_eq_false, not_false_eq_true]; rfl) | simp [pf_nk, c_72, c_98, c_117]) (by first | rfl | (simp only [pf_nk, c_72, c_98, c_117, ↓reduceIte, not_true_eq_false, not_false_eq_true]; done) | (simp only [pf_nk, c_72, c_98, c_117, ↓reduceIte, not_true_eq_false, not_false_eq_true]; rfl) | simp [pf_nk, c_72, c_98, c_117]) k1
    · refine hq_iload (q := 0) C dX6_findWay_58 rfl ?_
      refine hq_if_lt (tgt := 147) C dX6_findWay_60 (by decide) (fun c_60 => ?_) (fun c_60 => absurd (by rw [Nat.sub_self]; decide) c_60)
      refine hq_iload (q := 1) C dX6_findWay_147 rfl ?_
      refine hq_istore (L' := [(6, .int _), (8, .int _), (7, .int _), (5, .int _), (0, .ref _), (1, .int _), (2, .int _), (3, .int _), (4, .int _)]) C dX6_findWay_149 (by decide) rfl ?_
      refine hq_goto (tgt := 29) C dX6_findWay_151 (by decide) ?_
      rw [show lp (pf_nk (pf_fd pp k9 σ) (ps_fws P N y am mk nb).2 (pp k9) am nb) nb 0 (-1) = nI (pp (k9 + 1)) from hnx]
      exact hq_fin [0, 3, 4, 5, 6, 7, 8] rfl rfl rfl rfl rfl rfl k0
  · refine hq_iload (q := 0) C dX6_findWay_29 rfl ?_
    refine hq_iload_n (q := 4) C dX6_findWay_31 rfl rfl ?_
    refine hq_icmp_eq (tgt := 154) C dX6_findWay_32 (by decide) (fun c_32 => ?_) (fun c_32 => absurd (by rw [hy, hpn]) c_32)
    refine hq_aload_n (q := 2) C dX6_findWay_154 rfl rfl ?_
    refine hq_getR (f := 26) (g := 58) (Nc := 1) (Ns := 38) C fr_X6_106 dX6_findWay_155 rfl rfl rfl rfl rfl (by decide) Nat.one_pos ?_
    refine hq_iload (q := 1) C dX6_findWay_158 rfl ?_
    refine hq_iload_n (q := 4) C dX6_findWay_160 rfl rfl ?_
    refine hq_iastP0 (f := 58) (a := n9) (g := 43) (Nc := 1) (Ns := 12) C dX6_findWay_161 rfl rfl rfl rfl rfl rfl rfl (by omega) Nat.one_pos ?_
    refine hq_iload (q := 1) C dX6_findWay_162 rfl ?_
    refine hq_iconst (y := 1) C dX6_findWay_164 (by decide) ?_
    refine hq_iadd C dX6_findWay_165 ?_
    exact hq_iret C hr hlk dX6_findWay_166 (nI_1 _) rfl
