/-! avoid, and what is called from outside -/
abbrev tn (x : Int32) : Nat := x.toNatClampNeg
theorem sx_ix_n {x : Int32} {n : Nat} (hn : n < 2 ^ 31) (h : sx_ix x (nI n) = none) : x = nI (tn x) ∧ tn x < n := by
  unfold sx_ix at h
  by_cases c : x < 0
  · rw [if_pos c] at h; cases h
  · rw [if_neg c] at h
    by_cases c2 : x < nI n
    · obtain ⟨j, j1, j2⟩ := nI_of c
      subst j2
      have : tn (nI j) = j := nI_clamp j1
      rw [this]
      exact ⟨rfl, (nI_ltI j1 hn).mp c2⟩
    · rw [if_neg c2] at h; cases h
theorem sx_ix_i {x c : Int32} {n : Nat} (hc : c = nI n) (hn : n < 2 ^ 31) (h : sx_ix x c = none) : x = nI (tn x) ∧ tn x < n := by
  subst hc; exact sx_ix_n hn h
theorem sx_rg_n {x M : Int32} {n : Nat} (hM : M.toInt = n) (hn : n < 2 ^ 31) (h : sx_rg x 0 M = none) : x = nI (tn x) ∧ tn x ≤ n := by
  unfold sx_rg at h
  by_cases c : x < 0
  · rw [if_pos c] at h; cases h
  · rw [if_neg c] at h
    by_cases c2 : x ≤ M
    · obtain ⟨j, j1, j2⟩ := nI_of2 hM c c2
      subst j2
      have : tn (nI j) = j := nI_clamp (by omega)
      rw [this]
      exact ⟨rfl, j1⟩
    · rw [if_neg c2] at h; cases h
theorem sx_rg_1 {x M : Int32} {n : Nat} (hM : M.toInt = n) (hn : n < 2 ^ 31) (h : sx_rg x 1 M = none) : x = nI (tn x) ∧ 1 ≤ tn x ∧ tn x ≤ n := by
  unfold sx_rg at h
  by_cases c : x < 1
  · rw [if_pos c] at h; cases h
  · rw [if_neg c] at h
    by_cases c2 : x ≤ M
    · have c0 : ¬ x < 0 := fun z => c (Int32.lt_trans z (by decide))
      obtain ⟨j, j1, j2⟩ := nI_of2 hM c0 c2
      subst j2
      have : tn (nI j) = j := nI_clamp (by omega)
      rw [this]
      refine ⟨rfl, ?_, j1⟩
      rcases Nat.eq_zero_or_pos j with z | z
      · subst z; exact absurd (by decide) c
      · exact z
    · rw [if_neg c2] at h; cases h
theorem sx_two_n {I : MI} {a b : Int32} {n : Nat} (hbc : I 0 0 = nI n) (hn : n < 2 ^ 31) (h : sx_two I a b = none) : (a = nI (tn a) ∧ tn a < n) ∧ (b = nI (tn b) ∧ tn b < n) ∧ a ≠ b := by
  unfold sx_two at h
  cases h1 : sx_ix a (I 0 0) with
  | some e => rw [h1] at h; cases h
  | none =>
    rw [h1] at h
    cases h2 : sx_ix b (I 0 0) with
    | some e => rw [h2] at h; cases h
    | none =>
      rw [h2] at h
      refine ⟨sx_ix_i hbc hn h1, sx_ix_i hbc hn h2, fun e => ?_⟩
      subst e
      simp [hx_or] at h
theorem sf_av_a {x : Int32} {i : Nat} {σ : MI × MJ} (h : ¬ σ.1 16 i = 0) : sf_av x i σ = σ := if_pos h
theorem sf_av_b {x : Int32} {i : Nat} {σ : MI × MJ} (h : σ.1 16 i = 0) (h2 : hb (hw_sp σ.1 i x = true) = 0) : sf_av x i σ = σ := by unfold sf_av; rw [if_neg (fun z => z h), if_pos h2]
theorem sf_av_c {x : Int32} {i : Nat} {σ : MI × MJ} (h : σ.1 16 i = 0) (h2 : ¬ hb (hw_sp σ.1 i x = true) = 0) : sf_av x i σ = sp_lk σ.1 σ.2 i := by unfold sf_av; rw [if_neg (fun z => z h), if_neg h2]
set_option maxHeartbeats 4000000 in
set_option maxRecDepth 100000 in
theorem m_X5_avoid {l : Launch} {D : va_G} {b0 : Nat} {I : MI} {J : MJ} {P : MI} {N : MJ} {o : Int64} {x : Int32} {nb no nc : Nat} {B : Int} (h : hw_ci I J nb no nc B) (hB : B + 2061584302080 ≤ 4611686018427387904) : hM l yX5_avoid cX5_avoid 3 none rX5_avoid D b0 [.ref (hw_ad b0 0 0), .int x] I J P N o none (sp_av I J x no).1 (sp_av I J x no).2 P N o := by
  have hno := h.1.2.1.2
  refine hw_Mof (by decide) [(0, .ref _), (1, .int _)] rfl (Nat.le_of_ble_eq_true rfl) ?_
  intro p e s m args below meth c C hr hlk hnm
  refine hq_iconst (y := 0) C dX5_avoid_0 (by decide) ?_
  refine hq_istore_n (L' := [(2, .int _), (0, .ref _), (1, .int _)]) C dX5_avoid_1 rfl (by decide) rfl ?_
  refine hq_perm [0, 1, 2] (L' := [(2, .int (nI 0)), (0, .ref (hw_ad b0 0 0)), (1, .int x)]) rfl ?_
  refine lp_back (sf_av x) (fun (k9 : Nat) (σ : MI × MJ) => hw_V p l e rX5_avoid s m args below meth c (MQ below (hw_Q D b0 false (hw_n o) none (hw_vl b0 (sp_av I J x no).1 (sp_av I J x no).2 P N o)) args s 0 0 (fun q => b0 ≤ q)) D b0 3 false 0 0 (hw_n o) 2 [(2, .int (nI k9)), (0, .ref (hw_ad b0 0 0)), (1, .int x)] [] (hw_vl b0 σ.1 σ.2 P N o)) (fun i σ => hw_ci σ.1 σ.2 nb no nc (B + i * 51539607552)) no ?_ (fun i σ hi hs => ⟨(av_step hs hi (by omega)).2.1, (av_step hs hi (by omega)).2.2.1, (av_step hs hi (by omega)).2.2.2.1, (av_step hs hi (by omega)).2.2.2.2.mono (by omega)⟩) no 0 (I, J) (by omega) ⟨h.1, h.2.1, h.2.2.1, h.2.2.2.mono (by omega)⟩ ?_
  · intro k9 σ hi hinv k
    have hi9 := hi
    have hk40 : k9 < 40 := by omega
    have hor := hinv.1.2.2.2.2.2.1 k9 hi9
    have hor1 := hor.1.1
    have hor2 := hor.2.2.2
    refine hq_iload_n (q := 0) C dX5_avoid_2 rfl rfl ?_
    refine hq_aload_n (q := 1) C dX5_avoid_3 rfl rfl ?_
    refine hq_getI (f := 0) (g := 1) (Nc := 1) (Ns := 14) C fr_X5_124 dX5_avoid_4 rfl rfl rfl rfl rfl (by decide) Nat.one_pos ?_
    refine hq_icmp_ge (tgt := 51) C dX5_avoid_7 (by decide) (fun c_7 => absurd c_7 (by rw [show σ.1 1 0 = nI no from hinv.1.2.1.1]; exact nI_ge hi9 (by omega))) (fun c_7 => ?_)
    refine hq_aload_n (q := 1) C dX5_avoid_10 rfl rfl ?_
    refine hq_getR (f := 0) (g := 5) (Nc := 1) (Ns := 14) C fr_X5_18 dX5_avoid_11 rfl rfl rfl rfl rfl (by decide) Nat.one_pos ?_
    refine hq_iload_n (q := 0) C dX5_avoid_14 rfl rfl ?_
    refine hq_aaldOR0 (f := 5) (g := 6) (Nc := 1) (Ns := 40) C dX5_avoid_15 rfl rfl rfl rfl rfl rfl (by first | rfl | assumption) (by first | assumption | omega) Nat.one_pos ?_
    refine hq_getI (f := 6) (g := 16) (Nc := 40) (Ns := 10) C fr_X5_140 dX5_avoid_16 rfl rfl rfl rfl rfl (by decide) (by first | assumption | omega) ?_
    refine hq_if_ne (tgt := 45) C dX5_avoid_19 (by decide) (fun c_19 => ?_) (fun c_19 => ?_)
    · refine hq_iinc (q := 0) (y := nI (_ + 1)) (L' := [(2, .int _), (0, .ref _), (1, .int _)]) C dX5_avoid_45 rfl (hw_inc _) (by decide) rfl ?_
      refine hq_goto (tgt := 2) C dX5_avoid_48 (by decide) ?_
      rw [sf_av_a c_19] at k
      exact hq_fin [0, 1, 2] rfl rfl rfl rfl rfl rfl k
    · refine hq_aload_n (q := 1) C dX5_avoid_22 rfl rfl ?_
      refine hq_getR (f := 0) (g := 5) (Nc := 1) (Ns := 14) C fr_X5_18 dX5_avoid_23 rfl rfl rfl rfl rfl (by decide) Nat.one_pos ?_
      refine hq_iload_n (q := 0) C dX5_avoid_26 rfl rfl ?_
      refine hq_aaldOR0 (f := 5) (g := 6) (Nc := 1) (Ns := 40) C dX5_avoid_27 rfl rfl rfl rfl rfl rfl (by first | rfl | assumption) (by first | assumption | omega) Nat.one_pos ?_
      refine hq_iload_n (q := 2) C dX5_avoid_28 rfl rfl ?_
      refine hq_cVr (As := [.int _]) (rm := rX3_isStillToPass) (f := 6) (Nc := 40) C (m_X3_isStillToPass (n := hw_ln σ.1 k9 + 1) (q := hw_pl σ.1 k9) hk40 hor.1.2.1 (by omega) hor.2.2.1 (by omega)) wv_X3_isStillToPass ml_X5_297 rfl rfl rfl (by first | assumption | omega) rfl rfl rfl rfl ⟨Nat.le_of_ble_eq_true rfl, Nat.le_of_ble_eq_true rfl⟩ (Nat.le_of_ble_eq_true rfl) ⟨Nat.le_of_ble_eq_true rfl, Nat.le_of_ble_eq_true rfl⟩ dX5_avoid_29 ?_
      refine hq_if_eq (tgt := 45) C dX5_avoid_32 (by decide) (fun c_32 => ?_) (fun c_32 => ?_)
      · refine hq_iinc (q := 0) (y := nI (_ + 1)) (L' := [(2, .int _), (0, .ref _), (1, .int _)]) C dX5_avoid_45 rfl (hw_inc _) (by decide) rfl ?_
        refine hq_goto (tgt := 2) C dX5_avoid_48 (by decide) ?_
        rw [sf_av_b c_19 c_32] at k
        exact hq_fin [0, 1, 2] rfl rfl rfl rfl rfl rfl k
      · refine hq_aload_n (q := 1) C dX5_avoid_35 rfl rfl ?_
        refine hq_aload_n (q := 1) C dX5_avoid_36 rfl rfl ?_
        refine hq_getR (f := 0) (g := 5) (Nc := 1) (Ns := 14) C fr_X5_18 dX5_avoid_37 rfl rfl rfl rfl rfl (by decide) Nat.one_pos ?_
        refine hq_iload_n (q := 0) C dX5_avoid_40 rfl rfl ?_
        refine hq_aaldOR0 (f := 5) (g := 6) (Nc := 1) (Ns := 40) C dX5_avoid_41 rfl rfl rfl rfl rfl rfl (by first | rfl | assumption) (by first | assumption | omega) Nat.one_pos ?_
        refine hq_cVv (As := [.ref _]) (rm := rX5_lookAnew) (f := 0) (Nc := 1) C (m_X5_lookAnew hk40 hinv.1.1.1 hinv.1.1.2 hinv.1.2.2.2.1 hor (hinv.2.1 k9 hi9).1 (hinv.2.1 k9 hi9).2 hinv.2.2.1 (lk_pres hinv hi9 (by omega)).2.2) wv_X5_lookAnew ml_X5_301 rfl rfl rfl Nat.one_pos rfl rfl rfl rfl ⟨Nat.le_of_ble_eq_true rfl, Nat.le_of_ble_eq_true rfl⟩ (Nat.le_of_ble_eq_true rfl) ⟨Nat.le_of_ble_eq_true rfl, Nat.le_of_ble_eq_true rfl⟩ dX5_avoid_42 ?_
        refine hq_iinc (q := 0) (y := nI (_ + 1)) (L' := [(2, .int _), (0, .ref _), (1, .int _)]) C dX5_avoid_45 rfl (hw_inc _) (by decide) rfl ?_
        refine hq_goto (tgt := 2) C dX5_avoid_48 (by decide) ?_
        rw [sf_av_c c_19 c_32] at k
        exact hq_fin [0, 1, 2] rfl rfl rfl rfl rfl rfl k
  · refine hq_iload_n (q := 0) C dX5_avoid_2 rfl rfl ?_
    refine hq_aload_n (q := 1) C dX5_avoid_3 rfl rfl ?_
    refine hq_getI (f := 0) (g := 1) (Nc := 1) (Ns := 14) C fr_X5_124 dX5_avoid_4 rfl rfl rfl rfl rfl (by decide) Nat.one_pos ?_
    refine hq_icmp_ge (tgt := 51) C dX5_avoid_7 (by decide) (fun c_7 => ?_) (fun c_7 => absurd (by rw [show (lp (sf_av x) no 0 (I, J)).1 1 0 = nI no from (av_all h hB).2.1.2.1.1]; exact nI_le (Nat.le_refl no) (by omega)) c_7)
    exact hq_vret C hr hlk dX5_avoid_51 rfl
def e_broker (I : MI) (x y z : Int32) : Option String := hx_or (sx_ix x 8) (hx_or (sx_rg y 0 1000000) (hx_or (sx_rg z 0 100) (sx_st (if 12 ≤ I 0 0 then 0 else 1))))
def i_broker (I : MI) (x z : Int32) (n : Nat) : MI := uI (uI (uI I 5 n x) 6 n z) 0 0 (I 0 0 + 1)
set_option maxHeartbeats 4000000 in
set_option maxRecDepth 100000 in
theorem m_X5_broker {l : Launch} {D : va_G} {b0 : Nat} {I : MI} {J : MJ} {P : MI} {N : MJ} {o : Int64} (hlt : l.stackTraces = false) {x y z : Int32} {nb no nc : Nat} {B : Int} (h : hw_ci I J nb no nc B) : hX l yX5_broker wX5_broker rX5_broker D b0 [.ref (hw_ad b0 0 0), .int x, .int y, .int z] I J P N o (e_broker I x y z) (some (.int (I 0 0 + 1 - 1))) (i_broker I x z nb) (uJ J 0 nb y.toInt64) P N o := by
  have hbc := h.1.1.1
  have hnb := h.1.1.2
  have hoc := h.1.2.1.1
  have hno := h.1.2.1.2
  have hcc := h.1.2.2.1.1
  have hnc := h.1.2.2.1.2
  refine hw_MXof (by decide) [(0, .ref _), (1, .int _), (2, .int _), (3, .int _)] rfl (Nat.le_of_ble_eq_true rfl) ?_
  intro p e s m args below meth c C hr hlk ht
  refine hq_iload_n (q := 1) C dX5_broker_0 rfl rfl ?_
  refine hq_bipush (y := 8) C dX5_broker_1 (by decide) ?_
  refine hq_cSXv (As := [.int _, .int _]) (rm := rX5_requireIndex) (Cn := "") C (m_X5_requireIndex hlt) ws_X5_requireIndex ml_X5_58 rfl rfl rfl rfl ⟨Nat.le_of_ble_eq_true rfl, Nat.le_of_ble_eq_true rfl⟩ (Nat.le_of_ble_eq_true rfl) ⟨Nat.le_of_ble_eq_true rfl, Nat.le_of_ble_eq_true rfl⟩ dX5_broker_3 (fun n_3 => ?_) (fun E x_3 => hq_out ht hlk (by simp [hx_or, e_broker, x_3]) rfl (Nat.le_of_ble_eq_true rfl) (Nat.le_of_ble_eq_true rfl))
  refine hq_iload_n (q := 2) C dX5_broker_6 rfl rfl ?_
  refine hq_iconst (y := 0) C dX5_broker_7 (by decide) ?_
  refine hq_ldc C wc_X5_50 dX5_broker_8 ?_
  refine hq_cSXv (As := [.int _, .int _, .int _]) (rm := rX5_requireRange) (Cn := "") C (m_X5_requireRange hlt) ws_X5_requireRange ml_X5_62 rfl rfl rfl rfl ⟨Nat.le_of_ble_eq_true rfl, Nat.le_of_ble_eq_true rfl⟩ (Nat.le_of_ble_eq_true rfl) ⟨Nat.le_of_ble_eq_true rfl, Nat.le_of_ble_eq_true rfl⟩ dX5_broker_10 (fun n_10 => ?_) (fun E x_10 => hq_out ht hlk (by simp [hx_or, e_broker, n_3, x_10]) rfl (Nat.le_of_ble_eq_true rfl) (Nat.le_of_ble_eq_true rfl))
  refine hq_iload_n (q := 3) C dX5_broker_13 rfl rfl ?_
  refine hq_iconst (y := 0) C dX5_broker_14 (by decide) ?_
  refine hq_bipush (y := 100) C dX5_broker_15 (by decide) ?_
  refine hq_cSXv (As := [.int _, .int _, .int _]) (rm := rX5_requireRange) (Cn := "") C (m_X5_requireRange hlt) ws_X5_requireRange ml_X5_62 rfl rfl rfl rfl ⟨Nat.le_of_ble_eq_true rfl, Nat.le_of_ble_eq_true rfl⟩ (Nat.le_of_ble_eq_true rfl) ⟨Nat.le_of_ble_eq_true rfl, Nat.le_of_ble_eq_true rfl⟩ dX5_broker_17 (fun n_17 => ?_) (fun E x_17 => hq_out ht hlk (by simp [hx_or, e_broker, n_3, n_10, x_17]) rfl (Nat.le_of_ble_eq_true rfl) (Nat.le_of_ble_eq_true rfl))
  refine hq_aload_n (q := 0) C dX5_broker_20 rfl rfl ?_
  refine hq_getI (f := 0) (g := 0) (Nc := 1) (Ns := 14) C fr_X5_66 dX5_broker_21 rfl rfl rfl rfl rfl (by decide) Nat.one_pos ?_
  refine hq_bipush (y := 12) C dX5_broker_24 (by decide) ?_
  refine hq_icmp_ge (tgt := 33) C dX5_broker_26 (by decide) (fun c_26 => ?_) (fun c_26 => ?_)
  · refine hq_iconst (y := 0) C dX5_broker_33 (by decide) ?_
    exact hq_cSXv (As := [.int _]) (rm := rX5_requireState) (Cn := "") C (m_X5_requireState hlt) ws_X5_requireState ml_X5_70 rfl rfl rfl rfl ⟨Nat.le_of_ble_eq_true rfl, Nat.le_of_ble_eq_true rfl⟩ (Nat.le_of_ble_eq_true rfl) ⟨Nat.le_of_ble_eq_true rfl, Nat.le_of_ble_eq_true rfl⟩ dX5_broker_34 (fun n_34 => absurd n_34 (by simp [sx_st])) (fun E x_34 => hq_out ht hlk (by simpa [hx_or, e_broker, sx_st, n_3, n_10, n_17, c_26] using x_34) rfl (Nat.le_of_ble_eq_true rfl) (Nat.le_of_ble_eq_true rfl))
  · refine hq_iconst (y := 1) C dX5_broker_29 (by decide) ?_
    refine hq_goto (tgt := 34) C dX5_broker_30 (by decide) ?_
    refine hq_cSXv (As := [.int _]) (rm := rX5_requireState) (Cn := "") C (m_X5_requireState hlt) ws_X5_requireState ml_X5_70 rfl rfl rfl rfl ⟨Nat.le_of_ble_eq_true rfl, Nat.le_of_ble_eq_true rfl⟩ (Nat.le_of_ble_eq_true rfl) ⟨Nat.le_of_ble_eq_true rfl, Nat.le_of_ble_eq_true rfl⟩ dX5_broker_34 (fun _ => ?_) (fun E x_34 => absurd x_34 (by simp [sx_st]))
    have hn12 : nb < 12 := by rcases Nat.lt_or_ge nb 12 with z | z; exact z; exact absurd (by rw [hbc]; exact nI_le z (by omega) : (12 : Int32) ≤ I 0 0) c_26
    refine hq_aload_n (q := 0) C dX5_broker_37 rfl rfl ?_
    refine hq_getR (f := 0) (g := 1) (Nc := 1) (Ns := 14) C fr_X5_11 dX5_broker_38 rfl rfl rfl rfl rfl (by decide) Nat.one_pos ?_
    refine hq_aload_n (q := 0) C dX5_broker_41 rfl rfl ?_
    refine hq_getI (f := 0) (g := 0) (Nc := 1) (Ns := 14) C fr_X5_66 dX5_broker_42 rfl rfl rfl rfl rfl (by decide) Nat.one_pos ?_
    refine hq_aaldBR0 (f := 1) (a := nb) (g := 2) (Nc := 1) (Ns := 12) C dX5_broker_45 rfl rfl rfl rfl rfl rfl hbc hn12 Nat.one_pos ?_
    refine hq_astore (L' := [(4, .ref _), (0, .ref _), (1, .int _), (2, .int _), (3, .int _)]) C dX5_broker_46 (by decide) rfl ?_
    refine hq_aload (q := 0) C dX5_broker_48 rfl ?_
    refine hq_iload_n (q := 2) C dX5_broker_50 rfl rfl ?_
    refine hq_putI (f := 2) (g := 5) (Nc := 12) (Ns := 8) C fl_X5_74 dX5_broker_51 rfl rfl rfl rfl rfl (by decide) (by first | assumption | omega) rfl rfl ?_
    refine hq_aload (q := 0) C dX5_broker_54 rfl ?_
    refine hq_iload_n (q := 3) C dX5_broker_56 rfl rfl ?_
    refine hq_i2l C dX5_broker_57 ?_
    refine hq_putJ (f := 2) (g := 0) (Nc := 12) (Ns := 8) C fl_X5_77 dX5_broker_58 rfl rfl rfl rfl rfl (by decide) (by first | assumption | omega) rfl rfl ?_
    refine hq_aload (q := 0) C dX5_broker_61 rfl ?_
    refine hq_iload_n (q := 4) C dX5_broker_63 rfl rfl ?_
    refine hq_putI (f := 2) (g := 6) (Nc := 12) (Ns := 8) C fl_X5_81 dX5_broker_64 rfl rfl rfl rfl rfl (by decide) (by first | assumption | omega) rfl rfl ?_
    refine hq_aload_n (q := 1) C dX5_broker_67 rfl rfl ?_
    refine hq_dup C dX5_broker_68 rfl ?_
    refine hq_getI (f := 0) (g := 0) (Nc := 1) (Ns := 14) C fr_X5_66 dX5_broker_69 rfl rfl rfl rfl rfl (by decide) Nat.one_pos ?_
    refine hq_iconst (y := 1) C dX5_broker_72 (by decide) ?_
    refine hq_iadd C dX5_broker_73 ?_
    refine hq_putI (f := 0) (g := 0) (Nc := 1) (Ns := 14) C fl_X5_66 dX5_broker_74 rfl rfl rfl rfl rfl (by decide) Nat.one_pos rfl rfl ?_
    refine hq_aload_n (q := 1) C dX5_broker_77 rfl rfl ?_
    refine hq_getI (f := 0) (g := 0) (Nc := 1) (Ns := 14) C fr_X5_66 dX5_broker_78 rfl rfl rfl rfl rfl (by decide) Nat.one_pos ?_
    refine hq_iconst (y := 1) C dX5_broker_81 (by decide) ?_
    refine hq_isub C dX5_broker_82 ?_
    exact hq_iretX C hr hlk dX5_broker_83 (by first | (simp [hx_or, e_broker, n_3, n_10, n_17, c_26]; done) | simp [hx_or, e_broker, sx_st, n_3, n_10, n_17, c_26]) rfl rfl (Nat.le_of_ble_eq_true rfl) (Nat.le_of_ble_eq_true rfl)
def e_rate (I : MI) (x y : Int32) : Option String := hx_or (sx_ix x (I 0 0)) (sx_rg y 0 100)
set_option maxHeartbeats 4000000 in
set_option maxRecDepth 100000 in
theorem m_X5_rate {l : Launch} {D : va_G} {b0 : Nat} {I : MI} {J : MJ} {P : MI} {N : MJ} {o : Int64} (hlt : l.stackTraces = false) {x y : Int32} {nb no nc : Nat} {B : Int} (h : hw_ci I J nb no nc B) : hX l yX5_rate wX5_rate rX5_rate D b0 [.ref (hw_ad b0 0 0), .int x, .int y] I J P N o (e_rate I x y) (some (.int (I 6 (tn x)))) (uI I 6 (tn x) y) J P N o := by
  have hbc := h.1.1.1
  have hnb := h.1.1.2
  have hoc := h.1.2.1.1
  have hno := h.1.2.1.2
  have hcc := h.1.2.2.1.1
  have hnc := h.1.2.2.1.2
  refine hw_MXof (by decide) [(0, .ref _), (1, .int _), (2, .int _)] rfl (Nat.le_of_ble_eq_true rfl) ?_
  intro p e s m args below meth c C hr hlk ht
  refine hq_iload_n (q := 1) C dX5_rate_0 rfl rfl ?_
  refine hq_aload_n (q := 0) C dX5_rate_1 rfl rfl ?_
  refine hq_getI (f := 0) (g := 0) (Nc := 1) (Ns := 14) C fr_X5_66 dX5_rate_2 rfl rfl rfl rfl rfl (by decide) Nat.one_pos ?_
  refine hq_cSXv (As := [.int _, .int _]) (rm := rX5_requireIndex) (Cn := "") C (m_X5_requireIndex hlt) ws_X5_requireIndex ml_X5_58 rfl rfl rfl rfl ⟨Nat.le_of_ble_eq_true rfl, Nat.le_of_ble_eq_true rfl⟩ (Nat.le_of_ble_eq_true rfl) ⟨Nat.le_of_ble_eq_true rfl, Nat.le_of_ble_eq_true rfl⟩ dX5_rate_5 (fun n_5 => ?_) (fun E x_5 => hq_out ht hlk (by simp [hx_or, e_rate, x_5]) rfl (Nat.le_of_ble_eq_true rfl) (Nat.le_of_ble_eq_true rfl))
  obtain ⟨hx, hxb⟩ := sx_ix_i hbc (by omega) n_5
  refine hq_iload_n (q := 2) C dX5_rate_8 rfl rfl ?_
  refine hq_iconst (y := 0) C dX5_rate_9 (by decide) ?_
  refine hq_bipush (y := 100) C dX5_rate_10 (by decide) ?_
  refine hq_cSXv (As := [.int _, .int _, .int _]) (rm := rX5_requireRange) (Cn := "") C (m_X5_requireRange hlt) ws_X5_requireRange ml_X5_62 rfl rfl rfl rfl ⟨Nat.le_of_ble_eq_true rfl, Nat.le_of_ble_eq_true rfl⟩ (Nat.le_of_ble_eq_true rfl) ⟨Nat.le_of_ble_eq_true rfl, Nat.le_of_ble_eq_true rfl⟩ dX5_rate_12 (fun n_12 => ?_) (fun E x_12 => hq_out ht hlk (by simp [hx_or, e_rate, n_5, x_12]) rfl (Nat.le_of_ble_eq_true rfl) (Nat.le_of_ble_eq_true rfl))
  refine hq_aload_n (q := 0) C dX5_rate_15 rfl rfl ?_
  refine hq_getR (f := 0) (g := 1) (Nc := 1) (Ns := 14) C fr_X5_11 dX5_rate_16 rfl rfl rfl rfl rfl (by decide) Nat.one_pos ?_
  refine hq_iload_n (q := 1) C dX5_rate_19 rfl rfl ?_
  refine hq_aaldBR0 (f := 1) (a := tn x) (g := 2) (Nc := 1) (Ns := 12) C dX5_rate_20 rfl rfl rfl rfl rfl rfl hx (by omega) Nat.one_pos ?_
  refine hq_getI (f := 2) (g := 6) (Nc := 12) (Ns := 8) C fr_X5_81 dX5_rate_21 rfl rfl rfl rfl rfl (by decide) (by first | assumption | omega) ?_
  refine hq_istore_n (L' := [(3, .int _), (0, .ref _), (1, .int _), (2, .int _)]) C dX5_rate_24 rfl (by decide) rfl ?_
  refine hq_aload_n (q := 1) C dX5_rate_25 rfl rfl ?_
  refine hq_getR (f := 0) (g := 1) (Nc := 1) (Ns := 14) C fr_X5_11 dX5_rate_26 rfl rfl rfl rfl rfl (by decide) Nat.one_pos ?_
  refine hq_iload_n (q := 2) C dX5_rate_29 rfl rfl ?_
  refine hq_aaldBR0 (f := 1) (a := tn x) (g := 2) (Nc := 1) (Ns := 12) C dX5_rate_30 rfl rfl rfl rfl rfl rfl hx (by omega) Nat.one_pos ?_
  refine hq_iload_n (q := 3) C dX5_rate_31 rfl rfl ?_
  refine hq_putI (f := 2) (g := 6) (Nc := 12) (Ns := 8) C fl_X5_81 dX5_rate_32 rfl rfl rfl rfl rfl (by decide) (by first | assumption | omega) rfl rfl ?_
  refine hq_iload_n (q := 0) C dX5_rate_35 rfl rfl ?_
  exact hq_iretX C hr hlk dX5_rate_36 (by first | (simp [hx_or, e_rate, n_5, n_12]; done) | simp [hx_or, e_rate, sx_st, n_5, n_12]) rfl rfl (Nat.le_of_ble_eq_true rfl) (Nat.le_of_ble_eq_true rfl)
def e_trust (I : MI) (x y z : Int32) : Option String := hx_or (sx_two I x y) (sx_rg z 0 1000000)
def i_trust (I : MI) (x y z w : Int32) : MI := uI (uI I 10 (12 * tn x + tn y) z) 11 (12 * tn x + tn y) w
set_option maxHeartbeats 4000000 in
set_option maxRecDepth 100000 in
theorem m_X5_trust {l : Launch} {D : va_G} {b0 : Nat} {I : MI} {J : MJ} {P : MI} {N : MJ} {o : Int64} (hlt : l.stackTraces = false) {x y z w : Int32} (hw : hw_bo w) {nb no nc : Nat} {B : Int} (h : hw_ci I J nb no nc B) : hX l yX5_trust wX5_trust rX5_trust D b0 [.ref (hw_ad b0 0 0), .int x, .int y, .int z, .int w] I J P N o (e_trust I x y z) none (i_trust I x y z w) J P N o := by
  have hbc := h.1.1.1
  have hnb := h.1.1.2
  have hoc := h.1.2.1.1
  have hno := h.1.2.1.2
  have hcc := h.1.2.2.1.1
  have hnc := h.1.2.2.1.2
  refine hw_MXof (by decide) [(0, .ref _), (1, .int _), (2, .int _), (3, .int _), (4, .int _)] rfl (Nat.le_of_ble_eq_true rfl) ?_
  intro p e s m args below meth c C hr hlk ht
  refine hq_aload_n (q := 0) C dX5_trust_0 rfl rfl ?_
  refine hq_iload_n (q := 1) C dX5_trust_1 rfl rfl ?_
  refine hq_iload_n (q := 2) C dX5_trust_2 rfl rfl ?_
  refine hq_cVXv (As := [.int _, .int _]) (rm := rX5_requireTwoBrokers) (f := 0) (Nc := 1) C (m_X5_requireTwoBrokers hlt) wv_X5_requireTwoBrokers ml_X5_84 rfl rfl rfl Nat.one_pos rfl rfl rfl rfl ⟨Nat.le_of_ble_eq_true rfl, Nat.le_of_ble_eq_true rfl⟩ (Nat.le_of_ble_eq_true rfl) ⟨Nat.le_of_ble_eq_true rfl, Nat.le_of_ble_eq_true rfl⟩ dX5_trust_3 (fun n_3 => ?_) (fun E x_3 => hq_out ht hlk (by simp [hx_or, e_trust, x_3]) rfl (Nat.le_of_ble_eq_true rfl) (Nat.le_of_ble_eq_true rfl))
  obtain ⟨⟨hx, hxb⟩, ⟨hy, hyb⟩, hxy⟩ := sx_two_n hbc (by omega) n_3
  refine hq_iload_n (q := 3) C dX5_trust_6 rfl rfl ?_
  refine hq_iconst (y := 0) C dX5_trust_7 (by decide) ?_
  refine hq_ldc C wc_X5_50 dX5_trust_8 ?_
  refine hq_cSXv (As := [.int _, .int _, .int _]) (rm := rX5_requireRange) (Cn := "") C (m_X5_requireRange hlt) ws_X5_requireRange ml_X5_62 rfl rfl rfl rfl ⟨Nat.le_of_ble_eq_true rfl, Nat.le_of_ble_eq_true rfl⟩ (Nat.le_of_ble_eq_true rfl) ⟨Nat.le_of_ble_eq_true rfl, Nat.le_of_ble_eq_true rfl⟩ dX5_trust_10 (fun n_10 => ?_) (fun E x_10 => hq_out ht hlk (by simp [hx_or, e_trust, n_3, x_10]) rfl (Nat.le_of_ble_eq_true rfl) (Nat.le_of_ble_eq_true rfl))
  refine hq_aload_n (q := 0) C dX5_trust_13 rfl rfl ?_
  refine hq_getR (f := 0) (g := 1) (Nc := 1) (Ns := 14) C fr_X5_11 dX5_trust_14 rfl rfl rfl rfl rfl (by decide) Nat.one_pos ?_
  refine hq_iload_n (q := 1) C dX5_trust_17 rfl rfl ?_
  refine hq_aaldBR0 (f := 1) (a := tn x) (g := 2) (Nc := 1) (Ns := 12) C dX5_trust_18 rfl rfl rfl rfl rfl rfl hx (by omega) Nat.one_pos ?_
  refine hq_getR (f := 2) (g := 3) (Nc := 12) (Ns := 8) C fr_X5_87 dX5_trust_19 rfl rfl rfl rfl rfl (by decide) (by first | assumption | omega) ?_
  refine hq_iload_n (q := 2) C dX5_trust_22 rfl rfl ?_
  refine hq_iload_n (q := 3) C dX5_trust_23 rfl rfl ?_
  refine hq_iastIw (f := 3) (a := tn y) (g := 10) (w := 12) (Nc := 12) (Ns := 12) C dX5_trust_24 rfl rfl rfl ⟨rfl, by decide⟩ rfl rfl hy (by omega) (by first | assumption | omega) ?_
  refine hq_aload_n (q := 0) C dX5_trust_25 rfl rfl ?_
  refine hq_getR (f := 0) (g := 1) (Nc := 1) (Ns := 14) C fr_X5_11 dX5_trust_26 rfl rfl rfl rfl rfl (by decide) Nat.one_pos ?_
  refine hq_iload_n (q := 1) C dX5_trust_29 rfl rfl ?_
  refine hq_aaldBR0 (f := 1) (a := tn x) (g := 2) (Nc := 1) (Ns := 12) C dX5_trust_30 rfl rfl rfl rfl rfl rfl hx (by omega) Nat.one_pos ?_
  refine hq_getR (f := 2) (g := 4) (Nc := 12) (Ns := 8) C fr_X5_90 dX5_trust_31 rfl rfl rfl rfl rfl (by decide) (by first | assumption | omega) ?_
  refine hq_iload_n (q := 2) C dX5_trust_34 rfl rfl ?_
  refine hq_iload (q := 4) C dX5_trust_35 rfl ?_
  refine hq_zastIw (f := 4) (a := tn y) (g := 11) (w := 12) (Nc := 12) (Ns := 12) C dX5_trust_37 rfl rfl rfl ⟨rfl, by decide⟩ rfl rfl hy (by omega) (by first | assumption | omega) (hw_bon hw) ?_
  exact hq_vretX C hr hlk dX5_trust_38 (by first | (simp [hx_or, e_trust, n_3, n_10]; done) | simp [hx_or, e_trust, sx_st, n_3, n_10]) rfl (Nat.le_of_ble_eq_true rfl) (Nat.le_of_ble_eq_true rfl)
def e_law (x y : Int32) : Option String := hx_or (sx_ix x 8) (sx_rg y 0 1000000)
set_option maxHeartbeats 4000000 in
set_option maxRecDepth 100000 in
theorem m_X5_law {l : Launch} {D : va_G} {b0 : Nat} {I : MI} {J : MJ} {P : MI} {N : MJ} {o : Int64} (hlt : l.stackTraces = false) {x y : Int32}  : hX l yX5_law wX5_law rX5_law D b0 [.ref (hw_ad b0 0 0), .int x, .int y] I J P N o (e_law x y) (some (.int (I 29 (tn x)))) (uI I 28 (tn x) y) J P N o := by
  refine hw_MXof (by decide) [(0, .ref _), (1, .int _), (2, .int _)] rfl (Nat.le_of_ble_eq_true rfl) ?_
  intro p e s m args below meth c C hr hlk ht
  refine hq_iload_n (q := 1) C dX5_law_0 rfl rfl ?_
  refine hq_bipush (y := 8) C dX5_law_1 (by decide) ?_
  refine hq_cSXv (As := [.int _, .int _]) (rm := rX5_requireIndex) (Cn := "") C (m_X5_requireIndex hlt) ws_X5_requireIndex ml_X5_58 rfl rfl rfl rfl ⟨Nat.le_of_ble_eq_true rfl, Nat.le_of_ble_eq_true rfl⟩ (Nat.le_of_ble_eq_true rfl) ⟨Nat.le_of_ble_eq_true rfl, Nat.le_of_ble_eq_true rfl⟩ dX5_law_3 (fun n_3 => ?_) (fun E x_3 => hq_out ht hlk (by simp [hx_or, e_law, x_3]) rfl (Nat.le_of_ble_eq_true rfl) (Nat.le_of_ble_eq_true rfl))
  obtain ⟨hx, hxb⟩ := sx_ix_n (n := 8) (by omega) n_3
  refine hq_iload_n (q := 2) C dX5_law_6 rfl rfl ?_
  refine hq_iconst (y := 0) C dX5_law_7 (by decide) ?_
  refine hq_ldc C wc_X5_50 dX5_law_8 ?_
  refine hq_cSXv (As := [.int _, .int _, .int _]) (rm := rX5_requireRange) (Cn := "") C (m_X5_requireRange hlt) ws_X5_requireRange ml_X5_62 rfl rfl rfl rfl ⟨Nat.le_of_ble_eq_true rfl, Nat.le_of_ble_eq_true rfl⟩ (Nat.le_of_ble_eq_true rfl) ⟨Nat.le_of_ble_eq_true rfl, Nat.le_of_ble_eq_true rfl⟩ dX5_law_10 (fun n_10 => ?_) (fun E x_10 => hq_out ht hlk (by simp [hx_or, e_law, n_3, x_10]) rfl (Nat.le_of_ble_eq_true rfl) (Nat.le_of_ble_eq_true rfl))
  refine hq_aload_n (q := 0) C dX5_law_13 rfl rfl ?_
  refine hq_getR (f := 0) (g := 23) (Nc := 1) (Ns := 14) C fr_X5_46 dX5_law_14 rfl rfl rfl rfl rfl (by decide) Nat.one_pos ?_
  refine hq_iload_n (q := 1) C dX5_law_17 rfl rfl ?_
  refine hq_iload_n (q := 2) C dX5_law_18 rfl rfl ?_
  refine hq_iastI0 (f := 23) (a := tn x) (g := 28) (Nc := 1) (Ns := 8) C dX5_law_19 rfl rfl rfl rfl rfl rfl hx hxb Nat.one_pos ?_
  refine hq_aload_n (q := 0) C dX5_law_20 rfl rfl ?_
  refine hq_getR (f := 0) (g := 24) (Nc := 1) (Ns := 14) C fr_X5_51 dX5_law_21 rfl rfl rfl rfl rfl (by decide) Nat.one_pos ?_
  refine hq_iload_n (q := 1) C dX5_law_24 rfl rfl ?_
  refine hq_ialdI0 (f := 24) (a := tn x) (g := 29) (Nc := 1) (Ns := 8) C dX5_law_25 rfl rfl rfl rfl rfl rfl hx hxb Nat.one_pos ?_
  exact hq_iretX C hr hlk dX5_law_26 (by first | (simp [hx_or, e_law, n_3, n_10]; done) | simp [hx_or, e_law, sx_st, n_3, n_10]) rfl rfl (Nat.le_of_ble_eq_true rfl) (Nat.le_of_ble_eq_true rfl)
def e_rob (I : MI) (x : Int32) : Option String := hx_or (sx_ix x (I 2 0)) (sx_st (I 26 (tn x)))
def i_rob (I : MI) (x : Int32) : MI := uI (uI I 26 (tn x) 0) 27 (tn x) 1
set_option maxHeartbeats 4000000 in
set_option maxRecDepth 100000 in
theorem m_X5_rob {l : Launch} {D : va_G} {b0 : Nat} {I : MI} {J : MJ} {P : MI} {N : MJ} {o : Int64} (hlt : l.stackTraces = false) {x : Int32} {nb no nc : Nat} {B : Int} (h : hw_ci I J nb no nc B) : hX l yX5_rob wX5_rob rX5_rob D b0 [.ref (hw_ad b0 0 0), .int x] I J P N o (e_rob I x) (some (.int (I 24 (tn x)))) (i_rob I x) J P N o := by
  have hbc := h.1.1.1
  have hnb := h.1.1.2
  have hoc := h.1.2.1.1
  have hno := h.1.2.1.2
  have hcc := h.1.2.2.1.1
  have hnc := h.1.2.2.1.2
  refine hw_MXof (by decide) [(0, .ref _), (1, .int _)] rfl (Nat.le_of_ble_eq_true rfl) ?_
  intro p e s m args below meth c C hr hlk ht
  refine hq_iload_n (q := 1) C dX5_rob_0 rfl rfl ?_
  refine hq_aload_n (q := 0) C dX5_rob_1 rfl rfl ?_
  refine hq_getI (f := 0) (g := 2) (Nc := 1) (Ns := 14) C fr_X5_179 dX5_rob_2 rfl rfl rfl rfl rfl (by decide) Nat.one_pos ?_
  refine hq_cSXv (As := [.int _, .int _]) (rm := rX5_requireIndex) (Cn := "") C (m_X5_requireIndex hlt) ws_X5_requireIndex ml_X5_58 rfl rfl rfl rfl ⟨Nat.le_of_ble_eq_true rfl, Nat.le_of_ble_eq_true rfl⟩ (Nat.le_of_ble_eq_true rfl) ⟨Nat.le_of_ble_eq_true rfl, Nat.le_of_ble_eq_true rfl⟩ dX5_rob_5 (fun n_5 => ?_) (fun E x_5 => hq_out ht hlk (by simp [hx_or, e_rob, x_5]) rfl (Nat.le_of_ble_eq_true rfl) (Nat.le_of_ble_eq_true rfl))
  obtain ⟨hx, hxb⟩ := sx_ix_i hcc (by omega) n_5
  refine hq_aload_n (q := 0) C dX5_rob_8 rfl rfl ?_
  refine hq_getR (f := 0) (g := 9) (Nc := 1) (Ns := 14) C fr_X5_25 dX5_rob_9 rfl rfl rfl rfl rfl (by decide) Nat.one_pos ?_
  refine hq_iload_n (q := 1) C dX5_rob_12 rfl rfl ?_
  refine hq_aaldCR0 (f := 9) (a := tn x) (g := 10) (Nc := 1) (Ns := 40) C dX5_rob_13 rfl rfl rfl rfl rfl rfl hx (by omega) Nat.one_pos ?_
  refine hq_getI (f := 10) (g := 26) (Nc := 40) (Ns := 6) C fr_X5_192 dX5_rob_14 rfl rfl rfl rfl rfl (by decide) (by first | assumption | omega) ?_
  refine hq_cSXv (As := [.int _]) (rm := rX5_requireState) (Cn := "") C (m_X5_requireState hlt) ws_X5_requireState ml_X5_70 rfl rfl rfl rfl ⟨Nat.le_of_ble_eq_true rfl, Nat.le_of_ble_eq_true rfl⟩ (Nat.le_of_ble_eq_true rfl) ⟨Nat.le_of_ble_eq_true rfl, Nat.le_of_ble_eq_true rfl⟩ dX5_rob_17 (fun n_17 => ?_) (fun E x_17 => hq_out ht hlk (by simp [hx_or, e_rob, n_5, x_17]) rfl (Nat.le_of_ble_eq_true rfl) (Nat.le_of_ble_eq_true rfl))
  refine hq_aload_n (q := 0) C dX5_rob_20 rfl rfl ?_
  refine hq_getR (f := 0) (g := 9) (Nc := 1) (Ns := 14) C fr_X5_25 dX5_rob_21 rfl rfl rfl rfl rfl (by decide) Nat.one_pos ?_
  refine hq_iload_n (q := 1) C dX5_rob_24 rfl rfl ?_
  refine hq_aaldCR0 (f := 9) (a := tn x) (g := 10) (Nc := 1) (Ns := 40) C dX5_rob_25 rfl rfl rfl rfl rfl rfl hx (by omega) Nat.one_pos ?_
  refine hq_iconst (y := 0) C dX5_rob_26 (by decide) ?_
  refine hq_putI (f := 10) (g := 26) (Nc := 40) (Ns := 6) C fl_X5_192 dX5_rob_27 rfl rfl rfl rfl rfl (by decide) (by first | assumption | omega) (by decide) (by decide) ?_
  refine hq_aload_n (q := 0) C dX5_rob_30 rfl rfl ?_
  refine hq_getR (f := 0) (g := 9) (Nc := 1) (Ns := 14) C fr_X5_25 dX5_rob_31 rfl rfl rfl rfl rfl (by decide) Nat.one_pos ?_
  refine hq_iload_n (q := 1) C dX5_rob_34 rfl rfl ?_
  refine hq_aaldCR0 (f := 9) (a := tn x) (g := 10) (Nc := 1) (Ns := 40) C dX5_rob_35 rfl rfl rfl rfl rfl rfl hx (by omega) Nat.one_pos ?_
  refine hq_iconst (y := 1) C dX5_rob_36 (by decide) ?_
  refine hq_putI (f := 10) (g := 27) (Nc := 40) (Ns := 6) C fl_X5_195 dX5_rob_37 rfl rfl rfl rfl rfl (by decide) (by first | assumption | omega) (by decide) (by decide) ?_
  refine hq_aload_n (q := 0) C dX5_rob_40 rfl rfl ?_
  refine hq_getR (f := 0) (g := 9) (Nc := 1) (Ns := 14) C fr_X5_25 dX5_rob_41 rfl rfl rfl rfl rfl (by decide) Nat.one_pos ?_
  refine hq_iload_n (q := 1) C dX5_rob_44 rfl rfl ?_
  refine hq_aaldCR0 (f := 9) (a := tn x) (g := 10) (Nc := 1) (Ns := 40) C dX5_rob_45 rfl rfl rfl rfl rfl rfl hx (by omega) Nat.one_pos ?_
  refine hq_getI (f := 10) (g := 24) (Nc := 40) (Ns := 6) C fr_X5_188 dX5_rob_46 rfl rfl rfl rfl rfl (by decide) (by first | assumption | omega) ?_
  exact hq_iretX C hr hlk dX5_rob_49 (by first | (simp [hx_or, e_rob, n_5, n_17]; done) | simp [hx_or, e_rob, sx_st, n_5, n_17]) rfl rfl (Nat.le_of_ble_eq_true rfl) (Nat.le_of_ble_eq_true rfl)
