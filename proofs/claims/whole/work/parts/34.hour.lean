/-! the model: what fails for a broker, an hour -/
def pf_ff (x : Int32) (nb i : Nat) (σ : MI × MJ) : MI × MJ := if ¬ σ.1 16 i = 0 then σ else if lp (pf_po σ.1 i x) (hw_ln σ.1 i + 1) 0 (-1) ≤ σ.1 17 i then σ else pg_go σ.1 σ.2 i nb
def ps_ff (P : MI) (N : MJ) (x : Int32) (nb no : Nat) : MI × MJ := lp (pf_ff x nb) no 0 (P, N)
theorem ff_a {x : Int32} {nb i : Nat} {σ : MI × MJ} (h : ¬ σ.1 16 i = 0) : pf_ff x nb i σ = σ := if_pos h
theorem ff_b {x : Int32} {nb i : Nat} {σ : MI × MJ} (h : σ.1 16 i = 0) (h2 : lp (pf_po σ.1 i x) (hw_ln σ.1 i + 1) 0 (-1) ≤ σ.1 17 i) : pf_ff x nb i σ = σ := (if_neg (fun z => z h)).trans (if_pos h2)
theorem ff_c {x : Int32} {nb i : Nat} {σ : MI × MJ} (h : σ.1 16 i = 0) (h2 : ¬ lp (pf_po σ.1 i x) (hw_ln σ.1 i + 1) 0 (-1) ≤ σ.1 17 i) : pf_ff x nb i σ = pg_go σ.1 σ.2 i nb := (if_neg (fun z => z h)).trans (if_neg h2)
/-- what holds before each step of failsFor -/
def pf_inv (x : Int32) (nb no : Nat) (G : Nat → MI × MJ → Prop) : Prop := ∀ i σ, i < no → G i σ → G (i + 1) (pf_ff x nb i σ) ∧ σ.1 1 0 = nI no ∧ hw_or σ.1 i ∧ (σ.1 16 i = 0 → ¬ lp (pf_po σ.1 i x) (hw_ln σ.1 i + 1) 0 (-1) ≤ σ.1 17 i → pg_fit σ.1 σ.2 i nb)
theorem m_X6_goElsewhere {l : Launch} {D : va_G} {b0 : Nat} {I : MI} {J : MJ} {P : MI} {N : MJ} {o : Int64} {i nb : Nat} {x : Int32} (hi : i < 40) (hx : x = nI i) (hf : pg_fit P N i nb) : hM l yX6_goElsewhere cX6_goElsewhere 10 none rX6_goElsewhere D b0 [.ref (hw_ad b0 26 0), .int x] I J P N o none I J (pg_go P N i nb).1 (pg_go P N i nb).2 o := by
  rcases hf.2.2.2 with h | h
  · exact m_X6_goElsewhere_a hi hx hf h
  · exact m_X6_goElsewhere_b hi hx hf h
set_option maxHeartbeats 4000000 in
set_option maxRecDepth 100000 in
theorem m_X6_failsFor {l : Launch} {D : va_G} {b0 : Nat} {I : MI} {J : MJ} {P : MI} {N : MJ} {o : Int64} {nb no : Nat} {x : Int32} {G : Nat → MI × MJ → Prop} (hno : no ≤ 40) (hG0 : G 0 (P, N)) (hG : pf_inv x nb no G) (hend : (ps_ff P N x nb no).1 1 0 = nI no) : hM l yX6_failsFor cX6_failsFor 3 none rX6_failsFor D b0 [.ref (hw_ad b0 26 0), .int x] I J P N o none I J (ps_ff P N x nb no).1 (ps_ff P N x nb no).2 o := by
  refine hw_Mof (by decide) [(0, .ref _), (1, .int _)] rfl (Nat.le_of_ble_eq_true rfl) ?_
  intro p e s m args below meth c C hr hlk hnm
  refine hq_iconst (y := 0) C dX6_failsFor_0 (by decide) ?_
  refine hq_istore_n (L' := [(2, .int _), (0, .ref _), (1, .int _)]) C dX6_failsFor_1 rfl (by decide) rfl ?_
  refine hq_perm [0, 1, 2] (L' := [(2, .int (nI 0)), (0, .ref (hw_ad b0 26 0)), (1, .int x)]) rfl ?_
  refine lp_back (pf_ff x nb) (fun (k9 : Nat) (σ : MI × MJ) => hw_V p l e rX6_failsFor s m args below meth c (MQ below (hw_Q D b0 false 271 none (hw_vl b0 I J (ps_ff P N x nb no).1 (ps_ff P N x nb no).2 o)) args s 0 0 (fun q => b0 ≤ q)) D b0 3 false 0 0 271 2 [(2, .int (nI k9)), (0, .ref (hw_ad b0 26 0)), (1, .int x)] [] (hw_vl b0 I J σ.1 σ.2 o)) G no ?_ (fun i σ hi hs => (hG i σ hi hs).1) no 0 (P, N) (by omega) hG0 ?_
  · intro k9 σ hi0 hinv0 k0
    have hi9 := hi0
    have hF := hG k9 σ hi0 hinv0
    have hk40 : k9 < 40 := by omega
    refine hq_iload_n (q := 0) C dX6_failsFor_2 rfl rfl ?_
    refine hq_aload_n (q := 1) C dX6_failsFor_3 rfl rfl ?_
    refine hq_getP (f := 26) (g := 1) (Nc := 1) (Ns := 38) C fr_X6_181 dX6_failsFor_4 rfl rfl rfl rfl rfl (by decide) Nat.one_pos ?_
    refine hq_icmp_ge (tgt := 45) C dX6_failsFor_7 (by decide) (fun c_7 => absurd c_7 (by rw [show σ.1 1 0 = nI no from hF.2.1]; exact nI_ge hi9 (by omega))) (fun c_7 => ?_)
    refine hq_aload_n (q := 1) C dX6_failsFor_10 rfl rfl ?_
    refine hq_getR (f := 26) (g := 37) (Nc := 1) (Ns := 38) C fr_X6_42 dX6_failsFor_11 rfl rfl rfl rfl rfl (by decide) Nat.one_pos ?_
    refine hq_iload_n (q := 0) C dX6_failsFor_14 rfl rfl ?_
    refine hq_ialdP0 (f := 37) (g := 16) (Nc := 1) (Ns := 40) C dX6_failsFor_15 rfl rfl rfl rfl rfl rfl (by first | rfl | assumption) (by first | assumption | omega) Nat.one_pos ?_
    refine hq_if_ne (tgt := 39) C dX6_failsFor_16 (by decide) (fun c_16 => ?_) (fun c_16 => ?_)
    · refine hq_iinc (q := 0) (y := nI (_ + 1)) (L' := [(2, .int _), (0, .ref _), (1, .int _)]) C dX6_failsFor_39 rfl (hw_inc _) (by decide) rfl ?_
      refine hq_goto (tgt := 2) C dX6_failsFor_42 (by decide) ?_
      rw [ff_a c_16] at k0
      exact hq_fin [0, 1, 2] rfl rfl rfl rfl rfl rfl k0
    · refine hq_aload_n (q := 1) C dX6_failsFor_19 rfl rfl ?_
      refine hq_iload_n (q := 0) C dX6_failsFor_20 rfl rfl ?_
      refine hq_iload_n (q := 2) C dX6_failsFor_21 rfl rfl ?_
      refine hq_cVr (As := [.int _, .int _]) (rm := rX6_placeOn) (f := 26) (Nc := 1) C (m_X6_placeOn (n := hw_ln σ.1 k9) hk40 hF.2.2.1.1 rfl) wv_X6_placeOn ml_X6_184 rfl rfl rfl Nat.one_pos rfl rfl rfl rfl ⟨Nat.le_of_ble_eq_true rfl, Nat.le_of_ble_eq_true rfl⟩ (Nat.le_of_ble_eq_true rfl) ⟨Nat.le_of_ble_eq_true rfl, Nat.le_of_ble_eq_true rfl⟩ dX6_failsFor_22 ?_
      refine hq_aload_n (q := 1) C dX6_failsFor_25 rfl rfl ?_
      refine hq_getR (f := 26) (g := 43) (Nc := 1) (Ns := 38) C fr_X6_60 dX6_failsFor_26 rfl rfl rfl rfl rfl (by decide) Nat.one_pos ?_
      refine hq_iload_n (q := 0) C dX6_failsFor_29 rfl rfl ?_
      refine hq_ialdP0 (f := 43) (g := 17) (Nc := 1) (Ns := 40) C dX6_failsFor_30 rfl rfl rfl rfl rfl rfl (by first | rfl | assumption) (by first | assumption | omega) Nat.one_pos ?_
      refine hq_icmp_le (tgt := 39) C dX6_failsFor_31 (by decide) (fun c_31 => ?_) (fun c_31 => ?_)
      · refine hq_iinc (q := 0) (y := nI (_ + 1)) (L' := [(2, .int _), (0, .ref _), (1, .int _)]) C dX6_failsFor_39 rfl (hw_inc _) (by decide) rfl ?_
        refine hq_goto (tgt := 2) C dX6_failsFor_42 (by decide) ?_
        rw [ff_b c_16 c_31] at k0
        exact hq_fin [0, 1, 2] rfl rfl rfl rfl rfl rfl k0
      · refine hq_aload_n (q := 1) C dX6_failsFor_34 rfl rfl ?_
        refine hq_iload_n (q := 0) C dX6_failsFor_35 rfl rfl ?_
        refine hq_cVv (As := [.int _]) (rm := rX6_goElsewhere) (f := 26) (Nc := 1) C (m_X6_goElsewhere hk40 rfl (hF.2.2.2 c_16 c_31)) wv_X6_goElsewhere ml_X6_188 rfl rfl rfl Nat.one_pos rfl rfl rfl rfl ⟨Nat.le_of_ble_eq_true rfl, Nat.le_of_ble_eq_true rfl⟩ (Nat.le_of_ble_eq_true rfl) ⟨Nat.le_of_ble_eq_true rfl, Nat.le_of_ble_eq_true rfl⟩ dX6_failsFor_36 ?_
        refine hq_iinc (q := 0) (y := nI (_ + 1)) (L' := [(2, .int _), (0, .ref _), (1, .int _)]) C dX6_failsFor_39 rfl (hw_inc _) (by decide) rfl ?_
        refine hq_goto (tgt := 2) C dX6_failsFor_42 (by decide) ?_
        rw [ff_c c_16 c_31] at k0
        exact hq_fin [0, 1, 2] rfl rfl rfl rfl rfl rfl k0
  · refine hq_iload_n (q := 0) C dX6_failsFor_2 rfl rfl ?_
    refine hq_aload_n (q := 1) C dX6_failsFor_3 rfl rfl ?_
    refine hq_getP (f := 26) (g := 1) (Nc := 1) (Ns := 38) C fr_X6_181 dX6_failsFor_4 rfl rfl rfl rfl rfl (by decide) Nat.one_pos ?_
    refine hq_icmp_ge (tgt := 45) C dX6_failsFor_7 (by decide) (fun c_7 => ?_) (fun c_7 => absurd (by rw [show (lp (pf_ff x nb) no 0 (P, N)).1 1 0 = nI no from hend]; exact nI_le (Nat.le_refl no) (by omega)) c_7)
    exact hq_vret C hr hlk dX6_failsFor_45 rfl
def ps_mv (P : MI) (N : MJ) (i q n : Nat) : MI × MJ :=
  (uI (uI P 17 i (P 17 i + 1)) 16 i (if ¬ P 17 i + 1 = nI n then 0 else 1), pf_owe N 2 (tn (P 20 (12 * i + (q + 1)))) (tn (P 20 (12 * i + q))) (-P 21 (12 * i + q)).toInt64)
set_option maxHeartbeats 4000000 in
set_option maxRecDepth 100000 in
theorem m_X6_move {l : Launch} {D : va_G} {b0 : Nat} {I : MI} {J : MJ} {P : MI} {N : MJ} {o : Int64} {i q n : Nat} {x : Int32} (hi : i < 40) (hx : x = nI i) (hw : hw_wy P i n) (hq9 : P 17 i = nI q) (hqn : q < n) : hM l yX6_move cX6_move 3 none rX6_move D b0 [.ref (hw_ad b0 26 0), .int x] I J P N o none I J (ps_mv P N i q n).1 (ps_mv P N i q n).2 o := by
  have hn12 := hw.1
  have e17 : uI P 17 i (P 17 i + 1) 17 i = P 17 i + 1 := if_pos ⟨rfl, rfl⟩
  have hmn : P 19 i - 1 = nI n := by rw [hw.2.1]; exact nI_pred _
  have hmv : ∀ {y : Int32}, ¬ y = P 19 i - 1 → ¬ y = nI n := fun h z => h (z.trans hmn.symm)
  have hmv2 : ∀ {y : Int32}, y = P 19 i - 1 → ¬ ¬ y = nI n := fun h z => z (h.trans hmn)
  refine hw_Mof (by decide) [(0, .ref _), (1, .int _)] rfl (Nat.le_of_ble_eq_true rfl) ?_
  intro p e s m args below meth c C hr hlk hnm
  refine hq_aload_n (q := 0) C dX6_move_0 rfl rfl ?_
  refine hq_getR (f := 26) (g := 43) (Nc := 1) (Ns := 38) C fr_X6_60 dX6_move_1 rfl rfl rfl rfl rfl (by decide) Nat.one_pos ?_
  refine hq_iload_n (q := 1) C dX6_move_4 rfl rfl ?_
  refine hq_ialdP0 (f := 43) (a := i) (g := 17) (Nc := 1) (Ns := 40) C dX6_move_5 rfl rfl rfl rfl rfl rfl hx hi Nat.one_pos ?_
  refine hq_istore_n (L' := [(2, .int _), (0, .ref _), (1, .int _)]) C dX6_move_6 rfl (by decide) rfl ?_
  refine hq_aload_n (q := 1) C dX6_move_7 rfl rfl ?_
  refine hq_getR (f := 26) (g := 43) (Nc := 1) (Ns := 38) C fr_X6_60 dX6_move_8 rfl rfl rfl rfl rfl (by decide) Nat.one_pos ?_
  refine hq_iload_n (q := 2) C dX6_move_11 rfl rfl ?_
  refine hq_dup2 C dX6_move_12 rfl rfl ?_
  refine hq_ialdP0 (f := 43) (a := i) (g := 17) (Nc := 1) (Ns := 40) C dX6_move_13 rfl rfl rfl rfl rfl rfl hx hi Nat.one_pos ?_
  refine hq_iconst (y := 1) C dX6_move_14 (by decide) ?_
  refine hq_iadd C dX6_move_15 ?_
  refine hq_iastP0 (f := 43) (a := i) (g := 17) (Nc := 1) (Ns := 40) C dX6_move_16 rfl rfl rfl rfl rfl rfl hx hi Nat.one_pos ?_
  refine hq_aload_n (q := 1) C dX6_move_17 rfl rfl ?_
  refine hq_aload_n (q := 1) C dX6_move_18 rfl rfl ?_
  refine hq_getR (f := 26) (g := 36) (Nc := 1) (Ns := 38) C fr_X6_39 dX6_move_19 rfl rfl rfl rfl rfl (by decide) Nat.one_pos ?_
  refine hq_aload_n (q := 1) C dX6_move_22 rfl rfl ?_
  refine hq_getR (f := 26) (g := 45) (Nc := 1) (Ns := 38) C fr_X6_66 dX6_move_23 rfl rfl rfl rfl rfl (by decide) Nat.one_pos ?_
  refine hq_bipush (y := 12) C dX6_move_26 (by decide) ?_
  refine hq_iload_n (q := 2) C dX6_move_28 rfl rfl ?_
  refine hq_imul C dX6_move_29 ?_
  refine hq_iload_n (q := 0) C dX6_move_30 rfl rfl ?_
  refine hq_iadd C dX6_move_31 ?_
  refine hq_iconst (y := 1) C dX6_move_32 (by decide) ?_
  refine hq_iadd C dX6_move_33 ?_
  refine hq_ialdP0 (f := 45) (a := 12 * i + (q + 1)) (g := 20) (Nc := 1) (Ns := 480) C dX6_move_34 rfl rfl rfl rfl rfl rfl (ix12b hx hq9) (by omega) Nat.one_pos ?_
  refine hq_aload_n (q := 1) C dX6_move_35 rfl rfl ?_
  refine hq_getR (f := 26) (g := 45) (Nc := 1) (Ns := 38) C fr_X6_66 dX6_move_36 rfl rfl rfl rfl rfl (by decide) Nat.one_pos ?_
  refine hq_bipush (y := 12) C dX6_move_39 (by decide) ?_
  refine hq_iload_n (q := 2) C dX6_move_41 rfl rfl ?_
  refine hq_imul C dX6_move_42 ?_
  refine hq_iload_n (q := 0) C dX6_move_43 rfl rfl ?_
  refine hq_iadd C dX6_move_44 ?_
  refine hq_ialdP0 (f := 45) (a := 12 * i + q) (g := 20) (Nc := 1) (Ns := 480) C dX6_move_45 rfl rfl rfl rfl rfl rfl (ix12 hx hq9) (by omega) Nat.one_pos ?_
  refine hq_aload_n (q := 1) C dX6_move_46 rfl rfl ?_
  refine hq_getR (f := 26) (g := 46) (Nc := 1) (Ns := 38) C fr_X6_69 dX6_move_47 rfl rfl rfl rfl rfl (by decide) Nat.one_pos ?_
  refine hq_bipush (y := 12) C dX6_move_50 (by decide) ?_
  refine hq_iload_n (q := 2) C dX6_move_52 rfl rfl ?_
  refine hq_imul C dX6_move_53 ?_
  refine hq_iload_n (q := 0) C dX6_move_54 rfl rfl ?_
  refine hq_iadd C dX6_move_55 ?_
  refine hq_ialdP0 (f := 46) (a := 12 * i + q) (g := 21) (Nc := 1) (Ns := 480) C dX6_move_56 rfl rfl rfl rfl rfl rfl (ix12 hx hq9) (by omega) Nat.one_pos ?_
  refine hq_ineg C dX6_move_57 ?_
  refine hq_i2l C dX6_move_58 ?_
  refine hq_cVv (As := [.ref _, .int _, .int _, .long _]) (rm := rX6_owe) (f := 26) (Nc := 1) C (m_X6_owe2 (hw.2.2 (q + 1) (by omega)).x (hw.2.2 (q + 1) (by omega)).b (hw.2.2 q (by omega)).x (hw.2.2 q (by omega)).b) wv_X6_owe ml_X6_135 rfl rfl rfl Nat.one_pos rfl rfl rfl rfl ⟨Nat.le_of_ble_eq_true rfl, Nat.le_of_ble_eq_true rfl⟩ (Nat.le_of_ble_eq_true rfl) ⟨Nat.le_of_ble_eq_true rfl, Nat.le_of_ble_eq_true rfl⟩ dX6_move_59 ?_
  refine hq_aload_n (q := 1) C dX6_move_62 rfl rfl ?_
  refine hq_getR (f := 26) (g := 37) (Nc := 1) (Ns := 38) C fr_X6_42 dX6_move_63 rfl rfl rfl rfl rfl (by decide) Nat.one_pos ?_
  refine hq_iload_n (q := 2) C dX6_move_66 rfl rfl ?_
  refine hq_aload_n (q := 1) C dX6_move_67 rfl rfl ?_
  refine hq_getR (f := 26) (g := 43) (Nc := 1) (Ns := 38) C fr_X6_60 dX6_move_68 rfl rfl rfl rfl rfl (by decide) Nat.one_pos ?_
  refine hq_iload_n (q := 2) C dX6_move_71 rfl rfl ?_
  refine hq_ialdP0 (f := 43) (a := i) (g := 17) (Nc := 1) (Ns := 40) C dX6_move_72 rfl rfl rfl rfl rfl rfl hx hi Nat.one_pos ?_
  refine hq_aload_n (q := 1) C dX6_move_73 rfl rfl ?_
  refine hq_getR (f := 26) (g := 44) (Nc := 1) (Ns := 38) C fr_X6_63 dX6_move_74 rfl rfl rfl rfl rfl (by decide) Nat.one_pos ?_
  refine hq_iload_n (q := 2) C dX6_move_77 rfl rfl ?_
  refine hq_ialdP0 (f := 44) (a := i) (g := 19) (Nc := 1) (Ns := 40) C dX6_move_78 rfl rfl rfl rfl rfl rfl hx hi Nat.one_pos ?_
  refine hq_iconst (y := 1) C dX6_move_79 (by decide) ?_
  refine hq_isub C dX6_move_80 ?_
  refine hq_icmp_ne (tgt := 88) C dX6_move_81 (by decide) (fun c_81 => ?_) (fun c_81 => ?_)
  · refine hq_iconst (y := 0) C dX6_move_88 (by decide) ?_
    refine hq_iastP0 (f := 37) (a := i) (g := 16) (Nc := 1) (Ns := 40) C dX6_move_89 rfl rfl rfl rfl rfl rfl hx hi Nat.one_pos ?_
    exact hq_vret C hr hlk dX6_move_90 (by unfold ps_mv; rw [if_pos (hmv (y := P 17 i + 1) (fun z => c_81 (e17.trans z)))]; try rfl)
  · refine hq_iconst (y := 1) C dX6_move_84 (by decide) ?_
    refine hq_goto (tgt := 89) C dX6_move_85 (by decide) ?_
    refine hq_iastP0 (f := 37) (a := i) (g := 16) (Nc := 1) (Ns := 40) C dX6_move_89 rfl rfl rfl rfl rfl rfl hx hi Nat.one_pos ?_
    exact hq_vret C hr hlk dX6_move_90 (by unfold ps_mv; rw [if_neg (hmv2 (y := P 17 i + 1) (e17.symm.trans c_81))]; try rfl)
def pf_ca (i : Nat) (σ : MI × MJ) : MI × MJ := if ¬ σ.1 41 i = 0 then σ else if σ.1 3 0 < σ.1 25 i then σ else
  (uI σ.1 41 i 1, pf_owe (pf_owe (pf_owe (pf_owe (uJ σ.2 0 (tn (σ.1 23 i)) (σ.2 0 (tn (σ.1 23 i)) + (σ.1 24 i).toInt64)) 1 (tn (σ.1 22 i)) (tn (σ.1 23 i)) (-σ.1 24 i).toInt64) 1 (tn (σ.1 23 i)) (tn (σ.1 22 i)) (-(-σ.1 24 i).toInt64)) 2 (tn (σ.1 22 i)) (tn (σ.1 23 i)) (-σ.1 24 i).toInt64) 2 (tn (σ.1 23 i)) (tn (σ.1 22 i)) (-(-σ.1 24 i).toInt64))
theorem ca_oth {i : Nat} {σ : MI × MJ} {g j : Nat} (h : g ≠ 41) : (pf_ca i σ).1 g j = σ.1 g j := by
  unfold pf_ca
  repeat' split
  all_goals first | rfl | simp [uI, h]
set_option maxHeartbeats 4000000 in
set_option maxRecDepth 100000 in
theorem m_X6_comeAll {l : Launch} {D : va_G} {b0 : Nat} {I : MI} {J : MJ} {P : MI} {N : MJ} {o : Int64} {nc : Nat} (hcc : P 2 0 = nI nc) (hnc : nc ≤ 40) (hcs : hw_cs P nc) : hM l yX6_comeAll cX6_comeAll 2 none rX6_comeAll D b0 [.ref (hw_ad b0 26 0)] I J P N o none I J (lp pf_ca nc 0 (P, N)).1 (lp pf_ca nc 0 (P, N)).2 o := by
  refine hw_Mof (by decide) [(0, .ref _)] rfl (Nat.le_of_ble_eq_true rfl) ?_
  intro p e s m args below meth c C hr hlk hnm
  refine hq_iconst (y := 0) C dX6_comeAll_0 (by decide) ?_
  refine hq_istore_n (L' := [(1, .int _), (0, .ref _)]) C dX6_comeAll_1 rfl (by decide) rfl ?_
  refine hq_perm [0, 1] (L' := [(1, .int (nI 0)), (0, .ref (hw_ad b0 26 0))]) rfl ?_
  refine lp_back pf_ca (fun (k9 : Nat) (σ : MI × MJ) => hw_V p l e rX6_comeAll s m args below meth c (MQ below (hw_Q D b0 false 271 none (hw_vl b0 I J (lp pf_ca nc 0 (P, N)).1 (lp pf_ca nc 0 (P, N)).2 o)) args s 0 0 (fun q => b0 ≤ q)) D b0 2 false 0 0 271 2 [(1, .int (nI k9)), (0, .ref (hw_ad b0 26 0))] [] (hw_vl b0 I J σ.1 σ.2 o)) (fun _ σ => σ.1 2 0 = nI nc ∧ hw_cs σ.1 nc) nc ?_ (fun i σ _ hs => ⟨(ca_oth (by decide)).trans hs.1, hs.2.congr (fun g j hg => ca_oth (by omega))⟩) nc 0 (P, N) (by omega) ⟨hcc, hcs⟩ ?_
  · intro k9 σ hi0 hinv0 k0
    have hi9 := hi0
    have hF := hinv0.2 k9 hi0
    have hk40 : k9 < 41 := by omega
    refine hq_iload_n (q := 0) C dX6_comeAll_2 rfl rfl ?_
    refine hq_aload_n (q := 1) C dX6_comeAll_3 rfl rfl ?_
    refine hq_getP (f := 26) (g := 2) (Nc := 1) (Ns := 38) C fr_X6_200 dX6_comeAll_4 rfl rfl rfl rfl rfl (by decide) Nat.one_pos ?_
    refine hq_icmp_ge (tgt := 90) C dX6_comeAll_7 (by decide) (fun c_7 => absurd c_7 (by rw [show σ.1 2 0 = nI nc from hinv0.1]; exact nI_ge hi9 (by omega))) (fun c_7 => ?_)
    refine hq_aload_n (q := 1) C dX6_comeAll_10 rfl rfl ?_
    refine hq_getR (f := 26) (g := 51) (Nc := 1) (Ns := 38) C fr_X6_84 dX6_comeAll_11 rfl rfl rfl rfl rfl (by decide) Nat.one_pos ?_
    refine hq_iload_n (q := 0) C dX6_comeAll_14 rfl rfl ?_
    refine hq_zaldP0 (f := 51) (a := k9) (g := 41) (Nc := 1) (Ns := 41) C dX6_comeAll_15 rfl rfl rfl rfl rfl rfl rfl hk40 Nat.one_pos ?_
    refine hq_if_ne (tgt := 84) C dX6_comeAll_16 (by decide) (fun c_16 => ?_) (fun c_16 => ?_)
    · refine hq_iinc (q := 0) (y := nI (_ + 1)) (L' := [(1, .int _), (0, .ref _)]) C dX6_comeAll_84 rfl (hw_inc _) (by decide) rfl ?_
      refine hq_goto (tgt := 2) C dX6_comeAll_87 (by decide) ?_
      exact hq_fin [0, 1] (by first | rfl | (simp only [pf_ca, c_16, ↓reduceIte, not_true_eq_false, not_false_eq_true]; rfl) | simp [lv_pick, pf_ca, c_16]) (by first | rfl | (simp only [pf_ca, c_16, ↓reduceIte, not_true_eq_false, not_false_eq_true]; done) | (simp only [pf_ca, c_16, ↓reduceIte, not_true_eq_false, not_false_eq_true]; rfl) | simp [pf_ca, c_16]) (by first | rfl | (simp only [pf_ca, c_16, ↓reduceIte, not_true_eq_false, not_false_eq_true]; done) | (simp only [pf_ca, c_16, ↓reduceIte, not_true_eq_false, not_false_eq_true]; rfl) | simp [pf_ca, c_16]) (by first | rfl | (simp only [pf_ca, c_16, ↓reduceIte, not_true_eq_false, not_false_eq_true]; done) | (simp only [pf_ca, c_16, ↓reduceIte, not_true_eq_false, not_false_eq_true]; rfl) | simp [pf_ca, c_16]) (by first | rfl | (simp only [pf_ca, c_16, ↓reduceIte, not_true_eq_false, not_false_eq_true]; done) | (simp only [pf_ca, c_16, ↓reduceIte, not_true_eq_false, not_false_eq_true]; rfl) | simp [pf_ca, c_16]) (by first | rfl | (simp only [pf_ca, c_16, ↓reduceIte, not_true_eq_false, not_false_eq_true]; done) | (simp only [pf_ca, c_16, ↓reduceIte, not_true_eq_false, not_false_eq_true]; rfl) | simp [pf_ca, c_16]) k0
    · refine hq_aload_n (q := 1) C dX6_comeAll_19 rfl rfl ?_
      refine hq_getR (f := 26) (g := 50) (Nc := 1) (Ns := 38) C fr_X6_81 dX6_comeAll_20 rfl rfl rfl rfl rfl (by decide) Nat.one_pos ?_
      refine hq_iload_n (q := 0) C dX6_comeAll_23 rfl rfl ?_
      refine hq_ialdP0 (f := 50) (a := k9) (g := 25) (Nc := 1) (Ns := 41) C dX6_comeAll_24 rfl rfl rfl rfl rfl rfl rfl hk40 Nat.one_pos ?_
      refine hq_aload_n (q := 1) C dX6_comeAll_25 rfl rfl ?_
      refine hq_getP (f := 26) (g := 3) (Nc := 1) (Ns := 38) C fr_X6_194 dX6_comeAll_26 rfl rfl rfl rfl rfl (by decide) Nat.one_pos ?_
      refine hq_icmp_gt (tgt := 84) C dX6_comeAll_29 (by decide) (fun c_29 => ?_) (fun c_29 => ?_)
      · refine hq_iinc (q := 0) (y := nI (_ + 1)) (L' := [(1, .int _), (0, .ref _)]) C dX6_comeAll_84 rfl (hw_inc _) (by decide) rfl ?_
        refine hq_goto (tgt := 2) C dX6_comeAll_87 (by decide) ?_
        exact hq_fin [0, 1] (by first | rfl | (simp only [pf_ca, c_16, c_29, ↓reduceIte, not_true_eq_false, not_false_eq_true]; rfl) | simp [lv_pick, pf_ca, c_16, c_29]) (by first | rfl | (simp only [pf_ca, c_16, c_29, ↓reduceIte, not_true_eq_false, not_false_eq_true]; done) | (simp only [pf_ca, c_16, c_29, ↓reduceIte, not_true_eq_false, not_false_eq_true]; rfl) | simp [pf_ca, c_16, c_29]) (by first | rfl | (simp only [pf_ca, c_16, c_29, ↓reduceIte, not_true_eq_false, not_false_eq_true]; done) | (simp only [pf_ca, c_16, c_29, ↓reduceIte, not_true_eq_false, not_false_eq_true]; rfl) | simp [pf_ca, c_16, c_29]) (by first | rfl | (simp only [pf_ca, c_16, c_29, ↓reduceIte, not_true_eq_false, not_false_eq_true]; done) | (simp only [pf_ca, c_16, c_29, ↓reduceIte, not_true_eq_false, not_false_eq_true]; rfl) | simp [pf_ca, c_16, c_29]) (by first | rfl | (simp only [pf_ca, c_16, c_29, ↓reduceIte, not_true_eq_false, not_false_eq_true]; done) | (simp only [pf_ca, c_16, c_29, ↓reduceIte, not_true_eq_false, not_false_eq_true]; rfl) | simp [pf_ca, c_16, c_29]) (by first | rfl | (simp only [pf_ca, c_16, c_29, ↓reduceIte, not_true_eq_false, not_false_eq_true]; done) | (simp only [pf_ca, c_16, c_29, ↓reduceIte, not_true_eq_false, not_false_eq_true]; rfl) | simp [pf_ca, c_16, c_29]) k0
      · refine hq_aload_n (q := 1) C dX6_comeAll_32 rfl rfl ?_
        refine hq_getR (f := 26) (g := 51) (Nc := 1) (Ns := 38) C fr_X6_84 dX6_comeAll_33 rfl rfl rfl rfl rfl (by decide) Nat.one_pos ?_
        refine hq_iload_n (q := 0) C dX6_comeAll_36 rfl rfl ?_
        refine hq_iconst (y := 1) C dX6_comeAll_37 (by decide) ?_
        refine hq_zastP0 (f := 51) (a := k9) (g := 41) (Nc := 1) (Ns := 41) C dX6_comeAll_38 rfl rfl rfl rfl rfl rfl rfl hk40 Nat.one_pos (by decide) ?_
        refine hq_aload_n (q := 1) C dX6_comeAll_39 rfl rfl ?_
        refine hq_getR (f := 26) (g := 28) (Nc := 1) (Ns := 38) C fr_X6_13 dX6_comeAll_40 rfl rfl rfl rfl rfl (by decide) Nat.one_pos ?_
        refine hq_aload_n (q := 1) C dX6_comeAll_43 rfl rfl ?_
        refine hq_getR (f := 26) (g := 49) (Nc := 1) (Ns := 38) C fr_X6_78 dX6_comeAll_44 rfl rfl rfl rfl rfl (by decide) Nat.one_pos ?_
        refine hq_iload_n (q := 0) C dX6_comeAll_47 rfl rfl ?_
        refine hq_ialdP0 (f := 49) (a := k9) (g := 23) (Nc := 1) (Ns := 41) C dX6_comeAll_48 rfl rfl rfl rfl rfl rfl rfl hk40 Nat.one_pos ?_
        refine hq_dup2 C dX6_comeAll_49 rfl rfl ?_
        refine hq_laldN0 (f := 28) (a := tn (σ.1 23 k9)) (g := 0) (Nc := 1) (Ns := 12) C dX6_comeAll_50 rfl rfl rfl rfl rfl rfl hF.2.x hF.2.b Nat.one_pos ?_
        refine hq_aload_n (q := 1) C dX6_comeAll_51 rfl rfl ?_
        refine hq_getR (f := 26) (g := 47) (Nc := 1) (Ns := 38) C fr_X6_72 dX6_comeAll_52 rfl rfl rfl rfl rfl (by decide) Nat.one_pos ?_
        refine hq_iload_n (q := 0) C dX6_comeAll_55 rfl rfl ?_
        refine hq_ialdP0 (f := 47) (a := k9) (g := 24) (Nc := 1) (Ns := 41) C dX6_comeAll_56 rfl rfl rfl rfl rfl rfl rfl hk40 Nat.one_pos ?_
        refine hq_i2l C dX6_comeAll_57 ?_
        refine hq_ladd C dX6_comeAll_58 ?_
        refine hq_lastN0 (f := 28) (a := tn (σ.1 23 k9)) (g := 0) (Nc := 1) (Ns := 12) C dX6_comeAll_59 rfl rfl rfl rfl rfl rfl hF.2.x hF.2.b Nat.one_pos ?_
        refine hq_aload_n (q := 1) C dX6_comeAll_60 rfl rfl ?_
        refine hq_aload_n (q := 1) C dX6_comeAll_61 rfl rfl ?_
        refine hq_getR (f := 26) (g := 48) (Nc := 1) (Ns := 38) C fr_X6_75 dX6_comeAll_62 rfl rfl rfl rfl rfl (by decide) Nat.one_pos ?_
        refine hq_iload_n (q := 0) C dX6_comeAll_65 rfl rfl ?_
        refine hq_ialdP0 (f := 48) (a := k9) (g := 22) (Nc := 1) (Ns := 41) C dX6_comeAll_66 rfl rfl rfl rfl rfl rfl rfl hk40 Nat.one_pos ?_
        refine hq_aload_n (q := 1) C dX6_comeAll_67 rfl rfl ?_
        refine hq_getR (f := 26) (g := 49) (Nc := 1) (Ns := 38) C fr_X6_78 dX6_comeAll_68 rfl rfl rfl rfl rfl (by decide) Nat.one_pos ?_
        refine hq_iload_n (q := 0) C dX6_comeAll_71 rfl rfl ?_
        refine hq_ialdP0 (f := 49) (a := k9) (g := 23) (Nc := 1) (Ns := 41) C dX6_comeAll_72 rfl rfl rfl rfl rfl rfl rfl hk40 Nat.one_pos ?_
        refine hq_aload_n (q := 1) C dX6_comeAll_73 rfl rfl ?_
        refine hq_getR (f := 26) (g := 47) (Nc := 1) (Ns := 38) C fr_X6_72 dX6_comeAll_74 rfl rfl rfl rfl rfl (by decide) Nat.one_pos ?_
        refine hq_iload_n (q := 0) C dX6_comeAll_77 rfl rfl ?_
        refine hq_ialdP0 (f := 47) (a := k9) (g := 24) (Nc := 1) (Ns := 41) C dX6_comeAll_78 rfl rfl rfl rfl rfl rfl rfl hk40 Nat.one_pos ?_
        refine hq_ineg C dX6_comeAll_79 ?_
        refine hq_i2l C dX6_comeAll_80 ?_
        refine hq_cVv (As := [.int _, .int _, .long _]) (rm := rX6_oweBoth) (f := 26) (Nc := 1) C (m_X6_oweBoth (a := tn (σ.1 22 k9)) (b := tn (σ.1 23 k9)) hF.1.x hF.1.b hF.2.x hF.2.b) wv_X6_oweBoth ml_X6_203 rfl rfl rfl Nat.one_pos rfl rfl rfl rfl ⟨Nat.le_of_ble_eq_true rfl, Nat.le_of_ble_eq_true rfl⟩ (Nat.le_of_ble_eq_true rfl) ⟨Nat.le_of_ble_eq_true rfl, Nat.le_of_ble_eq_true rfl⟩ dX6_comeAll_81 ?_
        refine hq_iinc (q := 0) (y := nI (_ + 1)) (L' := [(1, .int _), (0, .ref _)]) C dX6_comeAll_84 rfl (hw_inc _) (by decide) rfl ?_
        refine hq_goto (tgt := 2) C dX6_comeAll_87 (by decide) ?_
        exact hq_fin [0, 1] (by first | rfl | (simp only [pf_ca, c_16, c_29, ↓reduceIte, not_true_eq_false, not_false_eq_true]; rfl) | simp [lv_pick, pf_ca, c_16, c_29]) (by first | rfl | (simp only [pf_ca, c_16, c_29, ↓reduceIte, not_true_eq_false, not_false_eq_true]; done) | (simp only [pf_ca, c_16, c_29, ↓reduceIte, not_true_eq_false, not_false_eq_true]; rfl) | simp [pf_ca, c_16, c_29]) (by first | rfl | (simp only [pf_ca, c_16, c_29, ↓reduceIte, not_true_eq_false, not_false_eq_true]; done) | (simp only [pf_ca, c_16, c_29, ↓reduceIte, not_true_eq_false, not_false_eq_true]; rfl) | simp [pf_ca, c_16, c_29]) (by first | rfl | (simp only [pf_ca, c_16, c_29, ↓reduceIte, not_true_eq_false, not_false_eq_true]; done) | (simp only [pf_ca, c_16, c_29, ↓reduceIte, not_true_eq_false, not_false_eq_true]; rfl) | simp [pf_ca, c_16, c_29]) (by first | rfl | (simp only [pf_ca, c_16, c_29, ↓reduceIte, not_true_eq_false, not_false_eq_true]; done) | (simp only [pf_ca, c_16, c_29, ↓reduceIte, not_true_eq_false, not_false_eq_true]; rfl) | simp [pf_ca, c_16, c_29]) (by first | rfl | (simp only [pf_ca, c_16, c_29, ↓reduceIte, not_true_eq_false, not_false_eq_true]; done) | (simp only [pf_ca, c_16, c_29, ↓reduceIte, not_true_eq_false, not_false_eq_true]; rfl) | simp [pf_ca, c_16, c_29]) k0
  · refine hq_iload_n (q := 0) C dX6_comeAll_2 rfl rfl ?_
    refine hq_aload_n (q := 1) C dX6_comeAll_3 rfl rfl ?_
    refine hq_getP (f := 26) (g := 2) (Nc := 1) (Ns := 38) C fr_X6_200 dX6_comeAll_4 rfl rfl rfl rfl rfl (by decide) Nat.one_pos ?_
    refine hq_icmp_ge (tgt := 90) C dX6_comeAll_7 (by decide) (fun c_7 => ?_) (fun c_7 => absurd (by rw [show (lp pf_ca nc 0 (P, N)).1 2 0 = nI nc from (lp_inv pf_ca (fun _ σ => σ.1 2 0 = nI nc) nc (fun _ _ _ hs => (ca_oth (by decide)).trans hs) nc 0 (P, N) (by omega) hcc)]; exact nI_le (Nat.le_refl nc) (by omega)) c_7)
    exact hq_vret C hr hlk dX6_comeAll_90 rfl
def pn_a (i : Nat) (σ : MI) : MI := uI σ 7 i (if ¬ σ 7 i = 1 then σ 7 i else if σ 3 0 < σ 8 i then σ 7 i else 0)
def pn_b (i : Nat) (σ : MI × MJ) : MI × MJ := if ¬ σ.1 16 i = 0 then σ else ps_mv σ.1 σ.2 i (hw_pl σ.1 i) (hw_ln σ.1 i)
def pn_c (i : Nat) (σ : MI × MJ) : MI × MJ := if 1 < σ.1 16 i then σ else if σ.1 3 0 - σ.1 15 i < 240 then σ else (sp_ef σ.1 i, lp (pf_tb σ.1 i) (hw_ln σ.1 i - 0) 0 σ.2)
def pn_d (i : Nat) (σ : MI × MJ) : MI × MJ := if ¬ σ.1 16 i = 3 then σ else if ¬ σ.1 7 (tn (σ.1 20 (12 * i + 0))) = 0 then σ else if lg_cmp (σ.2 0 (tn (σ.1 20 (12 * i + 0)))) (σ.1 14 i).toInt64 < 0 then σ else
  (uI σ.1 16 i 4, uJ (uJ σ.2 0 (tn (σ.1 20 (12 * i + 0))) (σ.2 0 (tn (σ.1 20 (12 * i + 0))) - (σ.1 14 i).toInt64)) 4 2 (σ.2 4 2 + (σ.1 14 i).toInt64))
def pn_1 (P : MI) (nb : Nat) : MI := lp pn_a nb 0 (uI P 3 0 (P 3 0 + 1))
def pn_2 (P : MI) (N : MJ) (nb no : Nat) : MI × MJ := lp pn_b no 0 (pn_1 P nb, N)
def pn_3 (P : MI) (N : MJ) (nb no : Nat) : MI × MJ := lp pn_c no 0 (pn_2 P N nb no)
def pn_4 (P : MI) (N : MJ) (nb no : Nat) : MI × MJ := lp pn_d no 0 (pn_3 P N nb no)
def ps_nh (P : MI) (N : MJ) (nb no nc : Nat) : MI × MJ := lp pf_ca nc 0 (pn_4 P N nb no)
theorem na_oth {i : Nat} {σ : MI} {g j : Nat} (h : g ≠ 7) : pn_a i σ g j = σ g j := by simp [pn_a, uI, h]
theorem nb_oth {i : Nat} {σ : MI × MJ} {g j : Nat} (h : g ≠ 16) (h2 : g ≠ 17) : (pn_b i σ).1 g j = σ.1 g j := by
  unfold pn_b
  split
  · rfl
  · simp [ps_mv, uI, h, h2]
theorem nc_oth {i : Nat} {σ : MI × MJ} {g j : Nat} (h : g ≠ 16) : (pn_c i σ).1 g j = σ.1 g j := by
  unfold pn_c
  repeat' split
  all_goals first | rfl | exact sp_ef_ne h j
theorem nd_oth {i : Nat} {σ : MI × MJ} {g j : Nat} (h : g ≠ 16) : (pn_d i σ).1 g j = σ.1 g j := by
  unfold pn_d
  repeat' split
  all_goals first | rfl | simp [uI, h]
theorem n1_oth {P : MI} {nb g j : Nat} (h : g ≠ 7) (h3 : g ≠ 3) : pn_1 P nb g j = P g j := (lp_inv pn_a (fun _ σ => σ g j = uI P 3 0 (P 3 0 + 1) g j) nb (fun _ _ _ hs => (na_oth h).trans hs) nb 0 _ (by omega) rfl).trans (by simp [uI, h3])
/-- the model's numbers, as far as indices ask for it; on its way: a message that goes is not at the end of its way -/
def pv_iv (P : MI) (nb no nc : Nat) : Prop := (P 0 0 = nI nb ∧ nb ≤ 12) ∧ (P 1 0 = nI no ∧ no ≤ 40) ∧ (P 2 0 = nI nc ∧ nc ≤ 40) ∧ hw_os P no ∧ hw_cs P nc ∧ ∀ o, o < no → P 16 o = 0 → hw_pl P o < hw_ln P o
theorem pv_iv.congr {P P' : MI} {nb no nc : Nat} (h : pv_iv P nb no nc) (h1 : ∀ g j, (g = 0 ∨ g = 1 ∨ g = 2 ∨ g = 16 ∨ g = 17 ∨ g = 19 ∨ g = 20 ∨ g = 22 ∨ g = 23) → P' g j = P g j) : pv_iv P' nb no nc := by
  obtain ⟨a1, a2, a3, a4, a5, a6⟩ := h
  refine ⟨by rw [h1 0 0 (by omega)]; exact a1, by rw [h1 1 0 (by omega)]; exact a2, by rw [h1 2 0 (by omega)]; exact a3, a4.congr (fun g j hg => h1 g j (by omega)), a5.congr (fun g j hg => h1 g j (by omega)), fun o ho hz => ?_⟩
  have e1 : hw_pl P' o = hw_pl P o := by unfold hw_pl; rw [h1 17 o (by omega)]
  have e2 : hw_ln P' o = hw_ln P o := by unfold hw_ln; rw [h1 19 o (by omega)]
  rw [e1, e2]
  exact a6 o ho (by rw [← h1 16 o (by omega)]; exact hz)
/-- only how order i is changes, and not to 0 -/
theorem pv_iv.how {P P' : MI} {nb no nc i : Nat} (h : pv_iv P nb no nc) (h1 : ∀ g j, (g = 0 ∨ g = 1 ∨ g = 2 ∨ g = 17 ∨ g = 19 ∨ g = 20 ∨ g = 22 ∨ g = 23 ∨ (g = 16 ∧ j ≠ i)) → P' g j = P g j) (h2 : ¬ P' 16 i = 0) : pv_iv P' nb no nc := by
  obtain ⟨a1, a2, a3, a4, a5, a6⟩ := h
  refine ⟨by rw [h1 0 0 (by omega)]; exact a1, by rw [h1 1 0 (by omega)]; exact a2, by rw [h1 2 0 (by omega)]; exact a3, a4.congr (fun g j hg => h1 g j (by omega)), a5.congr (fun g j hg => h1 g j (by omega)), fun o ho hz => ?_⟩
  have e1 : hw_pl P' o = hw_pl P o := by unfold hw_pl; rw [h1 17 o (by omega)]
  have e2 : hw_ln P' o = hw_ln P o := by unfold hw_ln; rw [h1 19 o (by omega)]
  rw [e1, e2]
  by_cases c : o = i
  · subst c; exact absurd hz h2
  · exact a6 o ho (by rw [← h1 16 o (by omega)]; exact hz)
theorem nb_iv {nb no nc i : Nat} {σ : MI × MJ} (h : pv_iv σ.1 nb no nc) (hi : i < no) : pv_iv (pn_b i σ).1 nb no nc := by
  unfold pn_b
  by_cases c : ¬ σ.1 16 i = 0
  · rw [if_pos c]; exact h
  · rw [if_neg c]
    have c0 : σ.1 16 i = 0 := Decidable.not_not.mp c
    obtain ⟨a1, a2, a3, a4, a5, a6⟩ := id h
    have hor := a4 i hi
    have hlt := a6 i hi c0
    have hn12 := hor.1.1
    have o1 : ∀ g j, g ≠ 16 → g ≠ 17 → (ps_mv σ.1 σ.2 i (hw_pl σ.1 i) (hw_ln σ.1 i)).1 g j = σ.1 g j := fun g j q1 q2 => by simp [ps_mv, uI, q1, q2]
    have o2 : ∀ g j, j ≠ i → (ps_mv σ.1 σ.2 i (hw_pl σ.1 i) (hw_ln σ.1 i)).1 g j = σ.1 g j := fun g j q => by simp [ps_mv, uI, q]
    have t17 : (ps_mv σ.1 σ.2 i (hw_pl σ.1 i) (hw_ln σ.1 i)).1 17 i = nI (hw_pl σ.1 i + 1) := by
      have : (ps_mv σ.1 σ.2 i (hw_pl σ.1 i) (hw_ln σ.1 i)).1 17 i = σ.1 17 i + 1 := by simp [ps_mv, uI]
      rw [this, ← nI_1, ← hor.2.2.1]
    have t16 : (ps_mv σ.1 σ.2 i (hw_pl σ.1 i) (hw_ln σ.1 i)).1 16 i = (if ¬ σ.1 17 i + 1 = nI (hw_ln σ.1 i) then 0 else 1) := if_pos ⟨rfl, rfl⟩
    have e17 : σ.1 17 i + 1 = nI (hw_pl σ.1 i + 1) := by rw [← nI_1, ← hor.2.2.1]
    generalize (ps_mv σ.1 σ.2 i (hw_pl σ.1 i) (hw_ln σ.1 i)).1 = P' at o1 o2 t17 t16
    have eln : ∀ o, hw_ln P' o = hw_ln σ.1 o := fun o => by unfold hw_ln; rw [o1 19 o (by decide) (by decide)]
    have epl : hw_pl P' i = hw_pl σ.1 i + 1 := by unfold hw_pl at *; rw [t17]; exact nI_clamp (by omega)
    refine ⟨by rw [o1 0 0 (by decide) (by decide)]; exact a1, by rw [o1 1 0 (by decide) (by decide)]; exact a2, by rw [o1 2 0 (by decide) (by decide)]; exact a3, fun o ho => ?_, a5.congr (fun g j hg => o1 g j (by omega) (by omega)), fun o ho hz => ?_⟩
    · by_cases e : o = i
      · subst e
        refine ⟨?_, ?_, ?_, ?_⟩
        · rw [eln]; exact hor.1.congr (o1 _ _ (by decide) (by decide)) (fun k _ => o1 _ _ (by decide) (by decide))
        · rw [eln]; exact hor.2.1
        · rw [epl]; exact t17
        · rw [epl, eln]; omega
      · exact (a4 o ho).congr (o2 _ _ e) (o1 _ _ (by decide) (by decide)) (fun k _ => o1 _ _ (by decide) (by decide))
    · by_cases e : o = i
      · subst e
        rw [epl, eln]
        rw [t16, e17] at hz
        by_cases q : nI (hw_pl σ.1 o + 1) = nI (hw_ln σ.1 o)
        · rw [if_neg (fun z => z q)] at hz; exact absurd hz (by decide)
        · have : hw_pl σ.1 o + 1 ≠ hw_ln σ.1 o := fun z => q (congrArg nI z)
          omega
      · have : hw_pl P' o = hw_pl σ.1 o := by unfold hw_pl; rw [o2 17 o e]
        rw [this, eln]
        exact a6 o ho (by rw [← o2 16 o e]; exact hz)
theorem ef_nz (P : MI) (i : Nat) : ¬ sp_ef P i 16 i = 0 := by
  have : sp_ef P i 16 i = (if ¬ P 7 (P 20 (12 * i + 0)).toNatClampNeg = 2 then 3 else 5) := if_pos ⟨rfl, rfl⟩
  rw [this]
  split <;> decide
theorem nc_iv {nb no nc i : Nat} {σ : MI × MJ} (h : pv_iv σ.1 nb no nc) : pv_iv (pn_c i σ).1 nb no nc := by
  unfold pn_c
  by_cases c : 1 < σ.1 16 i
  · rw [if_pos c]; exact h
  · rw [if_neg c]
    by_cases c2 : σ.1 3 0 - σ.1 15 i < 240
    · rw [if_pos c2]; exact h
    · rw [if_neg c2]
      exact h.how (i := i) (fun g j hg => by
        show sp_ef σ.1 i g j = _
        unfold sp_ef uI
        rw [if_neg (by omega)]) (ef_nz _ _)
theorem nd_iv {nb no nc i : Nat} {σ : MI × MJ} (h : pv_iv σ.1 nb no nc) : pv_iv (pn_d i σ).1 nb no nc := by
  unfold pn_d
  repeat' split
  all_goals first
    | exact h
    | exact h.how (i := i) (fun g j hg => if_neg (by omega)) (fun z => absurd ((show (4 : Int32) = uI σ.1 16 i 4 16 i from (if_pos ⟨rfl, rfl⟩).symm).trans z) (by decide))
theorem n1_iv {P : MI} {nb no nc : Nat} (h : pv_iv P nb no nc) : pv_iv (pn_1 P nb) nb no nc := h.congr (fun g j hg => n1_oth (by omega) (by omega))
theorem n2_iv {P : MI} {N : MJ} {nb no nc : Nat} (h : pv_iv P nb no nc) : pv_iv (pn_2 P N nb no).1 nb no nc := lp_inv pn_b (fun _ σ => pv_iv σ.1 nb no nc) no (fun _ _ hi hs => nb_iv hs hi) no 0 _ (by omega) (n1_iv h)
theorem n3_iv {P : MI} {N : MJ} {nb no nc : Nat} (h : pv_iv P nb no nc) : pv_iv (pn_3 P N nb no).1 nb no nc := lp_inv pn_c (fun _ σ => pv_iv σ.1 nb no nc) no (fun _ _ _ hs => nc_iv hs) no 0 _ (by omega) (n2_iv h)
theorem n4_iv {P : MI} {N : MJ} {nb no nc : Nat} (h : pv_iv P nb no nc) : pv_iv (pn_4 P N nb no).1 nb no nc := lp_inv pn_d (fun _ σ => pv_iv σ.1 nb no nc) no (fun _ _ _ hs => nd_iv hs) no 0 _ (by omega) (n3_iv h)
set_option maxHeartbeats 4000000 in
set_option maxRecDepth 100000 in
theorem m_X6_nextHour {l : Launch} {D : va_G} {b0 : Nat} {I : MI} {J : MJ} {P : MI} {N : MJ} {o : Int64} {nb no nc : Nat} (h : pv_iv P nb no nc) : hM l yX6_nextHour cX6_nextHour 3 none rX6_nextHour D b0 [.ref (hw_ad b0 26 0)] I J P N o none I J (ps_nh P N nb no nc).1 (ps_nh P N nb no nc).2 o := by
  have hnb := h.1.2
  have hno := h.2.1.2
  refine hw_Mof (by decide) [(0, .ref _)] rfl (Nat.le_of_ble_eq_true rfl) ?_
  intro p e s m args below meth c C hr hlk hnm
  refine hq_aload_n (q := 0) C dX6_nextHour_0 rfl rfl ?_
  refine hq_dup C dX6_nextHour_1 rfl ?_
  refine hq_getP (f := 26) (g := 3) (Nc := 1) (Ns := 38) C fr_X6_194 dX6_nextHour_2 rfl rfl rfl rfl rfl (by decide) Nat.one_pos ?_
  refine hq_iconst (y := 1) C dX6_nextHour_5 (by decide) ?_
  refine hq_iadd C dX6_nextHour_6 ?_
  refine hq_putP (f := 26) (g := 3) (Nc := 1) (Ns := 38) C fl_X6_194 dX6_nextHour_7 rfl rfl rfl rfl rfl (by decide) Nat.one_pos rfl rfl ?_
  refine hq_iconst (y := 0) C dX6_nextHour_10 (by decide) ?_
  refine hq_istore_n (L' := [(1, .int _), (0, .ref _)]) C dX6_nextHour_11 rfl (by decide) rfl ?_
  refine hq_perm [0, 1] (L' := [(1, .int (nI 0)), (0, .ref (hw_ad b0 26 0))]) rfl ?_
  refine lp_back pn_a (fun (k9 : Nat) (σ : MI) => hw_V p l e rX6_nextHour s m args below meth c (MQ below (hw_Q D b0 false 271 none (hw_vl b0 I J (ps_nh P N nb no nc).1 (ps_nh P N nb no nc).2 o)) args s 0 0 (fun q => b0 ≤ q)) D b0 3 false 0 0 271 12 [(1, .int (nI k9)), (0, .ref (hw_ad b0 26 0))] [] (hw_vl b0 I J σ N o)) (fun _ σ => σ 0 0 = nI nb) nb ?_ (fun _ _ _ hs => (na_oth (by decide)).trans hs) nb 0 (uI P 3 0 (P 3 0 + 1)) (by omega) h.1.1 ?_
  · intro k9 σ hi0 hinv0 k0
    refine hq_iload_n (q := 0) C dX6_nextHour_12 rfl rfl ?_
    refine hq_aload_n (q := 1) C dX6_nextHour_13 rfl rfl ?_
    refine hq_getP (f := 26) (g := 0) (Nc := 1) (Ns := 38) C fr_X6_113 dX6_nextHour_14 rfl rfl rfl rfl rfl (by decide) Nat.one_pos ?_
    refine hq_icmp_ge (tgt := 65) C dX6_nextHour_17 (by decide) (fun c_17 => absurd c_17 (by rw [show σ 0 0 = nI nb from hinv0]; exact nI_ge hi0 (by omega))) (fun c_17 => ?_)
    refine hq_aload_n (q := 1) C dX6_nextHour_20 rfl rfl ?_
    refine hq_getR (f := 26) (g := 30) (Nc := 1) (Ns := 38) C fr_X6_20 dX6_nextHour_21 rfl rfl rfl rfl rfl (by decide) Nat.one_pos ?_
    refine hq_iload_n (q := 0) C dX6_nextHour_24 rfl rfl ?_
    refine hq_aload_n (q := 1) C dX6_nextHour_25 rfl rfl ?_
    refine hq_getR (f := 26) (g := 30) (Nc := 1) (Ns := 38) C fr_X6_20 dX6_nextHour_26 rfl rfl rfl rfl rfl (by decide) Nat.one_pos ?_
    refine hq_iload_n (q := 0) C dX6_nextHour_29 rfl rfl ?_
    refine hq_ialdP0 (f := 30) (a := k9) (g := 7) (Nc := 1) (Ns := 12) C dX6_nextHour_30 rfl rfl rfl rfl rfl rfl rfl (by omega) Nat.one_pos ?_
    refine hq_iconst (y := 1) C dX6_nextHour_31 (by decide) ?_
    refine hq_icmp_ne (tgt := 52) C dX6_nextHour_32 (by decide) (fun c_32 => ?_) (fun c_32 => ?_)
    · refine hq_aload_n (q := 1) C dX6_nextHour_52 rfl rfl ?_
      refine hq_getR (f := 26) (g := 30) (Nc := 1) (Ns := 38) C fr_X6_20 dX6_nextHour_53 rfl rfl rfl rfl rfl (by decide) Nat.one_pos ?_
      refine hq_iload_n (q := 0) C dX6_nextHour_56 rfl rfl ?_
      refine hq_ialdP0 (f := 30) (a := k9) (g := 7) (Nc := 1) (Ns := 12) C dX6_nextHour_57 rfl rfl rfl rfl rfl rfl rfl (by omega) Nat.one_pos ?_
      refine hq_iastP0 (f := 30) (a := k9) (g := 7) (Nc := 1) (Ns := 12) C dX6_nextHour_58 rfl rfl rfl rfl rfl rfl rfl (by omega) Nat.one_pos ?_
      refine hq_iinc (q := 0) (y := nI (_ + 1)) (L' := [(1, .int _), (0, .ref _)]) C dX6_nextHour_59 rfl (hw_inc _) (by decide) rfl ?_
      refine hq_goto (tgt := 12) C dX6_nextHour_62 (by decide) ?_
      rw [show pn_a k9 σ = uI σ 7 k9 _ from congrArg (uI σ 7 k9) (if_pos c_32)] at k0
      exact hq_fin [0, 1] rfl rfl rfl rfl rfl rfl k0
    · refine hq_aload_n (q := 1) C dX6_nextHour_35 rfl rfl ?_
      refine hq_getR (f := 26) (g := 31) (Nc := 1) (Ns := 38) C fr_X6_23 dX6_nextHour_36 rfl rfl rfl rfl rfl (by decide) Nat.one_pos ?_
      refine hq_iload_n (q := 0) C dX6_nextHour_39 rfl rfl ?_
      refine hq_ialdP0 (f := 31) (a := k9) (g := 8) (Nc := 1) (Ns := 12) C dX6_nextHour_40 rfl rfl rfl rfl rfl rfl rfl (by omega) Nat.one_pos ?_
      refine hq_aload_n (q := 1) C dX6_nextHour_41 rfl rfl ?_
      refine hq_getP (f := 26) (g := 3) (Nc := 1) (Ns := 38) C fr_X6_194 dX6_nextHour_42 rfl rfl rfl rfl rfl (by decide) Nat.one_pos ?_
      refine hq_icmp_gt (tgt := 52) C dX6_nextHour_45 (by decide) (fun c_45 => ?_) (fun c_45 => ?_)
      · refine hq_aload_n (q := 1) C dX6_nextHour_52 rfl rfl ?_
        refine hq_getR (f := 26) (g := 30) (Nc := 1) (Ns := 38) C fr_X6_20 dX6_nextHour_53 rfl rfl rfl rfl rfl (by decide) Nat.one_pos ?_
        refine hq_iload_n (q := 0) C dX6_nextHour_56 rfl rfl ?_
        refine hq_ialdP0 (f := 30) (a := k9) (g := 7) (Nc := 1) (Ns := 12) C dX6_nextHour_57 rfl rfl rfl rfl rfl rfl rfl (by omega) Nat.one_pos ?_
        refine hq_iastP0 (f := 30) (a := k9) (g := 7) (Nc := 1) (Ns := 12) C dX6_nextHour_58 rfl rfl rfl rfl rfl rfl rfl (by omega) Nat.one_pos ?_
        refine hq_iinc (q := 0) (y := nI (_ + 1)) (L' := [(1, .int _), (0, .ref _)]) C dX6_nextHour_59 rfl (hw_inc _) (by decide) rfl ?_
        refine hq_goto (tgt := 12) C dX6_nextHour_62 (by decide) ?_
        rw [show pn_a k9 σ = uI σ 7 k9 _ from congrArg (uI σ 7 k9) ((if_neg (fun z9 => z9 c_32)).trans (if_pos c_45))] at k0
        exact hq_fin [0, 1] rfl rfl rfl rfl rfl rfl k0
      · refine hq_iconst (y := 0) C dX6_nextHour_48 (by decide) ?_
        refine hq_goto (tgt := 58) C dX6_nextHour_49 (by decide) ?_
        refine hq_iastP0 (f := 30) (a := k9) (g := 7) (Nc := 1) (Ns := 12) C dX6_nextHour_58 rfl rfl rfl rfl rfl rfl rfl (by omega) Nat.one_pos ?_
        refine hq_iinc (q := 0) (y := nI (_ + 1)) (L' := [(1, .int _), (0, .ref _)]) C dX6_nextHour_59 rfl (hw_inc _) (by decide) rfl ?_
        refine hq_goto (tgt := 12) C dX6_nextHour_62 (by decide) ?_
        rw [show pn_a k9 σ = uI σ 7 k9 _ from congrArg (uI σ 7 k9) ((if_neg (fun z9 => z9 c_32)).trans (if_neg c_45))] at k0
        exact hq_fin [0, 1] rfl rfl rfl rfl rfl rfl k0
  · refine hq_iload_n (q := 0) C dX6_nextHour_12 rfl rfl ?_
    refine hq_aload_n (q := 1) C dX6_nextHour_13 rfl rfl ?_
    refine hq_getP (f := 26) (g := 0) (Nc := 1) (Ns := 38) C fr_X6_113 dX6_nextHour_14 rfl rfl rfl rfl rfl (by decide) Nat.one_pos ?_
    refine hq_icmp_ge (tgt := 65) C dX6_nextHour_17 (by decide) (fun c_17 => ?_) (fun c_17 => absurd (by rw [show (lp pn_a nb 0 (uI P 3 0 (P 3 0 + 1))) 0 0 = nI nb from (n1_iv h).1.1]; exact nI_le (Nat.le_refl nb) (by omega)) c_17)
    refine hq_iconst (y := 0) C dX6_nextHour_65 (by decide) ?_
    refine hq_istore_n (L' := [(1, .int _), (0, .ref _)]) C dX6_nextHour_66 rfl (by decide) rfl ?_
    refine hq_perm [0, 1] (L' := [(1, .int (nI 0)), (0, .ref (hw_ad b0 26 0))]) rfl ?_
    refine lp_back pn_b (fun (k9 : Nat) (σ : MI × MJ) => hw_V p l e rX6_nextHour s m args below meth c (MQ below (hw_Q D b0 false 271 none (hw_vl b0 I J (ps_nh P N nb no nc).1 (ps_nh P N nb no nc).2 o)) args s 0 0 (fun q => b0 ≤ q)) D b0 3 false 0 0 271 67 [(1, .int (nI k9)), (0, .ref (hw_ad b0 26 0))] [] (hw_vl b0 I J σ.1 σ.2 o)) (fun _ σ => pv_iv σ.1 nb no nc) no ?_ (fun _ _ hi hs => nb_iv hs hi) no 0 (pn_1 P nb, N) (by omega) (n1_iv h) ?_
    · intro k9 σ hi1 hinv1 k1
      have hk40 : k9 < 40 := by omega
      have hF := hinv1.2.2.2.1 k9 hi1
      refine hq_iload_n (q := 0) C dX6_nextHour_67 rfl rfl ?_
      refine hq_aload_n (q := 1) C dX6_nextHour_68 rfl rfl ?_
      refine hq_getP (f := 26) (g := 1) (Nc := 1) (Ns := 38) C fr_X6_181 dX6_nextHour_69 rfl rfl rfl rfl rfl (by decide) Nat.one_pos ?_
      refine hq_icmp_ge (tgt := 95) C dX6_nextHour_72 (by decide) (fun c_72 => absurd c_72 (by rw [show σ.1 1 0 = nI no from hinv1.2.1.1]; exact nI_ge hi1 (by omega))) (fun c_72 => ?_)
      refine hq_aload_n (q := 1) C dX6_nextHour_75 rfl rfl ?_
      refine hq_getR (f := 26) (g := 37) (Nc := 1) (Ns := 38) C fr_X6_42 dX6_nextHour_76 rfl rfl rfl rfl rfl (by decide) Nat.one_pos ?_
      refine hq_iload_n (q := 0) C dX6_nextHour_79 rfl rfl ?_
      refine hq_ialdP0 (f := 37) (a := k9) (g := 16) (Nc := 1) (Ns := 40) C dX6_nextHour_80 rfl rfl rfl rfl rfl rfl rfl hk40 Nat.one_pos ?_
      refine hq_if_ne (tgt := 89) C dX6_nextHour_81 (by decide) (fun c_81 => ?_) (fun c_81 => ?_)
      · refine hq_iinc (q := 0) (y := nI (_ + 1)) (L' := [(1, .int _), (0, .ref _)]) C dX6_nextHour_89 rfl (hw_inc _) (by decide) rfl ?_
        refine hq_goto (tgt := 67) C dX6_nextHour_92 (by decide) ?_
        rw [show pn_b k9 σ = _ from (if_pos c_81)] at k1
        exact hq_fin [0, 1] rfl rfl rfl rfl rfl rfl k1
      · refine hq_aload_n (q := 1) C dX6_nextHour_84 rfl rfl ?_
        refine hq_iload_n (q := 0) C dX6_nextHour_85 rfl rfl ?_
        refine hq_cVv (As := [.int _]) (rm := rX6_move) (f := 26) (Nc := 1) C (m_X6_move (q := hw_pl σ.1 k9) (n := hw_ln σ.1 k9) hk40 rfl hF.1 hF.2.2.1 (hinv1.2.2.2.2.2 k9 hi1 c_81)) wv_X6_move ml_X6_207 rfl rfl rfl Nat.one_pos rfl rfl rfl rfl ⟨Nat.le_of_ble_eq_true rfl, Nat.le_of_ble_eq_true rfl⟩ (Nat.le_of_ble_eq_true rfl) ⟨Nat.le_of_ble_eq_true rfl, Nat.le_of_ble_eq_true rfl⟩ dX6_nextHour_86 ?_
        refine hq_iinc (q := 0) (y := nI (_ + 1)) (L' := [(1, .int _), (0, .ref _)]) C dX6_nextHour_89 rfl (hw_inc _) (by decide) rfl ?_
        refine hq_goto (tgt := 67) C dX6_nextHour_92 (by decide) ?_
        rw [show pn_b k9 σ = _ from (if_neg (fun z9 => z9 c_81))] at k1
        exact hq_fin [0, 1] rfl rfl rfl rfl rfl rfl k1
    · refine hq_iload_n (q := 0) C dX6_nextHour_67 rfl rfl ?_
      refine hq_aload_n (q := 1) C dX6_nextHour_68 rfl rfl ?_
      refine hq_getP (f := 26) (g := 1) (Nc := 1) (Ns := 38) C fr_X6_181 dX6_nextHour_69 rfl rfl rfl rfl rfl (by decide) Nat.one_pos ?_
      refine hq_icmp_ge (tgt := 95) C dX6_nextHour_72 (by decide) (fun c_72 => ?_) (fun c_72 => absurd (by rw [show ((lp pn_b no 0 (pn_1 P nb, N)).1) 1 0 = nI no from (n2_iv (N := N) h).2.1.1]; exact nI_le (Nat.le_refl no) (by omega)) c_72)
      refine hq_iconst (y := 0) C dX6_nextHour_95 (by decide) ?_
      refine hq_istore_n (L' := [(1, .int _), (0, .ref _)]) C dX6_nextHour_96 rfl (by decide) rfl ?_
      refine hq_perm [0, 1] (L' := [(1, .int (nI 0)), (0, .ref (hw_ad b0 26 0))]) rfl ?_
      refine lp_back pn_c (fun (k9 : Nat) (σ : MI × MJ) => hw_V p l e rX6_nextHour s m args below meth c (MQ below (hw_Q D b0 false 271 none (hw_vl b0 I J (ps_nh P N nb no nc).1 (ps_nh P N nb no nc).2 o)) args s 0 0 (fun q => b0 ≤ q)) D b0 3 false 0 0 271 97 [(1, .int (nI k9)), (0, .ref (hw_ad b0 26 0))] [] (hw_vl b0 I J σ.1 σ.2 o)) (fun _ σ => pv_iv σ.1 nb no nc) no ?_ (fun _ _ _ hs => nc_iv hs) no 0 (pn_2 P N nb no) (by omega) (n2_iv h) ?_
      · intro k9 σ hi2 hinv2 k2
        have hk40 : k9 < 40 := by omega
        have hF := hinv2.2.2.2.1 k9 hi2
        refine hq_iload_n (q := 0) C dX6_nextHour_97 rfl rfl ?_
        refine hq_aload_n (q := 1) C dX6_nextHour_98 rfl rfl ?_
        refine hq_getP (f := 26) (g := 1) (Nc := 1) (Ns := 38) C fr_X6_181 dX6_nextHour_99 rfl rfl rfl rfl rfl (by decide) Nat.one_pos ?_
        refine hq_icmp_ge (tgt := 143) C dX6_nextHour_102 (by decide) (fun c_102 => absurd c_102 (by rw [show σ.1 1 0 = nI no from hinv2.2.1.1]; exact nI_ge hi2 (by omega))) (fun c_102 => ?_)
        refine hq_aload_n (q := 1) C dX6_nextHour_105 rfl rfl ?_
        refine hq_getR (f := 26) (g := 37) (Nc := 1) (Ns := 38) C fr_X6_42 dX6_nextHour_106 rfl rfl rfl rfl rfl (by decide) Nat.one_pos ?_
        refine hq_iload_n (q := 0) C dX6_nextHour_109 rfl rfl ?_
        refine hq_ialdP0 (f := 37) (a := k9) (g := 16) (Nc := 1) (Ns := 40) C dX6_nextHour_110 rfl rfl rfl rfl rfl rfl rfl hk40 Nat.one_pos ?_
        refine hq_iconst (y := 1) C dX6_nextHour_111 (by decide) ?_
        refine hq_icmp_gt (tgt := 137) C dX6_nextHour_112 (by decide) (fun c_112 => ?_) (fun c_112 => ?_)
        · refine hq_iinc (q := 0) (y := nI (_ + 1)) (L' := [(1, .int _), (0, .ref _)]) C dX6_nextHour_137 rfl (hw_inc _) (by decide) rfl ?_
          refine hq_goto (tgt := 97) C dX6_nextHour_140 (by decide) ?_
          rw [show pn_c k9 σ = _ from (if_pos c_112)] at k2
          exact hq_fin [0, 1] rfl rfl rfl rfl rfl rfl k2
        · refine hq_aload_n (q := 1) C dX6_nextHour_115 rfl rfl ?_
          refine hq_getP (f := 26) (g := 3) (Nc := 1) (Ns := 38) C fr_X6_194 dX6_nextHour_116 rfl rfl rfl rfl rfl (by decide) Nat.one_pos ?_
          refine hq_aload_n (q := 1) C dX6_nextHour_119 rfl rfl ?_
          refine hq_getR (f := 26) (g := 42) (Nc := 1) (Ns := 38) C fr_X6_57 dX6_nextHour_120 rfl rfl rfl rfl rfl (by decide) Nat.one_pos ?_
          refine hq_iload_n (q := 0) C dX6_nextHour_123 rfl rfl ?_
          refine hq_ialdP0 (f := 42) (a := k9) (g := 15) (Nc := 1) (Ns := 40) C dX6_nextHour_124 rfl rfl rfl rfl rfl rfl rfl hk40 Nat.one_pos ?_
          refine hq_isub C dX6_nextHour_125 ?_
          refine hq_sipush (y := 240) C dX6_nextHour_126 (by decide) ?_
          refine hq_icmp_lt (tgt := 137) C dX6_nextHour_129 (by decide) (fun c_129 => ?_) (fun c_129 => ?_)
          · refine hq_iinc (q := 0) (y := nI (_ + 1)) (L' := [(1, .int _), (0, .ref _)]) C dX6_nextHour_137 rfl (hw_inc _) (by decide) rfl ?_
            refine hq_goto (tgt := 97) C dX6_nextHour_140 (by decide) ?_
            rw [show pn_c k9 σ = _ from ((if_neg c_112).trans (if_pos c_129))] at k2
            exact hq_fin [0, 1] rfl rfl rfl rfl rfl rfl k2
          · refine hq_aload_n (q := 1) C dX6_nextHour_132 rfl rfl ?_
            refine hq_iload_n (q := 0) C dX6_nextHour_133 rfl rfl ?_
            refine hq_cVv (As := [.int _]) (rm := rX6_goBack) (f := 26) (Nc := 1) C (m_X6_goBack (n := hw_ln σ.1 k9) hk40 hF.1 rfl) wv_X6_goBack ml_X6_177 rfl rfl rfl Nat.one_pos rfl rfl rfl rfl ⟨Nat.le_of_ble_eq_true rfl, Nat.le_of_ble_eq_true rfl⟩ (Nat.le_of_ble_eq_true rfl) ⟨Nat.le_of_ble_eq_true rfl, Nat.le_of_ble_eq_true rfl⟩ dX6_nextHour_134 ?_
            refine hq_iinc (q := 0) (y := nI (_ + 1)) (L' := [(1, .int _), (0, .ref _)]) C dX6_nextHour_137 rfl (hw_inc _) (by decide) rfl ?_
            refine hq_goto (tgt := 97) C dX6_nextHour_140 (by decide) ?_
            rw [show pn_c k9 σ = _ from ((if_neg c_112).trans (if_neg c_129))] at k2
            exact hq_fin [0, 1] rfl rfl rfl rfl rfl rfl k2
      · refine hq_iload_n (q := 0) C dX6_nextHour_97 rfl rfl ?_
        refine hq_aload_n (q := 1) C dX6_nextHour_98 rfl rfl ?_
        refine hq_getP (f := 26) (g := 1) (Nc := 1) (Ns := 38) C fr_X6_181 dX6_nextHour_99 rfl rfl rfl rfl rfl (by decide) Nat.one_pos ?_
        refine hq_icmp_ge (tgt := 143) C dX6_nextHour_102 (by decide) (fun c_102 => ?_) (fun c_102 => absurd (by rw [show ((lp pn_c no 0 (pn_2 P N nb no)).1) 1 0 = nI no from (n3_iv (N := N) h).2.1.1]; exact nI_le (Nat.le_refl no) (by omega)) c_102)
        refine hq_iconst (y := 0) C dX6_nextHour_143 (by decide) ?_
        refine hq_istore_n (L' := [(1, .int _), (0, .ref _)]) C dX6_nextHour_144 rfl (by decide) rfl ?_
        refine hq_perm [0, 1] (L' := [(1, .int (nI 0)), (0, .ref (hw_ad b0 26 0))]) rfl ?_
        refine lp_back pn_d (fun (k9 : Nat) (σ : MI × MJ) => hw_V p l e rX6_nextHour s m args below meth c (MQ below (hw_Q D b0 false 271 none (hw_vl b0 I J (ps_nh P N nb no nc).1 (ps_nh P N nb no nc).2 o)) args s 0 0 (fun q => b0 ≤ q)) D b0 3 false 0 0 271 145 [(1, .int (nI k9)), (0, .ref (hw_ad b0 26 0))] [] (hw_vl b0 I J σ.1 σ.2 o)) (fun _ σ => pv_iv σ.1 nb no nc) no ?_ (fun _ _ _ hs => nd_iv hs) no 0 (pn_3 P N nb no) (by omega) (n3_iv h) ?_
        · intro k9 σ hi3 hinv3 k3
          have hk40 : k9 < 40 := by omega
          have hF := (hinv3.2.2.2.1 k9 hi3).first
          have hFb := hF.b
          refine hq_iload_n (q := 0) C dX6_nextHour_145 rfl rfl ?_
          refine hq_aload_n (q := 1) C dX6_nextHour_146 rfl rfl ?_
          refine hq_getP (f := 26) (g := 1) (Nc := 1) (Ns := 38) C fr_X6_181 dX6_nextHour_147 rfl rfl rfl rfl rfl (by decide) Nat.one_pos ?_
          refine hq_icmp_ge (tgt := 240) C dX6_nextHour_150 (by decide) (fun c_150 => absurd c_150 (by rw [show σ.1 1 0 = nI no from hinv3.2.1.1]; exact nI_ge hi3 (by omega))) (fun c_150 => ?_)
          refine hq_aload_n (q := 1) C dX6_nextHour_153 rfl rfl ?_
          refine hq_iload_n (q := 0) C dX6_nextHour_154 rfl rfl ?_
          refine hq_cVr (As := [.int _]) (rm := rX6_firstOf) (f := 26) (Nc := 1) C (m_X6_firstOf rfl hk40) wv_X6_firstOf ml_X6_166 rfl rfl rfl Nat.one_pos rfl rfl rfl rfl ⟨Nat.le_of_ble_eq_true rfl, Nat.le_of_ble_eq_true rfl⟩ (Nat.le_of_ble_eq_true rfl) ⟨Nat.le_of_ble_eq_true rfl, Nat.le_of_ble_eq_true rfl⟩ dX6_nextHour_155 ?_
          refine hq_istore_n (L' := [(2, .int _), (1, .int _), (0, .ref _)]) C dX6_nextHour_158 rfl (by decide) rfl ?_
          refine hq_aload_n (q := 2) C dX6_nextHour_159 rfl rfl ?_
          refine hq_getR (f := 26) (g := 37) (Nc := 1) (Ns := 38) C fr_X6_42 dX6_nextHour_160 rfl rfl rfl rfl rfl (by decide) Nat.one_pos ?_
          refine hq_iload_n (q := 1) C dX6_nextHour_163 rfl rfl ?_
          refine hq_ialdP0 (f := 37) (a := k9) (g := 16) (Nc := 1) (Ns := 40) C dX6_nextHour_164 rfl rfl rfl rfl rfl rfl rfl hk40 Nat.one_pos ?_
          refine hq_iconst (y := 3) C dX6_nextHour_165 (by decide) ?_
          refine hq_icmp_ne (tgt := 234) C dX6_nextHour_166 (by decide) (fun c_166 => ?_) (fun c_166 => ?_)
          · refine hq_iinc (q := 1) (y := nI (_ + 1)) (L' := [(1, .int _), (2, .int _), (0, .ref _)]) C dX6_nextHour_234 rfl (hw_inc _) (by decide) rfl ?_
            refine hq_goto (tgt := 145) C dX6_nextHour_237 (by decide) ?_
            rw [show pn_d k9 σ = _ from (if_pos c_166)] at k3
            exact hq_fin [0, 2] rfl rfl rfl rfl rfl rfl k3
          · refine hq_aload_n (q := 2) C dX6_nextHour_169 rfl rfl ?_
            refine hq_getR (f := 26) (g := 30) (Nc := 1) (Ns := 38) C fr_X6_20 dX6_nextHour_170 rfl rfl rfl rfl rfl (by decide) Nat.one_pos ?_
            refine hq_iload_n (q := 0) C dX6_nextHour_173 rfl rfl ?_
            refine hq_ialdP0 (f := 30) (a := tn (σ.1 20 (12 * k9 + 0))) (g := 7) (Nc := 1) (Ns := 12) C dX6_nextHour_174 rfl rfl rfl rfl rfl rfl hF.x hFb Nat.one_pos ?_
            refine hq_if_ne (tgt := 234) C dX6_nextHour_175 (by decide) (fun c_175 => ?_) (fun c_175 => ?_)
            · refine hq_iinc (q := 1) (y := nI (_ + 1)) (L' := [(1, .int _), (2, .int _), (0, .ref _)]) C dX6_nextHour_234 rfl (hw_inc _) (by decide) rfl ?_
              refine hq_goto (tgt := 145) C dX6_nextHour_237 (by decide) ?_
              rw [show pn_d k9 σ = _ from ((if_neg (fun z9 => z9 c_166)).trans (if_pos c_175))] at k3
              exact hq_fin [0, 2] rfl rfl rfl rfl rfl rfl k3
            · refine hq_aload_n (q := 2) C dX6_nextHour_178 rfl rfl ?_
              refine hq_getR (f := 26) (g := 28) (Nc := 1) (Ns := 38) C fr_X6_13 dX6_nextHour_179 rfl rfl rfl rfl rfl (by decide) Nat.one_pos ?_
              refine hq_iload_n (q := 0) C dX6_nextHour_182 rfl rfl ?_
              refine hq_laldN0 (f := 28) (a := tn (σ.1 20 (12 * k9 + 0))) (g := 0) (Nc := 1) (Ns := 12) C dX6_nextHour_183 rfl rfl rfl rfl rfl rfl hF.x hFb Nat.one_pos ?_
              refine hq_aload_n (q := 2) C dX6_nextHour_184 rfl rfl ?_
              refine hq_getR (f := 26) (g := 39) (Nc := 1) (Ns := 38) C fr_X6_48 dX6_nextHour_185 rfl rfl rfl rfl rfl (by decide) Nat.one_pos ?_
              refine hq_iload_n (q := 1) C dX6_nextHour_188 rfl rfl ?_
              refine hq_ialdP0 (f := 39) (a := k9) (g := 14) (Nc := 1) (Ns := 40) C dX6_nextHour_189 rfl rfl rfl rfl rfl rfl rfl hk40 Nat.one_pos ?_
              refine hq_i2l C dX6_nextHour_190 ?_
              refine hq_lcmp C dX6_nextHour_191 ?_
              refine hq_if_lt (tgt := 234) C dX6_nextHour_192 (by decide) (fun c_192 => ?_) (fun c_192 => ?_)
              · refine hq_iinc (q := 1) (y := nI (_ + 1)) (L' := [(1, .int _), (2, .int _), (0, .ref _)]) C dX6_nextHour_234 rfl (hw_inc _) (by decide) rfl ?_
                refine hq_goto (tgt := 145) C dX6_nextHour_237 (by decide) ?_
                rw [show pn_d k9 σ = _ from (((if_neg (fun z9 => z9 c_166)).trans (if_neg (fun z9 => z9 c_175))).trans (if_pos c_192))] at k3
                exact hq_fin [0, 2] rfl rfl rfl rfl rfl rfl k3
              · refine hq_aload_n (q := 2) C dX6_nextHour_195 rfl rfl ?_
                refine hq_getR (f := 26) (g := 28) (Nc := 1) (Ns := 38) C fr_X6_13 dX6_nextHour_196 rfl rfl rfl rfl rfl (by decide) Nat.one_pos ?_
                refine hq_iload_n (q := 0) C dX6_nextHour_199 rfl rfl ?_
                refine hq_dup2 C dX6_nextHour_200 rfl rfl ?_
                refine hq_laldN0 (f := 28) (a := tn (σ.1 20 (12 * k9 + 0))) (g := 0) (Nc := 1) (Ns := 12) C dX6_nextHour_201 rfl rfl rfl rfl rfl rfl hF.x hFb Nat.one_pos ?_
                refine hq_aload_n (q := 2) C dX6_nextHour_202 rfl rfl ?_
                refine hq_getR (f := 26) (g := 39) (Nc := 1) (Ns := 38) C fr_X6_48 dX6_nextHour_203 rfl rfl rfl rfl rfl (by decide) Nat.one_pos ?_
                refine hq_iload_n (q := 1) C dX6_nextHour_206 rfl rfl ?_
                refine hq_ialdP0 (f := 39) (a := k9) (g := 14) (Nc := 1) (Ns := 40) C dX6_nextHour_207 rfl rfl rfl rfl rfl rfl rfl hk40 Nat.one_pos ?_
                refine hq_i2l C dX6_nextHour_208 ?_
                refine hq_lsub C dX6_nextHour_209 ?_
                refine hq_lastN0 (f := 28) (a := tn (σ.1 20 (12 * k9 + 0))) (g := 0) (Nc := 1) (Ns := 12) C dX6_nextHour_210 rfl rfl rfl rfl rfl rfl hF.x hFb Nat.one_pos ?_
                refine hq_aload_n (q := 2) C dX6_nextHour_211 rfl rfl ?_
                refine hq_getR (f := 26) (g := 55) (Nc := 1) (Ns := 38) C fr_X6_97 dX6_nextHour_212 rfl rfl rfl rfl rfl (by decide) Nat.one_pos ?_
                refine hq_iconst (y := 2) C dX6_nextHour_215 (by decide) ?_
                refine hq_dup2 C dX6_nextHour_216 rfl rfl ?_
                refine hq_laldN0 (f := 55) (a := 2) (g := 4) (Nc := 1) (Ns := 5) C dX6_nextHour_217 rfl rfl rfl rfl rfl rfl rfl (by decide) Nat.one_pos ?_
                refine hq_aload_n (q := 2) C dX6_nextHour_218 rfl rfl ?_
                refine hq_getR (f := 26) (g := 39) (Nc := 1) (Ns := 38) C fr_X6_48 dX6_nextHour_219 rfl rfl rfl rfl rfl (by decide) Nat.one_pos ?_
                refine hq_iload_n (q := 1) C dX6_nextHour_222 rfl rfl ?_
                refine hq_ialdP0 (f := 39) (a := k9) (g := 14) (Nc := 1) (Ns := 40) C dX6_nextHour_223 rfl rfl rfl rfl rfl rfl rfl hk40 Nat.one_pos ?_
                refine hq_i2l C dX6_nextHour_224 ?_
                refine hq_ladd C dX6_nextHour_225 ?_
                refine hq_lastN0 (f := 55) (a := 2) (g := 4) (Nc := 1) (Ns := 5) C dX6_nextHour_226 rfl rfl rfl rfl rfl rfl rfl (by decide) Nat.one_pos ?_
                refine hq_aload_n (q := 2) C dX6_nextHour_227 rfl rfl ?_
                refine hq_getR (f := 26) (g := 37) (Nc := 1) (Ns := 38) C fr_X6_42 dX6_nextHour_228 rfl rfl rfl rfl rfl (by decide) Nat.one_pos ?_
                refine hq_iload_n (q := 1) C dX6_nextHour_231 rfl rfl ?_
                refine hq_iconst (y := 4) C dX6_nextHour_232 (by decide) ?_
                refine hq_iastP0 (f := 37) (a := k9) (g := 16) (Nc := 1) (Ns := 40) C dX6_nextHour_233 rfl rfl rfl rfl rfl rfl rfl hk40 Nat.one_pos ?_
                refine hq_iinc (q := 1) (y := nI (_ + 1)) (L' := [(1, .int _), (2, .int _), (0, .ref _)]) C dX6_nextHour_234 rfl (hw_inc _) (by decide) rfl ?_
                refine hq_goto (tgt := 145) C dX6_nextHour_237 (by decide) ?_
                rw [show pn_d k9 σ = _ from (((if_neg (fun z9 => z9 c_166)).trans (if_neg (fun z9 => z9 c_175))).trans (if_neg c_192))] at k3
                exact hq_fin [0, 2] rfl rfl rfl rfl rfl rfl k3
        · refine hq_iload_n (q := 0) C dX6_nextHour_145 rfl rfl ?_
          refine hq_aload_n (q := 1) C dX6_nextHour_146 rfl rfl ?_
          refine hq_getP (f := 26) (g := 1) (Nc := 1) (Ns := 38) C fr_X6_181 dX6_nextHour_147 rfl rfl rfl rfl rfl (by decide) Nat.one_pos ?_
          refine hq_icmp_ge (tgt := 240) C dX6_nextHour_150 (by decide) (fun c_150 => ?_) (fun c_150 => absurd (by rw [show ((lp pn_d no 0 (pn_3 P N nb no)).1) 1 0 = nI no from (n4_iv (N := N) h).2.1.1]; exact nI_le (Nat.le_refl no) (by omega)) c_150)
          refine hq_aload_n (q := 1) C dX6_nextHour_240 rfl rfl ?_
          refine hq_cVv (As := []) (rm := rX6_comeAll) (f := 26) (Nc := 1) C (m_X6_comeAll (nc := nc) (n4_iv (N := N) h).2.2.1.1 (n4_iv (N := N) h).2.2.1.2 (n4_iv (N := N) h).2.2.2.2.1) wv_X6_comeAll ml_X6_210 rfl rfl rfl Nat.one_pos rfl rfl rfl rfl ⟨Nat.le_of_ble_eq_true rfl, Nat.le_of_ble_eq_true rfl⟩ (Nat.le_of_ble_eq_true rfl) ⟨Nat.le_of_ble_eq_true rfl, Nat.le_of_ble_eq_true rfl⟩ dX6_nextHour_241 ?_
          exact hq_vret C hr hlk dX6_nextHour_244 rfl
