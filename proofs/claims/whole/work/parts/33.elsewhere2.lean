/-! the model: going elsewhere -/
def pf_mk (P : MI) (i k : Nat) (x : Int32) : Int32 := x ||| ((1 : Int32) <<< (P 20 (12 * i + k) &&& 31))
def pg_mk (P : MI) (i : Nat) : Int32 := lp (pf_mk P i) (hw_pl P i) 0 0
def pg_N (P : MI) (N : MJ) (i : Nat) : MJ := lp (pf_tb P i) (hw_ln P i - hw_pl P i) (hw_pl P i) N
def pg_W (P : MI) (N : MJ) (i nb : Nat) : MI × MJ := ps_fws P (pg_N P N i) (P 20 (12 * i + hw_ln P i)) (P 12 i) (pg_mk P i) nb
def pg_bk (P : MI) (N : MJ) (i q : Nat) : MI × MJ := (uI (sp_ef (uI P 19 i (nI (q + 1))) i) 19 i (P 19 i), lp (pf_tb (uI P 19 i (nI (q + 1))) i) (q - 0) 0 N)
def pf_pp (P : MI) (N : MJ) (a : Nat) (am : Int32) (nb : Nat) : Nat → Nat
  | 0 => a
  | k + 1 => tn (pf_nx P N (pf_pp P N a am nb k) am nb)
def pg_n (P : MI) (N : MJ) (i nb : Nat) : Nat := tn ((pg_W P N i nb).1 42 (hw_at P i (hw_pl P i))) - 1
def pg_p (P : MI) (N : MJ) (i nb : Nat) : Nat → Nat := pf_pp (pg_W P N i nb).1 (pg_W P N i nb).2 (hw_at P i (hw_pl P i)) (P 12 i) nb
def pg_K (P : MI) (N : MJ) (i nb : Nat) : MI := uI (lp (pf_fd (pg_p P N i nb)) (pg_n P N i nb) 0 (pg_W P N i nb).1) 43 (pg_n P N i nb) (P 20 (12 * i + hw_ln P i))
def pg_go (P : MI) (N : MJ) (i nb : Nat) : MI × MJ :=
  if 0 ≤ lg_cmp ((pg_W P N i nb).2 5 (hw_at P i (hw_pl P i))) 1000000000000 then pg_bk (pg_W P N i nb).1 (pg_W P N i nb).2 i (hw_pl P i)
  else if 0 < lg_cmp ((pg_W P N i nb).2 5 (tn (pg_K P N i nb 43 1))) (P 21 (12 * i + hw_pl P i) - P 12 i).toInt64 then pg_bk (pg_K P N i nb) (pg_W P N i nb).2 i (hw_pl P i)
  else ps_lay (pg_K P N i nb) (pg_W P N i nb).2 i (hw_pl P i) (pg_n P N i nb)
/-- what another way asks for, where there is one -/
def pg_way (P : MI) (N : MJ) (i nb : Nat) : Prop := lg_cmp ((pg_W P N i nb).2 5 (hw_at P i (hw_pl P i))) 1000000000000 < 0 ∧ 1 ≤ pg_n P N i nb ∧ hw_pl P i + pg_n P N i nb < 12 ∧ pg_p P N i nb (pg_n P N i nb) = hw_at P i (hw_ln P i) ∧ ∀ k, k < pg_n P N i nb → pg_p P N i nb k < 12 ∧ pg_p P N i nb k ≠ hw_at P i (hw_ln P i) ∧ pf_nx (pg_W P N i nb).1 (pg_W P N i nb).2 (pg_p P N i nb k) (P 12 i) nb = nI (pg_p P N i nb (k + 1))
def pg_fit (P : MI) (N : MJ) (i nb : Nat) : Prop := P 0 0 = nI nb ∧ nb ≤ 12 ∧ hw_or P i ∧ (0 ≤ lg_cmp ((pg_W P N i nb).2 5 (hw_at P i (hw_pl P i))) 1000000000000 ∨ pg_way P N i nb)
theorem u43 (P : MI) (n : Nat) (v : Int32) {g j : Nat} (h : ¬ (g = 43 ∧ j = n)) : uI P 43 n v g j = P g j := if_neg h
theorem fd_oth {p : Nat → Nat} {P : MI} (n : Nat) {g j : Nat} (h : ¬ (g = 43 ∧ j < n)) : lp (pf_fd p) n 0 P g j = P g j := lp_inv (pf_fd p) (fun _ σ => σ g j = P g j) n (fun k σ hk hs => by
  have : pf_fd p k σ g j = σ g j := u43 _ _ _ (by omega)
  exact this.trans hs) n 0 P (by omega) rfl
theorem fd_at {p : Nat → Nat} {P : MI} {k : Nat} (n : Nat) (h : k < n) : lp (pf_fd p) n 0 P 43 k = nI (p k) := by
  have key := lp_inv (pf_fd p) (fun j σ => ∀ k, k < j → σ 43 k = nI (p k)) n (fun j σ hj hs k hk => by
    by_cases e : k = j
    · subst e; exact if_pos ⟨rfl, rfl⟩
    · have : pf_fd p j σ 43 k = σ 43 k := u43 _ _ _ (by omega)
      exact this.trans (hs k (by omega))) n 0 P (by omega) (fun k hk => absurd hk (Nat.not_lt_zero k))
  exact key k h
theorem pg_K_oth {P : MI} {N : MJ} {i nb g j : Nat} (h : g ≠ 43) (h2 : g ≠ 42) : pg_K P N i nb g j = P g j := by
  unfold pg_K
  rw [u43 _ _ _ (fun z => h z.1), fd_oth _ (fun z => h z.1)]
  exact fws_oth h2
theorem pg_K_at {P : MI} {N : MJ} {i nb k : Nat} (hor : hw_or P i) (hw : pg_way P N i nb) (hk : k ≤ pg_n P N i nb) : pg_K P N i nb 43 k = nI (pg_p P N i nb k) := by
  unfold pg_K
  by_cases e : k = pg_n P N i nb
  · rw [e, show ∀ (X : MI) (n : Nat) (v : Int32), uI X 43 n v 43 n = v from fun X n v => if_pos ⟨rfl, rfl⟩, hw.2.2.2.1]
    exact (hor.1.2.2 _ (Nat.le_refl _)).x
  · rw [u43 _ _ _ (fun z => e z.2)]
    exact fd_at _ (by omega)
theorem pg_p_lt {P : MI} {N : MJ} {i nb k : Nat} (hor : hw_or P i) (hw : pg_way P N i nb) (hk : k ≤ pg_n P N i nb) : pg_p P N i nb k < 12 := by
  by_cases e : k = pg_n P N i nb
  · rw [e, hw.2.2.2.1]; exact (hor.1.2.2 _ (Nat.le_refl _)).b
  · exact (hw.2.2.2.2 k (by omega)).1
theorem pg_a {P : MI} {N : MJ} {i nb : Nat} (h : 0 ≤ lg_cmp ((pg_W P N i nb).2 5 (hw_at P i (hw_pl P i))) 1000000000000) : pg_go P N i nb = pg_bk (pg_W P N i nb).1 (pg_W P N i nb).2 i (hw_pl P i) := if_pos h
theorem pg_b {P : MI} {N : MJ} {i nb : Nat} (h : ¬ 0 ≤ lg_cmp ((pg_W P N i nb).2 5 (hw_at P i (hw_pl P i))) 1000000000000) (h2 : 0 < lg_cmp ((pg_W P N i nb).2 5 (tn (pg_K P N i nb 43 1))) (P 21 (12 * i + hw_pl P i) - P 12 i).toInt64) : pg_go P N i nb = pg_bk (pg_K P N i nb) (pg_W P N i nb).2 i (hw_pl P i) := by unfold pg_go; rw [if_neg h, if_pos h2]
theorem pg_c {P : MI} {N : MJ} {i nb : Nat} (h : ¬ 0 ≤ lg_cmp ((pg_W P N i nb).2 5 (hw_at P i (hw_pl P i))) 1000000000000) (h2 : ¬ 0 < lg_cmp ((pg_W P N i nb).2 5 (tn (pg_K P N i nb 43 1))) (P 21 (12 * i + hw_pl P i) - P 12 i).toInt64) : pg_go P N i nb = ps_lay (pg_K P N i nb) (pg_W P N i nb).2 i (hw_pl P i) (pg_n P N i nb) := by unfold pg_go; rw [if_neg h, if_neg h2]
set_option maxHeartbeats 4000000 in
set_option maxRecDepth 100000 in
theorem m_X6_goElsewhere_a {l : Launch} {D : va_G} {b0 : Nat} {I : MI} {J : MJ} {P : MI} {N : MJ} {o : Int64} {i nb : Nat} {x : Int32} (hi : i < 40) (hx : x = nI i) (hf : pg_fit P N i nb) (hno : 0 ≤ lg_cmp ((pg_W P N i nb).2 5 (hw_at P i (hw_pl P i))) 1000000000000) : hM l yX6_goElsewhere cX6_goElsewhere 10 none rX6_goElsewhere D b0 [.ref (hw_ad b0 26 0), .int x] I J P N o none I J (pg_go P N i nb).1 (pg_go P N i nb).2 o := by
  obtain ⟨hwy, h1, hpl, hle⟩ := id hf.2.2.1
  have hor := hf.2.2.1
  have hn12 := hwy.1
  refine hw_Mof (by decide) [(0, .ref _), (1, .int _)] rfl (Nat.le_of_ble_eq_true rfl) ?_
  intro p e s m args below meth c C hr hlk hnm
  refine hq_aload_n (q := 0) C dX6_goElsewhere_0 rfl rfl ?_
  refine hq_getR (f := 26) (g := 43) (Nc := 1) (Ns := 38) C fr_X6_60 dX6_goElsewhere_1 rfl rfl rfl rfl rfl (by decide) Nat.one_pos ?_
  refine hq_iload_n (q := 1) C dX6_goElsewhere_4 rfl rfl ?_
  refine hq_ialdP0 (f := 43) (a := i) (g := 17) (Nc := 1) (Ns := 40) C dX6_goElsewhere_5 rfl rfl rfl rfl rfl rfl hx hi Nat.one_pos ?_
  refine hq_istore_n (L' := [(2, .int _), (0, .ref _), (1, .int _)]) C dX6_goElsewhere_6 rfl (by decide) rfl ?_
  refine hq_aload_n (q := 1) C dX6_goElsewhere_7 rfl rfl ?_
  refine hq_getR (f := 26) (g := 45) (Nc := 1) (Ns := 38) C fr_X6_66 dX6_goElsewhere_8 rfl rfl rfl rfl rfl (by decide) Nat.one_pos ?_
  refine hq_bipush (y := 12) C dX6_goElsewhere_11 (by decide) ?_
  refine hq_iload_n (q := 2) C dX6_goElsewhere_13 rfl rfl ?_
  refine hq_imul C dX6_goElsewhere_14 ?_
  refine hq_iload_n (q := 0) C dX6_goElsewhere_15 rfl rfl ?_
  refine hq_iadd C dX6_goElsewhere_16 ?_
  refine hq_ialdP0 (f := 45) (a := 12 * i + hw_pl P i) (g := 20) (Nc := 1) (Ns := 480) C dX6_goElsewhere_17 rfl rfl rfl rfl rfl rfl (ix12 hx hpl) (by omega) Nat.one_pos ?_
  refine hq_istore_n (L' := [(3, .int _), (2, .int _), (0, .ref _), (1, .int _)]) C dX6_goElsewhere_18 rfl (by decide) rfl ?_
  refine hq_aload_n (q := 2) C dX6_goElsewhere_19 rfl rfl ?_
  refine hq_getR (f := 26) (g := 45) (Nc := 1) (Ns := 38) C fr_X6_66 dX6_goElsewhere_20 rfl rfl rfl rfl rfl (by decide) Nat.one_pos ?_
  refine hq_bipush (y := 12) C dX6_goElsewhere_23 (by decide) ?_
  refine hq_iload_n (q := 3) C dX6_goElsewhere_25 rfl rfl ?_
  refine hq_imul C dX6_goElsewhere_26 ?_
  refine hq_aload_n (q := 2) C dX6_goElsewhere_27 rfl rfl ?_
  refine hq_getR (f := 26) (g := 44) (Nc := 1) (Ns := 38) C fr_X6_63 dX6_goElsewhere_28 rfl rfl rfl rfl rfl (by decide) Nat.one_pos ?_
  refine hq_iload_n (q := 3) C dX6_goElsewhere_31 rfl rfl ?_
  refine hq_ialdP0 (f := 44) (a := i) (g := 19) (Nc := 1) (Ns := 40) C dX6_goElsewhere_32 rfl rfl rfl rfl rfl rfl hx hi Nat.one_pos ?_
  refine hq_iadd C dX6_goElsewhere_33 ?_
  refine hq_iconst (y := 1) C dX6_goElsewhere_34 (by decide) ?_
  refine hq_isub C dX6_goElsewhere_35 ?_
  refine hq_ialdP0 (f := 45) (a := 12 * i + hw_ln P i) (g := 20) (Nc := 1) (Ns := 480) C dX6_goElsewhere_36 rfl rfl rfl rfl rfl rfl (by rw [ix12 hx hwy.2.1]; exact nI_pred _) (by omega) Nat.one_pos ?_
  refine hq_istore (L' := [(4, .int _), (3, .int _), (2, .int _), (0, .ref _), (1, .int _)]) C dX6_goElsewhere_37 (by decide) rfl ?_
  refine hq_iconst (y := 0) C dX6_goElsewhere_39 (by decide) ?_
  refine hq_istore (L' := [(5, .int _), (4, .int _), (3, .int _), (2, .int _), (0, .ref _), (1, .int _)]) C dX6_goElsewhere_40 (by decide) rfl ?_
  refine hq_iconst (y := 0) C dX6_goElsewhere_42 (by decide) ?_
  refine hq_istore (L' := [(6, .int _), (5, .int _), (4, .int _), (3, .int _), (2, .int _), (0, .ref _), (1, .int _)]) C dX6_goElsewhere_43 (by decide) rfl ?_
  refine hq_perm [0, 1, 2, 3, 4, 5, 6] (L' := [(6, .int (nI 0)), (5, .int 0), (4, .int (P 20 (12 * i + hw_ln P i))), (3, .int (P 20 (12 * i + hw_pl P i))), (2, .int (P 17 i)), (0, .ref (hw_ad b0 26 0)), (1, .int x)]) rfl ?_
  refine lp_back (pf_mk P i) (fun (k9 : Nat) (σ : Int32) => hw_V p l e rX6_goElsewhere s m args below meth c (MQ below (hw_Q D b0 false 271 none (hw_vl b0 I J (pg_go P N i nb).1 (pg_go P N i nb).2 o)) args s 0 0 (fun q => b0 ≤ q)) D b0 10 false 0 0 271 45 [(6, .int (nI k9)), (5, .int σ), (4, .int (P 20 (12 * i + hw_ln P i))), (3, .int (P 20 (12 * i + hw_pl P i))), (2, .int (P 17 i)), (0, .ref (hw_ad b0 26 0)), (1, .int x)] [] (hw_vl b0 I J P N o)) (fun _ _ => True) (hw_pl P i) ?_ (fun _ _ _ _ => trivial) (hw_pl P i) 0 0 (by omega) trivial ?_
  · intro k9 σ hi0 hinv0 k0
    have hi9 := hi0
    refine hq_iload (q := 0) C dX6_goElsewhere_45 rfl ?_
    refine hq_iload_n (q := 4) C dX6_goElsewhere_47 rfl rfl ?_
    refine hq_icmp_ge (tgt := 76) C dX6_goElsewhere_48 (by decide) (fun c_48 => absurd c_48 (by rw [hpl]; exact nI_ge hi9 (by omega))) (fun c_48 => ?_)
    refine hq_iload (q := 1) C dX6_goElsewhere_51 rfl ?_
    refine hq_iconst (y := 1) C dX6_goElsewhere_53 (by decide) ?_
    refine hq_aload_n (q := 5) C dX6_goElsewhere_54 rfl rfl ?_
    refine hq_getR (f := 26) (g := 45) (Nc := 1) (Ns := 38) C fr_X6_66 dX6_goElsewhere_55 rfl rfl rfl rfl rfl (by decide) Nat.one_pos ?_
    refine hq_bipush (y := 12) C dX6_goElsewhere_58 (by decide) ?_
    refine hq_iload_n (q := 6) C dX6_goElsewhere_60 rfl rfl ?_
    refine hq_imul C dX6_goElsewhere_61 ?_
    refine hq_iload (q := 0) C dX6_goElsewhere_62 rfl ?_
    refine hq_iadd C dX6_goElsewhere_64 ?_
    refine hq_ialdP0 (f := 45) (a := 12 * i + k9) (g := 20) (Nc := 1) (Ns := 480) C dX6_goElsewhere_65 rfl rfl rfl rfl rfl rfl (ix12 hx rfl) (by omega) Nat.one_pos ?_
    refine hq_ishl C dX6_goElsewhere_66 ?_
    refine hq_ior C dX6_goElsewhere_67 ?_
    refine hq_istore (L' := [(5, .int _), (6, .int _), (4, .int _), (3, .int _), (2, .int _), (0, .ref _), (1, .int _)]) C dX6_goElsewhere_68 (by decide) rfl ?_
    refine hq_iinc (q := 1) (y := nI (_ + 1)) (L' := [(6, .int _), (5, .int _), (4, .int _), (3, .int _), (2, .int _), (0, .ref _), (1, .int _)]) C dX6_goElsewhere_70 rfl (hw_inc _) (by decide) rfl ?_
    refine hq_goto (tgt := 45) C dX6_goElsewhere_73 (by decide) ?_
    exact hq_fin [0, 1, 2, 3, 4, 5, 6] (by first | rfl | (simp only [pf_mk, ↓reduceIte, not_true_eq_false, not_false_eq_true]; rfl) | simp [lv_pick, pf_mk]) (by first | rfl | simp [pf_mk]) (by first | rfl | simp [pf_mk]) (by first | rfl | simp [pf_mk]) (by first | rfl | simp [pf_mk]) (by first | rfl | simp [pf_mk]) k0
  · refine hq_iload (q := 0) C dX6_goElsewhere_45 rfl ?_
    refine hq_iload_n (q := 4) C dX6_goElsewhere_47 rfl rfl ?_
    refine hq_icmp_ge (tgt := 76) C dX6_goElsewhere_48 (by decide) (fun c_48 => ?_) (fun c_48 => absurd (by rw [hpl]; exact nI_le (Nat.le_refl _) (by omega)) c_48)
    refine hq_aload_n (q := 5) C dX6_goElsewhere_76 rfl rfl ?_
    refine hq_getR (f := 26) (g := 46) (Nc := 1) (Ns := 38) C fr_X6_69 dX6_goElsewhere_77 rfl rfl rfl rfl rfl (by decide) Nat.one_pos ?_
    refine hq_bipush (y := 12) C dX6_goElsewhere_80 (by decide) ?_
    refine hq_iload_n (q := 6) C dX6_goElsewhere_82 rfl rfl ?_
    refine hq_imul C dX6_goElsewhere_83 ?_
    refine hq_iload_n (q := 4) C dX6_goElsewhere_84 rfl rfl ?_
    refine hq_iadd C dX6_goElsewhere_85 ?_
    refine hq_ialdP0 (f := 46) (a := 12 * i + hw_pl P i) (g := 21) (Nc := 1) (Ns := 480) C dX6_goElsewhere_86 rfl rfl rfl rfl rfl rfl (ix12 hx hpl) (by omega) Nat.one_pos ?_
    refine hq_aload_n (q := 5) C dX6_goElsewhere_87 rfl rfl ?_
    refine hq_getR (f := 26) (g := 38) (Nc := 1) (Ns := 38) C fr_X6_45 dX6_goElsewhere_88 rfl rfl rfl rfl rfl (by decide) Nat.one_pos ?_
    refine hq_iload_n (q := 6) C dX6_goElsewhere_91 rfl rfl ?_
    refine hq_ialdP0 (f := 38) (a := i) (g := 12) (Nc := 1) (Ns := 40) C dX6_goElsewhere_92 rfl rfl rfl rfl rfl rfl hx hi Nat.one_pos ?_
    refine hq_isub C dX6_goElsewhere_93 ?_
    refine hq_i2l C dX6_goElsewhere_94 ?_
    refine hq_lstore (L' := [(6, .long _), (5, .int _), (4, .int _), (3, .int _), (2, .int _), (0, .ref _), (1, .int _)]) C dX6_goElsewhere_95 (by decide) rfl ?_
    refine hq_aload_n (q := 5) C dX6_goElsewhere_97 rfl rfl ?_
    refine hq_iload_n (q := 6) C dX6_goElsewhere_98 rfl rfl ?_
    refine hq_iload_n (q := 4) C dX6_goElsewhere_99 rfl rfl ?_
    refine hq_cVv (As := [.int _, .int _]) (rm := rX6_takeBack) (f := 26) (Nc := 1) C (m_X6_takeBack (f := hw_pl P i) (n := hw_ln P i) hi hwy hx hpl hle) wv_X6_takeBack ml_X6_162 rfl rfl rfl Nat.one_pos rfl rfl rfl rfl ⟨Nat.le_of_ble_eq_true rfl, Nat.le_of_ble_eq_true rfl⟩ (Nat.le_of_ble_eq_true rfl) ⟨Nat.le_of_ble_eq_true rfl, Nat.le_of_ble_eq_true rfl⟩ dX6_goElsewhere_100 ?_
    refine hq_aload_n (q := 5) C dX6_goElsewhere_103 rfl rfl ?_
    refine hq_iload_n (q := 3) C dX6_goElsewhere_104 rfl rfl ?_
    refine hq_iload (q := 2) C dX6_goElsewhere_105 rfl ?_
    refine hq_aload_n (q := 5) C dX6_goElsewhere_107 rfl rfl ?_
    refine hq_getR (f := 26) (g := 38) (Nc := 1) (Ns := 38) C fr_X6_45 dX6_goElsewhere_108 rfl rfl rfl rfl rfl (by decide) Nat.one_pos ?_
    refine hq_iload_n (q := 6) C dX6_goElsewhere_111 rfl rfl ?_
    refine hq_ialdP0 (f := 38) (a := i) (g := 12) (Nc := 1) (Ns := 40) C dX6_goElsewhere_112 rfl rfl rfl rfl rfl rfl hx hi Nat.one_pos ?_
    refine hq_iload (q := 1) C dX6_goElsewhere_113 rfl ?_
    refine hq_cVr (As := [.int _, .int _, .int _, .int _]) (rm := rX6_findWay) (f := 26) (Nc := 1) C (m_X6_findWay_a (nb := nb) (a := hw_at P i (hw_pl P i)) hf.1 hf.2.1 (hwy.2.2 _ hle).x (hwy.2.2 _ hle).b hno) wv_X6_findWay ml_X6_170 rfl rfl rfl Nat.one_pos rfl rfl rfl rfl ⟨Nat.le_of_ble_eq_true rfl, Nat.le_of_ble_eq_true rfl⟩ (Nat.le_of_ble_eq_true rfl) ⟨Nat.le_of_ble_eq_true rfl, Nat.le_of_ble_eq_true rfl⟩ dX6_goElsewhere_115 ?_
    refine hq_istore (L' := [(8, .int _), (6, .long _), (5, .int _), (4, .int _), (3, .int _), (2, .int _), (0, .ref _), (1, .int _)]) C dX6_goElsewhere_118 (by decide) rfl ?_
    refine hq_iload (q := 0) C dX6_goElsewhere_120 rfl ?_
    refine hq_if_le (tgt := 153) C dX6_goElsewhere_122 (by decide) (fun c_122 => ?_) (fun c_122 => absurd (by decide) c_122)
    refine hq_aload_n (q := 6) C dX6_goElsewhere_153 rfl rfl ?_
    refine hq_getR (f := 26) (g := 44) (Nc := 1) (Ns := 38) C fr_X6_63 dX6_goElsewhere_154 rfl rfl rfl rfl rfl (by decide) Nat.one_pos ?_
    refine hq_iload_n (q := 7) C dX6_goElsewhere_157 rfl rfl ?_
    refine hq_ialdP0 (f := 44) (a := i) (g := 19) (Nc := 1) (Ns := 40) C dX6_goElsewhere_158 rfl rfl rfl rfl rfl rfl hx hi Nat.one_pos ?_
    refine hq_istore (L' := [(9, .int _), (8, .int _), (6, .long _), (5, .int _), (4, .int _), (3, .int _), (2, .int _), (0, .ref _), (1, .int _)]) C dX6_goElsewhere_159 (by decide) rfl ?_
    refine hq_aload_n (q := 7) C dX6_goElsewhere_161 rfl rfl ?_
    refine hq_getR (f := 26) (g := 44) (Nc := 1) (Ns := 38) C fr_X6_63 dX6_goElsewhere_162 rfl rfl rfl rfl rfl (by decide) Nat.one_pos ?_
    refine hq_iload_n (q := 8) C dX6_goElsewhere_165 rfl rfl ?_
    refine hq_iload_n (q := 6) C dX6_goElsewhere_166 rfl rfl ?_
    refine hq_iconst (y := 1) C dX6_goElsewhere_167 (by decide) ?_
    refine hq_iadd C dX6_goElsewhere_168 ?_
    refine hq_st (st' := [.int (nI (hw_pl P i + 1)), .int x, .ref (hw_ad b0 44 0)]) (by rw [hpl, nI_1]) ?_
    refine hq_iastP0 (f := 44) (a := i) (g := 19) (Nc := 1) (Ns := 40) C dX6_goElsewhere_169 rfl rfl rfl rfl rfl rfl hx hi Nat.one_pos ?_
    have hB : hw_wy (uI (pg_W P N i nb).1 19 i (nI (hw_pl P i + 1))) i (hw_pl P i) := ⟨by omega, if_pos ⟨rfl, rfl⟩, fun k hk => by
      have e : uI (pg_W P N i nb).1 19 i (nI (hw_pl P i + 1)) 20 (12 * i + k) = P 20 (12 * i + k) := (fws_oth (by decide))
      rw [e]; exact hwy.2.2 k (by omega)⟩
    refine hq_aload_n (q := 7) C dX6_goElsewhere_170 rfl rfl ?_
    refine hq_iload_n (q := 8) C dX6_goElsewhere_171 rfl rfl ?_
    refine hq_cVv (As := [.int _]) (rm := rX6_goBack) (f := 26) (Nc := 1) C (m_X6_goBack (n := hw_pl P i) hi hB hx) wv_X6_goBack ml_X6_177 rfl rfl rfl Nat.one_pos rfl rfl rfl rfl ⟨Nat.le_of_ble_eq_true rfl, Nat.le_of_ble_eq_true rfl⟩ (Nat.le_of_ble_eq_true rfl) ⟨Nat.le_of_ble_eq_true rfl, Nat.le_of_ble_eq_true rfl⟩ dX6_goElsewhere_172 ?_
    refine hq_aload_n (q := 7) C dX6_goElsewhere_175 rfl rfl ?_
    refine hq_getR (f := 26) (g := 44) (Nc := 1) (Ns := 38) C fr_X6_63 dX6_goElsewhere_176 rfl rfl rfl rfl rfl (by decide) Nat.one_pos ?_
    refine hq_iload_n (q := 8) C dX6_goElsewhere_179 rfl rfl ?_
    refine hq_iload (q := 0) C dX6_goElsewhere_180 rfl ?_
    refine hq_iastP0 (f := 44) (a := i) (g := 19) (Nc := 1) (Ns := 40) C dX6_goElsewhere_182 rfl rfl rfl rfl rfl rfl hx hi Nat.one_pos ?_
    exact hq_vret C hr hlk dX6_goElsewhere_183 (by rw [pg_a hno]; rfl)
theorem nI_npos {a n : Nat} (h : a + n < 12) : ¬ nI (n + 1) ≤ 0 := fun z => absurd ((nI_leI (a := n + 1) (b := 0) (by omega) (by omega)).mp z) (by omega)
set_option maxHeartbeats 4000000 in
set_option maxRecDepth 100000 in
theorem m_X6_goElsewhere_b {l : Launch} {D : va_G} {b0 : Nat} {I : MI} {J : MJ} {P : MI} {N : MJ} {o : Int64} {i nb : Nat} {x : Int32} (hi : i < 40) (hx : x = nI i) (hf : pg_fit P N i nb) (hw : pg_way P N i nb) : hM l yX6_goElsewhere cX6_goElsewhere 10 none rX6_goElsewhere D b0 [.ref (hw_ad b0 26 0), .int x] I J P N o none I J (pg_go P N i nb).1 (pg_go P N i nb).2 o := by
  obtain ⟨hwy, h1, hpl, hle⟩ := id hf.2.2.1
  have hor := hf.2.2.1
  have hn12 := hwy.1
  have h43 : hw_ok (pg_K P N i nb 43 1) := ⟨_, pg_p_lt hor hw hw.2.1, pg_K_at hor hw hw.2.1⟩
  refine hw_Mof (by decide) [(0, .ref _), (1, .int _)] rfl (Nat.le_of_ble_eq_true rfl) ?_
  intro p e s m args below meth c C hr hlk hnm
  refine hq_aload_n (q := 0) C dX6_goElsewhere_0 rfl rfl ?_
  refine hq_getR (f := 26) (g := 43) (Nc := 1) (Ns := 38) C fr_X6_60 dX6_goElsewhere_1 rfl rfl rfl rfl rfl (by decide) Nat.one_pos ?_
  refine hq_iload_n (q := 1) C dX6_goElsewhere_4 rfl rfl ?_
  refine hq_ialdP0 (f := 43) (a := i) (g := 17) (Nc := 1) (Ns := 40) C dX6_goElsewhere_5 rfl rfl rfl rfl rfl rfl hx hi Nat.one_pos ?_
  refine hq_istore_n (L' := [(2, .int _), (0, .ref _), (1, .int _)]) C dX6_goElsewhere_6 rfl (by decide) rfl ?_
  refine hq_aload_n (q := 1) C dX6_goElsewhere_7 rfl rfl ?_
  refine hq_getR (f := 26) (g := 45) (Nc := 1) (Ns := 38) C fr_X6_66 dX6_goElsewhere_8 rfl rfl rfl rfl rfl (by decide) Nat.one_pos ?_
  refine hq_bipush (y := 12) C dX6_goElsewhere_11 (by decide) ?_
  refine hq_iload_n (q := 2) C dX6_goElsewhere_13 rfl rfl ?_
  refine hq_imul C dX6_goElsewhere_14 ?_
  refine hq_iload_n (q := 0) C dX6_goElsewhere_15 rfl rfl ?_
  refine hq_iadd C dX6_goElsewhere_16 ?_
  refine hq_ialdP0 (f := 45) (a := 12 * i + hw_pl P i) (g := 20) (Nc := 1) (Ns := 480) C dX6_goElsewhere_17 rfl rfl rfl rfl rfl rfl (ix12 hx hpl) (by omega) Nat.one_pos ?_
  refine hq_istore_n (L' := [(3, .int _), (2, .int _), (0, .ref _), (1, .int _)]) C dX6_goElsewhere_18 rfl (by decide) rfl ?_
  refine hq_aload_n (q := 2) C dX6_goElsewhere_19 rfl rfl ?_
  refine hq_getR (f := 26) (g := 45) (Nc := 1) (Ns := 38) C fr_X6_66 dX6_goElsewhere_20 rfl rfl rfl rfl rfl (by decide) Nat.one_pos ?_
  refine hq_bipush (y := 12) C dX6_goElsewhere_23 (by decide) ?_
  refine hq_iload_n (q := 3) C dX6_goElsewhere_25 rfl rfl ?_
  refine hq_imul C dX6_goElsewhere_26 ?_
  refine hq_aload_n (q := 2) C dX6_goElsewhere_27 rfl rfl ?_
  refine hq_getR (f := 26) (g := 44) (Nc := 1) (Ns := 38) C fr_X6_63 dX6_goElsewhere_28 rfl rfl rfl rfl rfl (by decide) Nat.one_pos ?_
  refine hq_iload_n (q := 3) C dX6_goElsewhere_31 rfl rfl ?_
  refine hq_ialdP0 (f := 44) (a := i) (g := 19) (Nc := 1) (Ns := 40) C dX6_goElsewhere_32 rfl rfl rfl rfl rfl rfl hx hi Nat.one_pos ?_
  refine hq_iadd C dX6_goElsewhere_33 ?_
  refine hq_iconst (y := 1) C dX6_goElsewhere_34 (by decide) ?_
  refine hq_isub C dX6_goElsewhere_35 ?_
  refine hq_ialdP0 (f := 45) (a := 12 * i + hw_ln P i) (g := 20) (Nc := 1) (Ns := 480) C dX6_goElsewhere_36 rfl rfl rfl rfl rfl rfl (by rw [ix12 hx hwy.2.1]; exact nI_pred _) (by omega) Nat.one_pos ?_
  refine hq_istore (L' := [(4, .int _), (3, .int _), (2, .int _), (0, .ref _), (1, .int _)]) C dX6_goElsewhere_37 (by decide) rfl ?_
  refine hq_iconst (y := 0) C dX6_goElsewhere_39 (by decide) ?_
  refine hq_istore (L' := [(5, .int _), (4, .int _), (3, .int _), (2, .int _), (0, .ref _), (1, .int _)]) C dX6_goElsewhere_40 (by decide) rfl ?_
  refine hq_iconst (y := 0) C dX6_goElsewhere_42 (by decide) ?_
  refine hq_istore (L' := [(6, .int _), (5, .int _), (4, .int _), (3, .int _), (2, .int _), (0, .ref _), (1, .int _)]) C dX6_goElsewhere_43 (by decide) rfl ?_
  refine hq_perm [0, 1, 2, 3, 4, 5, 6] (L' := [(6, .int (nI 0)), (5, .int 0), (4, .int (P 20 (12 * i + hw_ln P i))), (3, .int (P 20 (12 * i + hw_pl P i))), (2, .int (P 17 i)), (0, .ref (hw_ad b0 26 0)), (1, .int x)]) rfl ?_
  refine lp_back (pf_mk P i) (fun (k9 : Nat) (σ : Int32) => hw_V p l e rX6_goElsewhere s m args below meth c (MQ below (hw_Q D b0 false 271 none (hw_vl b0 I J (pg_go P N i nb).1 (pg_go P N i nb).2 o)) args s 0 0 (fun q => b0 ≤ q)) D b0 10 false 0 0 271 45 [(6, .int (nI k9)), (5, .int σ), (4, .int (P 20 (12 * i + hw_ln P i))), (3, .int (P 20 (12 * i + hw_pl P i))), (2, .int (P 17 i)), (0, .ref (hw_ad b0 26 0)), (1, .int x)] [] (hw_vl b0 I J P N o)) (fun _ _ => True) (hw_pl P i) ?_ (fun _ _ _ _ => trivial) (hw_pl P i) 0 0 (by omega) trivial ?_
  · intro k9 σ hi0 hinv0 k0
    have hi9 := hi0
    refine hq_iload (q := 0) C dX6_goElsewhere_45 rfl ?_
    refine hq_iload_n (q := 4) C dX6_goElsewhere_47 rfl rfl ?_
    refine hq_icmp_ge (tgt := 76) C dX6_goElsewhere_48 (by decide) (fun c_48 => absurd c_48 (by rw [hpl]; exact nI_ge hi9 (by omega))) (fun c_48 => ?_)
    refine hq_iload (q := 1) C dX6_goElsewhere_51 rfl ?_
    refine hq_iconst (y := 1) C dX6_goElsewhere_53 (by decide) ?_
    refine hq_aload_n (q := 5) C dX6_goElsewhere_54 rfl rfl ?_
    refine hq_getR (f := 26) (g := 45) (Nc := 1) (Ns := 38) C fr_X6_66 dX6_goElsewhere_55 rfl rfl rfl rfl rfl (by decide) Nat.one_pos ?_
    refine hq_bipush (y := 12) C dX6_goElsewhere_58 (by decide) ?_
    refine hq_iload_n (q := 6) C dX6_goElsewhere_60 rfl rfl ?_
    refine hq_imul C dX6_goElsewhere_61 ?_
    refine hq_iload (q := 0) C dX6_goElsewhere_62 rfl ?_
    refine hq_iadd C dX6_goElsewhere_64 ?_
    refine hq_ialdP0 (f := 45) (a := 12 * i + k9) (g := 20) (Nc := 1) (Ns := 480) C dX6_goElsewhere_65 rfl rfl rfl rfl rfl rfl (ix12 hx rfl) (by omega) Nat.one_pos ?_
    refine hq_ishl C dX6_goElsewhere_66 ?_
    refine hq_ior C dX6_goElsewhere_67 ?_
    refine hq_istore (L' := [(5, .int _), (6, .int _), (4, .int _), (3, .int _), (2, .int _), (0, .ref _), (1, .int _)]) C dX6_goElsewhere_68 (by decide) rfl ?_
    refine hq_iinc (q := 1) (y := nI (_ + 1)) (L' := [(6, .int _), (5, .int _), (4, .int _), (3, .int _), (2, .int _), (0, .ref _), (1, .int _)]) C dX6_goElsewhere_70 rfl (hw_inc _) (by decide) rfl ?_
    refine hq_goto (tgt := 45) C dX6_goElsewhere_73 (by decide) ?_
    exact hq_fin [0, 1, 2, 3, 4, 5, 6] (by first | rfl | (simp only [pf_mk, ↓reduceIte, not_true_eq_false, not_false_eq_true]; rfl) | simp [lv_pick, pf_mk]) (by first | rfl | simp [pf_mk]) (by first | rfl | simp [pf_mk]) (by first | rfl | simp [pf_mk]) (by first | rfl | simp [pf_mk]) (by first | rfl | simp [pf_mk]) k0
  · refine hq_iload (q := 0) C dX6_goElsewhere_45 rfl ?_
    refine hq_iload_n (q := 4) C dX6_goElsewhere_47 rfl rfl ?_
    refine hq_icmp_ge (tgt := 76) C dX6_goElsewhere_48 (by decide) (fun c_48 => ?_) (fun c_48 => absurd (by rw [hpl]; exact nI_le (Nat.le_refl _) (by omega)) c_48)
    refine hq_aload_n (q := 5) C dX6_goElsewhere_76 rfl rfl ?_
    refine hq_getR (f := 26) (g := 46) (Nc := 1) (Ns := 38) C fr_X6_69 dX6_goElsewhere_77 rfl rfl rfl rfl rfl (by decide) Nat.one_pos ?_
    refine hq_bipush (y := 12) C dX6_goElsewhere_80 (by decide) ?_
    refine hq_iload_n (q := 6) C dX6_goElsewhere_82 rfl rfl ?_
    refine hq_imul C dX6_goElsewhere_83 ?_
    refine hq_iload_n (q := 4) C dX6_goElsewhere_84 rfl rfl ?_
    refine hq_iadd C dX6_goElsewhere_85 ?_
    refine hq_ialdP0 (f := 46) (a := 12 * i + hw_pl P i) (g := 21) (Nc := 1) (Ns := 480) C dX6_goElsewhere_86 rfl rfl rfl rfl rfl rfl (ix12 hx hpl) (by omega) Nat.one_pos ?_
    refine hq_aload_n (q := 5) C dX6_goElsewhere_87 rfl rfl ?_
    refine hq_getR (f := 26) (g := 38) (Nc := 1) (Ns := 38) C fr_X6_45 dX6_goElsewhere_88 rfl rfl rfl rfl rfl (by decide) Nat.one_pos ?_
    refine hq_iload_n (q := 6) C dX6_goElsewhere_91 rfl rfl ?_
    refine hq_ialdP0 (f := 38) (a := i) (g := 12) (Nc := 1) (Ns := 40) C dX6_goElsewhere_92 rfl rfl rfl rfl rfl rfl hx hi Nat.one_pos ?_
    refine hq_isub C dX6_goElsewhere_93 ?_
    refine hq_i2l C dX6_goElsewhere_94 ?_
    refine hq_lstore (L' := [(6, .long _), (5, .int _), (4, .int _), (3, .int _), (2, .int _), (0, .ref _), (1, .int _)]) C dX6_goElsewhere_95 (by decide) rfl ?_
    refine hq_aload_n (q := 5) C dX6_goElsewhere_97 rfl rfl ?_
    refine hq_iload_n (q := 6) C dX6_goElsewhere_98 rfl rfl ?_
    refine hq_iload_n (q := 4) C dX6_goElsewhere_99 rfl rfl ?_
    refine hq_cVv (As := [.int _, .int _]) (rm := rX6_takeBack) (f := 26) (Nc := 1) C (m_X6_takeBack (f := hw_pl P i) (n := hw_ln P i) hi hwy hx hpl hle) wv_X6_takeBack ml_X6_162 rfl rfl rfl Nat.one_pos rfl rfl rfl rfl ⟨Nat.le_of_ble_eq_true rfl, Nat.le_of_ble_eq_true rfl⟩ (Nat.le_of_ble_eq_true rfl) ⟨Nat.le_of_ble_eq_true rfl, Nat.le_of_ble_eq_true rfl⟩ dX6_goElsewhere_100 ?_
    refine hq_aload_n (q := 5) C dX6_goElsewhere_103 rfl rfl ?_
    refine hq_iload_n (q := 3) C dX6_goElsewhere_104 rfl rfl ?_
    refine hq_iload (q := 2) C dX6_goElsewhere_105 rfl ?_
    refine hq_aload_n (q := 5) C dX6_goElsewhere_107 rfl rfl ?_
    refine hq_getR (f := 26) (g := 38) (Nc := 1) (Ns := 38) C fr_X6_45 dX6_goElsewhere_108 rfl rfl rfl rfl rfl (by decide) Nat.one_pos ?_
    refine hq_iload_n (q := 6) C dX6_goElsewhere_111 rfl rfl ?_
    refine hq_ialdP0 (f := 38) (a := i) (g := 12) (Nc := 1) (Ns := 40) C dX6_goElsewhere_112 rfl rfl rfl rfl rfl rfl hx hi Nat.one_pos ?_
    refine hq_iload (q := 1) C dX6_goElsewhere_113 rfl ?_
    refine hq_cVr (As := [.int _, .int _, .int _, .int _]) (rm := rX6_findWay) (f := 26) (Nc := 1) C (m_X6_findWay_b (nb := nb) (a := hw_at P i (hw_pl P i)) (t := hw_at P i (hw_ln P i)) (n9 := pg_n P N i nb) (pp := pg_p P N i nb) hf.1 hf.2.1 (hwy.2.2 _ hle).x (hwy.2.2 _ hle).b (hwy.2.2 _ (Nat.le_refl _)).x (hwy.2.2 _ (Nat.le_refl _)).b hw.1 (by have := hw.2.2.1; omega) rfl hw.2.2.2.1 (fun k hk => hw.2.2.2.2 k hk)) wv_X6_findWay ml_X6_170 rfl rfl rfl Nat.one_pos rfl rfl rfl rfl ⟨Nat.le_of_ble_eq_true rfl, Nat.le_of_ble_eq_true rfl⟩ (Nat.le_of_ble_eq_true rfl) ⟨Nat.le_of_ble_eq_true rfl, Nat.le_of_ble_eq_true rfl⟩ dX6_goElsewhere_115 ?_
    refine hq_istore (L' := [(8, .int _), (6, .long _), (5, .int _), (4, .int _), (3, .int _), (2, .int _), (0, .ref _), (1, .int _)]) C dX6_goElsewhere_118 (by decide) rfl ?_
    refine hq_iload (q := 0) C dX6_goElsewhere_120 rfl ?_
    refine hq_if_le (tgt := 153) C dX6_goElsewhere_122 (by decide) (fun c_122 => absurd c_122 (nI_npos hw.2.2.1)) (fun c_122 => ?_)
    refine hq_aload_n (q := 6) C dX6_goElsewhere_125 rfl rfl ?_
    refine hq_getR (f := 26) (g := 56) (Nc := 1) (Ns := 38) C fr_X6_100 dX6_goElsewhere_126 rfl rfl rfl rfl rfl (by decide) Nat.one_pos ?_
    refine hq_aload_n (q := 6) C dX6_goElsewhere_129 rfl rfl ?_
    refine hq_getR (f := 26) (g := 58) (Nc := 1) (Ns := 38) C fr_X6_106 dX6_goElsewhere_130 rfl rfl rfl rfl rfl (by decide) Nat.one_pos ?_
    refine hq_iconst (y := 1) C dX6_goElsewhere_133 (by decide) ?_
    refine hq_ialdP0 (f := 58) (a := 1) (g := 43) (Nc := 1) (Ns := 12) C dX6_goElsewhere_134 rfl rfl rfl rfl rfl rfl rfl (by decide) Nat.one_pos ?_
    refine hq_laldN0 (f := 56) (a := tn (pg_K P N i nb 43 1)) (g := 5) (Nc := 1) (Ns := 12) C dX6_goElsewhere_135 rfl rfl rfl rfl rfl rfl h43.x h43.b Nat.one_pos ?_
    refine hq_lload (q := 1) C dX6_goElsewhere_136 rfl ?_
    refine hq_lcmp C dX6_goElsewhere_138 ?_
    refine hq_if_gt (tgt := 153) C dX6_goElsewhere_139 (by decide) (fun c_139 => ?_) (fun c_139 => ?_)
    · refine hq_aload_n (q := 6) C dX6_goElsewhere_153 rfl rfl ?_
      refine hq_getR (f := 26) (g := 44) (Nc := 1) (Ns := 38) C fr_X6_63 dX6_goElsewhere_154 rfl rfl rfl rfl rfl (by decide) Nat.one_pos ?_
      refine hq_iload_n (q := 7) C dX6_goElsewhere_157 rfl rfl ?_
      refine hq_ialdP0 (f := 44) (a := i) (g := 19) (Nc := 1) (Ns := 40) C dX6_goElsewhere_158 rfl rfl rfl rfl rfl rfl hx hi Nat.one_pos ?_
      refine hq_istore (L' := [(9, .int _), (8, .int _), (6, .long _), (5, .int _), (4, .int _), (3, .int _), (2, .int _), (0, .ref _), (1, .int _)]) C dX6_goElsewhere_159 (by decide) rfl ?_
      refine hq_aload_n (q := 7) C dX6_goElsewhere_161 rfl rfl ?_
      refine hq_getR (f := 26) (g := 44) (Nc := 1) (Ns := 38) C fr_X6_63 dX6_goElsewhere_162 rfl rfl rfl rfl rfl (by decide) Nat.one_pos ?_
      refine hq_iload_n (q := 8) C dX6_goElsewhere_165 rfl rfl ?_
      refine hq_iload_n (q := 6) C dX6_goElsewhere_166 rfl rfl ?_
      refine hq_iconst (y := 1) C dX6_goElsewhere_167 (by decide) ?_
      refine hq_iadd C dX6_goElsewhere_168 ?_
      refine hq_st (st' := [.int (nI (hw_pl P i + 1)), .int x, .ref (hw_ad b0 44 0)]) (by rw [hpl, nI_1]) ?_
      refine hq_iastP0 (f := 44) (a := i) (g := 19) (Nc := 1) (Ns := 40) C dX6_goElsewhere_169 rfl rfl rfl rfl rfl rfl hx hi Nat.one_pos ?_
      have hB : hw_wy (uI (pg_K P N i nb) 19 i (nI (hw_pl P i + 1))) i (hw_pl P i) := ⟨by omega, if_pos ⟨rfl, rfl⟩, fun k hk => by
        have e : uI (pg_K P N i nb) 19 i (nI (hw_pl P i + 1)) 20 (12 * i + k) = P 20 (12 * i + k) := (pg_K_oth (P := P) (N := N) (i := i) (nb := nb) (g := 20) (j := 12 * i + k) (by decide) (by decide))
        rw [e]; exact hwy.2.2 k (by omega)⟩
      refine hq_aload_n (q := 7) C dX6_goElsewhere_170 rfl rfl ?_
      refine hq_iload_n (q := 8) C dX6_goElsewhere_171 rfl rfl ?_
      refine hq_cVv (As := [.int _]) (rm := rX6_goBack) (f := 26) (Nc := 1) C (m_X6_goBack (n := hw_pl P i) hi hB hx) wv_X6_goBack ml_X6_177 rfl rfl rfl Nat.one_pos rfl rfl rfl rfl ⟨Nat.le_of_ble_eq_true rfl, Nat.le_of_ble_eq_true rfl⟩ (Nat.le_of_ble_eq_true rfl) ⟨Nat.le_of_ble_eq_true rfl, Nat.le_of_ble_eq_true rfl⟩ dX6_goElsewhere_172 ?_
      refine hq_aload_n (q := 7) C dX6_goElsewhere_175 rfl rfl ?_
      refine hq_getR (f := 26) (g := 44) (Nc := 1) (Ns := 38) C fr_X6_63 dX6_goElsewhere_176 rfl rfl rfl rfl rfl (by decide) Nat.one_pos ?_
      refine hq_iload_n (q := 8) C dX6_goElsewhere_179 rfl rfl ?_
      refine hq_iload (q := 0) C dX6_goElsewhere_180 rfl ?_
      refine hq_iastP0 (f := 44) (a := i) (g := 19) (Nc := 1) (Ns := 40) C dX6_goElsewhere_182 rfl rfl rfl rfl rfl rfl hx hi Nat.one_pos ?_
      exact hq_vret C hr hlk dX6_goElsewhere_183 (by rw [pg_b (fun z => absurd hw.1 (fun y => absurd z (Int32.not_le.mpr y))) c_139]; try rfl)
    · refine hq_aload_n (q := 6) C dX6_goElsewhere_142 rfl rfl ?_
      refine hq_iload_n (q := 7) C dX6_goElsewhere_143 rfl rfl ?_
      refine hq_iload_n (q := 5) C dX6_goElsewhere_144 rfl rfl ?_
      refine hq_iload (q := 0) C dX6_goElsewhere_145 rfl ?_
      refine hq_cVv (As := [.int _, .int _, .int _]) (rm := rX6_lay) (f := 26) (Nc := 1) C (m_X6_lay (q := hw_pl P i) (w := pg_n P N i nb) hi hx hpl rfl hw.2.2.1 (fun j hj => show hw_ok (pg_K P N i nb 20 (12 * i + j)) from by rw [pg_K_oth (by decide) (by decide)]; exact hwy.2.2 j (by omega)) (fun k hk => ⟨_, pg_p_lt hor hw hk, pg_K_at hor hw hk⟩)) wv_X6_lay ml_X6_174 rfl rfl rfl Nat.one_pos rfl rfl rfl rfl ⟨Nat.le_of_ble_eq_true rfl, Nat.le_of_ble_eq_true rfl⟩ (Nat.le_of_ble_eq_true rfl) ⟨Nat.le_of_ble_eq_true rfl, Nat.le_of_ble_eq_true rfl⟩ dX6_goElsewhere_147 ?_
      refine hq_goto (tgt := 183) C dX6_goElsewhere_150 (by decide) ?_
      exact hq_vret C hr hlk dX6_goElsewhere_183 (by rw [pg_c (fun z => absurd hw.1 (fun y => absurd z (Int32.not_le.mpr y))) c_139]; try rfl)
