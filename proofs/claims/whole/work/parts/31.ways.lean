/-! the model: taking back, ways -/
def pf_tb (P : MI) (i k : Nat) (N : MJ) : MJ := ps_on P N i k (-1)
def pf_po (P : MI) (i : Nat) (x : Int32) (k : Nat) (r : Int32) : Int32 := if ¬ P 20 (12 * i + k) = x then r else nI k
def pf_l1 (i q k : Nat) (P : MI) : MI := uI P 20 (12 * i + (q + k)) (P 43 k)
def pf_l2 (i q k : Nat) (σ : MI × MJ) : MI × MJ :=
  (uI σ.1 21 (12 * i + (q + k)) ((σ.1 12 i).toInt64 + σ.2 5 (tn (σ.1 43 (k + 1)))).toInt32, ps_on (uI σ.1 21 (12 * i + (q + k)) ((σ.1 12 i).toInt64 + σ.2 5 (tn (σ.1 43 (k + 1)))).toInt32) σ.2 i (q + k) 1)
def ps_lay (P : MI) (N : MJ) (i q m : Nat) : MI × MJ := lp (pf_l2 i q) m 0 (lp (pf_l1 i q) (m + 1) 0 (uI P 19 i (nI (q + (m + 1)))), N)
set_option maxHeartbeats 4000000 in
set_option maxRecDepth 100000 in
theorem m_X6_takeBack {l : Launch} {D : va_G} {b0 : Nat} {I : MI} {J : MJ} {P : MI} {N : MJ} {o : Int64} {i f n : Nat} {x y : Int32} (hi : i < 40) (hw : hw_wy P i n) (hx : x = nI i) (hy : y = nI f) (hfn : f ≤ n) : hM l yX6_takeBack cX6_takeBack 4 none rX6_takeBack D b0 [.ref (hw_ad b0 26 0), .int x, .int y] I J P N o none I J P (lp (pf_tb P i) (n - f) f N) o := by
  subst hy
  have hm1 : P 19 i - 1 = nI n := by rw [hw.2.1]; exact nI_pred _
  have hn12 := hw.1
  refine hw_Mof (by decide) [(0, .ref _), (1, .int _), (2, .int _)] rfl (Nat.le_of_ble_eq_true rfl) ?_
  intro p e s m args below meth c C hr hlk hnm
  refine hq_iload_n (q := 2) C dX6_takeBack_0 rfl rfl ?_
  refine hq_istore_n (L' := [(3, .int _), (0, .ref _), (1, .int _), (2, .int _)]) C dX6_takeBack_1 rfl (by decide) rfl ?_
  refine hq_perm [0, 1, 2, 3] (L' := [(3, .int (nI f)), (0, .ref (hw_ad b0 26 0)), (1, .int x), (2, .int (nI f))]) rfl ?_
  refine lp_back (pf_tb P i) (fun (k9 : Nat) (σ : MJ) => hw_V p l e rX6_takeBack s m args below meth c (MQ below (hw_Q D b0 false 271 none (hw_vl b0 I J P (lp (pf_tb P i) (n - f) f N) o)) args s 0 0 (fun q => b0 ≤ q)) D b0 4 false 0 0 271 2 [(3, .int (nI k9)), (0, .ref (hw_ad b0 26 0)), (1, .int x), (2, .int (nI f))] [] (hw_vl b0 I J P σ o)) (fun _ _ => True) n ?_ (fun _ _ _ _ => trivial) (n - f) f N (by omega) trivial ?_
  · intro k9 σ hi0 hinv0 k0
    have hi9 := hi0
    refine hq_iload_n (q := 0) C dX6_takeBack_2 rfl rfl ?_
    refine hq_aload_n (q := 1) C dX6_takeBack_3 rfl rfl ?_
    refine hq_getR (f := 26) (g := 44) (Nc := 1) (Ns := 38) C fr_X6_63 dX6_takeBack_4 rfl rfl rfl rfl rfl (by decide) Nat.one_pos ?_
    refine hq_iload_n (q := 2) C dX6_takeBack_7 rfl rfl ?_
    refine hq_ialdP0 (f := 44) (a := i) (g := 19) (Nc := 1) (Ns := 40) C dX6_takeBack_8 rfl rfl rfl rfl rfl rfl hx hi Nat.one_pos ?_
    refine hq_iconst (y := 1) C dX6_takeBack_9 (by decide) ?_
    refine hq_isub C dX6_takeBack_10 ?_
    refine hq_icmp_ge (tgt := 27) C dX6_takeBack_11 (by decide) (fun c_11 => absurd c_11 (by rw [hm1]; exact nI_ge hi9 (by omega))) (fun c_11 => ?_)
    refine hq_aload_n (q := 1) C dX6_takeBack_14 rfl rfl ?_
    refine hq_iload_n (q := 2) C dX6_takeBack_15 rfl rfl ?_
    refine hq_iload_n (q := 0) C dX6_takeBack_16 rfl rfl ?_
    refine hq_iconst (y := -1) C dX6_takeBack_17 (by decide) ?_
    refine hq_cVv (As := [.int _, .int _, .int _]) (rm := rX6_oweOn) (f := 26) (Nc := 1) C (m_X6_oweOn (k := k9) (n := n) hi hw hx rfl (by omega)) wv_X6_oweOn ml_X6_139 rfl rfl rfl Nat.one_pos rfl rfl rfl rfl ⟨Nat.le_of_ble_eq_true rfl, Nat.le_of_ble_eq_true rfl⟩ (Nat.le_of_ble_eq_true rfl) ⟨Nat.le_of_ble_eq_true rfl, Nat.le_of_ble_eq_true rfl⟩ dX6_takeBack_18 ?_
    refine hq_iinc (q := 0) (y := nI (_ + 1)) (L' := [(3, .int _), (0, .ref _), (1, .int _), (2, .int _)]) C dX6_takeBack_21 rfl (hw_inc _) (by decide) rfl ?_
    refine hq_goto (tgt := 2) C dX6_takeBack_24 (by decide) ?_
    exact hq_fin [0, 1, 2, 3] (by first | rfl | (simp only [pf_tb, ↓reduceIte, not_true_eq_false, not_false_eq_true]; rfl) | simp [lv_pick, pf_tb]) (by first | rfl | simp [pf_tb]) (by first | rfl | simp [pf_tb]) (by first | rfl | simp [pf_tb]) (by first | rfl | simp [pf_tb]) (by first | rfl | simp [pf_tb]) k0
  · refine hq_iload_n (q := 0) C dX6_takeBack_2 rfl rfl ?_
    refine hq_aload_n (q := 1) C dX6_takeBack_3 rfl rfl ?_
    refine hq_getR (f := 26) (g := 44) (Nc := 1) (Ns := 38) C fr_X6_63 dX6_takeBack_4 rfl rfl rfl rfl rfl (by decide) Nat.one_pos ?_
    refine hq_iload_n (q := 2) C dX6_takeBack_7 rfl rfl ?_
    refine hq_ialdP0 (f := 44) (g := 19) (Nc := 1) (Ns := 40) C dX6_takeBack_8 rfl rfl rfl rfl rfl rfl (by first | rfl | assumption) (by first | assumption | omega) Nat.one_pos ?_
    refine hq_iconst (y := 1) C dX6_takeBack_9 (by decide) ?_
    refine hq_isub C dX6_takeBack_10 ?_
    refine hq_icmp_ge (tgt := 27) C dX6_takeBack_11 (by decide) (fun c_11 => ?_) (fun c_11 => absurd (by rw [hm1]; exact nI_le (Nat.le_refl _) (by omega)) c_11)
    exact hq_vret C hr hlk dX6_takeBack_27 rfl
set_option maxHeartbeats 4000000 in
set_option maxRecDepth 100000 in
theorem m_X6_goBack {l : Launch} {D : va_G} {b0 : Nat} {I : MI} {J : MJ} {P : MI} {N : MJ} {o : Int64} {i n : Nat} {x : Int32} (hi : i < 40) (hw : hw_wy P i n) (hx : x = nI i) : hM l yX6_goBack cX6_goBack 2 none rX6_goBack D b0 [.ref (hw_ad b0 26 0), .int x] I J P N o none I J (sp_ef P i) (lp (pf_tb P i) (n - 0) 0 N) o := by
  refine hw_Mof (by decide) [(0, .ref _), (1, .int _)] rfl (Nat.le_of_ble_eq_true rfl) ?_
  intro p e s m args below meth c C hr hlk hnm
  refine hq_aload_n (q := 0) C dX6_goBack_0 rfl rfl ?_
  refine hq_iload_n (q := 1) C dX6_goBack_1 rfl rfl ?_
  refine hq_iconst (y := 0) C dX6_goBack_2 (by decide) ?_
  refine hq_cVv (As := [.int _, .int _]) (rm := rX6_takeBack) (f := 26) (Nc := 1) C (m_X6_takeBack (f := 0) hi hw hx rfl (Nat.zero_le _)) wv_X6_takeBack ml_X6_162 rfl rfl rfl Nat.one_pos rfl rfl rfl rfl ⟨Nat.le_of_ble_eq_true rfl, Nat.le_of_ble_eq_true rfl⟩ (Nat.le_of_ble_eq_true rfl) ⟨Nat.le_of_ble_eq_true rfl, Nat.le_of_ble_eq_true rfl⟩ dX6_goBack_3 ?_
  refine hq_aload_n (q := 0) C dX6_goBack_6 rfl rfl ?_
  refine hq_getR (f := 26) (g := 37) (Nc := 1) (Ns := 38) C fr_X6_42 dX6_goBack_7 rfl rfl rfl rfl rfl (by decide) Nat.one_pos ?_
  refine hq_iload_n (q := 1) C dX6_goBack_10 rfl rfl ?_
  refine hq_aload_n (q := 0) C dX6_goBack_11 rfl rfl ?_
  refine hq_getR (f := 26) (g := 30) (Nc := 1) (Ns := 38) C fr_X6_20 dX6_goBack_12 rfl rfl rfl rfl rfl (by decide) Nat.one_pos ?_
  refine hq_aload_n (q := 0) C dX6_goBack_15 rfl rfl ?_
  refine hq_iload_n (q := 1) C dX6_goBack_16 rfl rfl ?_
  refine hq_cVr (As := [.int _]) (rm := rX6_firstOf) (f := 26) (Nc := 1) C (m_X6_firstOf hx hi) wv_X6_firstOf ml_X6_166 rfl rfl rfl Nat.one_pos rfl rfl rfl rfl ⟨Nat.le_of_ble_eq_true rfl, Nat.le_of_ble_eq_true rfl⟩ (Nat.le_of_ble_eq_true rfl) ⟨Nat.le_of_ble_eq_true rfl, Nat.le_of_ble_eq_true rfl⟩ dX6_goBack_17 ?_
  refine hq_ialdP0 (f := 30) (a := tn (P 20 (12 * i + 0))) (g := 7) (Nc := 1) (Ns := 12) C dX6_goBack_20 rfl rfl rfl rfl rfl rfl (hw.2.2 0 (Nat.zero_le _)).x (hw.2.2 0 (Nat.zero_le _)).b Nat.one_pos ?_
  refine hq_iconst (y := 2) C dX6_goBack_21 (by decide) ?_
  refine hq_icmp_ne (tgt := 29) C dX6_goBack_22 (by decide) (fun c_22 => ?_) (fun c_22 => ?_)
  · refine hq_iconst (y := 3) C dX6_goBack_29 (by decide) ?_
    refine hq_iastP0 (f := 37) (a := i) (g := 16) (Nc := 1) (Ns := 40) C dX6_goBack_30 rfl rfl rfl rfl rfl rfl hx hi Nat.one_pos ?_
    exact hq_vret C hr hlk dX6_goBack_31 (by unfold sp_ef; rw [if_pos c_22])
  · refine hq_iconst (y := 5) C dX6_goBack_25 (by decide) ?_
    refine hq_goto (tgt := 30) C dX6_goBack_26 (by decide) ?_
    refine hq_iastP0 (f := 37) (a := i) (g := 16) (Nc := 1) (Ns := 40) C dX6_goBack_30 rfl rfl rfl rfl rfl rfl hx hi Nat.one_pos ?_
    exact hq_vret C hr hlk dX6_goBack_31 (by unfold sp_ef; rw [if_neg (fun z => z c_22)])
set_option maxHeartbeats 4000000 in
set_option maxRecDepth 100000 in
theorem m_X6_placeOn {l : Launch} {D : va_G} {b0 : Nat} {I : MI} {J : MJ} {P : MI} {N : MJ} {o : Int64} {i n : Nat} {x y : Int32} (hi : i < 40) (hw : hw_wy P i n) (hx : x = nI i) : hM l yX6_placeOn cX6_placeOn 5 (some .int) rX6_placeOn D b0 [.ref (hw_ad b0 26 0), .int x, .int y] I J P N o (some (.int (lp (pf_po P i y) (n + 1) 0 (-1)))) I J P N o := by
  have hn12 := hw.1
  refine hw_Mof (by decide) [(0, .ref _), (1, .int _), (2, .int _)] rfl (Nat.le_of_ble_eq_true rfl) ?_
  intro p e s m args below meth c C hr hlk hnm
  refine hq_iconst (y := -1) C dX6_placeOn_0 (by decide) ?_
  refine hq_istore_n (L' := [(3, .int _), (0, .ref _), (1, .int _), (2, .int _)]) C dX6_placeOn_1 rfl (by decide) rfl ?_
  refine hq_iconst (y := 0) C dX6_placeOn_2 (by decide) ?_
  refine hq_istore (L' := [(4, .int _), (3, .int _), (0, .ref _), (1, .int _), (2, .int _)]) C dX6_placeOn_3 (by decide) rfl ?_
  refine hq_perm [0, 1, 2, 3, 4] (L' := [(4, .int (nI 0)), (3, .int (-1)), (0, .ref (hw_ad b0 26 0)), (1, .int x), (2, .int y)]) rfl ?_
  refine lp_back (pf_po P i y) (fun (k9 : Nat) (σ : Int32) => hw_V p l e rX6_placeOn s m args below meth c (MQ below (hw_Q D b0 false 271 (some (.int (lp (pf_po P i y) (n + 1) 0 (-1)))) (hw_vl b0 I J P N o)) args s 0 0 (fun q => b0 ≤ q)) D b0 5 false 0 0 271 5 [(4, .int (nI k9)), (3, .int σ), (0, .ref (hw_ad b0 26 0)), (1, .int x), (2, .int y)] [] (hw_vl b0 I J P N o)) (fun _ _ => True) (n + 1) ?_ (fun _ _ _ _ => trivial) (n + 1) 0 (-1) (by omega) trivial ?_
  · intro k9 σ hi0 hinv0 k0
    have hi9 := hi0
    refine hq_iload (q := 0) C dX6_placeOn_5 rfl ?_
    refine hq_aload_n (q := 2) C dX6_placeOn_7 rfl rfl ?_
    refine hq_getR (f := 26) (g := 44) (Nc := 1) (Ns := 38) C fr_X6_63 dX6_placeOn_8 rfl rfl rfl rfl rfl (by decide) Nat.one_pos ?_
    refine hq_iload_n (q := 3) C dX6_placeOn_11 rfl rfl ?_
    refine hq_ialdP0 (f := 44) (a := i) (g := 19) (Nc := 1) (Ns := 40) C dX6_placeOn_12 rfl rfl rfl rfl rfl rfl hx hi Nat.one_pos ?_
    refine hq_icmp_ge (tgt := 45) C dX6_placeOn_13 (by decide) (fun c_13 => absurd c_13 (by rw [hw.2.1]; exact nI_ge hi9 (by omega))) (fun c_13 => ?_)
    refine hq_aload_n (q := 2) C dX6_placeOn_16 rfl rfl ?_
    refine hq_getR (f := 26) (g := 45) (Nc := 1) (Ns := 38) C fr_X6_66 dX6_placeOn_17 rfl rfl rfl rfl rfl (by decide) Nat.one_pos ?_
    refine hq_bipush (y := 12) C dX6_placeOn_20 (by decide) ?_
    refine hq_iload_n (q := 3) C dX6_placeOn_22 rfl rfl ?_
    refine hq_imul C dX6_placeOn_23 ?_
    refine hq_iload (q := 0) C dX6_placeOn_24 rfl ?_
    refine hq_iadd C dX6_placeOn_26 ?_
    refine hq_ialdP0 (f := 45) (a := 12 * i + k9) (g := 20) (Nc := 1) (Ns := 480) C dX6_placeOn_27 rfl rfl rfl rfl rfl rfl (ix12 hx rfl) (by omega) Nat.one_pos ?_
    refine hq_iload_n (q := 4) C dX6_placeOn_28 rfl rfl ?_
    refine hq_icmp_ne (tgt := 37) C dX6_placeOn_29 (by decide) (fun c_29 => ?_) (fun c_29 => ?_)
    · refine hq_iload_n (q := 1) C dX6_placeOn_37 rfl rfl ?_
      refine hq_istore_n (L' := [(3, .int _), (4, .int _), (0, .ref _), (1, .int _), (2, .int _)]) C dX6_placeOn_38 rfl (by decide) rfl ?_
      refine hq_iinc (q := 1) (y := nI (_ + 1)) (L' := [(4, .int _), (3, .int _), (0, .ref _), (1, .int _), (2, .int _)]) C dX6_placeOn_39 rfl (hw_inc _) (by decide) rfl ?_
      refine hq_goto (tgt := 5) C dX6_placeOn_42 (by decide) ?_
      exact hq_fin [0, 1, 2, 3, 4] (by first | rfl | (simp only [pf_po, c_29, ↓reduceIte, not_true_eq_false, not_false_eq_true]; rfl) | simp [lv_pick, pf_po, c_29]) (by first | rfl | (simp only [pf_po, c_29, ↓reduceIte, not_true_eq_false, not_false_eq_true]; done) | (simp only [pf_po, c_29, ↓reduceIte, not_true_eq_false, not_false_eq_true]; rfl) | simp [pf_po, c_29]) (by first | rfl | (simp only [pf_po, c_29, ↓reduceIte, not_true_eq_false, not_false_eq_true]; done) | (simp only [pf_po, c_29, ↓reduceIte, not_true_eq_false, not_false_eq_true]; rfl) | simp [pf_po, c_29]) (by first | rfl | (simp only [pf_po, c_29, ↓reduceIte, not_true_eq_false, not_false_eq_true]; done) | (simp only [pf_po, c_29, ↓reduceIte, not_true_eq_false, not_false_eq_true]; rfl) | simp [pf_po, c_29]) (by first | rfl | (simp only [pf_po, c_29, ↓reduceIte, not_true_eq_false, not_false_eq_true]; done) | (simp only [pf_po, c_29, ↓reduceIte, not_true_eq_false, not_false_eq_true]; rfl) | simp [pf_po, c_29]) (by first | rfl | (simp only [pf_po, c_29, ↓reduceIte, not_true_eq_false, not_false_eq_true]; done) | (simp only [pf_po, c_29, ↓reduceIte, not_true_eq_false, not_false_eq_true]; rfl) | simp [pf_po, c_29]) k0
    · refine hq_iload (q := 0) C dX6_placeOn_32 rfl ?_
      refine hq_goto (tgt := 38) C dX6_placeOn_34 (by decide) ?_
      refine hq_istore_n (L' := [(3, .int _), (4, .int _), (0, .ref _), (1, .int _), (2, .int _)]) C dX6_placeOn_38 rfl (by decide) rfl ?_
      refine hq_iinc (q := 1) (y := nI (_ + 1)) (L' := [(4, .int _), (3, .int _), (0, .ref _), (1, .int _), (2, .int _)]) C dX6_placeOn_39 rfl (hw_inc _) (by decide) rfl ?_
      refine hq_goto (tgt := 5) C dX6_placeOn_42 (by decide) ?_
      exact hq_fin [0, 1, 2, 3, 4] (by first | rfl | (simp only [pf_po, c_29, ↓reduceIte, not_true_eq_false, not_false_eq_true]; rfl) | simp [lv_pick, pf_po, c_29]) (by first | rfl | (simp only [pf_po, c_29, ↓reduceIte, not_true_eq_false, not_false_eq_true]; done) | (simp only [pf_po, c_29, ↓reduceIte, not_true_eq_false, not_false_eq_true]; rfl) | simp [pf_po, c_29]) (by first | rfl | (simp only [pf_po, c_29, ↓reduceIte, not_true_eq_false, not_false_eq_true]; done) | (simp only [pf_po, c_29, ↓reduceIte, not_true_eq_false, not_false_eq_true]; rfl) | simp [pf_po, c_29]) (by first | rfl | (simp only [pf_po, c_29, ↓reduceIte, not_true_eq_false, not_false_eq_true]; done) | (simp only [pf_po, c_29, ↓reduceIte, not_true_eq_false, not_false_eq_true]; rfl) | simp [pf_po, c_29]) (by first | rfl | (simp only [pf_po, c_29, ↓reduceIte, not_true_eq_false, not_false_eq_true]; done) | (simp only [pf_po, c_29, ↓reduceIte, not_true_eq_false, not_false_eq_true]; rfl) | simp [pf_po, c_29]) (by first | rfl | (simp only [pf_po, c_29, ↓reduceIte, not_true_eq_false, not_false_eq_true]; done) | (simp only [pf_po, c_29, ↓reduceIte, not_true_eq_false, not_false_eq_true]; rfl) | simp [pf_po, c_29]) k0
  · refine hq_iload (q := 0) C dX6_placeOn_5 rfl ?_
    refine hq_aload_n (q := 2) C dX6_placeOn_7 rfl rfl ?_
    refine hq_getR (f := 26) (g := 44) (Nc := 1) (Ns := 38) C fr_X6_63 dX6_placeOn_8 rfl rfl rfl rfl rfl (by decide) Nat.one_pos ?_
    refine hq_iload_n (q := 3) C dX6_placeOn_11 rfl rfl ?_
    refine hq_ialdP0 (f := 44) (g := 19) (Nc := 1) (Ns := 40) C dX6_placeOn_12 rfl rfl rfl rfl rfl rfl (by first | rfl | assumption) (by first | assumption | omega) Nat.one_pos ?_
    refine hq_icmp_ge (tgt := 45) C dX6_placeOn_13 (by decide) (fun c_13 => ?_) (fun c_13 => absurd (by rw [hw.2.1]; exact nI_le (Nat.le_refl _) (by omega)) c_13)
    refine hq_iload_n (q := 1) C dX6_placeOn_45 rfl rfl ?_
    exact hq_iret C hr hlk dX6_placeOn_46 rfl rfl
theorem hw_wy.congr {I I' : MI} {o n : Nat} (h : hw_wy I o n) (h1 : I' 19 o = I 19 o) (h2 : ∀ k, k ≤ n → I' 20 (12 * o + k) = I 20 (12 * o + k)) : hw_wy I' o n := ⟨h.1, h1.trans h.2.1, fun k hk => by rw [h2 k hk]; exact h.2.2 k hk⟩
theorem l1_oth {P : MI} {i q g j : Nat} (n : Nat) (h : ¬ (g = 20 ∧ 12 * i + q ≤ j ∧ j < 12 * i + q + n)) : lp (pf_l1 i q) n 0 P g j = P g j := lp_inv (pf_l1 i q) (fun _ σ => σ g j = P g j) n (fun k σ hk hs => by
  have : pf_l1 i q k σ g j = σ g j := by
    unfold pf_l1 uI
    rw [if_neg (by omega)]
  exact this.trans hs) n 0 P (by omega) rfl
theorem l1_at {P : MI} {i q k : Nat} (n : Nat) (h : k < n) : lp (pf_l1 i q) n 0 P 20 (12 * i + (q + k)) = P 43 k := by
  have key := lp_inv (pf_l1 i q) (fun j σ => (∀ j, σ 43 j = P 43 j) ∧ ∀ k, k < j → σ 20 (12 * i + (q + k)) = P 43 k) n (fun j σ hj hs => ⟨fun b => hs.1 b, fun k hk => by
    by_cases e : k = j
    · subst e
      have : pf_l1 i q k σ 20 (12 * i + (q + k)) = σ 43 k := if_pos ⟨rfl, rfl⟩
      exact this.trans (hs.1 k)
    · have : pf_l1 i q j σ 20 (12 * i + (q + k)) = σ 20 (12 * i + (q + k)) := if_neg (by omega)
      exact this.trans (hs.2 k (by omega))⟩) n 0 P (by omega) ⟨fun _ => rfl, fun k hk => absurd hk (Nat.not_lt_zero k)⟩
  exact key.2 k h
theorem l1_wy {P : MI} {i q m : Nat} (hqm : q + m < 12) (h1 : ∀ j, j < q → hw_ok (P 20 (12 * i + j))) (h2 : ∀ k, k ≤ m → hw_ok (P 43 k)) : hw_wy (lp (pf_l1 i q) (m + 1) 0 (uI P 19 i (nI (q + (m + 1))))) i (q + m) := by
  refine ⟨hqm, ?_, fun k hk => ?_⟩
  · rw [l1_oth _ (by omega)]; exact if_pos ⟨rfl, rfl⟩
  · rcases Nat.lt_or_ge k q with z | z
    · rw [l1_oth _ (by omega)]; exact h1 k z
    · have e := l1_at (P := uI P 19 i (nI (q + (m + 1)))) (i := i) (q := q) (k := k - q) (m + 1) (by omega)
      rw [show q + (k - q) = k by omega] at e
      rw [e]; exact h2 (k - q) (by omega)
set_option maxHeartbeats 4000000 in
set_option maxRecDepth 100000 in
theorem m_X6_lay {l : Launch} {D : va_G} {b0 : Nat} {I : MI} {J : MJ} {P : MI} {N : MJ} {o : Int64} {i q w : Nat} {x y z : Int32} (hi : i < 40) (hx : x = nI i) (hy : y = nI q) (hz : z = nI (w + 1)) (hqm : q + w < 12) (h1 : ∀ j, j < q → hw_ok (P 20 (12 * i + j))) (h2 : ∀ k, k ≤ w → hw_ok (P 43 k)) : hM l yX6_lay cX6_lay 5 none rX6_lay D b0 [.ref (hw_ad b0 26 0), .int x, .int y, .int z] I J P N o none I J (ps_lay P N i q w).1 (ps_lay P N i q w).2 o := by
  have hz1 : z - 1 = nI w := by rw [hz]; exact nI_pred _
  refine hw_Mof (by decide) [(0, .ref _), (1, .int _), (2, .int _), (3, .int _)] rfl (Nat.le_of_ble_eq_true rfl) ?_
  intro p e s m args below meth c C hr hlk hnm
  refine hq_aload_n (q := 0) C dX6_lay_0 rfl rfl ?_
  refine hq_getR (f := 26) (g := 44) (Nc := 1) (Ns := 38) C fr_X6_63 dX6_lay_1 rfl rfl rfl rfl rfl (by decide) Nat.one_pos ?_
  refine hq_iload_n (q := 1) C dX6_lay_4 rfl rfl ?_
  refine hq_iload_n (q := 2) C dX6_lay_5 rfl rfl ?_
  refine hq_iload_n (q := 3) C dX6_lay_6 rfl rfl ?_
  refine hq_iadd C dX6_lay_7 ?_
  refine hq_iastP0 (f := 44) (a := i) (g := 19) (Nc := 1) (Ns := 40) C dX6_lay_8 rfl rfl rfl rfl rfl rfl hx hi Nat.one_pos ?_
  refine hq_iconst (y := 0) C dX6_lay_9 (by decide) ?_
  refine hq_istore (L' := [(4, .int _), (0, .ref _), (1, .int _), (2, .int _), (3, .int _)]) C dX6_lay_10 (by decide) rfl ?_
  refine hq_perm [0, 1, 2, 3, 4] (L' := [(4, .int (nI 0)), (0, .ref (hw_ad b0 26 0)), (1, .int x), (2, .int y), (3, .int z)]) rfl ?_
  rw [show uI P 19 i (y + z) = (uI P 19 i (nI (q + (w + 1)))) from by rw [hy, hz, nI_add]]
  refine lp_back (pf_l1 i q) (fun (k9 : Nat) (σ : MI) => hw_V p l e rX6_lay s m args below meth c (MQ below (hw_Q D b0 false 271 none (hw_vl b0 I J (ps_lay P N i q w).1 (ps_lay P N i q w).2 o)) args s 0 0 (fun q => b0 ≤ q)) D b0 5 false 0 0 271 12 [(4, .int (nI k9)), (0, .ref (hw_ad b0 26 0)), (1, .int x), (2, .int y), (3, .int z)] [] (hw_vl b0 I J σ N o)) (fun _ _ => True) (w + 1) ?_ (fun _ _ _ _ => trivial) (w + 1) 0 (uI P 19 i (nI (q + (w + 1)))) (by omega) trivial ?_
  · intro k9 σ hi0 hinv0 k0
    have hi9 := hi0
    refine hq_iload (q := 0) C dX6_lay_12 rfl ?_
    refine hq_iload_n (q := 4) C dX6_lay_14 rfl rfl ?_
    refine hq_icmp_ge (tgt := 45) C dX6_lay_15 (by decide) (fun c_15 => absurd c_15 (by rw [hz]; exact nI_ge hi9 (by omega))) (fun c_15 => ?_)
    refine hq_aload_n (q := 1) C dX6_lay_18 rfl rfl ?_
    refine hq_getR (f := 26) (g := 45) (Nc := 1) (Ns := 38) C fr_X6_66 dX6_lay_19 rfl rfl rfl rfl rfl (by decide) Nat.one_pos ?_
    refine hq_bipush (y := 12) C dX6_lay_22 (by decide) ?_
    refine hq_iload_n (q := 2) C dX6_lay_24 rfl rfl ?_
    refine hq_imul C dX6_lay_25 ?_
    refine hq_iload_n (q := 3) C dX6_lay_26 rfl rfl ?_
    refine hq_iadd C dX6_lay_27 ?_
    refine hq_iload (q := 0) C dX6_lay_28 rfl ?_
    refine hq_iadd C dX6_lay_30 ?_
    refine hq_aload_n (q := 1) C dX6_lay_31 rfl rfl ?_
    refine hq_getR (f := 26) (g := 58) (Nc := 1) (Ns := 38) C fr_X6_106 dX6_lay_32 rfl rfl rfl rfl rfl (by decide) Nat.one_pos ?_
    refine hq_iload (q := 0) C dX6_lay_35 rfl ?_
    refine hq_ialdP0 (f := 58) (a := k9) (g := 43) (Nc := 1) (Ns := 12) C dX6_lay_37 rfl rfl rfl rfl rfl rfl rfl (by omega) Nat.one_pos ?_
    refine hq_iastP0 (f := 45) (a := 12 * i + (q + k9)) (g := 20) (Nc := 1) (Ns := 480) C dX6_lay_38 rfl rfl rfl rfl rfl rfl (ix12k hx hy) (by omega) Nat.one_pos ?_
    refine hq_iinc (q := 0) (y := nI (_ + 1)) (L' := [(4, .int _), (0, .ref _), (1, .int _), (2, .int _), (3, .int _)]) C dX6_lay_39 rfl (hw_inc _) (by decide) rfl ?_
    refine hq_goto (tgt := 12) C dX6_lay_42 (by decide) ?_
    exact hq_fin [0, 1, 2, 3, 4] (by first | rfl | (simp only [pf_l1, ↓reduceIte, not_true_eq_false, not_false_eq_true]; rfl) | simp [lv_pick, pf_l1]) (by first | rfl | simp [pf_l1]) (by first | rfl | simp [pf_l1]) (by first | rfl | simp [pf_l1]) (by first | rfl | simp [pf_l1]) (by first | rfl | simp [pf_l1]) k0
  · refine hq_iload (q := 0) C dX6_lay_12 rfl ?_
    refine hq_iload_n (q := 4) C dX6_lay_14 rfl rfl ?_
    refine hq_icmp_ge (tgt := 45) C dX6_lay_15 (by decide) (fun c_15 => ?_) (fun c_15 => absurd (by rw [hz]; exact nI_le (Nat.le_refl _) (by omega)) c_15)
    refine hq_iconst (y := 0) C dX6_lay_45 (by decide) ?_
    refine hq_istore (L' := [(4, .int _), (0, .ref _), (1, .int _), (2, .int _), (3, .int _)]) C dX6_lay_46 (by decide) rfl ?_
    refine hq_perm [0, 1, 2, 3, 4] (L' := [(4, .int (nI 0)), (0, .ref (hw_ad b0 26 0)), (1, .int x), (2, .int y), (3, .int z)]) rfl ?_
    refine lp_back (pf_l2 i q) (fun (k9 : Nat) (σ : MI × MJ) => hw_V p l e rX6_lay s m args below meth c (MQ below (hw_Q D b0 false 271 none (hw_vl b0 I J (ps_lay P N i q w).1 (ps_lay P N i q w).2 o)) args s 0 0 (fun q => b0 ≤ q)) D b0 5 false 0 0 271 48 [(4, .int (nI k9)), (0, .ref (hw_ad b0 26 0)), (1, .int x), (2, .int y), (3, .int z)] [] (hw_vl b0 I J σ.1 σ.2 o)) (fun _ σ => hw_wy σ.1 i (q + w) ∧ ∀ k, k ≤ w → hw_ok (σ.1 43 k)) w ?_ (fun k σ _ hs => ⟨hs.1.congr rfl (fun _ _ => rfl), hs.2⟩) w 0 (lp (pf_l1 i q) (w + 1) 0 (uI P 19 i (nI (q + (w + 1)))), N) (by omega) ⟨l1_wy hqm h1 h2, fun k hk => show hw_ok (lp (pf_l1 i q) (w + 1) 0 (uI P 19 i (nI (q + (w + 1)))) 43 k) from by rw [l1_oth _ (by omega)]; exact h2 k hk⟩ ?_
    · intro k9 σ hi1 hinv1 k1
      have hi9 := hi1
      have hf9 := hinv1.2 (k9 + 1) (by omega)
      refine hq_iload (q := 0) C dX6_lay_48 rfl ?_
      refine hq_iload_n (q := 4) C dX6_lay_50 rfl rfl ?_
      refine hq_iconst (y := 1) C dX6_lay_51 (by decide) ?_
      refine hq_isub C dX6_lay_52 ?_
      refine hq_icmp_ge (tgt := 109) C dX6_lay_53 (by decide) (fun c_53 => absurd c_53 (by rw [hz1]; exact nI_ge hi9 (by omega))) (fun c_53 => ?_)
      refine hq_aload_n (q := 1) C dX6_lay_56 rfl rfl ?_
      refine hq_getR (f := 26) (g := 46) (Nc := 1) (Ns := 38) C fr_X6_69 dX6_lay_57 rfl rfl rfl rfl rfl (by decide) Nat.one_pos ?_
      refine hq_bipush (y := 12) C dX6_lay_60 (by decide) ?_
      refine hq_iload_n (q := 2) C dX6_lay_62 rfl rfl ?_
      refine hq_imul C dX6_lay_63 ?_
      refine hq_iload_n (q := 3) C dX6_lay_64 rfl rfl ?_
      refine hq_iadd C dX6_lay_65 ?_
      refine hq_iload (q := 0) C dX6_lay_66 rfl ?_
      refine hq_iadd C dX6_lay_68 ?_
      refine hq_aload_n (q := 1) C dX6_lay_69 rfl rfl ?_
      refine hq_getR (f := 26) (g := 38) (Nc := 1) (Ns := 38) C fr_X6_45 dX6_lay_70 rfl rfl rfl rfl rfl (by decide) Nat.one_pos ?_
      refine hq_iload_n (q := 2) C dX6_lay_73 rfl rfl ?_
      refine hq_ialdP0 (f := 38) (a := i) (g := 12) (Nc := 1) (Ns := 40) C dX6_lay_74 rfl rfl rfl rfl rfl rfl hx hi Nat.one_pos ?_
      refine hq_i2l C dX6_lay_75 ?_
      refine hq_aload_n (q := 1) C dX6_lay_76 rfl rfl ?_
      refine hq_getR (f := 26) (g := 56) (Nc := 1) (Ns := 38) C fr_X6_100 dX6_lay_77 rfl rfl rfl rfl rfl (by decide) Nat.one_pos ?_
      refine hq_aload_n (q := 1) C dX6_lay_80 rfl rfl ?_
      refine hq_getR (f := 26) (g := 58) (Nc := 1) (Ns := 38) C fr_X6_106 dX6_lay_81 rfl rfl rfl rfl rfl (by decide) Nat.one_pos ?_
      refine hq_iload (q := 0) C dX6_lay_84 rfl ?_
      refine hq_iconst (y := 1) C dX6_lay_86 (by decide) ?_
      refine hq_iadd C dX6_lay_87 ?_
      refine hq_ialdP0 (f := 58) (a := k9 + 1) (g := 43) (Nc := 1) (Ns := 12) C dX6_lay_88 rfl rfl rfl rfl rfl rfl (nI_1 _) (by omega) Nat.one_pos ?_
      refine hq_laldN0 (f := 56) (a := tn (σ.1 43 (k9 + 1))) (g := 5) (Nc := 1) (Ns := 12) C dX6_lay_89 rfl rfl rfl rfl rfl rfl hf9.x hf9.b Nat.one_pos ?_
      refine hq_ladd C dX6_lay_90 ?_
      refine hq_l2i C dX6_lay_91 ?_
      refine hq_iastP0 (f := 46) (a := 12 * i + (q + k9)) (g := 21) (Nc := 1) (Ns := 480) C dX6_lay_92 rfl rfl rfl rfl rfl rfl (ix12k hx hy) (by omega) Nat.one_pos ?_
      refine hq_aload_n (q := 1) C dX6_lay_93 rfl rfl ?_
      refine hq_iload_n (q := 2) C dX6_lay_94 rfl rfl ?_
      refine hq_iload_n (q := 3) C dX6_lay_95 rfl rfl ?_
      refine hq_iload (q := 0) C dX6_lay_96 rfl ?_
      refine hq_iadd C dX6_lay_98 ?_
      refine hq_iconst (y := 1) C dX6_lay_99 (by decide) ?_
      refine hq_cVv (As := [.int _, .int _, .int _]) (rm := rX6_oweOn) (f := 26) (Nc := 1) C (m_X6_oweOn (k := q + k9) (n := q + w) hi (hinv1.1.congr rfl (fun _ _ => rfl)) hx (by rw [hy, nI_add]) (by omega)) wv_X6_oweOn ml_X6_139 rfl rfl rfl Nat.one_pos rfl rfl rfl rfl ⟨Nat.le_of_ble_eq_true rfl, Nat.le_of_ble_eq_true rfl⟩ (Nat.le_of_ble_eq_true rfl) ⟨Nat.le_of_ble_eq_true rfl, Nat.le_of_ble_eq_true rfl⟩ dX6_lay_100 ?_
      refine hq_iinc (q := 0) (y := nI (_ + 1)) (L' := [(4, .int _), (0, .ref _), (1, .int _), (2, .int _), (3, .int _)]) C dX6_lay_103 rfl (hw_inc _) (by decide) rfl ?_
      refine hq_goto (tgt := 48) C dX6_lay_106 (by decide) ?_
      exact hq_fin [0, 1, 2, 3, 4] (by first | rfl | (simp only [pf_l2, ↓reduceIte, not_true_eq_false, not_false_eq_true]; rfl) | simp [lv_pick, pf_l2]) (by first | rfl | simp [pf_l2]) (by first | rfl | simp [pf_l2]) (by first | rfl | simp [pf_l2]) (by first | rfl | simp [pf_l2]) (by first | rfl | simp [pf_l2]) k1
    · refine hq_iload (q := 0) C dX6_lay_48 rfl ?_
      refine hq_iload_n (q := 4) C dX6_lay_50 rfl rfl ?_
      refine hq_iconst (y := 1) C dX6_lay_51 (by decide) ?_
      refine hq_isub C dX6_lay_52 ?_
      refine hq_icmp_ge (tgt := 109) C dX6_lay_53 (by decide) (fun c_53 => ?_) (fun c_53 => absurd (by rw [hz1]; exact nI_le (Nat.le_refl _) (by omega)) c_53)
      exact hq_vret C hr hlk dX6_lay_109 rfl
def pf_bit (mk : Int32) (i : Nat) : Int32 := (mk >>> (nI i &&& 31)) &&& 1
def pf_f0 (x am mk : Int32) (i : Nat) (σ : MI × MJ) : MI × MJ := (uI σ.1 42 i 1, uJ σ.2 5 i (if ¬ nI i = x then 1000000000000 else if ¬ σ.1 7 i = 0 then 1000000000000 else if ¬ pf_bit mk i = 0 then 1000000000000 else ps_fee σ.1 i am))
def pf_up (am : Int32) (i c9 : Nat) (σ : MI × MJ) : MI × MJ := (uI σ.1 42 i (σ.1 42 c9 + 1), uJ σ.2 5 i (ps_fee σ.1 i am + σ.2 5 c9))
def pf_rx (x am mk : Int32) (i c9 : Nat) (σ : MI × MJ) : MI × MJ :=
  if nI i = x then σ else if ¬ σ.1 7 i = 0 then σ else if ¬ pf_bit mk i = 0 then σ else if ps_can σ.1 σ.2 i c9 am = 0 then σ
  else if lg_cmp (ps_fee σ.1 i am + σ.2 5 c9) (σ.2 5 i) < 0 then pf_up am i c9 σ else if ¬ lg_cmp (ps_fee σ.1 i am + σ.2 5 c9) (σ.2 5 i) = 0 then σ else if σ.1 42 i ≤ σ.1 42 c9 + 1 then σ else pf_up am i c9 σ
def pf_r2 (x am mk : Int32) (nb i : Nat) (σ : MI × MJ) : MI × MJ := lp (pf_rx x am mk i) nb 0 σ
def pf_r3 (x am mk : Int32) (nb _j : Nat) (σ : MI × MJ) : MI × MJ := lp (pf_r2 x am mk nb) nb 0 σ
def ps_fws (P : MI) (N : MJ) (x am mk : Int32) (nb : Nat) : MI × MJ := lp (pf_r3 x am mk nb) nb 0 (lp (pf_f0 x am mk) nb 0 (P, N))
theorem f0_oth {x am mk : Int32} {i : Nat} {σ : MI × MJ} {g j : Nat} (h : g ≠ 42) : (pf_f0 x am mk i σ).1 g j = σ.1 g j := by simp [pf_f0, uI, h]
theorem rx_oth {x am mk : Int32} {i c9 : Nat} {σ : MI × MJ} {g j : Nat} (h : g ≠ 42) : (pf_rx x am mk i c9 σ).1 g j = σ.1 g j := by
  unfold pf_rx
  repeat' split
  all_goals first | rfl | simp [pf_up, uI, h]
theorem r2_oth {x am mk : Int32} {nb i : Nat} {σ : MI × MJ} {g j : Nat} (h : g ≠ 42) : (pf_r2 x am mk nb i σ).1 g j = σ.1 g j := lp_inv (pf_rx x am mk i) (fun _ τ => τ.1 g j = σ.1 g j) nb (fun _ _ _ hs => (rx_oth h).trans hs) nb 0 σ (by omega) rfl
theorem r3_oth {x am mk : Int32} {nb i : Nat} {σ : MI × MJ} {g j : Nat} (h : g ≠ 42) : (pf_r3 x am mk nb i σ).1 g j = σ.1 g j := lp_inv (pf_r2 x am mk nb) (fun _ τ => τ.1 g j = σ.1 g j) nb (fun _ _ _ hs => (r2_oth h).trans hs) nb 0 σ (by omega) rfl
theorem fws_oth {P : MI} {N : MJ} {x am mk : Int32} {nb g j : Nat} (h : g ≠ 42) : (ps_fws P N x am mk nb).1 g j = P g j := by
  have e : (lp (pf_f0 x am mk) nb 0 (P, N)).1 g j = P g j := lp_inv (pf_f0 x am mk) (fun _ τ => τ.1 g j = P g j) nb (fun _ _ _ hs => (f0_oth h).trans hs) nb 0 (P, N) (by omega) rfl
  exact (lp_inv (pf_r3 x am mk nb) (fun _ τ => τ.1 g j = (lp (pf_f0 x am mk) nb 0 (P, N)).1 g j) nb (fun _ _ _ hs => (r3_oth h).trans hs) nb 0 _ (by omega) rfl).trans e
theorem f0_a {x am mk : Int32} {i : Nat} {σ : MI × MJ} (h : ¬ nI i = x) : pf_f0 x am mk i σ = (uI σ.1 42 i 1, uJ σ.2 5 i 1000000000000) := by unfold pf_f0; rw [if_pos h]
theorem f0_b {x am mk : Int32} {i : Nat} {σ : MI × MJ} (h : nI i = x) (h2 : ¬ σ.1 7 i = 0) : pf_f0 x am mk i σ = (uI σ.1 42 i 1, uJ σ.2 5 i 1000000000000) := by unfold pf_f0; rw [if_neg (fun z => z h), if_pos h2]
theorem f0_c {x am mk : Int32} {i : Nat} {σ : MI × MJ} (h : nI i = x) (h2 : σ.1 7 i = 0) (h3 : ¬ pf_bit mk i = 0) : pf_f0 x am mk i σ = (uI σ.1 42 i 1, uJ σ.2 5 i 1000000000000) := by unfold pf_f0; rw [if_neg (fun z => z h), if_neg (fun z => z h2), if_pos h3]
theorem f0_d {x am mk : Int32} {i : Nat} {σ : MI × MJ} (h : nI i = x) (h2 : σ.1 7 i = 0) (h3 : pf_bit mk i = 0) : pf_f0 x am mk i σ = (uI σ.1 42 i 1, uJ σ.2 5 i (ps_fee σ.1 i am)) := by unfold pf_f0; rw [if_neg (fun z => z h), if_neg (fun z => z h2), if_neg (fun z => z h3)]
set_option maxHeartbeats 4000000 in
set_option maxRecDepth 100000 in
theorem m_X6_findWays {l : Launch} {D : va_G} {b0 : Nat} {I : MI} {J : MJ} {P : MI} {N : MJ} {o : Int64} {x am mk : Int32} {nb : Nat} (hbc : P 0 0 = nI nb) (hnb : nb ≤ 12) : hM l yX6_findWays cX6_findWays 10 none rX6_findWays D b0 [.ref (hw_ad b0 26 0), .int x, .int am, .int mk] I J P N o none I J (ps_fws P N x am mk nb).1 (ps_fws P N x am mk nb).2 o := by
  refine hw_Mof (by decide) [(0, .ref _), (1, .int _), (2, .int _), (3, .int _)] rfl (Nat.le_of_ble_eq_true rfl) ?_
  intro p e s m args below meth c C hr hlk hnm
  refine hq_iconst (y := 0) C dX6_findWays_0 (by decide) ?_
  refine hq_istore (L' := [(4, .int _), (0, .ref _), (1, .int _), (2, .int _), (3, .int _)]) C dX6_findWays_1 (by decide) rfl ?_
  have hM0 : (lp (pf_f0 x am mk) nb 0 (P, N)).1 0 0 = nI nb := lp_inv (pf_f0 x am mk) (fun _ τ => τ.1 0 0 = nI nb) nb (fun _ _ _ hs => (f0_oth (by decide)).trans hs) nb 0 (P, N) (by omega) hbc
  refine hq_perm [0, 1, 2, 3, 4] (L' := [(4, .int (nI 0)), (0, .ref (hw_ad b0 26 0)), (1, .int x), (2, .int am), (3, .int mk)]) rfl ?_
  refine lp_back (pf_f0 x am mk) (fun (k9 : Nat) (σ : MI × MJ) => hw_V p l e rX6_findWays s m args below meth c (MQ below (hw_Q D b0 false 271 none (hw_vl b0 I J (ps_fws P N x am mk nb).1 (ps_fws P N x am mk nb).2 o)) args s 0 0 (fun q => b0 ≤ q)) D b0 10 false 0 0 271 3 [(4, .int (nI k9)), (0, .ref (hw_ad b0 26 0)), (1, .int x), (2, .int am), (3, .int mk)] [] (hw_vl b0 I J σ.1 σ.2 o)) (fun _ σ => σ.1 0 0 = nI nb) nb ?_ (fun _ _ _ hs => (f0_oth (by decide)).trans hs) nb 0 (P, N) (by omega) hbc ?_
  · intro k9 σ hi0 hinv0 k0
    refine hq_iload (q := 0) C dX6_findWays_3 rfl ?_
    refine hq_aload_n (q := 1) C dX6_findWays_5 rfl rfl ?_
    refine hq_getP (f := 26) (g := 0) (Nc := 1) (Ns := 38) C fr_X6_113 dX6_findWays_6 rfl rfl rfl rfl rfl (by decide) Nat.one_pos ?_
    refine hq_icmp_ge (tgt := 71) C dX6_findWays_9 (by decide) (fun c_9 => absurd c_9 (by rw [show σ.1 0 0 = nI nb from hinv0]; exact nI_ge hi0 (by omega))) (fun c_9 => ?_)
    refine hq_aload_n (q := 1) C dX6_findWays_12 rfl rfl ?_
    refine hq_getR (f := 26) (g := 56) (Nc := 1) (Ns := 38) C fr_X6_100 dX6_findWays_13 rfl rfl rfl rfl rfl (by decide) Nat.one_pos ?_
    refine hq_iload (q := 0) C dX6_findWays_16 rfl ?_
    refine hq_iload (q := 0) C dX6_findWays_18 rfl ?_
    refine hq_iload_n (q := 2) C dX6_findWays_20 rfl rfl ?_
    refine hq_icmp_ne (tgt := 53) C dX6_findWays_21 (by decide) (fun c_21 => ?_) (fun c_21 => ?_)
    · refine hq_ldc2 C wc_X6_147 dX6_findWays_53 ?_
      refine hq_lastN0 (f := 56) (a := k9) (g := 5) (Nc := 1) (Ns := 12) C dX6_findWays_56 rfl rfl rfl rfl rfl rfl rfl (by omega) Nat.one_pos ?_
      refine hq_aload_n (q := 1) C dX6_findWays_57 rfl rfl ?_
      refine hq_getR (f := 26) (g := 57) (Nc := 1) (Ns := 38) C fr_X6_103 dX6_findWays_58 rfl rfl rfl rfl rfl (by decide) Nat.one_pos ?_
      refine hq_iload (q := 0) C dX6_findWays_61 rfl ?_
      refine hq_iconst (y := 1) C dX6_findWays_63 (by decide) ?_
      refine hq_iastP0 (f := 57) (a := k9) (g := 42) (Nc := 1) (Ns := 12) C dX6_findWays_64 rfl rfl rfl rfl rfl rfl rfl (by omega) Nat.one_pos ?_
      refine hq_iinc (q := 0) (y := nI (_ + 1)) (L' := [(4, .int _), (0, .ref _), (1, .int _), (2, .int _), (3, .int _)]) C dX6_findWays_65 rfl (hw_inc _) (by decide) rfl ?_
      refine hq_goto (tgt := 3) C dX6_findWays_68 (by decide) ?_
      rw [f0_a c_21] at k0
      exact hq_fin [0, 1, 2, 3, 4] rfl rfl rfl rfl rfl rfl k0
    · refine hq_aload_n (q := 1) C dX6_findWays_24 rfl rfl ?_
      refine hq_getR (f := 26) (g := 30) (Nc := 1) (Ns := 38) C fr_X6_20 dX6_findWays_25 rfl rfl rfl rfl rfl (by decide) Nat.one_pos ?_
      refine hq_iload (q := 0) C dX6_findWays_28 rfl ?_
      refine hq_ialdP0 (f := 30) (a := k9) (g := 7) (Nc := 1) (Ns := 12) C dX6_findWays_30 rfl rfl rfl rfl rfl rfl rfl (by omega) Nat.one_pos ?_
      refine hq_if_ne (tgt := 53) C dX6_findWays_31 (by decide) (fun c_31 => ?_) (fun c_31 => ?_)
      · refine hq_ldc2 C wc_X6_147 dX6_findWays_53 ?_
        refine hq_lastN0 (f := 56) (a := k9) (g := 5) (Nc := 1) (Ns := 12) C dX6_findWays_56 rfl rfl rfl rfl rfl rfl rfl (by omega) Nat.one_pos ?_
        refine hq_aload_n (q := 1) C dX6_findWays_57 rfl rfl ?_
        refine hq_getR (f := 26) (g := 57) (Nc := 1) (Ns := 38) C fr_X6_103 dX6_findWays_58 rfl rfl rfl rfl rfl (by decide) Nat.one_pos ?_
        refine hq_iload (q := 0) C dX6_findWays_61 rfl ?_
        refine hq_iconst (y := 1) C dX6_findWays_63 (by decide) ?_
        refine hq_iastP0 (f := 57) (a := k9) (g := 42) (Nc := 1) (Ns := 12) C dX6_findWays_64 rfl rfl rfl rfl rfl rfl rfl (by omega) Nat.one_pos ?_
        refine hq_iinc (q := 0) (y := nI (_ + 1)) (L' := [(4, .int _), (0, .ref _), (1, .int _), (2, .int _), (3, .int _)]) C dX6_findWays_65 rfl (hw_inc _) (by decide) rfl ?_
        refine hq_goto (tgt := 3) C dX6_findWays_68 (by decide) ?_
        rw [f0_b c_21 c_31] at k0
        exact hq_fin [0, 1, 2, 3, 4] rfl rfl rfl rfl rfl rfl k0
      · refine hq_iload_n (q := 4) C dX6_findWays_34 rfl rfl ?_
        refine hq_iload (q := 0) C dX6_findWays_35 rfl ?_
        refine hq_ishr C dX6_findWays_37 ?_
        refine hq_iconst (y := 1) C dX6_findWays_38 (by decide) ?_
        refine hq_iand C dX6_findWays_39 ?_
        refine hq_if_ne (tgt := 53) C dX6_findWays_40 (by decide) (fun c_40 => ?_) (fun c_40 => ?_)
        · refine hq_ldc2 C wc_X6_147 dX6_findWays_53 ?_
          refine hq_lastN0 (f := 56) (a := k9) (g := 5) (Nc := 1) (Ns := 12) C dX6_findWays_56 rfl rfl rfl rfl rfl rfl rfl (by omega) Nat.one_pos ?_
          refine hq_aload_n (q := 1) C dX6_findWays_57 rfl rfl ?_
          refine hq_getR (f := 26) (g := 57) (Nc := 1) (Ns := 38) C fr_X6_103 dX6_findWays_58 rfl rfl rfl rfl rfl (by decide) Nat.one_pos ?_
          refine hq_iload (q := 0) C dX6_findWays_61 rfl ?_
          refine hq_iconst (y := 1) C dX6_findWays_63 (by decide) ?_
          refine hq_iastP0 (f := 57) (a := k9) (g := 42) (Nc := 1) (Ns := 12) C dX6_findWays_64 rfl rfl rfl rfl rfl rfl rfl (by omega) Nat.one_pos ?_
          refine hq_iinc (q := 0) (y := nI (_ + 1)) (L' := [(4, .int _), (0, .ref _), (1, .int _), (2, .int _), (3, .int _)]) C dX6_findWays_65 rfl (hw_inc _) (by decide) rfl ?_
          refine hq_goto (tgt := 3) C dX6_findWays_68 (by decide) ?_
          rw [f0_c c_21 c_31 c_40] at k0
          exact hq_fin [0, 1, 2, 3, 4] rfl rfl rfl rfl rfl rfl k0
        · refine hq_aload_n (q := 1) C dX6_findWays_43 rfl rfl ?_
          refine hq_iload (q := 0) C dX6_findWays_44 rfl ?_
          refine hq_iload_n (q := 3) C dX6_findWays_46 rfl rfl ?_
          refine hq_cVr (As := [.int _, .int _]) (rm := rX6_feeOf) (f := 26) (Nc := 1) C (m_X6_feeOf (b := k9) rfl (by omega)) wv_X6_feeOf ml_X6_153 rfl rfl rfl Nat.one_pos rfl rfl rfl rfl ⟨Nat.le_of_ble_eq_true rfl, Nat.le_of_ble_eq_true rfl⟩ (Nat.le_of_ble_eq_true rfl) ⟨Nat.le_of_ble_eq_true rfl, Nat.le_of_ble_eq_true rfl⟩ dX6_findWays_47 ?_
          refine hq_goto (tgt := 56) C dX6_findWays_50 (by decide) ?_
          refine hq_lastN0 (f := 56) (a := k9) (g := 5) (Nc := 1) (Ns := 12) C dX6_findWays_56 rfl rfl rfl rfl rfl rfl rfl (by omega) Nat.one_pos ?_
          refine hq_aload_n (q := 1) C dX6_findWays_57 rfl rfl ?_
          refine hq_getR (f := 26) (g := 57) (Nc := 1) (Ns := 38) C fr_X6_103 dX6_findWays_58 rfl rfl rfl rfl rfl (by decide) Nat.one_pos ?_
          refine hq_iload (q := 0) C dX6_findWays_61 rfl ?_
          refine hq_iconst (y := 1) C dX6_findWays_63 (by decide) ?_
          refine hq_iastP0 (f := 57) (a := k9) (g := 42) (Nc := 1) (Ns := 12) C dX6_findWays_64 rfl rfl rfl rfl rfl rfl rfl (by omega) Nat.one_pos ?_
          refine hq_iinc (q := 0) (y := nI (_ + 1)) (L' := [(4, .int _), (0, .ref _), (1, .int _), (2, .int _), (3, .int _)]) C dX6_findWays_65 rfl (hw_inc _) (by decide) rfl ?_
          refine hq_goto (tgt := 3) C dX6_findWays_68 (by decide) ?_
          rw [f0_d c_21 c_31 c_40] at k0
          exact hq_fin [0, 1, 2, 3, 4] rfl rfl rfl rfl rfl rfl k0
  · refine hq_iload (q := 0) C dX6_findWays_3 rfl ?_
    refine hq_aload_n (q := 1) C dX6_findWays_5 rfl rfl ?_
    refine hq_getP (f := 26) (g := 0) (Nc := 1) (Ns := 38) C fr_X6_113 dX6_findWays_6 rfl rfl rfl rfl rfl (by decide) Nat.one_pos ?_
    refine hq_icmp_ge (tgt := 71) C dX6_findWays_9 (by decide) (fun c_9 => ?_) (fun c_9 => absurd (by rw [hM0]; exact nI_le (Nat.le_refl nb) (by omega)) c_9)
    refine hq_iconst (y := 0) C dX6_findWays_71 (by decide) ?_
    refine hq_istore (L' := [(4, .int _), (0, .ref _), (1, .int _), (2, .int _), (3, .int _)]) C dX6_findWays_72 (by decide) rfl ?_
    refine hq_perm [0, 1, 2, 3, 4] (L' := [(4, .int (nI 0)), (0, .ref (hw_ad b0 26 0)), (1, .int x), (2, .int am), (3, .int mk)]) rfl ?_
    refine lp_back (pf_r3 x am mk nb) (fun (r9 : Nat) (σ1 : MI × MJ) => hw_V p l e rX6_findWays s m args below meth c (MQ below (hw_Q D b0 false 271 none (hw_vl b0 I J (ps_fws P N x am mk nb).1 (ps_fws P N x am mk nb).2 o)) args s 0 0 (fun q => b0 ≤ q)) D b0 10 false 0 0 271 74 [(4, .int (nI r9)), (0, .ref (hw_ad b0 26 0)), (1, .int x), (2, .int am), (3, .int mk)] [] (hw_vl b0 I J σ1.1 σ1.2 o)) (fun _ σ => σ.1 0 0 = nI nb) nb ?_ (fun _ _ _ hs => (r3_oth (by decide)).trans hs) nb 0 (lp (pf_f0 x am mk) nb 0 (P, N)) (by omega) hM0 ?_
    · intro r9 σ1 hi1 hinv1 k1
      refine hq_iload (q := 0) C dX6_findWays_74 rfl ?_
      refine hq_aload_n (q := 1) C dX6_findWays_76 rfl rfl ?_
      refine hq_getP (f := 26) (g := 0) (Nc := 1) (Ns := 38) C fr_X6_113 dX6_findWays_77 rfl rfl rfl rfl rfl (by decide) Nat.one_pos ?_
      refine hq_icmp_ge (tgt := 261) C dX6_findWays_80 (by decide) (fun c_80 => absurd c_80 (by rw [show σ1.1 0 0 = nI nb from hinv1]; exact nI_ge hi1 (by omega))) (fun c_80 => ?_)
      refine hq_iconst (y := 0) C dX6_findWays_83 (by decide) ?_
      refine hq_istore (L' := [(5, .int _), (4, .int _), (0, .ref _), (1, .int _), (2, .int _), (3, .int _)]) C dX6_findWays_84 (by decide) rfl ?_
      refine hq_perm [0, 1, 2, 3, 4, 5] (L' := [(5, .int (nI 0)), (4, .int (nI r9)), (0, .ref (hw_ad b0 26 0)), (1, .int x), (2, .int am), (3, .int mk)]) rfl ?_
      refine lp_back (pf_r2 x am mk nb) (fun (b : Nat) (σ2 : MI × MJ) => hw_V p l e rX6_findWays s m args below meth c (MQ below (hw_Q D b0 false 271 none (hw_vl b0 I J (ps_fws P N x am mk nb).1 (ps_fws P N x am mk nb).2 o)) args s 0 0 (fun q => b0 ≤ q)) D b0 10 false 0 0 271 86 [(5, .int (nI b)), (4, .int (nI r9)), (0, .ref (hw_ad b0 26 0)), (1, .int x), (2, .int am), (3, .int mk)] [] (hw_vl b0 I J σ2.1 σ2.2 o)) (fun _ σ => σ.1 0 0 = nI nb) nb ?_ (fun _ _ _ hs => (r2_oth (by decide)).trans hs) nb 0 σ1 (by omega) hinv1 ?_
      · intro b σ2 hi2 hinv2 k2
        refine hq_iload (q := 0) C dX6_findWays_86 rfl ?_
        refine hq_aload_n (q := 2) C dX6_findWays_88 rfl rfl ?_
        refine hq_getP (f := 26) (g := 0) (Nc := 1) (Ns := 38) C fr_X6_113 dX6_findWays_89 rfl rfl rfl rfl rfl (by decide) Nat.one_pos ?_
        refine hq_icmp_ge (tgt := 255) C dX6_findWays_92 (by decide) (fun c_92 => absurd c_92 (by rw [show σ2.1 0 0 = nI nb from hinv2]; exact nI_ge hi2 (by omega))) (fun c_92 => ?_)
        refine hq_iconst (y := 0) C dX6_findWays_95 (by decide) ?_
        refine hq_istore (L' := [(6, .int _), (5, .int _), (4, .int _), (0, .ref _), (1, .int _), (2, .int _), (3, .int _)]) C dX6_findWays_96 (by decide) rfl ?_
        refine hq_perm [0, 1, 2, 3, 4, 5, 6] (L' := [(6, .int (nI 0)), (5, .int (nI b)), (4, .int (nI r9)), (0, .ref (hw_ad b0 26 0)), (1, .int x), (2, .int am), (3, .int mk)]) rfl ?_
        refine lp_back (pf_rx x am mk b) (fun (c9 : Nat) (σ3 : MI × MJ) => hw_V p l e rX6_findWays s m args below meth c (MQ below (hw_Q D b0 false 271 none (hw_vl b0 I J (ps_fws P N x am mk nb).1 (ps_fws P N x am mk nb).2 o)) args s 0 0 (fun q => b0 ≤ q)) D b0 10 false 0 0 271 98 [(6, .int (nI c9)), (5, .int (nI b)), (4, .int (nI r9)), (0, .ref (hw_ad b0 26 0)), (1, .int x), (2, .int am), (3, .int mk)] [] (hw_vl b0 I J σ3.1 σ3.2 o)) (fun _ σ => σ.1 0 0 = nI nb) nb ?_ (fun _ _ _ hs => (rx_oth (by decide)).trans hs) nb 0 σ2 (by omega) hinv2 ?_
        · intro c9 σ3 hi3 hinv3 k3
          refine hq_iload (q := 0) C dX6_findWays_98 rfl ?_
          refine hq_aload_n (q := 3) C dX6_findWays_100 rfl rfl ?_
          refine hq_getP (f := 26) (g := 0) (Nc := 1) (Ns := 38) C fr_X6_113 dX6_findWays_101 rfl rfl rfl rfl rfl (by decide) Nat.one_pos ?_
          refine hq_icmp_ge (tgt := 249) C dX6_findWays_104 (by decide) (fun c_104 => absurd c_104 (by rw [show σ3.1 0 0 = nI nb from hinv3]; exact nI_ge hi3 (by omega))) (fun c_104 => ?_)
          refine hq_iload (q := 1) C dX6_findWays_107 rfl ?_
          refine hq_iload_n (q := 4) C dX6_findWays_109 rfl rfl ?_
          refine hq_icmp_eq (tgt := 148) C dX6_findWays_110 (by decide) (fun c_110 => ?_) (fun c_110 => ?_)
          · refine hq_iconst (y := 0) C dX6_findWays_148 (by decide) ?_
            refine hq_istore (L' := [(7, .int _), (6, .int _), (5, .int _), (4, .int _), (0, .ref _), (1, .int _), (2, .int _), (3, .int _)]) C dX6_findWays_149 (by decide) rfl ?_
            refine hq_aload_n (q := 4) C dX6_findWays_151 rfl rfl ?_
            refine hq_iload (q := 2) C dX6_findWays_152 rfl ?_
            refine hq_iload_n (q := 6) C dX6_findWays_154 rfl rfl ?_
            refine hq_cVr (As := [.int _, .int _]) (rm := rX6_feeOf) (f := 26) (Nc := 1) C (m_X6_feeOf (b := b) rfl (by omega)) wv_X6_feeOf ml_X6_153 rfl rfl rfl Nat.one_pos rfl rfl rfl rfl ⟨Nat.le_of_ble_eq_true rfl, Nat.le_of_ble_eq_true rfl⟩ (Nat.le_of_ble_eq_true rfl) ⟨Nat.le_of_ble_eq_true rfl, Nat.le_of_ble_eq_true rfl⟩ dX6_findWays_155 ?_
            refine hq_aload_n (q := 4) C dX6_findWays_158 rfl rfl ?_
            refine hq_getR (f := 26) (g := 56) (Nc := 1) (Ns := 38) C fr_X6_100 dX6_findWays_159 rfl rfl rfl rfl rfl (by decide) Nat.one_pos ?_
            refine hq_iload (q := 1) C dX6_findWays_162 rfl ?_
            refine hq_laldN0 (f := 56) (a := c9) (g := 5) (Nc := 1) (Ns := 12) C dX6_findWays_164 rfl rfl rfl rfl rfl rfl rfl (by omega) Nat.one_pos ?_
            refine hq_ladd C dX6_findWays_165 ?_
            refine hq_lstore (L' := [(8, .long _), (7, .int _), (6, .int _), (5, .int _), (4, .int _), (0, .ref _), (1, .int _), (2, .int _), (3, .int _)]) C dX6_findWays_166 (by decide) rfl ?_
            refine hq_iload (q := 1) C dX6_findWays_168 rfl ?_
            refine hq_if_eq (tgt := 243) C dX6_findWays_170 (by decide) (fun _ => ?_) (fun c_170 => absurd c_170 (by decide))
            refine hq_iinc (q := 2) (y := nI (_ + 1)) (L' := [(6, .int _), (8, .long _), (7, .int _), (5, .int _), (4, .int _), (0, .ref _), (1, .int _), (2, .int _), (3, .int _)]) C dX6_findWays_243 rfl (hw_inc _) (by decide) rfl ?_
            refine hq_goto (tgt := 98) C dX6_findWays_246 (by decide) ?_
            exact hq_fin [0, 3, 4, 5, 6, 7, 8] (by first | rfl | (simp only [pf_rx, pf_bit, pf_up, c_110, ↓reduceIte, not_true_eq_false, not_false_eq_true]; rfl) | simp [lv_pick, pf_rx, pf_bit, pf_up, c_110]) (by first | rfl | (simp only [pf_rx, pf_bit, pf_up, c_110, ↓reduceIte, not_true_eq_false, not_false_eq_true]; done) | (simp only [pf_rx, pf_bit, pf_up, c_110, ↓reduceIte, not_true_eq_false, not_false_eq_true]; rfl) | simp [pf_rx, pf_bit, pf_up, c_110]) (by first | rfl | (simp only [pf_rx, pf_bit, pf_up, c_110, ↓reduceIte, not_true_eq_false, not_false_eq_true]; done) | (simp only [pf_rx, pf_bit, pf_up, c_110, ↓reduceIte, not_true_eq_false, not_false_eq_true]; rfl) | simp [pf_rx, pf_bit, pf_up, c_110]) (by first | rfl | (simp only [pf_rx, pf_bit, pf_up, c_110, ↓reduceIte, not_true_eq_false, not_false_eq_true]; done) | (simp only [pf_rx, pf_bit, pf_up, c_110, ↓reduceIte, not_true_eq_false, not_false_eq_true]; rfl) | simp [pf_rx, pf_bit, pf_up, c_110]) (by first | rfl | (simp only [pf_rx, pf_bit, pf_up, c_110, ↓reduceIte, not_true_eq_false, not_false_eq_true]; done) | (simp only [pf_rx, pf_bit, pf_up, c_110, ↓reduceIte, not_true_eq_false, not_false_eq_true]; rfl) | simp [pf_rx, pf_bit, pf_up, c_110]) (by first | rfl | (simp only [pf_rx, pf_bit, pf_up, c_110, ↓reduceIte, not_true_eq_false, not_false_eq_true]; done) | (simp only [pf_rx, pf_bit, pf_up, c_110, ↓reduceIte, not_true_eq_false, not_false_eq_true]; rfl) | simp [pf_rx, pf_bit, pf_up, c_110]) k3
          · refine hq_aload_n (q := 3) C dX6_findWays_113 rfl rfl ?_
            refine hq_getR (f := 26) (g := 30) (Nc := 1) (Ns := 38) C fr_X6_20 dX6_findWays_114 rfl rfl rfl rfl rfl (by decide) Nat.one_pos ?_
            refine hq_iload (q := 1) C dX6_findWays_117 rfl ?_
            refine hq_ialdP0 (f := 30) (a := b) (g := 7) (Nc := 1) (Ns := 12) C dX6_findWays_119 rfl rfl rfl rfl rfl rfl rfl (by omega) Nat.one_pos ?_
            refine hq_if_ne (tgt := 148) C dX6_findWays_120 (by decide) (fun c_120 => ?_) (fun c_120 => ?_)
            · refine hq_iconst (y := 0) C dX6_findWays_148 (by decide) ?_
              refine hq_istore (L' := [(7, .int _), (6, .int _), (5, .int _), (4, .int _), (0, .ref _), (1, .int _), (2, .int _), (3, .int _)]) C dX6_findWays_149 (by decide) rfl ?_
              refine hq_aload_n (q := 4) C dX6_findWays_151 rfl rfl ?_
              refine hq_iload (q := 2) C dX6_findWays_152 rfl ?_
              refine hq_iload_n (q := 6) C dX6_findWays_154 rfl rfl ?_
              refine hq_cVr (As := [.int _, .int _]) (rm := rX6_feeOf) (f := 26) (Nc := 1) C (m_X6_feeOf (b := b) rfl (by omega)) wv_X6_feeOf ml_X6_153 rfl rfl rfl Nat.one_pos rfl rfl rfl rfl ⟨Nat.le_of_ble_eq_true rfl, Nat.le_of_ble_eq_true rfl⟩ (Nat.le_of_ble_eq_true rfl) ⟨Nat.le_of_ble_eq_true rfl, Nat.le_of_ble_eq_true rfl⟩ dX6_findWays_155 ?_
              refine hq_aload_n (q := 4) C dX6_findWays_158 rfl rfl ?_
              refine hq_getR (f := 26) (g := 56) (Nc := 1) (Ns := 38) C fr_X6_100 dX6_findWays_159 rfl rfl rfl rfl rfl (by decide) Nat.one_pos ?_
              refine hq_iload (q := 1) C dX6_findWays_162 rfl ?_
              refine hq_laldN0 (f := 56) (a := c9) (g := 5) (Nc := 1) (Ns := 12) C dX6_findWays_164 rfl rfl rfl rfl rfl rfl rfl (by omega) Nat.one_pos ?_
              refine hq_ladd C dX6_findWays_165 ?_
              refine hq_lstore (L' := [(8, .long _), (7, .int _), (6, .int _), (5, .int _), (4, .int _), (0, .ref _), (1, .int _), (2, .int _), (3, .int _)]) C dX6_findWays_166 (by decide) rfl ?_
              refine hq_iload (q := 1) C dX6_findWays_168 rfl ?_
              refine hq_if_eq (tgt := 243) C dX6_findWays_170 (by decide) (fun _ => ?_) (fun c_170 => absurd c_170 (by decide))
              refine hq_iinc (q := 2) (y := nI (_ + 1)) (L' := [(6, .int _), (8, .long _), (7, .int _), (5, .int _), (4, .int _), (0, .ref _), (1, .int _), (2, .int _), (3, .int _)]) C dX6_findWays_243 rfl (hw_inc _) (by decide) rfl ?_
              refine hq_goto (tgt := 98) C dX6_findWays_246 (by decide) ?_
              exact hq_fin [0, 3, 4, 5, 6, 7, 8] (by first | rfl | (simp only [pf_rx, pf_bit, pf_up, c_110, c_120, ↓reduceIte, not_true_eq_false, not_false_eq_true]; rfl) | simp [lv_pick, pf_rx, pf_bit, pf_up, c_110, c_120]) (by first | rfl | (simp only [pf_rx, pf_bit, pf_up, c_110, c_120, ↓reduceIte, not_true_eq_false, not_false_eq_true]; done) | (simp only [pf_rx, pf_bit, pf_up, c_110, c_120, ↓reduceIte, not_true_eq_false, not_false_eq_true]; rfl) | simp [pf_rx, pf_bit, pf_up, c_110, c_120]) (by first | rfl | (simp only [pf_rx, pf_bit, pf_up, c_110, c_120, ↓reduceIte, not_true_eq_false, not_false_eq_true]; done) | (simp only [pf_rx, pf_bit, pf_up, c_110, c_120, ↓reduceIte, not_true_eq_false, not_false_eq_true]; rfl) | simp [pf_rx, pf_bit, pf_up, c_110, c_120]) (by first | rfl | (simp only [pf_rx, pf_bit, pf_up, c_110, c_120, ↓reduceIte, not_true_eq_false, not_false_eq_true]; done) | (simp only [pf_rx, pf_bit, pf_up, c_110, c_120, ↓reduceIte, not_true_eq_false, not_false_eq_true]; rfl) | simp [pf_rx, pf_bit, pf_up, c_110, c_120]) (by first | rfl | (simp only [pf_rx, pf_bit, pf_up, c_110, c_120, ↓reduceIte, not_true_eq_false, not_false_eq_true]; done) | (simp only [pf_rx, pf_bit, pf_up, c_110, c_120, ↓reduceIte, not_true_eq_false, not_false_eq_true]; rfl) | simp [pf_rx, pf_bit, pf_up, c_110, c_120]) (by first | rfl | (simp only [pf_rx, pf_bit, pf_up, c_110, c_120, ↓reduceIte, not_true_eq_false, not_false_eq_true]; done) | (simp only [pf_rx, pf_bit, pf_up, c_110, c_120, ↓reduceIte, not_true_eq_false, not_false_eq_true]; rfl) | simp [pf_rx, pf_bit, pf_up, c_110, c_120]) k3
            · refine hq_iload_n (q := 6) C dX6_findWays_123 rfl rfl ?_
              refine hq_iload (q := 1) C dX6_findWays_124 rfl ?_
              refine hq_ishr C dX6_findWays_126 ?_
              refine hq_iconst (y := 1) C dX6_findWays_127 (by decide) ?_
              refine hq_iand C dX6_findWays_128 ?_
              refine hq_if_ne (tgt := 148) C dX6_findWays_129 (by decide) (fun c_129 => ?_) (fun c_129 => ?_)
              · refine hq_iconst (y := 0) C dX6_findWays_148 (by decide) ?_
                refine hq_istore (L' := [(7, .int _), (6, .int _), (5, .int _), (4, .int _), (0, .ref _), (1, .int _), (2, .int _), (3, .int _)]) C dX6_findWays_149 (by decide) rfl ?_
                refine hq_aload_n (q := 4) C dX6_findWays_151 rfl rfl ?_
                refine hq_iload (q := 2) C dX6_findWays_152 rfl ?_
                refine hq_iload_n (q := 6) C dX6_findWays_154 rfl rfl ?_
                refine hq_cVr (As := [.int _, .int _]) (rm := rX6_feeOf) (f := 26) (Nc := 1) C (m_X6_feeOf (b := b) rfl (by omega)) wv_X6_feeOf ml_X6_153 rfl rfl rfl Nat.one_pos rfl rfl rfl rfl ⟨Nat.le_of_ble_eq_true rfl, Nat.le_of_ble_eq_true rfl⟩ (Nat.le_of_ble_eq_true rfl) ⟨Nat.le_of_ble_eq_true rfl, Nat.le_of_ble_eq_true rfl⟩ dX6_findWays_155 ?_
                refine hq_aload_n (q := 4) C dX6_findWays_158 rfl rfl ?_
                refine hq_getR (f := 26) (g := 56) (Nc := 1) (Ns := 38) C fr_X6_100 dX6_findWays_159 rfl rfl rfl rfl rfl (by decide) Nat.one_pos ?_
                refine hq_iload (q := 1) C dX6_findWays_162 rfl ?_
                refine hq_laldN0 (f := 56) (a := c9) (g := 5) (Nc := 1) (Ns := 12) C dX6_findWays_164 rfl rfl rfl rfl rfl rfl rfl (by omega) Nat.one_pos ?_
                refine hq_ladd C dX6_findWays_165 ?_
                refine hq_lstore (L' := [(8, .long _), (7, .int _), (6, .int _), (5, .int _), (4, .int _), (0, .ref _), (1, .int _), (2, .int _), (3, .int _)]) C dX6_findWays_166 (by decide) rfl ?_
                refine hq_iload (q := 1) C dX6_findWays_168 rfl ?_
                refine hq_if_eq (tgt := 243) C dX6_findWays_170 (by decide) (fun _ => ?_) (fun c_170 => absurd c_170 (by decide))
                refine hq_iinc (q := 2) (y := nI (_ + 1)) (L' := [(6, .int _), (8, .long _), (7, .int _), (5, .int _), (4, .int _), (0, .ref _), (1, .int _), (2, .int _), (3, .int _)]) C dX6_findWays_243 rfl (hw_inc _) (by decide) rfl ?_
                refine hq_goto (tgt := 98) C dX6_findWays_246 (by decide) ?_
                exact hq_fin [0, 3, 4, 5, 6, 7, 8] (by first | rfl | (simp only [pf_rx, pf_bit, pf_up, c_110, c_120, c_129, ↓reduceIte, not_true_eq_false, not_false_eq_true]; rfl) | simp [lv_pick, pf_rx, pf_bit, pf_up, c_110, c_120, c_129]) (by first | rfl | (simp only [pf_rx, pf_bit, pf_up, c_110, c_120, c_129, ↓reduceIte, not_true_eq_false, not_false_eq_true]; done) | (simp only [pf_rx, pf_bit, pf_up, c_110, c_120, c_129, ↓reduceIte, not_true_eq_false, not_false_eq_true]; rfl) | simp [pf_rx, pf_bit, pf_up, c_110, c_120, c_129]) (by first | rfl | (simp only [pf_rx, pf_bit, pf_up, c_110, c_120, c_129, ↓reduceIte, not_true_eq_false, not_false_eq_true]; done) | (simp only [pf_rx, pf_bit, pf_up, c_110, c_120, c_129, ↓reduceIte, not_true_eq_false, not_false_eq_true]; rfl) | simp [pf_rx, pf_bit, pf_up, c_110, c_120, c_129]) (by first | rfl | (simp only [pf_rx, pf_bit, pf_up, c_110, c_120, c_129, ↓reduceIte, not_true_eq_false, not_false_eq_true]; done) | (simp only [pf_rx, pf_bit, pf_up, c_110, c_120, c_129, ↓reduceIte, not_true_eq_false, not_false_eq_true]; rfl) | simp [pf_rx, pf_bit, pf_up, c_110, c_120, c_129]) (by first | rfl | (simp only [pf_rx, pf_bit, pf_up, c_110, c_120, c_129, ↓reduceIte, not_true_eq_false, not_false_eq_true]; done) | (simp only [pf_rx, pf_bit, pf_up, c_110, c_120, c_129, ↓reduceIte, not_true_eq_false, not_false_eq_true]; rfl) | simp [pf_rx, pf_bit, pf_up, c_110, c_120, c_129]) (by first | rfl | (simp only [pf_rx, pf_bit, pf_up, c_110, c_120, c_129, ↓reduceIte, not_true_eq_false, not_false_eq_true]; done) | (simp only [pf_rx, pf_bit, pf_up, c_110, c_120, c_129, ↓reduceIte, not_true_eq_false, not_false_eq_true]; rfl) | simp [pf_rx, pf_bit, pf_up, c_110, c_120, c_129]) k3
              · refine hq_aload_n (q := 3) C dX6_findWays_132 rfl rfl ?_
                refine hq_iload (q := 1) C dX6_findWays_133 rfl ?_
                refine hq_iload (q := 0) C dX6_findWays_135 rfl ?_
                refine hq_iload_n (q := 5) C dX6_findWays_137 rfl rfl ?_
                refine hq_cVr (As := [.int _, .int _, .int _]) (rm := rX6_canOwe) (f := 26) (Nc := 1) C (m_X6_canOwe (a := b) (c9 := c9) rfl (by omega) rfl (by omega)) wv_X6_canOwe ml_X6_156 rfl rfl rfl Nat.one_pos rfl rfl rfl rfl ⟨Nat.le_of_ble_eq_true rfl, Nat.le_of_ble_eq_true rfl⟩ (Nat.le_of_ble_eq_true rfl) ⟨Nat.le_of_ble_eq_true rfl, Nat.le_of_ble_eq_true rfl⟩ dX6_findWays_138 ?_
                refine hq_if_eq (tgt := 148) C dX6_findWays_141 (by decide) (fun c_141 => ?_) (fun c_141 => ?_)
                · refine hq_iconst (y := 0) C dX6_findWays_148 (by decide) ?_
                  refine hq_istore (L' := [(7, .int _), (6, .int _), (5, .int _), (4, .int _), (0, .ref _), (1, .int _), (2, .int _), (3, .int _)]) C dX6_findWays_149 (by decide) rfl ?_
                  refine hq_aload_n (q := 4) C dX6_findWays_151 rfl rfl ?_
                  refine hq_iload (q := 2) C dX6_findWays_152 rfl ?_
                  refine hq_iload_n (q := 6) C dX6_findWays_154 rfl rfl ?_
                  refine hq_cVr (As := [.int _, .int _]) (rm := rX6_feeOf) (f := 26) (Nc := 1) C (m_X6_feeOf (b := b) rfl (by omega)) wv_X6_feeOf ml_X6_153 rfl rfl rfl Nat.one_pos rfl rfl rfl rfl ⟨Nat.le_of_ble_eq_true rfl, Nat.le_of_ble_eq_true rfl⟩ (Nat.le_of_ble_eq_true rfl) ⟨Nat.le_of_ble_eq_true rfl, Nat.le_of_ble_eq_true rfl⟩ dX6_findWays_155 ?_
                  refine hq_aload_n (q := 4) C dX6_findWays_158 rfl rfl ?_
                  refine hq_getR (f := 26) (g := 56) (Nc := 1) (Ns := 38) C fr_X6_100 dX6_findWays_159 rfl rfl rfl rfl rfl (by decide) Nat.one_pos ?_
                  refine hq_iload (q := 1) C dX6_findWays_162 rfl ?_
                  refine hq_laldN0 (f := 56) (a := c9) (g := 5) (Nc := 1) (Ns := 12) C dX6_findWays_164 rfl rfl rfl rfl rfl rfl rfl (by omega) Nat.one_pos ?_
                  refine hq_ladd C dX6_findWays_165 ?_
                  refine hq_lstore (L' := [(8, .long _), (7, .int _), (6, .int _), (5, .int _), (4, .int _), (0, .ref _), (1, .int _), (2, .int _), (3, .int _)]) C dX6_findWays_166 (by decide) rfl ?_
                  refine hq_iload (q := 1) C dX6_findWays_168 rfl ?_
                  refine hq_if_eq (tgt := 243) C dX6_findWays_170 (by decide) (fun _ => ?_) (fun c_170 => absurd c_170 (by decide))
                  refine hq_iinc (q := 2) (y := nI (_ + 1)) (L' := [(6, .int _), (8, .long _), (7, .int _), (5, .int _), (4, .int _), (0, .ref _), (1, .int _), (2, .int _), (3, .int _)]) C dX6_findWays_243 rfl (hw_inc _) (by decide) rfl ?_
                  refine hq_goto (tgt := 98) C dX6_findWays_246 (by decide) ?_
                  exact hq_fin [0, 3, 4, 5, 6, 7, 8] (by first | rfl | (simp only [pf_rx, pf_bit, pf_up, c_110, c_120, c_129, c_141, ↓reduceIte, not_true_eq_false, not_false_eq_true]; rfl) | simp [lv_pick, pf_rx, pf_bit, pf_up, c_110, c_120, c_129, c_141]) (by first | rfl | (simp only [pf_rx, pf_bit, pf_up, c_110, c_120, c_129, c_141, ↓reduceIte, not_true_eq_false, not_false_eq_true]; done) | (simp only [pf_rx, pf_bit, pf_up, c_110, c_120, c_129, c_141, ↓reduceIte, not_true_eq_false, not_false_eq_true]; rfl) | simp [pf_rx, pf_bit, pf_up, c_110, c_120, c_129, c_141]) (by first | rfl | (simp only [pf_rx, pf_bit, pf_up, c_110, c_120, c_129, c_141, ↓reduceIte, not_true_eq_false, not_false_eq_true]; done) | (simp only [pf_rx, pf_bit, pf_up, c_110, c_120, c_129, c_141, ↓reduceIte, not_true_eq_false, not_false_eq_true]; rfl) | simp [pf_rx, pf_bit, pf_up, c_110, c_120, c_129, c_141]) (by first | rfl | (simp only [pf_rx, pf_bit, pf_up, c_110, c_120, c_129, c_141, ↓reduceIte, not_true_eq_false, not_false_eq_true]; done) | (simp only [pf_rx, pf_bit, pf_up, c_110, c_120, c_129, c_141, ↓reduceIte, not_true_eq_false, not_false_eq_true]; rfl) | simp [pf_rx, pf_bit, pf_up, c_110, c_120, c_129, c_141]) (by first | rfl | (simp only [pf_rx, pf_bit, pf_up, c_110, c_120, c_129, c_141, ↓reduceIte, not_true_eq_false, not_false_eq_true]; done) | (simp only [pf_rx, pf_bit, pf_up, c_110, c_120, c_129, c_141, ↓reduceIte, not_true_eq_false, not_false_eq_true]; rfl) | simp [pf_rx, pf_bit, pf_up, c_110, c_120, c_129, c_141]) (by first | rfl | (simp only [pf_rx, pf_bit, pf_up, c_110, c_120, c_129, c_141, ↓reduceIte, not_true_eq_false, not_false_eq_true]; done) | (simp only [pf_rx, pf_bit, pf_up, c_110, c_120, c_129, c_141, ↓reduceIte, not_true_eq_false, not_false_eq_true]; rfl) | simp [pf_rx, pf_bit, pf_up, c_110, c_120, c_129, c_141]) k3
                · refine hq_iconst (y := 1) C dX6_findWays_144 (by decide) ?_
                  refine hq_goto (tgt := 149) C dX6_findWays_145 (by decide) ?_
                  refine hq_istore (L' := [(7, .int _), (6, .int _), (5, .int _), (4, .int _), (0, .ref _), (1, .int _), (2, .int _), (3, .int _)]) C dX6_findWays_149 (by decide) rfl ?_
                  refine hq_aload_n (q := 4) C dX6_findWays_151 rfl rfl ?_
                  refine hq_iload (q := 2) C dX6_findWays_152 rfl ?_
                  refine hq_iload_n (q := 6) C dX6_findWays_154 rfl rfl ?_
                  refine hq_cVr (As := [.int _, .int _]) (rm := rX6_feeOf) (f := 26) (Nc := 1) C (m_X6_feeOf (b := b) rfl (by omega)) wv_X6_feeOf ml_X6_153 rfl rfl rfl Nat.one_pos rfl rfl rfl rfl ⟨Nat.le_of_ble_eq_true rfl, Nat.le_of_ble_eq_true rfl⟩ (Nat.le_of_ble_eq_true rfl) ⟨Nat.le_of_ble_eq_true rfl, Nat.le_of_ble_eq_true rfl⟩ dX6_findWays_155 ?_
                  refine hq_aload_n (q := 4) C dX6_findWays_158 rfl rfl ?_
                  refine hq_getR (f := 26) (g := 56) (Nc := 1) (Ns := 38) C fr_X6_100 dX6_findWays_159 rfl rfl rfl rfl rfl (by decide) Nat.one_pos ?_
                  refine hq_iload (q := 1) C dX6_findWays_162 rfl ?_
                  refine hq_laldN0 (f := 56) (a := c9) (g := 5) (Nc := 1) (Ns := 12) C dX6_findWays_164 rfl rfl rfl rfl rfl rfl rfl (by omega) Nat.one_pos ?_
                  refine hq_ladd C dX6_findWays_165 ?_
                  refine hq_lstore (L' := [(8, .long _), (7, .int _), (6, .int _), (5, .int _), (4, .int _), (0, .ref _), (1, .int _), (2, .int _), (3, .int _)]) C dX6_findWays_166 (by decide) rfl ?_
                  refine hq_iload (q := 1) C dX6_findWays_168 rfl ?_
                  refine hq_if_eq (tgt := 243) C dX6_findWays_170 (by decide) (fun c_170 => absurd c_170 (by decide)) (fun _ => ?_)
                  refine hq_lload (q := 0) C dX6_findWays_173 rfl ?_
                  refine hq_aload_n (q := 5) C dX6_findWays_175 rfl rfl ?_
                  refine hq_getR (f := 26) (g := 56) (Nc := 1) (Ns := 38) C fr_X6_100 dX6_findWays_176 rfl rfl rfl rfl rfl (by decide) Nat.one_pos ?_
                  refine hq_iload (q := 3) C dX6_findWays_179 rfl ?_
                  refine hq_laldN0 (f := 56) (a := b) (g := 5) (Nc := 1) (Ns := 12) C dX6_findWays_181 rfl rfl rfl rfl rfl rfl rfl (by omega) Nat.one_pos ?_
                  refine hq_lcmp C dX6_findWays_182 ?_
                  refine hq_if_lt (tgt := 218) C dX6_findWays_183 (by decide) (fun c_183 => ?_) (fun c_183 => ?_)
                  · refine hq_aload_n (q := 5) C dX6_findWays_218 rfl rfl ?_
                    refine hq_getR (f := 26) (g := 56) (Nc := 1) (Ns := 38) C fr_X6_100 dX6_findWays_219 rfl rfl rfl rfl rfl (by decide) Nat.one_pos ?_
                    refine hq_iload (q := 3) C dX6_findWays_222 rfl ?_
                    refine hq_lload (q := 0) C dX6_findWays_224 rfl ?_
                    refine hq_lastN0 (f := 56) (a := b) (g := 5) (Nc := 1) (Ns := 12) C dX6_findWays_226 rfl rfl rfl rfl rfl rfl rfl (by omega) Nat.one_pos ?_
                    refine hq_aload_n (q := 5) C dX6_findWays_227 rfl rfl ?_
                    refine hq_getR (f := 26) (g := 57) (Nc := 1) (Ns := 38) C fr_X6_103 dX6_findWays_228 rfl rfl rfl rfl rfl (by decide) Nat.one_pos ?_
                    refine hq_iload (q := 3) C dX6_findWays_231 rfl ?_
                    refine hq_aload_n (q := 5) C dX6_findWays_233 rfl rfl ?_
                    refine hq_getR (f := 26) (g := 57) (Nc := 1) (Ns := 38) C fr_X6_103 dX6_findWays_234 rfl rfl rfl rfl rfl (by decide) Nat.one_pos ?_
                    refine hq_iload (q := 2) C dX6_findWays_237 rfl ?_
                    refine hq_ialdP0 (f := 57) (a := c9) (g := 42) (Nc := 1) (Ns := 12) C dX6_findWays_239 rfl rfl rfl rfl rfl rfl rfl (by omega) Nat.one_pos ?_
                    refine hq_iconst (y := 1) C dX6_findWays_240 (by decide) ?_
                    refine hq_iadd C dX6_findWays_241 ?_
                    refine hq_iastP0 (f := 57) (a := b) (g := 42) (Nc := 1) (Ns := 12) C dX6_findWays_242 rfl rfl rfl rfl rfl rfl rfl (by omega) Nat.one_pos ?_
                    refine hq_iinc (q := 2) (y := nI (_ + 1)) (L' := [(6, .int _), (8, .long _), (7, .int _), (5, .int _), (4, .int _), (0, .ref _), (1, .int _), (2, .int _), (3, .int _)]) C dX6_findWays_243 rfl (hw_inc _) (by decide) rfl ?_
                    refine hq_goto (tgt := 98) C dX6_findWays_246 (by decide) ?_
                    exact hq_fin [0, 3, 4, 5, 6, 7, 8] (by first | rfl | (simp only [pf_rx, pf_bit, pf_up, c_110, c_120, c_129, c_141, c_183, ↓reduceIte, not_true_eq_false, not_false_eq_true]; rfl) | simp [lv_pick, pf_rx, pf_bit, pf_up, c_110, c_120, c_129, c_141, c_183]) (by first | rfl | (simp only [pf_rx, pf_bit, pf_up, c_110, c_120, c_129, c_141, c_183, ↓reduceIte, not_true_eq_false, not_false_eq_true]; done) | (simp only [pf_rx, pf_bit, pf_up, c_110, c_120, c_129, c_141, c_183, ↓reduceIte, not_true_eq_false, not_false_eq_true]; rfl) | simp [pf_rx, pf_bit, pf_up, c_110, c_120, c_129, c_141, c_183]) (by first | rfl | (simp only [pf_rx, pf_bit, pf_up, c_110, c_120, c_129, c_141, c_183, ↓reduceIte, not_true_eq_false, not_false_eq_true]; done) | (simp only [pf_rx, pf_bit, pf_up, c_110, c_120, c_129, c_141, c_183, ↓reduceIte, not_true_eq_false, not_false_eq_true]; rfl) | simp [pf_rx, pf_bit, pf_up, c_110, c_120, c_129, c_141, c_183]) (by first | rfl | (simp only [pf_rx, pf_bit, pf_up, c_110, c_120, c_129, c_141, c_183, ↓reduceIte, not_true_eq_false, not_false_eq_true]; done) | (simp only [pf_rx, pf_bit, pf_up, c_110, c_120, c_129, c_141, c_183, ↓reduceIte, not_true_eq_false, not_false_eq_true]; rfl) | simp [pf_rx, pf_bit, pf_up, c_110, c_120, c_129, c_141, c_183]) (by first | rfl | (simp only [pf_rx, pf_bit, pf_up, c_110, c_120, c_129, c_141, c_183, ↓reduceIte, not_true_eq_false, not_false_eq_true]; done) | (simp only [pf_rx, pf_bit, pf_up, c_110, c_120, c_129, c_141, c_183, ↓reduceIte, not_true_eq_false, not_false_eq_true]; rfl) | simp [pf_rx, pf_bit, pf_up, c_110, c_120, c_129, c_141, c_183]) (by first | rfl | (simp only [pf_rx, pf_bit, pf_up, c_110, c_120, c_129, c_141, c_183, ↓reduceIte, not_true_eq_false, not_false_eq_true]; done) | (simp only [pf_rx, pf_bit, pf_up, c_110, c_120, c_129, c_141, c_183, ↓reduceIte, not_true_eq_false, not_false_eq_true]; rfl) | simp [pf_rx, pf_bit, pf_up, c_110, c_120, c_129, c_141, c_183]) k3
                  · refine hq_lload (q := 0) C dX6_findWays_186 rfl ?_
                    refine hq_aload_n (q := 5) C dX6_findWays_188 rfl rfl ?_
                    refine hq_getR (f := 26) (g := 56) (Nc := 1) (Ns := 38) C fr_X6_100 dX6_findWays_189 rfl rfl rfl rfl rfl (by decide) Nat.one_pos ?_
                    refine hq_iload (q := 3) C dX6_findWays_192 rfl ?_
                    refine hq_laldN0 (f := 56) (a := b) (g := 5) (Nc := 1) (Ns := 12) C dX6_findWays_194 rfl rfl rfl rfl rfl rfl rfl (by omega) Nat.one_pos ?_
                    refine hq_lcmp C dX6_findWays_195 ?_
                    refine hq_if_ne (tgt := 243) C dX6_findWays_196 (by decide) (fun c_196 => ?_) (fun c_196 => ?_)
                    · refine hq_iinc (q := 2) (y := nI (_ + 1)) (L' := [(6, .int _), (8, .long _), (7, .int _), (5, .int _), (4, .int _), (0, .ref _), (1, .int _), (2, .int _), (3, .int _)]) C dX6_findWays_243 rfl (hw_inc _) (by decide) rfl ?_
                      refine hq_goto (tgt := 98) C dX6_findWays_246 (by decide) ?_
                      exact hq_fin [0, 3, 4, 5, 6, 7, 8] (by first | rfl | (simp only [pf_rx, pf_bit, pf_up, c_110, c_120, c_129, c_141, c_183, c_196, ↓reduceIte, not_true_eq_false, not_false_eq_true]; rfl) | simp [lv_pick, pf_rx, pf_bit, pf_up, c_110, c_120, c_129, c_141, c_183, c_196]) (by first | rfl | (simp only [pf_rx, pf_bit, pf_up, c_110, c_120, c_129, c_141, c_183, c_196, ↓reduceIte, not_true_eq_false, not_false_eq_true]; done) | (simp only [pf_rx, pf_bit, pf_up, c_110, c_120, c_129, c_141, c_183, c_196, ↓reduceIte, not_true_eq_false, not_false_eq_true]; rfl) | simp [pf_rx, pf_bit, pf_up, c_110, c_120, c_129, c_141, c_183, c_196]) (by first | rfl | (simp only [pf_rx, pf_bit, pf_up, c_110, c_120, c_129, c_141, c_183, c_196, ↓reduceIte, not_true_eq_false, not_false_eq_true]; done) | (simp only [pf_rx, pf_bit, pf_up, c_110, c_120, c_129, c_141, c_183, c_196, ↓reduceIte, not_true_eq_false, not_false_eq_true]; rfl) | simp [pf_rx, pf_bit, pf_up, c_110, c_120, c_129, c_141, c_183, c_196]) (by first | rfl | (simp only [pf_rx, pf_bit, pf_up, c_110, c_120, c_129, c_141, c_183, c_196, ↓reduceIte, not_true_eq_false, not_false_eq_true]; done) | (simp only [pf_rx, pf_bit, pf_up, c_110, c_120, c_129, c_141, c_183, c_196, ↓reduceIte, not_true_eq_false, not_false_eq_true]; rfl) | simp [pf_rx, pf_bit, pf_up, c_110, c_120, c_129, c_141, c_183, c_196]) (by first | rfl | (simp only [pf_rx, pf_bit, pf_up, c_110, c_120, c_129, c_141, c_183, c_196, ↓reduceIte, not_true_eq_false, not_false_eq_true]; done) | (simp only [pf_rx, pf_bit, pf_up, c_110, c_120, c_129, c_141, c_183, c_196, ↓reduceIte, not_true_eq_false, not_false_eq_true]; rfl) | simp [pf_rx, pf_bit, pf_up, c_110, c_120, c_129, c_141, c_183, c_196]) (by first | rfl | (simp only [pf_rx, pf_bit, pf_up, c_110, c_120, c_129, c_141, c_183, c_196, ↓reduceIte, not_true_eq_false, not_false_eq_true]; done) | (simp only [pf_rx, pf_bit, pf_up, c_110, c_120, c_129, c_141, c_183, c_196, ↓reduceIte, not_true_eq_false, not_false_eq_true]; rfl) | simp [pf_rx, pf_bit, pf_up, c_110, c_120, c_129, c_141, c_183, c_196]) k3
                    · refine hq_aload_n (q := 5) C dX6_findWays_199 rfl rfl ?_
                      refine hq_getR (f := 26) (g := 57) (Nc := 1) (Ns := 38) C fr_X6_103 dX6_findWays_200 rfl rfl rfl rfl rfl (by decide) Nat.one_pos ?_
                      refine hq_iload (q := 2) C dX6_findWays_203 rfl ?_
                      refine hq_ialdP0 (f := 57) (a := c9) (g := 42) (Nc := 1) (Ns := 12) C dX6_findWays_205 rfl rfl rfl rfl rfl rfl rfl (by omega) Nat.one_pos ?_
                      refine hq_iconst (y := 1) C dX6_findWays_206 (by decide) ?_
                      refine hq_iadd C dX6_findWays_207 ?_
                      refine hq_aload_n (q := 5) C dX6_findWays_208 rfl rfl ?_
                      refine hq_getR (f := 26) (g := 57) (Nc := 1) (Ns := 38) C fr_X6_103 dX6_findWays_209 rfl rfl rfl rfl rfl (by decide) Nat.one_pos ?_
                      refine hq_iload (q := 3) C dX6_findWays_212 rfl ?_
                      refine hq_ialdP0 (f := 57) (a := b) (g := 42) (Nc := 1) (Ns := 12) C dX6_findWays_214 rfl rfl rfl rfl rfl rfl rfl (by omega) Nat.one_pos ?_
                      refine hq_icmp_ge (tgt := 243) C dX6_findWays_215 (by decide) (fun c_215 => ?_) (fun c_215 => ?_)
                      · refine hq_iinc (q := 2) (y := nI (_ + 1)) (L' := [(6, .int _), (8, .long _), (7, .int _), (5, .int _), (4, .int _), (0, .ref _), (1, .int _), (2, .int _), (3, .int _)]) C dX6_findWays_243 rfl (hw_inc _) (by decide) rfl ?_
                        refine hq_goto (tgt := 98) C dX6_findWays_246 (by decide) ?_
                        exact hq_fin [0, 3, 4, 5, 6, 7, 8] (by first | rfl | (simp only [pf_rx, pf_bit, pf_up, c_110, c_120, c_129, c_141, c_183, c_196, c_215, ↓reduceIte, not_true_eq_false, not_false_eq_true]; rfl) | simp [lv_pick, pf_rx, pf_bit, pf_up, c_110, c_120, c_129, c_141, c_183, c_196, c_215]) (by first | rfl | (simp only [pf_rx, pf_bit, pf_up, c_110, c_120, c_129, c_141, c_183, c_196, c_215, ↓reduceIte, not_true_eq_false, not_false_eq_true]; done) | (simp only [pf_rx, pf_bit, pf_up, c_110, c_120, c_129, c_141, c_183, c_196, c_215, ↓reduceIte, not_true_eq_false, not_false_eq_true]; rfl) | simp [pf_rx, pf_bit, pf_up, c_110, c_120, c_129, c_141, c_183, c_196, c_215]) (by first | rfl | (simp only [pf_rx, pf_bit, pf_up, c_110, c_120, c_129, c_141, c_183, c_196, c_215, ↓reduceIte, not_true_eq_false, not_false_eq_true]; done) | (simp only [pf_rx, pf_bit, pf_up, c_110, c_120, c_129, c_141, c_183, c_196, c_215, ↓reduceIte, not_true_eq_false, not_false_eq_true]; rfl) | simp [pf_rx, pf_bit, pf_up, c_110, c_120, c_129, c_141, c_183, c_196, c_215]) (by first | rfl | (simp only [pf_rx, pf_bit, pf_up, c_110, c_120, c_129, c_141, c_183, c_196, c_215, ↓reduceIte, not_true_eq_false, not_false_eq_true]; done) | (simp only [pf_rx, pf_bit, pf_up, c_110, c_120, c_129, c_141, c_183, c_196, c_215, ↓reduceIte, not_true_eq_false, not_false_eq_true]; rfl) | simp [pf_rx, pf_bit, pf_up, c_110, c_120, c_129, c_141, c_183, c_196, c_215]) (by first | rfl | (simp only [pf_rx, pf_bit, pf_up, c_110, c_120, c_129, c_141, c_183, c_196, c_215, ↓reduceIte, not_true_eq_false, not_false_eq_true]; done) | (simp only [pf_rx, pf_bit, pf_up, c_110, c_120, c_129, c_141, c_183, c_196, c_215, ↓reduceIte, not_true_eq_false, not_false_eq_true]; rfl) | simp [pf_rx, pf_bit, pf_up, c_110, c_120, c_129, c_141, c_183, c_196, c_215]) (by first | rfl | (simp only [pf_rx, pf_bit, pf_up, c_110, c_120, c_129, c_141, c_183, c_196, c_215, ↓reduceIte, not_true_eq_false, not_false_eq_true]; done) | (simp only [pf_rx, pf_bit, pf_up, c_110, c_120, c_129, c_141, c_183, c_196, c_215, ↓reduceIte, not_true_eq_false, not_false_eq_true]; rfl) | simp [pf_rx, pf_bit, pf_up, c_110, c_120, c_129, c_141, c_183, c_196, c_215]) k3
                      · refine hq_aload_n (q := 5) C dX6_findWays_218 rfl rfl ?_
                        refine hq_getR (f := 26) (g := 56) (Nc := 1) (Ns := 38) C fr_X6_100 dX6_findWays_219 rfl rfl rfl rfl rfl (by decide) Nat.one_pos ?_
                        refine hq_iload (q := 3) C dX6_findWays_222 rfl ?_
                        refine hq_lload (q := 0) C dX6_findWays_224 rfl ?_
                        refine hq_lastN0 (f := 56) (a := b) (g := 5) (Nc := 1) (Ns := 12) C dX6_findWays_226 rfl rfl rfl rfl rfl rfl rfl (by omega) Nat.one_pos ?_
                        refine hq_aload_n (q := 5) C dX6_findWays_227 rfl rfl ?_
                        refine hq_getR (f := 26) (g := 57) (Nc := 1) (Ns := 38) C fr_X6_103 dX6_findWays_228 rfl rfl rfl rfl rfl (by decide) Nat.one_pos ?_
                        refine hq_iload (q := 3) C dX6_findWays_231 rfl ?_
                        refine hq_aload_n (q := 5) C dX6_findWays_233 rfl rfl ?_
                        refine hq_getR (f := 26) (g := 57) (Nc := 1) (Ns := 38) C fr_X6_103 dX6_findWays_234 rfl rfl rfl rfl rfl (by decide) Nat.one_pos ?_
                        refine hq_iload (q := 2) C dX6_findWays_237 rfl ?_
                        refine hq_ialdP0 (f := 57) (a := c9) (g := 42) (Nc := 1) (Ns := 12) C dX6_findWays_239 rfl rfl rfl rfl rfl rfl rfl (by omega) Nat.one_pos ?_
                        refine hq_iconst (y := 1) C dX6_findWays_240 (by decide) ?_
                        refine hq_iadd C dX6_findWays_241 ?_
                        refine hq_iastP0 (f := 57) (a := b) (g := 42) (Nc := 1) (Ns := 12) C dX6_findWays_242 rfl rfl rfl rfl rfl rfl rfl (by omega) Nat.one_pos ?_
                        refine hq_iinc (q := 2) (y := nI (_ + 1)) (L' := [(6, .int _), (8, .long _), (7, .int _), (5, .int _), (4, .int _), (0, .ref _), (1, .int _), (2, .int _), (3, .int _)]) C dX6_findWays_243 rfl (hw_inc _) (by decide) rfl ?_
                        refine hq_goto (tgt := 98) C dX6_findWays_246 (by decide) ?_
                        exact hq_fin [0, 3, 4, 5, 6, 7, 8] (by first | rfl | (simp only [pf_rx, pf_bit, pf_up, c_110, c_120, c_129, c_141, c_183, c_196, c_215, ↓reduceIte, not_true_eq_false, not_false_eq_true]; rfl) | simp [lv_pick, pf_rx, pf_bit, pf_up, c_110, c_120, c_129, c_141, c_183, c_196, c_215]) (by first | rfl | (simp only [pf_rx, pf_bit, pf_up, c_110, c_120, c_129, c_141, c_183, c_196, c_215, ↓reduceIte, not_true_eq_false, not_false_eq_true]; done) | (simp only [pf_rx, pf_bit, pf_up, c_110, c_120, c_129, c_141, c_183, c_196, c_215, ↓reduceIte, not_true_eq_false, not_false_eq_true]; rfl) | simp [pf_rx, pf_bit, pf_up, c_110, c_120, c_129, c_141, c_183, c_196, c_215]) (by first | rfl | (simp only [pf_rx, pf_bit, pf_up, c_110, c_120, c_129, c_141, c_183, c_196, c_215, ↓reduceIte, not_true_eq_false, not_false_eq_true]; done) | (simp only [pf_rx, pf_bit, pf_up, c_110, c_120, c_129, c_141, c_183, c_196, c_215, ↓reduceIte, not_true_eq_false, not_false_eq_true]; rfl) | simp [pf_rx, pf_bit, pf_up, c_110, c_120, c_129, c_141, c_183, c_196, c_215]) (by first | rfl | (simp only [pf_rx, pf_bit, pf_up, c_110, c_120, c_129, c_141, c_183, c_196, c_215, ↓reduceIte, not_true_eq_false, not_false_eq_true]; done) | (simp only [pf_rx, pf_bit, pf_up, c_110, c_120, c_129, c_141, c_183, c_196, c_215, ↓reduceIte, not_true_eq_false, not_false_eq_true]; rfl) | simp [pf_rx, pf_bit, pf_up, c_110, c_120, c_129, c_141, c_183, c_196, c_215]) (by first | rfl | (simp only [pf_rx, pf_bit, pf_up, c_110, c_120, c_129, c_141, c_183, c_196, c_215, ↓reduceIte, not_true_eq_false, not_false_eq_true]; done) | (simp only [pf_rx, pf_bit, pf_up, c_110, c_120, c_129, c_141, c_183, c_196, c_215, ↓reduceIte, not_true_eq_false, not_false_eq_true]; rfl) | simp [pf_rx, pf_bit, pf_up, c_110, c_120, c_129, c_141, c_183, c_196, c_215]) (by first | rfl | (simp only [pf_rx, pf_bit, pf_up, c_110, c_120, c_129, c_141, c_183, c_196, c_215, ↓reduceIte, not_true_eq_false, not_false_eq_true]; done) | (simp only [pf_rx, pf_bit, pf_up, c_110, c_120, c_129, c_141, c_183, c_196, c_215, ↓reduceIte, not_true_eq_false, not_false_eq_true]; rfl) | simp [pf_rx, pf_bit, pf_up, c_110, c_120, c_129, c_141, c_183, c_196, c_215]) k3
        · refine hq_iload (q := 0) C dX6_findWays_98 rfl ?_
          refine hq_aload_n (q := 3) C dX6_findWays_100 rfl rfl ?_
          refine hq_getP (f := 26) (g := 0) (Nc := 1) (Ns := 38) C fr_X6_113 dX6_findWays_101 rfl rfl rfl rfl rfl (by decide) Nat.one_pos ?_
          refine hq_icmp_ge (tgt := 249) C dX6_findWays_104 (by decide) (fun c_104 => ?_) (fun c_104 => absurd (by rw [show (lp (pf_rx x am mk b) nb 0 σ2).1 0 0 = nI nb from (r2_oth (by decide)).trans hinv2]; exact nI_le (Nat.le_refl nb) (by omega)) c_104)
          refine hq_iinc (q := 1) (y := nI (_ + 1)) (L' := [(5, .int _), (6, .int _), (4, .int _), (0, .ref _), (1, .int _), (2, .int _), (3, .int _)]) C dX6_findWays_249 rfl (hw_inc _) (by decide) rfl ?_
          refine hq_goto (tgt := 86) C dX6_findWays_252 (by decide) ?_
          exact hq_fin [0, 2, 3, 4, 5, 6] rfl rfl rfl rfl rfl rfl k2
      · refine hq_iload (q := 0) C dX6_findWays_86 rfl ?_
        refine hq_aload_n (q := 2) C dX6_findWays_88 rfl rfl ?_
        refine hq_getP (f := 26) (g := 0) (Nc := 1) (Ns := 38) C fr_X6_113 dX6_findWays_89 rfl rfl rfl rfl rfl (by decide) Nat.one_pos ?_
        refine hq_icmp_ge (tgt := 255) C dX6_findWays_92 (by decide) (fun c_92 => ?_) (fun c_92 => absurd (by rw [show (lp (pf_r2 x am mk nb) nb 0 σ1).1 0 0 = nI nb from (r3_oth (i := r9) (by decide)).trans hinv1]; exact nI_le (Nat.le_refl nb) (by omega)) c_92)
        refine hq_iinc (q := 1) (y := nI (_ + 1)) (L' := [(4, .int _), (5, .int _), (0, .ref _), (1, .int _), (2, .int _), (3, .int _)]) C dX6_findWays_255 rfl (hw_inc _) (by decide) rfl ?_
        refine hq_goto (tgt := 74) C dX6_findWays_258 (by decide) ?_
        exact hq_fin [0, 2, 3, 4, 5] rfl rfl rfl rfl rfl rfl k1
    · refine hq_iload (q := 0) C dX6_findWays_74 rfl ?_
      refine hq_aload_n (q := 1) C dX6_findWays_76 rfl rfl ?_
      refine hq_getP (f := 26) (g := 0) (Nc := 1) (Ns := 38) C fr_X6_113 dX6_findWays_77 rfl rfl rfl rfl rfl (by decide) Nat.one_pos ?_
      refine hq_icmp_ge (tgt := 261) C dX6_findWays_80 (by decide) (fun c_80 => ?_) (fun c_80 => absurd (by rw [show (lp (pf_r3 x am mk nb) nb 0 (lp (pf_f0 x am mk) nb 0 (P, N))).1 0 0 = nI nb from (fws_oth (by decide)).trans hbc]; exact nI_le (Nat.le_refl nb) (by omega)) c_80)
      exact hq_vret C hr hlk dX6_findWays_261 rfl
