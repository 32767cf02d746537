set_option maxHeartbeats 4000000 in
set_option maxRecDepth 100000 in
theorem m_X5_lookAnew {l : Launch} {D : va_G} {b0 : Nat} {I : MI} {J : MJ} {P : MI} {N : MJ} {o : Int64} {i nb : Nat} (hi : i < 40) (hbc : I 0 0 = nI nb) (hnb : nb ≤ 12) (hfe : hw_bo (I 4 0)) (hor : hw_or I i) (hds : hw_df I i) (ham : hw_am I i) (hrt : hw_rt I) (hb9 : bd (sp_lkJ I J i) 4611686018427387904) : hM l yX5_lookAnew cX5_lookAnew 5 none rX5_lookAnew D b0 [.ref (hw_ad b0 0 0), .ref (hw_ad b0 6 i)] I J P N o none (sp_lk I J i).1 (sp_lk I J i).2 P N o := by
  obtain ⟨hwy, h1, hpl, hle⟩ := id hor
  have hl12 := hwy.1
  obtain ⟨hoth, _⟩ := lk_spec hbc hnb hor hds ham hrt hb9
  have h20 : ∀ k, k ≤ hw_ln I i → hw_ok ((sp_lkr I J i).2 20 (12 * i + k)) := fun k hk => by rw [hoth 20 _ (by decide)]; exact hwy.2.2 k hk
  refine hw_Mof (by decide) [(0, .ref _), (1, .ref _)] rfl (Nat.le_of_ble_eq_true rfl) ?_
  intro p e s m args below meth c C hr hlk hnm
  refine hq_aload_n (q := 1) C dX5_lookAnew_0 rfl rfl ?_
  refine hq_getI (f := 6) (g := 17) (Nc := 40) (Ns := 10) C fr_X5_221 dX5_lookAnew_1 rfl rfl rfl rfl rfl (by decide) (by first | assumption | omega) ?_
  refine hq_istore_n (L' := [(2, .int _), (0, .ref _), (1, .ref _)]) C dX5_lookAnew_4 rfl (by decide) rfl ?_
  refine hq_aload_n (q := 2) C dX5_lookAnew_5 rfl rfl ?_
  refine hq_getR (f := 6) (g := 8) (Nc := 40) (Ns := 10) C fr_X5_278 dX5_lookAnew_6 rfl rfl rfl rfl rfl (by decide) (by first | assumption | omega) ?_
  refine hq_iload_n (q := 0) C dX5_lookAnew_9 rfl rfl ?_
  refine hq_ialdIw (f := 8) (a := hw_pl I i) (g := 21) (w := 12) (Nc := 40) (Ns := 12) C dX5_lookAnew_10 rfl rfl rfl ⟨rfl, by decide⟩ rfl rfl hpl (by omega) (by first | assumption | omega) ?_
  refine hq_aload_n (q := 2) C dX5_lookAnew_11 rfl rfl ?_
  refine hq_getI (f := 6) (g := 12) (Nc := 40) (Ns := 10) C fr_X5_131 dX5_lookAnew_12 rfl rfl rfl rfl rfl (by decide) (by first | assumption | omega) ?_
  refine hq_isub C dX5_lookAnew_15 ?_
  refine hq_istore_n (L' := [(3, .int _), (2, .int _), (0, .ref _), (1, .ref _)]) C dX5_lookAnew_16 rfl (by decide) rfl ?_
  refine hq_aload_n (q := 2) C dX5_lookAnew_17 rfl rfl ?_
  refine hq_aload_n (q := 3) C dX5_lookAnew_18 rfl rfl ?_
  refine hq_iload_n (q := 1) C dX5_lookAnew_19 rfl rfl ?_
  refine hq_aload_n (q := 3) C dX5_lookAnew_20 rfl rfl ?_
  refine hq_getI (f := 6) (g := 19) (Nc := 40) (Ns := 10) C fr_X5_275 dX5_lookAnew_21 rfl rfl rfl rfl rfl (by decide) (by first | assumption | omega) ?_
  refine hq_iconst (y := 1) C dX5_lookAnew_24 (by decide) ?_
  refine hq_isub C dX5_lookAnew_25 ?_
  refine hq_cVv (As := [.ref _, .int _, .int _]) (rm := rX5_takeBack) (f := 0) (Nc := 1) C (m_X5_takeBack (f := hw_pl I i) (t := hw_ln I i) hi hwy.2.2 hwy.1 hpl (by rw [hwy.2.1]; exact nI_pred _) hle) wv_X5_takeBack ml_X5_287 rfl rfl rfl Nat.one_pos rfl rfl rfl rfl ⟨Nat.le_of_ble_eq_true rfl, Nat.le_of_ble_eq_true rfl⟩ (Nat.le_of_ble_eq_true rfl) ⟨Nat.le_of_ble_eq_true rfl, Nat.le_of_ble_eq_true rfl⟩ dX5_lookAnew_26 ?_
  refine hq_aload_n (q := 2) C dX5_lookAnew_29 rfl rfl ?_
  refine hq_getR (f := 0) (g := 16) (Nc := 1) (Ns := 14) C fr_X5_42 dX5_lookAnew_30 rfl rfl rfl rfl rfl (by decide) Nat.one_pos ?_
  refine hq_aload_n (q := 2) C dX5_lookAnew_33 rfl rfl ?_
  refine hq_getI (f := 0) (g := 0) (Nc := 1) (Ns := 14) C fr_X5_66 dX5_lookAnew_34 rfl rfl rfl rfl rfl (by decide) Nat.one_pos ?_
  refine hq_aload_n (q := 3) C dX5_lookAnew_37 rfl rfl ?_
  refine hq_getI (f := 6) (g := 12) (Nc := 40) (Ns := 10) C fr_X5_131 dX5_lookAnew_38 rfl rfl rfl rfl rfl (by decide) (by first | assumption | omega) ?_
  refine hq_aload_n (q := 2) C dX5_lookAnew_41 rfl rfl ?_
  refine hq_getI (f := 0) (g := 4) (Nc := 1) (Ns := 14) C fr_X5_93 dX5_lookAnew_42 rfl rfl rfl rfl rfl (by decide) Nat.one_pos ?_
  refine hq_cVv (As := [.int _, .int _, .int _]) (rm := rX4_start) (f := 16) (Nc := 1) C (m_X4_start hfe) wv_X4_start ml_X5_267 rfl rfl rfl Nat.one_pos rfl rfl rfl rfl ⟨Nat.le_of_ble_eq_true rfl, Nat.le_of_ble_eq_true rfl⟩ (Nat.le_of_ble_eq_true rfl) ⟨Nat.le_of_ble_eq_true rfl, Nat.le_of_ble_eq_true rfl⟩ dX5_lookAnew_45 ?_
  refine hq_iconst (y := 0) C dX5_lookAnew_48 (by decide) ?_
  refine hq_istore (L' := [(4, .int _), (3, .int _), (2, .int _), (0, .ref _), (1, .ref _)]) C dX5_lookAnew_49 (by decide) rfl ?_
  refine hq_perm [0, 3, 4, 2, 1] (L' := [(4, .int (nI 0)), (0, .ref (hw_ad b0 0 0)), (1, .ref (hw_ad b0 6 i)), (2, .int (I 17 i)), (3, .int (I 21 (12 * i + hw_pl I i) - I 12 i))]) rfl ?_
  refine lp_back (sf_lv i) (fun (k9 : Nat) (σ : MI) => hw_V p l e rX5_lookAnew s m args below meth c (MQ below (hw_Q D b0 false (hw_n o) none (hw_vl b0 (sp_lk I J i).1 (sp_lk I J i).2 P N o)) args s 0 0 (fun q => b0 ≤ q)) D b0 5 false 0 0 (hw_n o) 51 [(4, .int (nI k9)), (0, .ref (hw_ad b0 0 0)), (1, .ref (hw_ad b0 6 i)), (2, .int (I 17 i)), (3, .int (I 21 (12 * i + hw_pl I i) - I 12 i))] [] (hw_vl b0 σ (sp_lkJ I J i) P N o)) (fun _ σ => ∀ j, σ 20 j = I 20 j) (hw_pl I i) ?_ (fun k σ _ hs j => (sf_lv_ne (by decide) j).trans (hs j)) (hw_pl I i) 0 (sp_start I (I 0 0) (I 12 i) (I 4 0)) (by omega) (fun j => sp_start_oth (by decide) (by decide) (by decide)) ?_
  · intro k9 σ hi0 hinv0 k0
    have hi9 := hi0
    have hx9 : hw_ok (σ 20 (12 * i + k9)) := by rw [hinv0]; exact hwy.2.2 k9 (by omega)
    refine hq_iload (q := 0) C dX5_lookAnew_51 rfl ?_
    refine hq_iload_n (q := 3) C dX5_lookAnew_53 rfl rfl ?_
    refine hq_icmp_ge (tgt := 77) C dX5_lookAnew_54 (by decide) (fun c_54 => absurd c_54 (by rw [hpl]; exact nI_ge hi9 (by omega))) (fun c_54 => ?_)
    refine hq_aload_n (q := 1) C dX5_lookAnew_57 rfl rfl ?_
    refine hq_getR (f := 0) (g := 16) (Nc := 1) (Ns := 14) C fr_X5_42 dX5_lookAnew_58 rfl rfl rfl rfl rfl (by decide) Nat.one_pos ?_
    refine hq_aload_n (q := 2) C dX5_lookAnew_61 rfl rfl ?_
    refine hq_getR (f := 6) (g := 7) (Nc := 40) (Ns := 10) C fr_X5_276 dX5_lookAnew_62 rfl rfl rfl rfl rfl (by decide) (by first | assumption | omega) ?_
    refine hq_iload (q := 0) C dX5_lookAnew_65 rfl ?_
    refine hq_ialdIw (f := 7) (g := 20) (w := 12) (Nc := 40) (Ns := 12) C dX5_lookAnew_67 rfl rfl rfl ⟨rfl, by decide⟩ rfl rfl (by first | rfl | assumption) (by first | assumption | omega) (by first | assumption | omega) ?_
    refine hq_cVv (As := [.int _]) (rm := rX4_leaveOut) (f := 16) (Nc := 1) C (m_X4_leaveOut hx9.x hx9.b) wv_X4_leaveOut ml_X5_304 rfl rfl rfl Nat.one_pos rfl rfl rfl rfl ⟨Nat.le_of_ble_eq_true rfl, Nat.le_of_ble_eq_true rfl⟩ (Nat.le_of_ble_eq_true rfl) ⟨Nat.le_of_ble_eq_true rfl, Nat.le_of_ble_eq_true rfl⟩ dX5_lookAnew_68 ?_
    refine hq_iinc (q := 0) (y := nI (_ + 1)) (L' := [(4, .int _), (0, .ref _), (1, .ref _), (2, .int _), (3, .int _)]) C dX5_lookAnew_71 rfl (hw_inc _) (by decide) rfl ?_
    refine hq_goto (tgt := 51) C dX5_lookAnew_74 (by decide) ?_
    exact hq_fin [0, 1, 2, 3, 4] (by first | rfl | (simp only [sf_lv, ↓reduceIte, not_true_eq_false, not_false_eq_true]; rfl) | simp [lv_pick, sf_lv]) (by first | rfl | simp [sf_lv]) (by first | rfl | simp [sf_lv]) (by first | rfl | simp [sf_lv]) (by first | rfl | simp [sf_lv]) (by first | rfl | simp [sf_lv]) k0
  · refine hq_iload (q := 0) C dX5_lookAnew_51 rfl ?_
    refine hq_iload_n (q := 3) C dX5_lookAnew_53 rfl rfl ?_
    refine hq_icmp_ge (tgt := 77) C dX5_lookAnew_54 (by decide) (fun c_54 => ?_) (fun c_54 => absurd (by rw [hpl]; exact nI_le (Nat.le_refl _) (by omega)) c_54)
    refine hq_aload_n (q := 1) C dX5_lookAnew_77 rfl rfl ?_
    refine hq_getR (f := 0) (g := 16) (Nc := 1) (Ns := 14) C fr_X5_42 dX5_lookAnew_78 rfl rfl rfl rfl rfl (by decide) Nat.one_pos ?_
    refine hq_aload_n (q := 2) C dX5_lookAnew_81 rfl rfl ?_
    refine hq_getR (f := 6) (g := 7) (Nc := 40) (Ns := 10) C fr_X5_276 dX5_lookAnew_82 rfl rfl rfl rfl rfl (by decide) (by first | assumption | omega) ?_
    refine hq_iload_n (q := 3) C dX5_lookAnew_85 rfl rfl ?_
    refine hq_ialdIw (f := 7) (a := hw_pl I i) (g := 20) (w := 12) (Nc := 40) (Ns := 12) C dX5_lookAnew_86 rfl rfl rfl ⟨rfl, by decide⟩ rfl rfl hpl (by omega) (by first | assumption | omega) ?_
    refine hq_aload_n (q := 2) C dX5_lookAnew_87 rfl rfl ?_
    refine hq_cVr (As := []) (rm := rX3_lastBroker) (f := 6) (Nc := 40) C (m_X3_lastBroker (n := hw_ln I i) hi ((lkI_oth (by decide) (by decide) (by decide) i).trans hwy.2.1) hwy.1) wv_X3_lastBroker ml_X5_159 rfl rfl rfl (by first | assumption | omega) rfl rfl rfl rfl ⟨Nat.le_of_ble_eq_true rfl, Nat.le_of_ble_eq_true rfl⟩ (Nat.le_of_ble_eq_true rfl) ⟨Nat.le_of_ble_eq_true rfl, Nat.le_of_ble_eq_true rfl⟩ dX5_lookAnew_88 ?_
    refine hq_cVr (As := [.int _, .int _]) (rm := rX4_find) (f := 16) (Nc := 1) C (m_X4_find (a := hw_at I i (hw_pl I i)) (b := hw_at I i (hw_ln I i)) ((lkI_oth (by decide) (by decide) (by decide) _).trans (hwy.2.2 _ hle).x) (hwy.2.2 _ hle).b ((lkI_oth (by decide) (by decide) (by decide) _).trans (hwy.2.2 _ (Nat.le_refl _)).x) (hwy.2.2 _ (Nat.le_refl _)).b) wv_X4_find ml_X5_271 rfl rfl rfl Nat.one_pos rfl rfl rfl rfl ⟨Nat.le_of_ble_eq_true rfl, Nat.le_of_ble_eq_true rfl⟩ (Nat.le_of_ble_eq_true rfl) ⟨Nat.le_of_ble_eq_true rfl, Nat.le_of_ble_eq_true rfl⟩ dX5_lookAnew_91 ?_
    refine hq_if_eq (tgt := 125) C dX5_lookAnew_94 (by decide) (fun c_94 => ?_) (fun c_94 => ?_)
    · refine hq_aload_n (q := 1) C dX5_lookAnew_125 rfl rfl ?_
      refine hq_aload_n (q := 2) C dX5_lookAnew_126 rfl rfl ?_
      refine hq_iconst (y := 0) C dX5_lookAnew_127 (by decide) ?_
      refine hq_iload_n (q := 3) C dX5_lookAnew_128 rfl rfl ?_
      refine hq_cVv (As := [.ref _, .int _, .int _]) (rm := rX5_takeBack) (f := 0) (Nc := 1) C (m_X5_takeBack (f := 0) (t := hw_pl I i) hi (fun k hk => h20 k (by omega)) (by omega) rfl hpl (Nat.zero_le _)) wv_X5_takeBack ml_X5_287 rfl rfl rfl Nat.one_pos rfl rfl rfl rfl ⟨Nat.le_of_ble_eq_true rfl, Nat.le_of_ble_eq_true rfl⟩ (Nat.le_of_ble_eq_true rfl) ⟨Nat.le_of_ble_eq_true rfl, Nat.le_of_ble_eq_true rfl⟩ dX5_lookAnew_129 ?_
      refine hq_aload_n (q := 1) C dX5_lookAnew_132 rfl rfl ?_
      refine hq_aload_n (q := 2) C dX5_lookAnew_133 rfl rfl ?_
      refine hq_cVv (As := [.ref _]) (rm := rX5_endForward) (f := 0) (Nc := 1) C (m_X5_endForward hi (h20 0 (Nat.zero_le _))) wv_X5_endForward ml_X5_291 rfl rfl rfl Nat.one_pos rfl rfl rfl rfl ⟨Nat.le_of_ble_eq_true rfl, Nat.le_of_ble_eq_true rfl⟩ (Nat.le_of_ble_eq_true rfl) ⟨Nat.le_of_ble_eq_true rfl, Nat.le_of_ble_eq_true rfl⟩ dX5_lookAnew_134 ?_
      exact hq_vret C hr hlk dX5_lookAnew_137 (by have e := sp_lk_a (I := I) (J := J) (o := i) c_94; rw [e]; try rfl)
    · obtain ⟨m, f1, f2, f3, f4, f5, f6, f7, f8⟩ := lk_new hbc hnb hor hds ham hrt hb9 c_94
      have em : ((sp_lkr I J i).2 37 0).toNatClampNeg = m := by rw [f1, nI_clamp (by omega)]
      refine hq_aload_n (q := 1) C dX5_lookAnew_97 rfl rfl ?_
      refine hq_getR (f := 0) (g := 16) (Nc := 1) (Ns := 14) C fr_X5_42 dX5_lookAnew_98 rfl rfl rfl rfl rfl (by decide) Nat.one_pos ?_
      refine hq_cVr (As := []) (rm := rX4_feesBehindFirst) (f := 16) (Nc := 1) C (m_X4_feesBehindFirst (n := m) f1 (by omega) f4) wv_X4_feesBehindFirst ml_X5_307 rfl rfl rfl Nat.one_pos rfl rfl rfl rfl ⟨Nat.le_of_ble_eq_true rfl, Nat.le_of_ble_eq_true rfl⟩ (Nat.le_of_ble_eq_true rfl) ⟨Nat.le_of_ble_eq_true rfl, Nat.le_of_ble_eq_true rfl⟩ dX5_lookAnew_101 ?_
      refine hq_iload_n (q := 4) C dX5_lookAnew_104 rfl rfl ?_
      refine hq_icmp_gt (tgt := 125) C dX5_lookAnew_105 (by decide) (fun c_105 => ?_) (fun c_105 => ?_)
      · refine hq_aload_n (q := 1) C dX5_lookAnew_125 rfl rfl ?_
        refine hq_aload_n (q := 2) C dX5_lookAnew_126 rfl rfl ?_
        refine hq_iconst (y := 0) C dX5_lookAnew_127 (by decide) ?_
        refine hq_iload_n (q := 3) C dX5_lookAnew_128 rfl rfl ?_
        refine hq_cVv (As := [.ref _, .int _, .int _]) (rm := rX5_takeBack) (f := 0) (Nc := 1) C (m_X5_takeBack (f := 0) (t := hw_pl I i) hi (fun k hk => h20 k (by omega)) (by omega) rfl hpl (Nat.zero_le _)) wv_X5_takeBack ml_X5_287 rfl rfl rfl Nat.one_pos rfl rfl rfl rfl ⟨Nat.le_of_ble_eq_true rfl, Nat.le_of_ble_eq_true rfl⟩ (Nat.le_of_ble_eq_true rfl) ⟨Nat.le_of_ble_eq_true rfl, Nat.le_of_ble_eq_true rfl⟩ dX5_lookAnew_129 ?_
        refine hq_aload_n (q := 1) C dX5_lookAnew_132 rfl rfl ?_
        refine hq_aload_n (q := 2) C dX5_lookAnew_133 rfl rfl ?_
        refine hq_cVv (As := [.ref _]) (rm := rX5_endForward) (f := 0) (Nc := 1) C (m_X5_endForward hi (h20 0 (Nat.zero_le _))) wv_X5_endForward ml_X5_291 rfl rfl rfl Nat.one_pos rfl rfl rfl rfl ⟨Nat.le_of_ble_eq_true rfl, Nat.le_of_ble_eq_true rfl⟩ (Nat.le_of_ble_eq_true rfl) ⟨Nat.le_of_ble_eq_true rfl, Nat.le_of_ble_eq_true rfl⟩ dX5_lookAnew_134 ?_
        exact hq_vret C hr hlk dX5_lookAnew_137 (by first | (have e := sp_lk_b (I := I) (J := J) (o := i) c_94 (by unfold sp_fbf; rw [em]; exact c_105); rw [e]; try rfl) | (have e := sp_lk_c (I := I) (J := J) (o := i) c_94 (by unfold sp_fbf; rw [em]; exact c_105); rw [e, em]; try rfl))
      · refine hq_aload_n (q := 2) C dX5_lookAnew_108 rfl rfl ?_
        refine hq_aload_n (q := 1) C dX5_lookAnew_109 rfl rfl ?_
        refine hq_getR (f := 0) (g := 16) (Nc := 1) (Ns := 14) C fr_X5_42 dX5_lookAnew_110 rfl rfl rfl rfl rfl (by decide) Nat.one_pos ?_
        refine hq_iload_n (q := 3) C dX5_lookAnew_113 rfl rfl ?_
        refine hq_cVv (As := [.ref _, .int _]) (rm := rX3_takeWay) (f := 6) (Nc := 40) C (m_X3_takeWay (q := hw_pl I i) (n := m) hi hpl f3 f1 f4) wv_X3_takeWay ml_X5_148 rfl rfl rfl (by first | assumption | omega) rfl rfl rfl rfl ⟨Nat.le_of_ble_eq_true rfl, Nat.le_of_ble_eq_true rfl⟩ (Nat.le_of_ble_eq_true rfl) ⟨Nat.le_of_ble_eq_true rfl, Nat.le_of_ble_eq_true rfl⟩ dX5_lookAnew_114 ?_
        refine hq_aload_n (q := 1) C dX5_lookAnew_117 rfl rfl ?_
        refine hq_aload_n (q := 2) C dX5_lookAnew_118 rfl rfl ?_
        refine hq_cVv (As := [.ref _]) (rm := rX5_letArise) (f := 0) (Nc := 1) C (m_X5_letArise (n := hw_pl I i + (m - 1)) (q := hw_pl I i) hi f5 f6 (by omega)) wv_X5_letArise ml_X5_152 rfl rfl rfl Nat.one_pos rfl rfl rfl rfl ⟨Nat.le_of_ble_eq_true rfl, Nat.le_of_ble_eq_true rfl⟩ (Nat.le_of_ble_eq_true rfl) ⟨Nat.le_of_ble_eq_true rfl, Nat.le_of_ble_eq_true rfl⟩ dX5_lookAnew_119 ?_
        refine hq_goto (tgt := 137) C dX5_lookAnew_122 (by decide) ?_
        exact hq_vret C hr hlk dX5_lookAnew_137 (by first | (have e := sp_lk_b (I := I) (J := J) (o := i) c_94 (by unfold sp_fbf; rw [em]; exact c_105); rw [e]; try rfl) | (have e := sp_lk_c (I := I) (J := J) (o := i) c_94 (by unfold sp_fbf; rw [em]; exact c_105); rw [e, em]; try rfl))
