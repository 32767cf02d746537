def hw_ln (I : MI) (o : Nat) : Nat := (I 19 o).toNatClampNeg - 1
def hw_pl (I : MI) (o : Nat) : Nat := (I 17 o).toNatClampNeg
/-- order o is as it must be: its way, and where the message is on it -/
def hw_or (I : MI) (o : Nat) : Prop := hw_wy I o (hw_ln I o) ∧ 1 ≤ hw_ln I o ∧ I 17 o = nI (hw_pl I o) ∧ hw_pl I o ≤ hw_ln I o
def hw_os (I : MI) (no : Nat) : Prop := ∀ o, o < no → hw_or I o
theorem hw_or.congr {I I' : MI} {o : Nat} (h : hw_or I o) (h1 : I' 17 o = I 17 o) (h2 : I' 19 o = I 19 o) (h3 : ∀ k, k < 12 → I' 20 (12 * o + k) = I 20 (12 * o + k)) : hw_or I' o := by
  obtain ⟨⟨a1, a2, a3⟩, a4, a5, a6⟩ := h
  unfold hw_or hw_wy hw_ln hw_pl at *
  rw [h1, h2]
  exact ⟨⟨a1, a2, fun k hk => by rw [h3 k (by omega)]; exact a3 k hk⟩, a4, a5, a6⟩
theorem hw_os.congr {I I' : MI} {no : Nat} (h : hw_os I no) (h1 : ∀ g j, g = 17 ∨ g = 19 ∨ g = 20 → I' g j = I g j) : hw_os I' no := fun o ho => (h o ho).congr (h1 _ _ (by omega)) (h1 _ _ (by omega)) (fun k _ => h1 _ _ (by omega))
theorem hw_or.first {I : MI} {o : Nat} (h : hw_or I o) : hw_ok (I 20 (12 * o + 0)) := h.1.2.2 0 (Nat.zero_le _)
theorem sp_ef_ne {I : MI} {i g : Nat} (h : g ≠ 16) (j : Nat) : sp_ef I i g j = I g j := by simp [sp_ef, uI, h]
theorem sp_ef_os {I : MI} {no : Nat} (h : hw_os I no) (i : Nat) : hw_os (sp_ef I i) no := h.congr (fun g j hg => sp_ef_ne (by omega) j)
theorem u16_os {I : MI} {no : Nat} (h : hw_os I no) (i : Nat) (x : Int32) : hw_os (uI I 16 i x) no := h.congr (fun g j hg => by
  have : g ≠ 16 := by omega
  simp [uI, this])
theorem ite_pair {α β : Type} {q : Prop} [Decidable q] (a b : α × β) : (if q then a else b) = (if q then a.1 else b.1, if q then a.2 else b.2) := by
  by_cases h : q <;> simp [h]
def sf_er (i : Nat) (I : MI) : MI := if ¬ I 7 i = 1 then I else if I 3 0 < I 8 i then I else uI I 7 i 0
theorem sf_er_ne {I : MI} {i g : Nat} (h : g ≠ 7) (j : Nat) : sf_er i I g j = I g j := by
  unfold sf_er
  repeat' split
  all_goals first | rfl | simp [uI, h]
def sp_er (I : MI) (nb : Nat) : MI := lp sf_er nb 0 I
theorem sp_er_ne {I : MI} {nb g : Nat} (h : g ≠ 7) (j : Nat) : sp_er I nb g j = I g j := lp_inv sf_er (fun _ σ => σ g j = I g j) nb (fun i σ _ hs => (sf_er_ne h j).trans hs) nb 0 I (by omega) rfl
set_option maxHeartbeats 4000000 in
set_option maxRecDepth 100000 in
theorem m_X5_endRaids {l : Launch} {D : va_G} {b0 : Nat} {I : MI} {J : MJ} {P : MI} {N : MJ} {o : Int64} {nb : Nat} (hbc : I 0 0 = nI nb) (hnb : nb ≤ 12) : hM l yX5_endRaids cX5_endRaids 2 none rX5_endRaids D b0 [.ref (hw_ad b0 0 0)] I J P N o none (sp_er I nb) J P N o := by
  refine hw_Mof (by decide) [(0, .ref _)] rfl (Nat.le_of_ble_eq_true rfl) ?_
  intro p e s m args below meth c C hr hlk hnm
  refine hq_iconst (y := 0) C dX5_endRaids_0 (by decide) ?_
  refine hq_istore_n (L' := [(1, .int _), (0, .ref _)]) C dX5_endRaids_1 rfl (by decide) rfl ?_
  refine hq_perm [0, 1] (L' := [(1, .int (nI 0)), (0, .ref (hw_ad b0 0 0))]) rfl ?_
  refine lp_back sf_er (fun (k9 : Nat) (σ : MI) => hw_V p l e rX5_endRaids s m args below meth c (MQ below (hw_Q D b0 false (hw_n o) none (hw_vl b0 (sp_er I nb) J P N o)) args s 0 0 (fun q => b0 ≤ q)) D b0 2 false 0 0 (hw_n o) 2 [(1, .int (nI k9)), (0, .ref (hw_ad b0 0 0))] [] (hw_vl b0 σ J P N o)) (fun _ σ => σ 0 0 = nI nb) nb ?_ (fun i σ _ hs => (sf_er_ne (by decide) 0).trans hs) nb 0 I (by omega) hbc ?_
  · intro k9 σ hi hinv k
    have hi9 := hi
    refine hq_iload_n (q := 0) C dX5_endRaids_2 rfl rfl ?_
    refine hq_aload_n (q := 1) C dX5_endRaids_3 rfl rfl ?_
    refine hq_getI (f := 0) (g := 0) (Nc := 1) (Ns := 14) C fr_X5_66 dX5_endRaids_4 rfl rfl rfl rfl rfl (by decide) Nat.one_pos ?_
    refine hq_icmp_ge (tgt := 55) C dX5_endRaids_7 (by decide) (fun c_7 => absurd c_7 (by rw [hinv]; exact nI_ge hi9 (by omega))) (fun c_7 => ?_)
    refine hq_aload_n (q := 1) C dX5_endRaids_10 rfl rfl ?_
    refine hq_getR (f := 0) (g := 1) (Nc := 1) (Ns := 14) C fr_X5_11 dX5_endRaids_11 rfl rfl rfl rfl rfl (by decide) Nat.one_pos ?_
    refine hq_iload_n (q := 0) C dX5_endRaids_14 rfl rfl ?_
    refine hq_aaldBR0 (f := 1) (g := 2) (Nc := 1) (Ns := 12) C dX5_endRaids_15 rfl rfl rfl rfl rfl rfl (by first | rfl | assumption) (by first | assumption | omega) Nat.one_pos ?_
    refine hq_getI (f := 2) (g := 7) (Nc := 12) (Ns := 8) C fr_X5_97 dX5_endRaids_16 rfl rfl rfl rfl rfl (by decide) (by first | assumption | omega) ?_
    refine hq_iconst (y := 1) C dX5_endRaids_19 (by decide) ?_
    refine hq_icmp_ne (tgt := 49) C dX5_endRaids_20 (by decide) (fun c_20 => ?_) (fun c_20 => ?_)
    · refine hq_iinc (q := 0) (y := nI (_ + 1)) (L' := [(1, .int _), (0, .ref _)]) C dX5_endRaids_49 rfl (hw_inc _) (by decide) rfl ?_
      refine hq_goto (tgt := 2) C dX5_endRaids_52 (by decide) ?_
      exact hq_fin [0, 1] (by first | rfl | (simp only [sf_er, c_20, ↓reduceIte, not_true_eq_false, not_false_eq_true]; rfl) | simp [lv_pick, sf_er, c_20]) (by first | rfl | (simp only [sf_er, c_20, ↓reduceIte, not_true_eq_false, not_false_eq_true]; done) | (simp only [sf_er, c_20, ↓reduceIte, not_true_eq_false, not_false_eq_true]; rfl) | simp [sf_er, c_20]) (by first | rfl | (simp only [sf_er, c_20, ↓reduceIte, not_true_eq_false, not_false_eq_true]; done) | (simp only [sf_er, c_20, ↓reduceIte, not_true_eq_false, not_false_eq_true]; rfl) | simp [sf_er, c_20]) (by first | rfl | (simp only [sf_er, c_20, ↓reduceIte, not_true_eq_false, not_false_eq_true]; done) | (simp only [sf_er, c_20, ↓reduceIte, not_true_eq_false, not_false_eq_true]; rfl) | simp [sf_er, c_20]) (by first | rfl | (simp only [sf_er, c_20, ↓reduceIte, not_true_eq_false, not_false_eq_true]; done) | (simp only [sf_er, c_20, ↓reduceIte, not_true_eq_false, not_false_eq_true]; rfl) | simp [sf_er, c_20]) (by first | rfl | (simp only [sf_er, c_20, ↓reduceIte, not_true_eq_false, not_false_eq_true]; done) | (simp only [sf_er, c_20, ↓reduceIte, not_true_eq_false, not_false_eq_true]; rfl) | simp [sf_er, c_20]) k
    · refine hq_aload_n (q := 1) C dX5_endRaids_23 rfl rfl ?_
      refine hq_getI (f := 0) (g := 3) (Nc := 1) (Ns := 14) C fr_X5_112 dX5_endRaids_24 rfl rfl rfl rfl rfl (by decide) Nat.one_pos ?_
      refine hq_aload_n (q := 1) C dX5_endRaids_27 rfl rfl ?_
      refine hq_getR (f := 0) (g := 1) (Nc := 1) (Ns := 14) C fr_X5_11 dX5_endRaids_28 rfl rfl rfl rfl rfl (by decide) Nat.one_pos ?_
      refine hq_iload_n (q := 0) C dX5_endRaids_31 rfl rfl ?_
      refine hq_aaldBR0 (f := 1) (g := 2) (Nc := 1) (Ns := 12) C dX5_endRaids_32 rfl rfl rfl rfl rfl rfl (by first | rfl | assumption) (by first | assumption | omega) Nat.one_pos ?_
      refine hq_getI (f := 2) (g := 8) (Nc := 12) (Ns := 8) C fr_X5_115 dX5_endRaids_33 rfl rfl rfl rfl rfl (by decide) (by first | assumption | omega) ?_
      refine hq_icmp_lt (tgt := 49) C dX5_endRaids_36 (by decide) (fun c_36 => ?_) (fun c_36 => ?_)
      · refine hq_iinc (q := 0) (y := nI (_ + 1)) (L' := [(1, .int _), (0, .ref _)]) C dX5_endRaids_49 rfl (hw_inc _) (by decide) rfl ?_
        refine hq_goto (tgt := 2) C dX5_endRaids_52 (by decide) ?_
        exact hq_fin [0, 1] (by first | rfl | (simp only [sf_er, c_20, c_36, ↓reduceIte, not_true_eq_false, not_false_eq_true]; rfl) | simp [lv_pick, sf_er, c_20, c_36]) (by first | rfl | (simp only [sf_er, c_20, c_36, ↓reduceIte, not_true_eq_false, not_false_eq_true]; done) | (simp only [sf_er, c_20, c_36, ↓reduceIte, not_true_eq_false, not_false_eq_true]; rfl) | simp [sf_er, c_20, c_36]) (by first | rfl | (simp only [sf_er, c_20, c_36, ↓reduceIte, not_true_eq_false, not_false_eq_true]; done) | (simp only [sf_er, c_20, c_36, ↓reduceIte, not_true_eq_false, not_false_eq_true]; rfl) | simp [sf_er, c_20, c_36]) (by first | rfl | (simp only [sf_er, c_20, c_36, ↓reduceIte, not_true_eq_false, not_false_eq_true]; done) | (simp only [sf_er, c_20, c_36, ↓reduceIte, not_true_eq_false, not_false_eq_true]; rfl) | simp [sf_er, c_20, c_36]) (by first | rfl | (simp only [sf_er, c_20, c_36, ↓reduceIte, not_true_eq_false, not_false_eq_true]; done) | (simp only [sf_er, c_20, c_36, ↓reduceIte, not_true_eq_false, not_false_eq_true]; rfl) | simp [sf_er, c_20, c_36]) (by first | rfl | (simp only [sf_er, c_20, c_36, ↓reduceIte, not_true_eq_false, not_false_eq_true]; done) | (simp only [sf_er, c_20, c_36, ↓reduceIte, not_true_eq_false, not_false_eq_true]; rfl) | simp [sf_er, c_20, c_36]) k
      · refine hq_aload_n (q := 1) C dX5_endRaids_39 rfl rfl ?_
        refine hq_getR (f := 0) (g := 1) (Nc := 1) (Ns := 14) C fr_X5_11 dX5_endRaids_40 rfl rfl rfl rfl rfl (by decide) Nat.one_pos ?_
        refine hq_iload_n (q := 0) C dX5_endRaids_43 rfl rfl ?_
        refine hq_aaldBR0 (f := 1) (g := 2) (Nc := 1) (Ns := 12) C dX5_endRaids_44 rfl rfl rfl rfl rfl rfl (by first | rfl | assumption) (by first | assumption | omega) Nat.one_pos ?_
        refine hq_iconst (y := 0) C dX5_endRaids_45 (by decide) ?_
        refine hq_putI (f := 2) (g := 7) (Nc := 12) (Ns := 8) C fl_X5_97 dX5_endRaids_46 rfl rfl rfl rfl rfl (by decide) (by first | assumption | omega) rfl rfl ?_
        refine hq_iinc (q := 0) (y := nI (_ + 1)) (L' := [(1, .int _), (0, .ref _)]) C dX5_endRaids_49 rfl (hw_inc _) (by decide) rfl ?_
        refine hq_goto (tgt := 2) C dX5_endRaids_52 (by decide) ?_
        exact hq_fin [0, 1] (by first | rfl | (simp only [sf_er, c_20, c_36, ↓reduceIte, not_true_eq_false, not_false_eq_true]; rfl) | simp [lv_pick, sf_er, c_20, c_36]) (by first | rfl | (simp only [sf_er, c_20, c_36, ↓reduceIte, not_true_eq_false, not_false_eq_true]; done) | (simp only [sf_er, c_20, c_36, ↓reduceIte, not_true_eq_false, not_false_eq_true]; rfl) | simp [sf_er, c_20, c_36]) (by first | rfl | (simp only [sf_er, c_20, c_36, ↓reduceIte, not_true_eq_false, not_false_eq_true]; done) | (simp only [sf_er, c_20, c_36, ↓reduceIte, not_true_eq_false, not_false_eq_true]; rfl) | simp [sf_er, c_20, c_36]) (by first | rfl | (simp only [sf_er, c_20, c_36, ↓reduceIte, not_true_eq_false, not_false_eq_true]; done) | (simp only [sf_er, c_20, c_36, ↓reduceIte, not_true_eq_false, not_false_eq_true]; rfl) | simp [sf_er, c_20, c_36]) (by first | rfl | (simp only [sf_er, c_20, c_36, ↓reduceIte, not_true_eq_false, not_false_eq_true]; done) | (simp only [sf_er, c_20, c_36, ↓reduceIte, not_true_eq_false, not_false_eq_true]; rfl) | simp [sf_er, c_20, c_36]) (by first | rfl | (simp only [sf_er, c_20, c_36, ↓reduceIte, not_true_eq_false, not_false_eq_true]; done) | (simp only [sf_er, c_20, c_36, ↓reduceIte, not_true_eq_false, not_false_eq_true]; rfl) | simp [sf_er, c_20, c_36]) k
  · refine hq_iload_n (q := 0) C dX5_endRaids_2 rfl rfl ?_
    refine hq_aload_n (q := 1) C dX5_endRaids_3 rfl rfl ?_
    refine hq_getI (f := 0) (g := 0) (Nc := 1) (Ns := 14) C fr_X5_66 dX5_endRaids_4 rfl rfl rfl rfl rfl (by decide) Nat.one_pos ?_
    refine hq_icmp_ge (tgt := 55) C dX5_endRaids_7 (by decide) (fun c_7 => ?_) (fun c_7 => absurd (by rw [show lp sf_er nb 0 I 0 0 = nI nb from (sp_er_ne (by decide) 0).trans hbc]; exact nI_le (Nat.le_refl nb) (by omega)) c_7)
    exact hq_vret C hr hlk dX5_endRaids_55 rfl
def sf_mm (i : Nat) (σ : MI × MJ) : MI × MJ :=
  if ¬ σ.1 16 i = 0 then σ else if σ.1 19 i ≤ σ.1 17 i + 1 then σ
  else if ¬ uI σ.1 17 i (σ.1 17 i + 1) 17 i + 1 = uI σ.1 17 i (σ.1 17 i + 1) 19 i then
    (uI σ.1 17 i (σ.1 17 i + 1), sp_write σ.2 (σ.1 20 (12 * i + (hw_pl σ.1 i + 1))).toNatClampNeg (σ.1 20 (12 * i + hw_pl σ.1 i)).toNatClampNeg (-σ.1 21 (12 * i + hw_pl σ.1 i)).toInt64)
  else (uI (uI σ.1 17 i (σ.1 17 i + 1)) 16 i 1, sp_write σ.2 (σ.1 20 (12 * i + (hw_pl σ.1 i + 1))).toNatClampNeg (σ.1 20 (12 * i + hw_pl σ.1 i)).toNatClampNeg (-σ.1 21 (12 * i + hw_pl σ.1 i)).toInt64)
theorem sf_mm_ne {σ : MI × MJ} {i g : Nat} (h : g ≠ 16) (h1 : g ≠ 17) (j : Nat) : (sf_mm i σ).1 g j = σ.1 g j := by
  unfold sf_mm
  repeat' split
  all_goals first | rfl | simp [uI, h, h1]
theorem hw_or.lt {I : MI} {o : Nat} (h : hw_or I o) (h1 : ¬ I 19 o ≤ I 17 o + 1) : hw_pl I o < hw_ln I o := by
  obtain ⟨⟨a1, a2, a3⟩, a4, a5, a6⟩ := h
  rcases Nat.lt_or_ge (hw_pl I o) (hw_ln I o) with q | q
  · exact q
  · exact absurd (by rw [a2, a5, nI_1]; exact nI_le (by omega) (by omega)) h1
theorem hw_or.move {I I' : MI} {o : Nat} (h : hw_or I o) (h0 : ¬ I 19 o ≤ I 17 o + 1) (h1 : I' 17 o = I 17 o + 1) (h2 : I' 19 o = I 19 o) (h3 : ∀ k, k < 12 → I' 20 (12 * o + k) = I 20 (12 * o + k)) : hw_or I' o := by
  have hlt := h.lt h0
  obtain ⟨⟨a1, a2, a3⟩, a4, a5, a6⟩ := h
  have e1 : hw_ln I' o = hw_ln I o := by unfold hw_ln; rw [h2]
  have e0 : I' 17 o = nI (hw_pl I o + 1) := by rw [h1]; exact (congrArg (fun z => z + 1) a5).trans (nI_1 _)
  have e2 : hw_pl I' o = hw_pl I o + 1 := by
    show (I' 17 o).toNatClampNeg = _
    rw [e0, nI_clamp (by omega)]
  refine ⟨⟨by rw [e1]; exact a1, by rw [e1, h2]; exact a2, fun k hk => by rw [e1] at hk; rw [h3 k (by omega)]; exact a3 k hk⟩, by rw [e1]; exact a4, by rw [e2]; exact e0, by rw [e1, e2]; omega⟩
theorem sf_mm_os {σ : MI × MJ} {no i : Nat} (hi : i < no) (h : hw_os σ.1 no) : hw_os (sf_mm i σ).1 no := by
  intro q hq
  by_cases e : q = i
  · subst e
    unfold sf_mm
    by_cases c1 : ¬ σ.1 16 q = 0
    · rw [if_pos c1]; exact h q hq
    · rw [if_neg c1]
      by_cases c2 : σ.1 19 q ≤ σ.1 17 q + 1
      · rw [if_pos c2]; exact h q hq
      · rw [if_neg c2]
        split
        · exact (h q hq).move c2 (by simp [uI]) (by simp [uI]) (fun k _ => by simp [uI])
        · exact (h q hq).move c2 (by simp [uI]) (by simp [uI]) (fun k _ => by simp [uI])
  · refine (h q hq).congr ?_ (sf_mm_ne (by decide) (by decide) _) (fun k _ => sf_mm_ne (by decide) (by decide) _)
    unfold sf_mm
    repeat' split
    all_goals first | rfl | simp [uI, e]
def sp_mm (I : MI) (J : MJ) (no : Nat) : MI × MJ := lp sf_mm no 0 (I, J)
theorem sp_mm_ne {I : MI} {J : MJ} {no g : Nat} (h : g ≠ 16) (h1 : g ≠ 17) (j : Nat) : (sp_mm I J no).1 g j = I g j := lp_inv sf_mm (fun _ σ => σ.1 g j = I g j) no (fun i σ _ hs => (sf_mm_ne h h1 j).trans hs) no 0 (I, J) (by omega) rfl
theorem sp_mm_os {I : MI} {J : MJ} {no : Nat} (h : hw_os I no) : hw_os (sp_mm I J no).1 no := lp_inv sf_mm (fun _ σ => hw_os σ.1 no) no (fun i σ hi hs => sf_mm_os hi hs) no 0 (I, J) (by omega) h
set_option maxHeartbeats 4000000 in
set_option maxRecDepth 100000 in
theorem m_X5_moveMessages {l : Launch} {D : va_G} {b0 : Nat} {I : MI} {J : MJ} {P : MI} {N : MJ} {o : Int64} {no : Nat} (hoc : I 1 0 = nI no) (hno : no ≤ 40) (hos : hw_os I no) : hM l yX5_moveMessages cX5_moveMessages 5 none rX5_moveMessages D b0 [.ref (hw_ad b0 0 0)] I J P N o none (sp_mm I J no).1 (sp_mm I J no).2 P N o := by
  refine hw_Mof (by decide) [(0, .ref _)] rfl (Nat.le_of_ble_eq_true rfl) ?_
  intro p e s m args below meth c C hr hlk hnm
  refine hq_iconst (y := 0) C dX5_moveMessages_0 (by decide) ?_
  refine hq_istore_n (L' := [(1, .int _), (0, .ref _)]) C dX5_moveMessages_1 rfl (by decide) rfl ?_
  refine hq_perm [0, 1] (L' := [(1, .int (nI 0)), (0, .ref (hw_ad b0 0 0))]) rfl ?_
  refine lp_back sf_mm (fun (k9 : Nat) (σ : MI × MJ) => hw_V p l e rX5_moveMessages s m args below meth c (MQ below (hw_Q D b0 false (hw_n o) none (hw_vl b0 (sp_mm I J no).1 (sp_mm I J no).2 P N o)) args s 0 0 (fun q => b0 ≤ q)) D b0 5 false 0 0 (hw_n o) 2 [(1, .int (nI k9)), (0, .ref (hw_ad b0 0 0))] [] (hw_vl b0 σ.1 σ.2 P N o)) (fun _ σ => σ.1 1 0 = nI no ∧ hw_os σ.1 no) no ?_ (fun i σ hi hs => ⟨(sf_mm_ne (by decide) (by decide) 0).trans hs.1, sf_mm_os hi hs.2⟩) no 0 (I, J) (by omega) ⟨hoc, hos⟩ ?_
  · intro k9 σ hi hinv k
    have hi9 := hi
    have hk40 : k9 < 40 := by omega
    have hor := hinv.2 k9 hi9
    have hpq : σ.1 17 k9 = nI (hw_pl σ.1 k9) := hor.2.2.1
    have hpq1 : σ.1 17 k9 + 1 = nI (hw_pl σ.1 k9 + 1) := (congrArg (fun z => z + 1) hpq).trans (nI_1 _)
    have hok := hor.1.2.2
    have hl12 := hor.1.1
    refine hq_iload_n (q := 0) C dX5_moveMessages_2 rfl rfl ?_
    refine hq_aload_n (q := 1) C dX5_moveMessages_3 rfl rfl ?_
    refine hq_getI (f := 0) (g := 1) (Nc := 1) (Ns := 14) C fr_X5_124 dX5_moveMessages_4 rfl rfl rfl rfl rfl (by decide) Nat.one_pos ?_
    refine hq_icmp_ge (tgt := 115) C dX5_moveMessages_7 (by decide) (fun c_7 => absurd c_7 (by rw [show σ.1 1 0 = nI no from hinv.1]; exact nI_ge hi9 (by omega))) (fun c_7 => ?_)
    refine hq_aload_n (q := 1) C dX5_moveMessages_10 rfl rfl ?_
    refine hq_getR (f := 0) (g := 5) (Nc := 1) (Ns := 14) C fr_X5_18 dX5_moveMessages_11 rfl rfl rfl rfl rfl (by decide) Nat.one_pos ?_
    refine hq_iload_n (q := 0) C dX5_moveMessages_14 rfl rfl ?_
    refine hq_aaldOR0 (f := 5) (g := 6) (Nc := 1) (Ns := 40) C dX5_moveMessages_15 rfl rfl rfl rfl rfl rfl (by first | rfl | assumption) (by first | assumption | omega) Nat.one_pos ?_
    refine hq_astore_n (L' := [(2, .ref _), (1, .int _), (0, .ref _)]) C dX5_moveMessages_16 rfl (by decide) rfl ?_
    refine hq_aload_n (q := 0) C dX5_moveMessages_17 rfl rfl ?_
    refine hq_getI (f := 6) (g := 16) (Nc := 40) (Ns := 10) C fr_X5_140 dX5_moveMessages_18 rfl rfl rfl rfl rfl (by decide) (by first | assumption | omega) ?_
    refine hq_if_ne (tgt := 109) C dX5_moveMessages_21 (by decide) (fun c_21 => ?_) (fun c_21 => ?_)
    · refine hq_iinc (q := 1) (y := nI (_ + 1)) (L' := [(1, .int _), (2, .ref _), (0, .ref _)]) C dX5_moveMessages_109 rfl (hw_inc _) (by decide) rfl ?_
      refine hq_goto (tgt := 2) C dX5_moveMessages_112 (by decide) ?_
      exact hq_fin [0, 2] (by first | rfl | (simp only [sf_mm, c_21, ↓reduceIte, not_true_eq_false, not_false_eq_true]; rfl) | simp [lv_pick, sf_mm, c_21]) (by first | rfl | (simp only [sf_mm, c_21, ↓reduceIte, not_true_eq_false, not_false_eq_true]; done) | (simp only [sf_mm, c_21, ↓reduceIte, not_true_eq_false, not_false_eq_true]; rfl) | simp [sf_mm, c_21]) (by first | rfl | (simp only [sf_mm, c_21, ↓reduceIte, not_true_eq_false, not_false_eq_true]; done) | (simp only [sf_mm, c_21, ↓reduceIte, not_true_eq_false, not_false_eq_true]; rfl) | simp [sf_mm, c_21]) (by first | rfl | (simp only [sf_mm, c_21, ↓reduceIte, not_true_eq_false, not_false_eq_true]; done) | (simp only [sf_mm, c_21, ↓reduceIte, not_true_eq_false, not_false_eq_true]; rfl) | simp [sf_mm, c_21]) (by first | rfl | (simp only [sf_mm, c_21, ↓reduceIte, not_true_eq_false, not_false_eq_true]; done) | (simp only [sf_mm, c_21, ↓reduceIte, not_true_eq_false, not_false_eq_true]; rfl) | simp [sf_mm, c_21]) (by first | rfl | (simp only [sf_mm, c_21, ↓reduceIte, not_true_eq_false, not_false_eq_true]; done) | (simp only [sf_mm, c_21, ↓reduceIte, not_true_eq_false, not_false_eq_true]; rfl) | simp [sf_mm, c_21]) k
    · refine hq_aload_n (q := 0) C dX5_moveMessages_24 rfl rfl ?_
      refine hq_getI (f := 6) (g := 17) (Nc := 40) (Ns := 10) C fr_X5_221 dX5_moveMessages_25 rfl rfl rfl rfl rfl (by decide) (by first | assumption | omega) ?_
      refine hq_iconst (y := 1) C dX5_moveMessages_28 (by decide) ?_
      refine hq_iadd C dX5_moveMessages_29 ?_
      refine hq_aload_n (q := 0) C dX5_moveMessages_30 rfl rfl ?_
      refine hq_getI (f := 6) (g := 19) (Nc := 40) (Ns := 10) C fr_X5_275 dX5_moveMessages_31 rfl rfl rfl rfl rfl (by decide) (by first | assumption | omega) ?_
      refine hq_icmp_ge (tgt := 109) C dX5_moveMessages_34 (by decide) (fun c_34 => ?_) (fun c_34 => ?_)
      · refine hq_iinc (q := 1) (y := nI (_ + 1)) (L' := [(1, .int _), (2, .ref _), (0, .ref _)]) C dX5_moveMessages_109 rfl (hw_inc _) (by decide) rfl ?_
        refine hq_goto (tgt := 2) C dX5_moveMessages_112 (by decide) ?_
        exact hq_fin [0, 2] (by first | rfl | (simp only [sf_mm, c_21, c_34, ↓reduceIte, not_true_eq_false, not_false_eq_true]; rfl) | simp [lv_pick, sf_mm, c_21, c_34]) (by first | rfl | (simp only [sf_mm, c_21, c_34, ↓reduceIte, not_true_eq_false, not_false_eq_true]; done) | (simp only [sf_mm, c_21, c_34, ↓reduceIte, not_true_eq_false, not_false_eq_true]; rfl) | simp [sf_mm, c_21, c_34]) (by first | rfl | (simp only [sf_mm, c_21, c_34, ↓reduceIte, not_true_eq_false, not_false_eq_true]; done) | (simp only [sf_mm, c_21, c_34, ↓reduceIte, not_true_eq_false, not_false_eq_true]; rfl) | simp [sf_mm, c_21, c_34]) (by first | rfl | (simp only [sf_mm, c_21, c_34, ↓reduceIte, not_true_eq_false, not_false_eq_true]; done) | (simp only [sf_mm, c_21, c_34, ↓reduceIte, not_true_eq_false, not_false_eq_true]; rfl) | simp [sf_mm, c_21, c_34]) (by first | rfl | (simp only [sf_mm, c_21, c_34, ↓reduceIte, not_true_eq_false, not_false_eq_true]; done) | (simp only [sf_mm, c_21, c_34, ↓reduceIte, not_true_eq_false, not_false_eq_true]; rfl) | simp [sf_mm, c_21, c_34]) (by first | rfl | (simp only [sf_mm, c_21, c_34, ↓reduceIte, not_true_eq_false, not_false_eq_true]; done) | (simp only [sf_mm, c_21, c_34, ↓reduceIte, not_true_eq_false, not_false_eq_true]; rfl) | simp [sf_mm, c_21, c_34]) k
      · refine hq_aload_n (q := 0) C dX5_moveMessages_37 rfl rfl ?_
        refine hq_getR (f := 6) (g := 7) (Nc := 40) (Ns := 10) C fr_X5_276 dX5_moveMessages_38 rfl rfl rfl rfl rfl (by decide) (by first | assumption | omega) ?_
        refine hq_aload_n (q := 0) C dX5_moveMessages_41 rfl rfl ?_
        refine hq_getI (f := 6) (g := 17) (Nc := 40) (Ns := 10) C fr_X5_221 dX5_moveMessages_42 rfl rfl rfl rfl rfl (by decide) (by first | assumption | omega) ?_
        refine hq_ialdIw (f := 7) (a := hw_pl σ.1 k9) (g := 20) (w := 12) (Nc := 40) (Ns := 12) C dX5_moveMessages_45 rfl rfl rfl ⟨rfl, by decide⟩ rfl rfl hpq (by have := hor.lt c_34; omega) (by first | assumption | omega) ?_
        refine hq_istore_n (L' := [(3, .int _), (2, .ref _), (1, .int _), (0, .ref _)]) C dX5_moveMessages_46 rfl (by decide) rfl ?_
        refine hq_aload_n (q := 1) C dX5_moveMessages_47 rfl rfl ?_
        refine hq_getR (f := 6) (g := 7) (Nc := 40) (Ns := 10) C fr_X5_276 dX5_moveMessages_48 rfl rfl rfl rfl rfl (by decide) (by first | assumption | omega) ?_
        refine hq_aload_n (q := 1) C dX5_moveMessages_51 rfl rfl ?_
        refine hq_getI (f := 6) (g := 17) (Nc := 40) (Ns := 10) C fr_X5_221 dX5_moveMessages_52 rfl rfl rfl rfl rfl (by decide) (by first | assumption | omega) ?_
        refine hq_iconst (y := 1) C dX5_moveMessages_55 (by decide) ?_
        refine hq_iadd C dX5_moveMessages_56 ?_
        refine hq_ialdIw (f := 7) (a := hw_pl σ.1 k9 + 1) (g := 20) (w := 12) (Nc := 40) (Ns := 12) C dX5_moveMessages_57 rfl rfl rfl ⟨rfl, by decide⟩ rfl rfl hpq1 (by have := hor.lt c_34; omega) (by first | assumption | omega) ?_
        refine hq_istore (L' := [(4, .int _), (3, .int _), (2, .ref _), (1, .int _), (0, .ref _)]) C dX5_moveMessages_58 (by decide) rfl ?_
        refine hq_aload_n (q := 4) C dX5_moveMessages_60 rfl rfl ?_
        refine hq_getR (f := 0) (g := 11) (Nc := 1) (Ns := 14) C fr_X5_33 dX5_moveMessages_61 rfl rfl rfl rfl rfl (by decide) Nat.one_pos ?_
        refine hq_iload (q := 0) C dX5_moveMessages_64 rfl ?_
        refine hq_iload_n (q := 1) C dX5_moveMessages_66 rfl rfl ?_
        refine hq_aload_n (q := 2) C dX5_moveMessages_67 rfl rfl ?_
        refine hq_getR (f := 6) (g := 8) (Nc := 40) (Ns := 10) C fr_X5_278 dX5_moveMessages_68 rfl rfl rfl rfl rfl (by decide) (by first | assumption | omega) ?_
        refine hq_aload_n (q := 2) C dX5_moveMessages_71 rfl rfl ?_
        refine hq_getI (f := 6) (g := 17) (Nc := 40) (Ns := 10) C fr_X5_221 dX5_moveMessages_72 rfl rfl rfl rfl rfl (by decide) (by first | assumption | omega) ?_
        refine hq_ialdIw (f := 8) (a := hw_pl σ.1 k9) (g := 21) (w := 12) (Nc := 40) (Ns := 12) C dX5_moveMessages_75 rfl rfl rfl ⟨rfl, by decide⟩ rfl rfl hpq (by have := hor.lt c_34; omega) (by first | assumption | omega) ?_
        refine hq_ineg C dX5_moveMessages_76 ?_
        refine hq_i2l C dX5_moveMessages_77 ?_
        refine hq_cVv (As := [.int _, .int _, .long _]) (rm := rX2_write) (f := 11) (Nc := 1) C (m_X2_write (hok _ (hor.lt c_34)).x (hok _ (hor.lt c_34)).b (hok _ (Nat.le_of_lt (hor.lt c_34))).x (hok _ (Nat.le_of_lt (hor.lt c_34))).b) wv_X2_write ml_X5_284 rfl rfl rfl Nat.one_pos rfl rfl rfl rfl ⟨Nat.le_of_ble_eq_true rfl, Nat.le_of_ble_eq_true rfl⟩ (Nat.le_of_ble_eq_true rfl) ⟨Nat.le_of_ble_eq_true rfl, Nat.le_of_ble_eq_true rfl⟩ dX5_moveMessages_78 ?_
        refine hq_aload_n (q := 2) C dX5_moveMessages_81 rfl rfl ?_
        refine hq_dup C dX5_moveMessages_82 rfl ?_
        refine hq_getI (f := 6) (g := 17) (Nc := 40) (Ns := 10) C fr_X5_221 dX5_moveMessages_83 rfl rfl rfl rfl rfl (by decide) (by first | assumption | omega) ?_
        refine hq_iconst (y := 1) C dX5_moveMessages_86 (by decide) ?_
        refine hq_iadd C dX5_moveMessages_87 ?_
        refine hq_putI (f := 6) (g := 17) (Nc := 40) (Ns := 10) C fl_X5_221 dX5_moveMessages_88 rfl rfl rfl rfl rfl (by decide) (by first | assumption | omega) rfl rfl ?_
        refine hq_aload_n (q := 2) C dX5_moveMessages_91 rfl rfl ?_
        refine hq_getI (f := 6) (g := 17) (Nc := 40) (Ns := 10) C fr_X5_221 dX5_moveMessages_92 rfl rfl rfl rfl rfl (by decide) (by first | assumption | omega) ?_
        refine hq_iconst (y := 1) C dX5_moveMessages_95 (by decide) ?_
        refine hq_iadd C dX5_moveMessages_96 ?_
        refine hq_aload_n (q := 2) C dX5_moveMessages_97 rfl rfl ?_
        refine hq_getI (f := 6) (g := 19) (Nc := 40) (Ns := 10) C fr_X5_275 dX5_moveMessages_98 rfl rfl rfl rfl rfl (by decide) (by first | assumption | omega) ?_
        refine hq_icmp_ne (tgt := 109) C dX5_moveMessages_101 (by decide) (fun c_101 => ?_) (fun c_101 => ?_)
        · refine hq_iinc (q := 3) (y := nI (_ + 1)) (L' := [(1, .int _), (4, .int _), (3, .int _), (2, .ref _), (0, .ref _)]) C dX5_moveMessages_109 rfl (hw_inc _) (by decide) rfl ?_
          refine hq_goto (tgt := 2) C dX5_moveMessages_112 (by decide) ?_
          exact hq_fin [0, 4] (by first | rfl | (simp only [sf_mm, c_21, c_34, c_101, ↓reduceIte, not_true_eq_false, not_false_eq_true]; rfl) | simp [lv_pick, sf_mm, c_21, c_34, c_101]) (by first | rfl | (simp only [sf_mm, c_21, c_34, c_101, ↓reduceIte, not_true_eq_false, not_false_eq_true]; done) | (simp only [sf_mm, c_21, c_34, c_101, ↓reduceIte, not_true_eq_false, not_false_eq_true]; rfl) | simp [sf_mm, c_21, c_34, c_101]) (by first | rfl | (simp only [sf_mm, c_21, c_34, c_101, ↓reduceIte, not_true_eq_false, not_false_eq_true]; done) | (simp only [sf_mm, c_21, c_34, c_101, ↓reduceIte, not_true_eq_false, not_false_eq_true]; rfl) | simp [sf_mm, c_21, c_34, c_101]) (by first | rfl | (simp only [sf_mm, c_21, c_34, c_101, ↓reduceIte, not_true_eq_false, not_false_eq_true]; done) | (simp only [sf_mm, c_21, c_34, c_101, ↓reduceIte, not_true_eq_false, not_false_eq_true]; rfl) | simp [sf_mm, c_21, c_34, c_101]) (by first | rfl | (simp only [sf_mm, c_21, c_34, c_101, ↓reduceIte, not_true_eq_false, not_false_eq_true]; done) | (simp only [sf_mm, c_21, c_34, c_101, ↓reduceIte, not_true_eq_false, not_false_eq_true]; rfl) | simp [sf_mm, c_21, c_34, c_101]) (by first | rfl | (simp only [sf_mm, c_21, c_34, c_101, ↓reduceIte, not_true_eq_false, not_false_eq_true]; done) | (simp only [sf_mm, c_21, c_34, c_101, ↓reduceIte, not_true_eq_false, not_false_eq_true]; rfl) | simp [sf_mm, c_21, c_34, c_101]) k
        · refine hq_aload_n (q := 2) C dX5_moveMessages_104 rfl rfl ?_
          refine hq_iconst (y := 1) C dX5_moveMessages_105 (by decide) ?_
          refine hq_putI (f := 6) (g := 16) (Nc := 40) (Ns := 10) C fl_X5_140 dX5_moveMessages_106 rfl rfl rfl rfl rfl (by decide) (by first | assumption | omega) rfl rfl ?_
          refine hq_iinc (q := 3) (y := nI (_ + 1)) (L' := [(1, .int _), (4, .int _), (3, .int _), (2, .ref _), (0, .ref _)]) C dX5_moveMessages_109 rfl (hw_inc _) (by decide) rfl ?_
          refine hq_goto (tgt := 2) C dX5_moveMessages_112 (by decide) ?_
          exact hq_fin [0, 4] (by first | rfl | (simp only [sf_mm, c_21, c_34, c_101, ↓reduceIte, not_true_eq_false, not_false_eq_true]; rfl) | simp [lv_pick, sf_mm, c_21, c_34, c_101]) (by first | rfl | (simp only [sf_mm, c_21, c_34, c_101, ↓reduceIte, not_true_eq_false, not_false_eq_true]; done) | (simp only [sf_mm, c_21, c_34, c_101, ↓reduceIte, not_true_eq_false, not_false_eq_true]; rfl) | simp [sf_mm, c_21, c_34, c_101]) (by first | rfl | (simp only [sf_mm, c_21, c_34, c_101, ↓reduceIte, not_true_eq_false, not_false_eq_true]; done) | (simp only [sf_mm, c_21, c_34, c_101, ↓reduceIte, not_true_eq_false, not_false_eq_true]; rfl) | simp [sf_mm, c_21, c_34, c_101]) (by first | rfl | (simp only [sf_mm, c_21, c_34, c_101, ↓reduceIte, not_true_eq_false, not_false_eq_true]; done) | (simp only [sf_mm, c_21, c_34, c_101, ↓reduceIte, not_true_eq_false, not_false_eq_true]; rfl) | simp [sf_mm, c_21, c_34, c_101]) (by first | rfl | (simp only [sf_mm, c_21, c_34, c_101, ↓reduceIte, not_true_eq_false, not_false_eq_true]; done) | (simp only [sf_mm, c_21, c_34, c_101, ↓reduceIte, not_true_eq_false, not_false_eq_true]; rfl) | simp [sf_mm, c_21, c_34, c_101]) (by first | rfl | (simp only [sf_mm, c_21, c_34, c_101, ↓reduceIte, not_true_eq_false, not_false_eq_true]; done) | (simp only [sf_mm, c_21, c_34, c_101, ↓reduceIte, not_true_eq_false, not_false_eq_true]; rfl) | simp [sf_mm, c_21, c_34, c_101]) k
  · refine hq_iload_n (q := 0) C dX5_moveMessages_2 rfl rfl ?_
    refine hq_aload_n (q := 1) C dX5_moveMessages_3 rfl rfl ?_
    refine hq_getI (f := 0) (g := 1) (Nc := 1) (Ns := 14) C fr_X5_124 dX5_moveMessages_4 rfl rfl rfl rfl rfl (by decide) Nat.one_pos ?_
    refine hq_icmp_ge (tgt := 115) C dX5_moveMessages_7 (by decide) (fun c_7 => ?_) (fun c_7 => absurd (by rw [show (lp sf_mm no 0 (I, J)).1 1 0 = nI no from (sp_mm_ne (by decide) (by decide) 0).trans hoc]; exact nI_le (Nat.le_refl no) (by omega)) c_7)
    exact hq_vret C hr hlk dX5_moveMessages_115 rfl
def sp_tbk (I : MI) (J : MJ) (i : Nat) : MJ := lp (sf_tb I i) (hw_ln I i) 0 J
def sf_sb (i : Nat) (σ : MI × MJ) : MI × MJ := if hb (σ.1 16 i = 0 ∨ σ.1 16 i = 1) = 0 then σ else if σ.1 3 0 < σ.1 15 i + 240 then σ else (sp_ef σ.1 i, sp_tbk σ.1 σ.2 i)
theorem sf_sb_ne {σ : MI × MJ} {i g : Nat} (h : g ≠ 16) (j : Nat) : (sf_sb i σ).1 g j = σ.1 g j := by
  unfold sf_sb
  repeat' split
  all_goals first | rfl | exact sp_ef_ne h j
def sp_sb (I : MI) (J : MJ) (no : Nat) : MI × MJ := lp sf_sb no 0 (I, J)
theorem sp_sb_ne {I : MI} {J : MJ} {no g : Nat} (h : g ≠ 16) (j : Nat) : (sp_sb I J no).1 g j = I g j := lp_inv sf_sb (fun _ σ => σ.1 g j = I g j) no (fun i σ _ hs => (sf_sb_ne h j).trans hs) no 0 (I, J) (by omega) rfl
set_option maxHeartbeats 4000000 in
set_option maxRecDepth 100000 in
theorem m_X5_sendBackOld {l : Launch} {D : va_G} {b0 : Nat} {I : MI} {J : MJ} {P : MI} {N : MJ} {o : Int64} {no : Nat} (hoc : I 1 0 = nI no) (hno : no ≤ 40) (hos : hw_os I no) : hM l yX5_sendBackOld cX5_sendBackOld 2 none rX5_sendBackOld D b0 [.ref (hw_ad b0 0 0)] I J P N o none (sp_sb I J no).1 (sp_sb I J no).2 P N o := by
  refine hw_Mof (by decide) [(0, .ref _)] rfl (Nat.le_of_ble_eq_true rfl) ?_
  intro p e s m args below meth c C hr hlk hnm
  refine hq_iconst (y := 0) C dX5_sendBackOld_0 (by decide) ?_
  refine hq_istore_n (L' := [(1, .int _), (0, .ref _)]) C dX5_sendBackOld_1 rfl (by decide) rfl ?_
  refine hq_perm [0, 1] (L' := [(1, .int (nI 0)), (0, .ref (hw_ad b0 0 0))]) rfl ?_
  refine lp_back sf_sb (fun (k9 : Nat) (σ : MI × MJ) => hw_V p l e rX5_sendBackOld s m args below meth c (MQ below (hw_Q D b0 false (hw_n o) none (hw_vl b0 (sp_sb I J no).1 (sp_sb I J no).2 P N o)) args s 0 0 (fun q => b0 ≤ q)) D b0 2 false 0 0 (hw_n o) 2 [(1, .int (nI k9)), (0, .ref (hw_ad b0 0 0))] [] (hw_vl b0 σ.1 σ.2 P N o)) (fun _ σ => σ.1 1 0 = nI no ∧ hw_os σ.1 no) no ?_ (fun i σ hi hs => ⟨(sf_sb_ne (by decide) 0).trans hs.1, hs.2.congr (fun g j hg => sf_sb_ne (by omega) j)⟩) no 0 (I, J) (by omega) ⟨hoc, hos⟩ ?_
  · intro k9 σ hi hinv k
    have hi9 := hi
    have hk40 : k9 < 40 := by omega
    have hor := hinv.2 k9 hi9
    refine hq_iload_n (q := 0) C dX5_sendBackOld_2 rfl rfl ?_
    refine hq_aload_n (q := 1) C dX5_sendBackOld_3 rfl rfl ?_
    refine hq_getI (f := 0) (g := 1) (Nc := 1) (Ns := 14) C fr_X5_124 dX5_sendBackOld_4 rfl rfl rfl rfl rfl (by decide) Nat.one_pos ?_
    refine hq_icmp_ge (tgt := 58) C dX5_sendBackOld_7 (by decide) (fun c_7 => absurd c_7 (by rw [show σ.1 1 0 = nI no from hinv.1]; exact nI_ge hi9 (by omega))) (fun c_7 => ?_)
    refine hq_aload_n (q := 1) C dX5_sendBackOld_10 rfl rfl ?_
    refine hq_getR (f := 0) (g := 5) (Nc := 1) (Ns := 14) C fr_X5_18 dX5_sendBackOld_11 rfl rfl rfl rfl rfl (by decide) Nat.one_pos ?_
    refine hq_iload_n (q := 0) C dX5_sendBackOld_14 rfl rfl ?_
    refine hq_aaldOR0 (f := 5) (g := 6) (Nc := 1) (Ns := 40) C dX5_sendBackOld_15 rfl rfl rfl rfl rfl rfl (by first | rfl | assumption) (by first | assumption | omega) Nat.one_pos ?_
    refine hq_cVr (As := []) (rm := rX3_isOpen) (f := 6) (Nc := 40) C (m_X3_isOpen (by first | assumption | omega)) wv_X3_isOpen ml_X5_325 rfl rfl rfl (by first | assumption | omega) rfl rfl rfl rfl ⟨Nat.le_of_ble_eq_true rfl, Nat.le_of_ble_eq_true rfl⟩ (Nat.le_of_ble_eq_true rfl) ⟨Nat.le_of_ble_eq_true rfl, Nat.le_of_ble_eq_true rfl⟩ dX5_sendBackOld_16 ?_
    refine hq_if_eq (tgt := 52) C dX5_sendBackOld_19 (by decide) (fun c_19 => ?_) (fun c_19 => ?_)
    · refine hq_iinc (q := 0) (y := nI (_ + 1)) (L' := [(1, .int _), (0, .ref _)]) C dX5_sendBackOld_52 rfl (hw_inc _) (by decide) rfl ?_
      refine hq_goto (tgt := 2) C dX5_sendBackOld_55 (by decide) ?_
      exact hq_fin [0, 1] (by first | rfl | (simp only [sf_sb, c_19, ↓reduceIte, not_true_eq_false, not_false_eq_true]; rfl) | simp [lv_pick, sf_sb, c_19]) (by first | rfl | (simp only [sf_sb, c_19, ↓reduceIte, not_true_eq_false, not_false_eq_true]; done) | (simp only [sf_sb, c_19, ↓reduceIte, not_true_eq_false, not_false_eq_true]; rfl) | simp [sf_sb, c_19]) (by first | rfl | (simp only [sf_sb, c_19, ↓reduceIte, not_true_eq_false, not_false_eq_true]; done) | (simp only [sf_sb, c_19, ↓reduceIte, not_true_eq_false, not_false_eq_true]; rfl) | simp [sf_sb, c_19]) (by first | rfl | (simp only [sf_sb, c_19, ↓reduceIte, not_true_eq_false, not_false_eq_true]; done) | (simp only [sf_sb, c_19, ↓reduceIte, not_true_eq_false, not_false_eq_true]; rfl) | simp [sf_sb, c_19]) (by first | rfl | (simp only [sf_sb, c_19, ↓reduceIte, not_true_eq_false, not_false_eq_true]; done) | (simp only [sf_sb, c_19, ↓reduceIte, not_true_eq_false, not_false_eq_true]; rfl) | simp [sf_sb, c_19]) (by first | rfl | (simp only [sf_sb, c_19, ↓reduceIte, not_true_eq_false, not_false_eq_true]; done) | (simp only [sf_sb, c_19, ↓reduceIte, not_true_eq_false, not_false_eq_true]; rfl) | simp [sf_sb, c_19]) k
    · refine hq_aload_n (q := 1) C dX5_sendBackOld_22 rfl rfl ?_
      refine hq_getI (f := 0) (g := 3) (Nc := 1) (Ns := 14) C fr_X5_112 dX5_sendBackOld_23 rfl rfl rfl rfl rfl (by decide) Nat.one_pos ?_
      refine hq_aload_n (q := 1) C dX5_sendBackOld_26 rfl rfl ?_
      refine hq_getR (f := 0) (g := 5) (Nc := 1) (Ns := 14) C fr_X5_18 dX5_sendBackOld_27 rfl rfl rfl rfl rfl (by decide) Nat.one_pos ?_
      refine hq_iload_n (q := 0) C dX5_sendBackOld_30 rfl rfl ?_
      refine hq_aaldOR0 (f := 5) (g := 6) (Nc := 1) (Ns := 40) C dX5_sendBackOld_31 rfl rfl rfl rfl rfl rfl (by first | rfl | assumption) (by first | assumption | omega) Nat.one_pos ?_
      refine hq_getI (f := 6) (g := 15) (Nc := 40) (Ns := 10) C fr_X5_137 dX5_sendBackOld_32 rfl rfl rfl rfl rfl (by decide) (by first | assumption | omega) ?_
      refine hq_sipush (y := 240) C dX5_sendBackOld_35 (by decide) ?_
      refine hq_iadd C dX5_sendBackOld_38 ?_
      refine hq_icmp_lt (tgt := 52) C dX5_sendBackOld_39 (by decide) (fun c_39 => ?_) (fun c_39 => ?_)
      · refine hq_iinc (q := 0) (y := nI (_ + 1)) (L' := [(1, .int _), (0, .ref _)]) C dX5_sendBackOld_52 rfl (hw_inc _) (by decide) rfl ?_
        refine hq_goto (tgt := 2) C dX5_sendBackOld_55 (by decide) ?_
        exact hq_fin [0, 1] (by first | rfl | (simp only [sf_sb, c_19, c_39, ↓reduceIte, not_true_eq_false, not_false_eq_true]; rfl) | simp [lv_pick, sf_sb, c_19, c_39]) (by first | rfl | (simp only [sf_sb, c_19, c_39, ↓reduceIte, not_true_eq_false, not_false_eq_true]; done) | (simp only [sf_sb, c_19, c_39, ↓reduceIte, not_true_eq_false, not_false_eq_true]; rfl) | simp [sf_sb, c_19, c_39]) (by first | rfl | (simp only [sf_sb, c_19, c_39, ↓reduceIte, not_true_eq_false, not_false_eq_true]; done) | (simp only [sf_sb, c_19, c_39, ↓reduceIte, not_true_eq_false, not_false_eq_true]; rfl) | simp [sf_sb, c_19, c_39]) (by first | rfl | (simp only [sf_sb, c_19, c_39, ↓reduceIte, not_true_eq_false, not_false_eq_true]; done) | (simp only [sf_sb, c_19, c_39, ↓reduceIte, not_true_eq_false, not_false_eq_true]; rfl) | simp [sf_sb, c_19, c_39]) (by first | rfl | (simp only [sf_sb, c_19, c_39, ↓reduceIte, not_true_eq_false, not_false_eq_true]; done) | (simp only [sf_sb, c_19, c_39, ↓reduceIte, not_true_eq_false, not_false_eq_true]; rfl) | simp [sf_sb, c_19, c_39]) (by first | rfl | (simp only [sf_sb, c_19, c_39, ↓reduceIte, not_true_eq_false, not_false_eq_true]; done) | (simp only [sf_sb, c_19, c_39, ↓reduceIte, not_true_eq_false, not_false_eq_true]; rfl) | simp [sf_sb, c_19, c_39]) k
      · refine hq_aload_n (q := 1) C dX5_sendBackOld_42 rfl rfl ?_
        refine hq_aload_n (q := 1) C dX5_sendBackOld_43 rfl rfl ?_
        refine hq_getR (f := 0) (g := 5) (Nc := 1) (Ns := 14) C fr_X5_18 dX5_sendBackOld_44 rfl rfl rfl rfl rfl (by decide) Nat.one_pos ?_
        refine hq_iload_n (q := 0) C dX5_sendBackOld_47 rfl rfl ?_
        refine hq_aaldOR0 (f := 5) (g := 6) (Nc := 1) (Ns := 40) C dX5_sendBackOld_48 rfl rfl rfl rfl rfl rfl (by first | rfl | assumption) (by first | assumption | omega) Nat.one_pos ?_
        refine hq_cVv (As := [.ref _]) (rm := rX5_goBack) (f := 0) (Nc := 1) C (m_X5_goBack hk40 hor.1) wv_X5_goBack ml_X5_165 rfl rfl rfl Nat.one_pos rfl rfl rfl rfl ⟨Nat.le_of_ble_eq_true rfl, Nat.le_of_ble_eq_true rfl⟩ (Nat.le_of_ble_eq_true rfl) ⟨Nat.le_of_ble_eq_true rfl, Nat.le_of_ble_eq_true rfl⟩ dX5_sendBackOld_49 ?_
        refine hq_iinc (q := 0) (y := nI (_ + 1)) (L' := [(1, .int _), (0, .ref _)]) C dX5_sendBackOld_52 rfl (hw_inc _) (by decide) rfl ?_
        refine hq_goto (tgt := 2) C dX5_sendBackOld_55 (by decide) ?_
        exact hq_fin [0, 1] (by first | rfl | (simp only [sf_sb, c_19, c_39, ↓reduceIte, not_true_eq_false, not_false_eq_true]; rfl) | simp [lv_pick, sf_sb, c_19, c_39]) (by first | rfl | (simp only [sf_sb, c_19, c_39, ↓reduceIte, not_true_eq_false, not_false_eq_true]; done) | (simp only [sf_sb, c_19, c_39, ↓reduceIte, not_true_eq_false, not_false_eq_true]; rfl) | simp [sf_sb, c_19, c_39]) (by first | rfl | (simp only [sf_sb, c_19, c_39, ↓reduceIte, not_true_eq_false, not_false_eq_true]; done) | (simp only [sf_sb, c_19, c_39, ↓reduceIte, not_true_eq_false, not_false_eq_true]; rfl) | simp [sf_sb, c_19, c_39]) (by first | rfl | (simp only [sf_sb, c_19, c_39, ↓reduceIte, not_true_eq_false, not_false_eq_true]; done) | (simp only [sf_sb, c_19, c_39, ↓reduceIte, not_true_eq_false, not_false_eq_true]; rfl) | simp [sf_sb, c_19, c_39]) (by first | rfl | (simp only [sf_sb, c_19, c_39, ↓reduceIte, not_true_eq_false, not_false_eq_true]; done) | (simp only [sf_sb, c_19, c_39, ↓reduceIte, not_true_eq_false, not_false_eq_true]; rfl) | simp [sf_sb, c_19, c_39]) (by first | rfl | (simp only [sf_sb, c_19, c_39, ↓reduceIte, not_true_eq_false, not_false_eq_true]; done) | (simp only [sf_sb, c_19, c_39, ↓reduceIte, not_true_eq_false, not_false_eq_true]; rfl) | simp [sf_sb, c_19, c_39]) k
  · refine hq_iload_n (q := 0) C dX5_sendBackOld_2 rfl rfl ?_
    refine hq_aload_n (q := 1) C dX5_sendBackOld_3 rfl rfl ?_
    refine hq_getI (f := 0) (g := 1) (Nc := 1) (Ns := 14) C fr_X5_124 dX5_sendBackOld_4 rfl rfl rfl rfl rfl (by decide) Nat.one_pos ?_
    refine hq_icmp_ge (tgt := 58) C dX5_sendBackOld_7 (by decide) (fun c_7 => ?_) (fun c_7 => absurd (by rw [show (lp sf_sb no 0 (I, J)).1 1 0 = nI no from (sp_sb_ne (by decide) 0).trans hoc]; exact nI_le (Nat.le_refl no) (by omega)) c_7)
    exact hq_vret C hr hlk dX5_sendBackOld_58 rfl
def sf_gb (i : Nat) (σ : MI × MJ) : MI × MJ :=
  if ¬ σ.1 16 i = 3 then σ else if hb (σ.1 7 (σ.1 20 (12 * i + 0)).toNatClampNeg = 0) = 0 then σ else if lg_cmp (σ.2 0 (σ.1 20 (12 * i + 0)).toNatClampNeg) (σ.1 14 i).toInt64 < 0 then σ
  else (uI σ.1 16 i 4, uJ σ.2 0 (σ.1 20 (12 * i + 0)).toNatClampNeg (σ.2 0 (σ.1 20 (12 * i + 0)).toNatClampNeg - (σ.1 14 i).toInt64))
theorem sf_gb_ne {σ : MI × MJ} {i g : Nat} (h : g ≠ 16) (j : Nat) : (sf_gb i σ).1 g j = σ.1 g j := by
  unfold sf_gb
  repeat' split
  all_goals first | rfl | simp [uI, h]
def sp_gb (I : MI) (J : MJ) (no : Nat) : MI × MJ := lp sf_gb no 0 (I, J)
theorem sp_gb_ne {I : MI} {J : MJ} {no g : Nat} (h : g ≠ 16) (j : Nat) : (sp_gb I J no).1 g j = I g j := lp_inv sf_gb (fun _ σ => σ.1 g j = I g j) no (fun i σ _ hs => (sf_gb_ne h j).trans hs) no 0 (I, J) (by omega) rfl
set_option maxHeartbeats 4000000 in
set_option maxRecDepth 100000 in
theorem m_X5_giveBack {l : Launch} {D : va_G} {b0 : Nat} {I : MI} {J : MJ} {P : MI} {N : MJ} {o : Int64} {no : Nat} (hoc : I 1 0 = nI no) (hno : no ≤ 40) (hos : hw_os I no) : hM l yX5_giveBack cX5_giveBack 4 none rX5_giveBack D b0 [.ref (hw_ad b0 0 0)] I J P N o none (sp_gb I J no).1 (sp_gb I J no).2 P N o := by
  refine hw_Mof (by decide) [(0, .ref _)] rfl (Nat.le_of_ble_eq_true rfl) ?_
  intro p e s m args below meth c C hr hlk hnm
  refine hq_iconst (y := 0) C dX5_giveBack_0 (by decide) ?_
  refine hq_istore_n (L' := [(1, .int _), (0, .ref _)]) C dX5_giveBack_1 rfl (by decide) rfl ?_
  refine hq_perm [0, 1] (L' := [(1, .int (nI 0)), (0, .ref (hw_ad b0 0 0))]) rfl ?_
  refine lp_back sf_gb (fun (k9 : Nat) (σ : MI × MJ) => hw_V p l e rX5_giveBack s m args below meth c (MQ below (hw_Q D b0 false (hw_n o) none (hw_vl b0 (sp_gb I J no).1 (sp_gb I J no).2 P N o)) args s 0 0 (fun q => b0 ≤ q)) D b0 4 false 0 0 (hw_n o) 2 [(1, .int (nI k9)), (0, .ref (hw_ad b0 0 0))] [] (hw_vl b0 σ.1 σ.2 P N o)) (fun _ σ => σ.1 1 0 = nI no ∧ hw_os σ.1 no) no ?_ (fun i σ hi hs => ⟨(sf_gb_ne (by decide) 0).trans hs.1, hs.2.congr (fun g j hg => sf_gb_ne (by omega) j)⟩) no 0 (I, J) (by omega) ⟨hoc, hos⟩ ?_
  · intro k9 σ hi hinv k
    have hi9 := hi
    have hk40 : k9 < 40 := by omega
    have hf := (hinv.2 k9 hi9).first
    refine hq_iload_n (q := 0) C dX5_giveBack_2 rfl rfl ?_
    refine hq_aload_n (q := 1) C dX5_giveBack_3 rfl rfl ?_
    refine hq_getI (f := 0) (g := 1) (Nc := 1) (Ns := 14) C fr_X5_124 dX5_giveBack_4 rfl rfl rfl rfl rfl (by decide) Nat.one_pos ?_
    refine hq_icmp_ge (tgt := 80) C dX5_giveBack_7 (by decide) (fun c_7 => absurd c_7 (by rw [show σ.1 1 0 = nI no from hinv.1]; exact nI_ge hi9 (by omega))) (fun c_7 => ?_)
    refine hq_aload_n (q := 1) C dX5_giveBack_10 rfl rfl ?_
    refine hq_getR (f := 0) (g := 5) (Nc := 1) (Ns := 14) C fr_X5_18 dX5_giveBack_11 rfl rfl rfl rfl rfl (by decide) Nat.one_pos ?_
    refine hq_iload_n (q := 0) C dX5_giveBack_14 rfl rfl ?_
    refine hq_aaldOR0 (f := 5) (g := 6) (Nc := 1) (Ns := 40) C dX5_giveBack_15 rfl rfl rfl rfl rfl rfl (by first | rfl | assumption) (by first | assumption | omega) Nat.one_pos ?_
    refine hq_astore_n (L' := [(2, .ref _), (1, .int _), (0, .ref _)]) C dX5_giveBack_16 rfl (by decide) rfl ?_
    refine hq_aload_n (q := 0) C dX5_giveBack_17 rfl rfl ?_
    refine hq_getI (f := 6) (g := 16) (Nc := 40) (Ns := 10) C fr_X5_140 dX5_giveBack_18 rfl rfl rfl rfl rfl (by decide) (by first | assumption | omega) ?_
    refine hq_iconst (y := 3) C dX5_giveBack_21 (by decide) ?_
    refine hq_icmp_ne (tgt := 74) C dX5_giveBack_22 (by decide) (fun c_22 => ?_) (fun c_22 => ?_)
    · refine hq_iinc (q := 1) (y := nI (_ + 1)) (L' := [(1, .int _), (2, .ref _), (0, .ref _)]) C dX5_giveBack_74 rfl (hw_inc _) (by decide) rfl ?_
      refine hq_goto (tgt := 2) C dX5_giveBack_77 (by decide) ?_
      exact hq_fin [0, 2] (by first | rfl | (simp only [sf_gb, c_22, ↓reduceIte, not_true_eq_false, not_false_eq_true]; rfl) | simp [lv_pick, sf_gb, c_22]) (by first | rfl | (simp only [sf_gb, c_22, ↓reduceIte, not_true_eq_false, not_false_eq_true]; done) | (simp only [sf_gb, c_22, ↓reduceIte, not_true_eq_false, not_false_eq_true]; rfl) | simp [sf_gb, c_22]) (by first | rfl | (simp only [sf_gb, c_22, ↓reduceIte, not_true_eq_false, not_false_eq_true]; done) | (simp only [sf_gb, c_22, ↓reduceIte, not_true_eq_false, not_false_eq_true]; rfl) | simp [sf_gb, c_22]) (by first | rfl | (simp only [sf_gb, c_22, ↓reduceIte, not_true_eq_false, not_false_eq_true]; done) | (simp only [sf_gb, c_22, ↓reduceIte, not_true_eq_false, not_false_eq_true]; rfl) | simp [sf_gb, c_22]) (by first | rfl | (simp only [sf_gb, c_22, ↓reduceIte, not_true_eq_false, not_false_eq_true]; done) | (simp only [sf_gb, c_22, ↓reduceIte, not_true_eq_false, not_false_eq_true]; rfl) | simp [sf_gb, c_22]) (by first | rfl | (simp only [sf_gb, c_22, ↓reduceIte, not_true_eq_false, not_false_eq_true]; done) | (simp only [sf_gb, c_22, ↓reduceIte, not_true_eq_false, not_false_eq_true]; rfl) | simp [sf_gb, c_22]) k
    · refine hq_aload_n (q := 2) C dX5_giveBack_25 rfl rfl ?_
      refine hq_getR (f := 0) (g := 1) (Nc := 1) (Ns := 14) C fr_X5_11 dX5_giveBack_26 rfl rfl rfl rfl rfl (by decide) Nat.one_pos ?_
      refine hq_aload_n (q := 0) C dX5_giveBack_29 rfl rfl ?_
      refine hq_cVr (As := []) (rm := rX3_firstBroker) (f := 6) (Nc := 40) C (m_X3_firstBroker (by first | assumption | omega)) wv_X3_firstBroker ml_X5_294 rfl rfl rfl (by first | assumption | omega) rfl rfl rfl rfl ⟨Nat.le_of_ble_eq_true rfl, Nat.le_of_ble_eq_true rfl⟩ (Nat.le_of_ble_eq_true rfl) ⟨Nat.le_of_ble_eq_true rfl, Nat.le_of_ble_eq_true rfl⟩ dX5_giveBack_30 ?_
      refine hq_aaldBR0 (f := 1) (g := 2) (Nc := 1) (Ns := 12) C dX5_giveBack_33 rfl rfl rfl rfl rfl rfl hf.x hf.b Nat.one_pos ?_
      refine hq_astore_n (L' := [(3, .ref _), (2, .ref _), (1, .int _), (0, .ref _)]) C dX5_giveBack_34 rfl (by decide) rfl ?_
      refine hq_aload_n (q := 0) C dX5_giveBack_35 rfl rfl ?_
      refine hq_cVr (As := []) (rm := rX0_isGood) (f := 2) (Nc := 12) C (m_X0_isGood hf.b) wv_X0_isGood ml_X5_108 rfl rfl rfl hf.b rfl rfl rfl rfl ⟨Nat.le_of_ble_eq_true rfl, Nat.le_of_ble_eq_true rfl⟩ (Nat.le_of_ble_eq_true rfl) ⟨Nat.le_of_ble_eq_true rfl, Nat.le_of_ble_eq_true rfl⟩ dX5_giveBack_36 ?_
      refine hq_if_eq (tgt := 74) C dX5_giveBack_39 (by decide) (fun c_39 => ?_) (fun c_39 => ?_)
      · refine hq_iinc (q := 2) (y := nI (_ + 1)) (L' := [(1, .int _), (3, .ref _), (2, .ref _), (0, .ref _)]) C dX5_giveBack_74 rfl (hw_inc _) (by decide) rfl ?_
        refine hq_goto (tgt := 2) C dX5_giveBack_77 (by decide) ?_
        exact hq_fin [0, 3] (by first | rfl | (simp only [sf_gb, c_22, c_39, ↓reduceIte, not_true_eq_false, not_false_eq_true]; rfl) | simp [lv_pick, sf_gb, c_22, c_39]) (by first | rfl | (simp only [sf_gb, c_22, c_39, ↓reduceIte, not_true_eq_false, not_false_eq_true]; done) | (simp only [sf_gb, c_22, c_39, ↓reduceIte, not_true_eq_false, not_false_eq_true]; rfl) | simp [sf_gb, c_22, c_39]) (by first | rfl | (simp only [sf_gb, c_22, c_39, ↓reduceIte, not_true_eq_false, not_false_eq_true]; done) | (simp only [sf_gb, c_22, c_39, ↓reduceIte, not_true_eq_false, not_false_eq_true]; rfl) | simp [sf_gb, c_22, c_39]) (by first | rfl | (simp only [sf_gb, c_22, c_39, ↓reduceIte, not_true_eq_false, not_false_eq_true]; done) | (simp only [sf_gb, c_22, c_39, ↓reduceIte, not_true_eq_false, not_false_eq_true]; rfl) | simp [sf_gb, c_22, c_39]) (by first | rfl | (simp only [sf_gb, c_22, c_39, ↓reduceIte, not_true_eq_false, not_false_eq_true]; done) | (simp only [sf_gb, c_22, c_39, ↓reduceIte, not_true_eq_false, not_false_eq_true]; rfl) | simp [sf_gb, c_22, c_39]) (by first | rfl | (simp only [sf_gb, c_22, c_39, ↓reduceIte, not_true_eq_false, not_false_eq_true]; done) | (simp only [sf_gb, c_22, c_39, ↓reduceIte, not_true_eq_false, not_false_eq_true]; rfl) | simp [sf_gb, c_22, c_39]) k
      · refine hq_aload_n (q := 0) C dX5_giveBack_42 rfl rfl ?_
        refine hq_getJ (f := 2) (g := 0) (Nc := 12) (Ns := 8) C fr_X5_77 dX5_giveBack_43 rfl rfl rfl rfl rfl (by decide) hf.b ?_
        refine hq_aload_n (q := 1) C dX5_giveBack_46 rfl rfl ?_
        refine hq_getI (f := 6) (g := 14) (Nc := 40) (Ns := 10) C fr_X5_145 dX5_giveBack_47 rfl rfl rfl rfl rfl (by decide) (by first | assumption | omega) ?_
        refine hq_i2l C dX5_giveBack_50 ?_
        refine hq_lcmp C dX5_giveBack_51 ?_
        refine hq_if_lt (tgt := 74) C dX5_giveBack_52 (by decide) (fun c_52 => ?_) (fun c_52 => ?_)
        · refine hq_iinc (q := 2) (y := nI (_ + 1)) (L' := [(1, .int _), (3, .ref _), (2, .ref _), (0, .ref _)]) C dX5_giveBack_74 rfl (hw_inc _) (by decide) rfl ?_
          refine hq_goto (tgt := 2) C dX5_giveBack_77 (by decide) ?_
          exact hq_fin [0, 3] (by first | rfl | (simp only [sf_gb, c_22, c_39, c_52, ↓reduceIte, not_true_eq_false, not_false_eq_true]; rfl) | simp [lv_pick, sf_gb, c_22, c_39, c_52]) (by first | rfl | (simp only [sf_gb, c_22, c_39, c_52, ↓reduceIte, not_true_eq_false, not_false_eq_true]; done) | (simp only [sf_gb, c_22, c_39, c_52, ↓reduceIte, not_true_eq_false, not_false_eq_true]; rfl) | simp [sf_gb, c_22, c_39, c_52]) (by first | rfl | (simp only [sf_gb, c_22, c_39, c_52, ↓reduceIte, not_true_eq_false, not_false_eq_true]; done) | (simp only [sf_gb, c_22, c_39, c_52, ↓reduceIte, not_true_eq_false, not_false_eq_true]; rfl) | simp [sf_gb, c_22, c_39, c_52]) (by first | rfl | (simp only [sf_gb, c_22, c_39, c_52, ↓reduceIte, not_true_eq_false, not_false_eq_true]; done) | (simp only [sf_gb, c_22, c_39, c_52, ↓reduceIte, not_true_eq_false, not_false_eq_true]; rfl) | simp [sf_gb, c_22, c_39, c_52]) (by first | rfl | (simp only [sf_gb, c_22, c_39, c_52, ↓reduceIte, not_true_eq_false, not_false_eq_true]; done) | (simp only [sf_gb, c_22, c_39, c_52, ↓reduceIte, not_true_eq_false, not_false_eq_true]; rfl) | simp [sf_gb, c_22, c_39, c_52]) (by first | rfl | (simp only [sf_gb, c_22, c_39, c_52, ↓reduceIte, not_true_eq_false, not_false_eq_true]; done) | (simp only [sf_gb, c_22, c_39, c_52, ↓reduceIte, not_true_eq_false, not_false_eq_true]; rfl) | simp [sf_gb, c_22, c_39, c_52]) k
        · refine hq_aload_n (q := 0) C dX5_giveBack_55 rfl rfl ?_
          refine hq_dup C dX5_giveBack_56 rfl ?_
          refine hq_getJ (f := 2) (g := 0) (Nc := 12) (Ns := 8) C fr_X5_77 dX5_giveBack_57 rfl rfl rfl rfl rfl (by decide) hf.b ?_
          refine hq_aload_n (q := 1) C dX5_giveBack_60 rfl rfl ?_
          refine hq_getI (f := 6) (g := 14) (Nc := 40) (Ns := 10) C fr_X5_145 dX5_giveBack_61 rfl rfl rfl rfl rfl (by decide) (by first | assumption | omega) ?_
          refine hq_i2l C dX5_giveBack_64 ?_
          refine hq_lsub C dX5_giveBack_65 ?_
          refine hq_putJ (f := 2) (g := 0) (Nc := 12) (Ns := 8) C fl_X5_77 dX5_giveBack_66 rfl rfl rfl rfl rfl (by decide) hf.b rfl rfl ?_
          refine hq_aload_n (q := 1) C dX5_giveBack_69 rfl rfl ?_
          refine hq_iconst (y := 4) C dX5_giveBack_70 (by decide) ?_
          refine hq_putI (f := 6) (g := 16) (Nc := 40) (Ns := 10) C fl_X5_140 dX5_giveBack_71 rfl rfl rfl rfl rfl (by decide) (by first | assumption | omega) rfl rfl ?_
          refine hq_iinc (q := 2) (y := nI (_ + 1)) (L' := [(1, .int _), (3, .ref _), (2, .ref _), (0, .ref _)]) C dX5_giveBack_74 rfl (hw_inc _) (by decide) rfl ?_
          refine hq_goto (tgt := 2) C dX5_giveBack_77 (by decide) ?_
          exact hq_fin [0, 3] (by first | rfl | (simp only [sf_gb, c_22, c_39, c_52, ↓reduceIte, not_true_eq_false, not_false_eq_true]; rfl) | simp [lv_pick, sf_gb, c_22, c_39, c_52]) (by first | rfl | (simp only [sf_gb, c_22, c_39, c_52, ↓reduceIte, not_true_eq_false, not_false_eq_true]; done) | (simp only [sf_gb, c_22, c_39, c_52, ↓reduceIte, not_true_eq_false, not_false_eq_true]; rfl) | simp [sf_gb, c_22, c_39, c_52]) (by first | rfl | (simp only [sf_gb, c_22, c_39, c_52, ↓reduceIte, not_true_eq_false, not_false_eq_true]; done) | (simp only [sf_gb, c_22, c_39, c_52, ↓reduceIte, not_true_eq_false, not_false_eq_true]; rfl) | simp [sf_gb, c_22, c_39, c_52]) (by first | rfl | (simp only [sf_gb, c_22, c_39, c_52, ↓reduceIte, not_true_eq_false, not_false_eq_true]; done) | (simp only [sf_gb, c_22, c_39, c_52, ↓reduceIte, not_true_eq_false, not_false_eq_true]; rfl) | simp [sf_gb, c_22, c_39, c_52]) (by first | rfl | (simp only [sf_gb, c_22, c_39, c_52, ↓reduceIte, not_true_eq_false, not_false_eq_true]; done) | (simp only [sf_gb, c_22, c_39, c_52, ↓reduceIte, not_true_eq_false, not_false_eq_true]; rfl) | simp [sf_gb, c_22, c_39, c_52]) (by first | rfl | (simp only [sf_gb, c_22, c_39, c_52, ↓reduceIte, not_true_eq_false, not_false_eq_true]; done) | (simp only [sf_gb, c_22, c_39, c_52, ↓reduceIte, not_true_eq_false, not_false_eq_true]; rfl) | simp [sf_gb, c_22, c_39, c_52]) k
  · refine hq_iload_n (q := 0) C dX5_giveBack_2 rfl rfl ?_
    refine hq_aload_n (q := 1) C dX5_giveBack_3 rfl rfl ?_
    refine hq_getI (f := 0) (g := 1) (Nc := 1) (Ns := 14) C fr_X5_124 dX5_giveBack_4 rfl rfl rfl rfl rfl (by decide) Nat.one_pos ?_
    refine hq_icmp_ge (tgt := 80) C dX5_giveBack_7 (by decide) (fun c_7 => ?_) (fun c_7 => absurd (by rw [show (lp sf_gb no 0 (I, J)).1 1 0 = nI no from (sp_gb_ne (by decide) 0).trans hoc]; exact nI_le (Nat.le_refl no) (by omega)) c_7)
    exact hq_vret C hr hlk dX5_giveBack_80 rfl
def hw_cs (I : MI) (nc : Nat) : Prop := ∀ c, c < nc → hw_ok (I 22 c) ∧ hw_ok (I 23 c)
def sf_rc (i : Nat) (σ : MI × MJ) : MI × MJ :=
  if σ.1 26 i = 0 then σ else if σ.1 3 0 < σ.1 25 i then σ
  else (uI σ.1 26 i 0, sp_known (uJ σ.2 0 (σ.1 23 i).toNatClampNeg (σ.2 0 (σ.1 23 i).toNatClampNeg + (σ.1 24 i).toInt64)) (σ.1 22 i).toNatClampNeg (σ.1 23 i).toNatClampNeg (-σ.1 24 i).toInt64)
theorem sf_rc_ne {σ : MI × MJ} {i g : Nat} (h : g ≠ 26) (j : Nat) : (sf_rc i σ).1 g j = σ.1 g j := by
  unfold sf_rc
  repeat' split
  all_goals first | rfl | simp [uI, h]
theorem hw_cs.congr {I I' : MI} {nc : Nat} (h : hw_cs I nc) (h1 : ∀ g j, g = 22 ∨ g = 23 → I' g j = I g j) : hw_cs I' nc := fun c hc => by rw [h1 22 c (by omega), h1 23 c (by omega)]; exact h c hc
def sp_rc (I : MI) (J : MJ) (nc : Nat) : MI × MJ := lp sf_rc nc 0 (I, J)
theorem sp_rc_ne {I : MI} {J : MJ} {nc g : Nat} (h : g ≠ 26) (j : Nat) : (sp_rc I J nc).1 g j = I g j := lp_inv sf_rc (fun _ σ => σ.1 g j = I g j) nc (fun i σ _ hs => (sf_rc_ne h j).trans hs) nc 0 (I, J) (by omega) rfl
set_option maxHeartbeats 4000000 in
set_option maxRecDepth 100000 in
theorem m_X5_receiveCouriers {l : Launch} {D : va_G} {b0 : Nat} {I : MI} {J : MJ} {P : MI} {N : MJ} {o : Int64} {nc : Nat} (hcc : I 2 0 = nI nc) (hnc : nc ≤ 40) (hcs : hw_cs I nc) : hM l yX5_receiveCouriers cX5_receiveCouriers 3 none rX5_receiveCouriers D b0 [.ref (hw_ad b0 0 0)] I J P N o none (sp_rc I J nc).1 (sp_rc I J nc).2 P N o := by
  refine hw_Mof (by decide) [(0, .ref _)] rfl (Nat.le_of_ble_eq_true rfl) ?_
  intro p e s m args below meth c C hr hlk hnm
  refine hq_iconst (y := 0) C dX5_receiveCouriers_0 (by decide) ?_
  refine hq_istore_n (L' := [(1, .int _), (0, .ref _)]) C dX5_receiveCouriers_1 rfl (by decide) rfl ?_
  refine hq_perm [0, 1] (L' := [(1, .int (nI 0)), (0, .ref (hw_ad b0 0 0))]) rfl ?_
  refine lp_back sf_rc (fun (k9 : Nat) (σ : MI × MJ) => hw_V p l e rX5_receiveCouriers s m args below meth c (MQ below (hw_Q D b0 false (hw_n o) none (hw_vl b0 (sp_rc I J nc).1 (sp_rc I J nc).2 P N o)) args s 0 0 (fun q => b0 ≤ q)) D b0 3 false 0 0 (hw_n o) 2 [(1, .int (nI k9)), (0, .ref (hw_ad b0 0 0))] [] (hw_vl b0 σ.1 σ.2 P N o)) (fun _ σ => σ.1 2 0 = nI nc ∧ hw_cs σ.1 nc) nc ?_ (fun i σ hi hs => ⟨(sf_rc_ne (by decide) 0).trans hs.1, hs.2.congr (fun g j hg => sf_rc_ne (by omega) j)⟩) nc 0 (I, J) (by omega) ⟨hcc, hcs⟩ ?_
  · intro k9 σ hi hinv k
    have hi9 := hi
    have hk40 : k9 < 40 := by omega
    have hc1 := (hinv.2 k9 hi9).1
    have hc2 := (hinv.2 k9 hi9).2
    refine hq_iload_n (q := 0) C dX5_receiveCouriers_2 rfl rfl ?_
    refine hq_aload_n (q := 1) C dX5_receiveCouriers_3 rfl rfl ?_
    refine hq_getI (f := 0) (g := 2) (Nc := 1) (Ns := 14) C fr_X5_179 dX5_receiveCouriers_4 rfl rfl rfl rfl rfl (by decide) Nat.one_pos ?_
    refine hq_icmp_ge (tgt := 89) C dX5_receiveCouriers_7 (by decide) (fun c_7 => absurd c_7 (by rw [show σ.1 2 0 = nI nc from hinv.1]; exact nI_ge hi9 (by omega))) (fun c_7 => ?_)
    refine hq_aload_n (q := 1) C dX5_receiveCouriers_10 rfl rfl ?_
    refine hq_getR (f := 0) (g := 9) (Nc := 1) (Ns := 14) C fr_X5_25 dX5_receiveCouriers_11 rfl rfl rfl rfl rfl (by decide) Nat.one_pos ?_
    refine hq_iload_n (q := 0) C dX5_receiveCouriers_14 rfl rfl ?_
    refine hq_aaldCR0 (f := 9) (g := 10) (Nc := 1) (Ns := 40) C dX5_receiveCouriers_15 rfl rfl rfl rfl rfl rfl (by first | rfl | assumption) (by first | assumption | omega) Nat.one_pos ?_
    refine hq_astore_n (L' := [(2, .ref _), (1, .int _), (0, .ref _)]) C dX5_receiveCouriers_16 rfl (by decide) rfl ?_
    refine hq_aload_n (q := 0) C dX5_receiveCouriers_17 rfl rfl ?_
    refine hq_getI (f := 10) (g := 26) (Nc := 40) (Ns := 6) C fr_X5_192 dX5_receiveCouriers_18 rfl rfl rfl rfl rfl (by decide) (by first | assumption | omega) ?_
    refine hq_if_eq (tgt := 83) C dX5_receiveCouriers_21 (by decide) (fun c_21 => ?_) (fun c_21 => ?_)
    · refine hq_iinc (q := 1) (y := nI (_ + 1)) (L' := [(1, .int _), (2, .ref _), (0, .ref _)]) C dX5_receiveCouriers_83 rfl (hw_inc _) (by decide) rfl ?_
      refine hq_goto (tgt := 2) C dX5_receiveCouriers_86 (by decide) ?_
      exact hq_fin [0, 2] (by first | rfl | (simp only [sf_rc, c_21, ↓reduceIte, not_true_eq_false, not_false_eq_true]; rfl) | simp [lv_pick, sf_rc, c_21]) (by first | rfl | (simp only [sf_rc, c_21, ↓reduceIte, not_true_eq_false, not_false_eq_true]; done) | (simp only [sf_rc, c_21, ↓reduceIte, not_true_eq_false, not_false_eq_true]; rfl) | simp [sf_rc, c_21]) (by first | rfl | (simp only [sf_rc, c_21, ↓reduceIte, not_true_eq_false, not_false_eq_true]; done) | (simp only [sf_rc, c_21, ↓reduceIte, not_true_eq_false, not_false_eq_true]; rfl) | simp [sf_rc, c_21]) (by first | rfl | (simp only [sf_rc, c_21, ↓reduceIte, not_true_eq_false, not_false_eq_true]; done) | (simp only [sf_rc, c_21, ↓reduceIte, not_true_eq_false, not_false_eq_true]; rfl) | simp [sf_rc, c_21]) (by first | rfl | (simp only [sf_rc, c_21, ↓reduceIte, not_true_eq_false, not_false_eq_true]; done) | (simp only [sf_rc, c_21, ↓reduceIte, not_true_eq_false, not_false_eq_true]; rfl) | simp [sf_rc, c_21]) (by first | rfl | (simp only [sf_rc, c_21, ↓reduceIte, not_true_eq_false, not_false_eq_true]; done) | (simp only [sf_rc, c_21, ↓reduceIte, not_true_eq_false, not_false_eq_true]; rfl) | simp [sf_rc, c_21]) k
    · refine hq_aload_n (q := 2) C dX5_receiveCouriers_24 rfl rfl ?_
      refine hq_getI (f := 0) (g := 3) (Nc := 1) (Ns := 14) C fr_X5_112 dX5_receiveCouriers_25 rfl rfl rfl rfl rfl (by decide) Nat.one_pos ?_
      refine hq_aload_n (q := 0) C dX5_receiveCouriers_28 rfl rfl ?_
      refine hq_getI (f := 10) (g := 25) (Nc := 40) (Ns := 6) C fr_X5_189 dX5_receiveCouriers_29 rfl rfl rfl rfl rfl (by decide) (by first | assumption | omega) ?_
      refine hq_icmp_lt (tgt := 83) C dX5_receiveCouriers_32 (by decide) (fun c_32 => ?_) (fun c_32 => ?_)
      · refine hq_iinc (q := 1) (y := nI (_ + 1)) (L' := [(1, .int _), (2, .ref _), (0, .ref _)]) C dX5_receiveCouriers_83 rfl (hw_inc _) (by decide) rfl ?_
        refine hq_goto (tgt := 2) C dX5_receiveCouriers_86 (by decide) ?_
        exact hq_fin [0, 2] (by first | rfl | (simp only [sf_rc, c_21, c_32, ↓reduceIte, not_true_eq_false, not_false_eq_true]; rfl) | simp [lv_pick, sf_rc, c_21, c_32]) (by first | rfl | (simp only [sf_rc, c_21, c_32, ↓reduceIte, not_true_eq_false, not_false_eq_true]; done) | (simp only [sf_rc, c_21, c_32, ↓reduceIte, not_true_eq_false, not_false_eq_true]; rfl) | simp [sf_rc, c_21, c_32]) (by first | rfl | (simp only [sf_rc, c_21, c_32, ↓reduceIte, not_true_eq_false, not_false_eq_true]; done) | (simp only [sf_rc, c_21, c_32, ↓reduceIte, not_true_eq_false, not_false_eq_true]; rfl) | simp [sf_rc, c_21, c_32]) (by first | rfl | (simp only [sf_rc, c_21, c_32, ↓reduceIte, not_true_eq_false, not_false_eq_true]; done) | (simp only [sf_rc, c_21, c_32, ↓reduceIte, not_true_eq_false, not_false_eq_true]; rfl) | simp [sf_rc, c_21, c_32]) (by first | rfl | (simp only [sf_rc, c_21, c_32, ↓reduceIte, not_true_eq_false, not_false_eq_true]; done) | (simp only [sf_rc, c_21, c_32, ↓reduceIte, not_true_eq_false, not_false_eq_true]; rfl) | simp [sf_rc, c_21, c_32]) (by first | rfl | (simp only [sf_rc, c_21, c_32, ↓reduceIte, not_true_eq_false, not_false_eq_true]; done) | (simp only [sf_rc, c_21, c_32, ↓reduceIte, not_true_eq_false, not_false_eq_true]; rfl) | simp [sf_rc, c_21, c_32]) k
      · refine hq_aload_n (q := 0) C dX5_receiveCouriers_35 rfl rfl ?_
        refine hq_iconst (y := 0) C dX5_receiveCouriers_36 (by decide) ?_
        refine hq_putI (f := 10) (g := 26) (Nc := 40) (Ns := 6) C fl_X5_192 dX5_receiveCouriers_37 rfl rfl rfl rfl rfl (by decide) (by first | assumption | omega) (by decide) (by decide) ?_
        refine hq_aload_n (q := 2) C dX5_receiveCouriers_40 rfl rfl ?_
        refine hq_getR (f := 0) (g := 1) (Nc := 1) (Ns := 14) C fr_X5_11 dX5_receiveCouriers_41 rfl rfl rfl rfl rfl (by decide) Nat.one_pos ?_
        refine hq_aload_n (q := 0) C dX5_receiveCouriers_44 rfl rfl ?_
        refine hq_getI (f := 10) (g := 23) (Nc := 40) (Ns := 6) C fr_X5_185 dX5_receiveCouriers_45 rfl rfl rfl rfl rfl (by decide) (by first | assumption | omega) ?_
        refine hq_aaldBR0 (f := 1) (a := (σ.1 23 k9).toNatClampNeg) (g := 2) (Nc := 1) (Ns := 12) C dX5_receiveCouriers_48 rfl rfl rfl rfl rfl rfl hc2.x hc2.b Nat.one_pos ?_
        refine hq_dup C dX5_receiveCouriers_49 rfl ?_
        refine hq_getJ (f := 2) (g := 0) (Nc := 12) (Ns := 8) C fr_X5_77 dX5_receiveCouriers_50 rfl rfl rfl rfl rfl (by decide) hc2.b ?_
        refine hq_aload_n (q := 0) C dX5_receiveCouriers_53 rfl rfl ?_
        refine hq_getI (f := 10) (g := 24) (Nc := 40) (Ns := 6) C fr_X5_188 dX5_receiveCouriers_54 rfl rfl rfl rfl rfl (by decide) (by first | assumption | omega) ?_
        refine hq_i2l C dX5_receiveCouriers_57 ?_
        refine hq_ladd C dX5_receiveCouriers_58 ?_
        refine hq_putJ (f := 2) (g := 0) (Nc := 12) (Ns := 8) C fl_X5_77 dX5_receiveCouriers_59 rfl rfl rfl rfl rfl (by decide) hc2.b rfl rfl ?_
        refine hq_aload_n (q := 2) C dX5_receiveCouriers_62 rfl rfl ?_
        refine hq_getR (f := 0) (g := 11) (Nc := 1) (Ns := 14) C fr_X5_33 dX5_receiveCouriers_63 rfl rfl rfl rfl rfl (by decide) Nat.one_pos ?_
        refine hq_aload_n (q := 0) C dX5_receiveCouriers_66 rfl rfl ?_
        refine hq_getI (f := 10) (g := 22) (Nc := 40) (Ns := 6) C fr_X5_182 dX5_receiveCouriers_67 rfl rfl rfl rfl rfl (by decide) (by first | assumption | omega) ?_
        refine hq_aload_n (q := 0) C dX5_receiveCouriers_70 rfl rfl ?_
        refine hq_getI (f := 10) (g := 23) (Nc := 40) (Ns := 6) C fr_X5_185 dX5_receiveCouriers_71 rfl rfl rfl rfl rfl (by decide) (by first | assumption | omega) ?_
        refine hq_aload_n (q := 0) C dX5_receiveCouriers_74 rfl rfl ?_
        refine hq_getI (f := 10) (g := 24) (Nc := 40) (Ns := 6) C fr_X5_188 dX5_receiveCouriers_75 rfl rfl rfl rfl rfl (by decide) (by first | assumption | omega) ?_
        refine hq_ineg C dX5_receiveCouriers_78 ?_
        refine hq_i2l C dX5_receiveCouriers_79 ?_
        refine hq_cVv (As := [.int _, .int _, .long _]) (rm := rX2_changeKnown) (f := 11) (Nc := 1) C (m_X2_changeKnown (a := (σ.1 22 k9).toNatClampNeg) (b := (σ.1 23 k9).toNatClampNeg) hc1.x hc1.b hc2.x hc2.b) wv_X2_changeKnown ml_X5_175 rfl rfl rfl Nat.one_pos rfl rfl rfl rfl ⟨Nat.le_of_ble_eq_true rfl, Nat.le_of_ble_eq_true rfl⟩ (Nat.le_of_ble_eq_true rfl) ⟨Nat.le_of_ble_eq_true rfl, Nat.le_of_ble_eq_true rfl⟩ dX5_receiveCouriers_80 ?_
        refine hq_iinc (q := 1) (y := nI (_ + 1)) (L' := [(1, .int _), (2, .ref _), (0, .ref _)]) C dX5_receiveCouriers_83 rfl (hw_inc _) (by decide) rfl ?_
        refine hq_goto (tgt := 2) C dX5_receiveCouriers_86 (by decide) ?_
        exact hq_fin [0, 2] (by first | rfl | (simp only [sf_rc, c_21, c_32, ↓reduceIte, not_true_eq_false, not_false_eq_true]; rfl) | simp [lv_pick, sf_rc, c_21, c_32]) (by first | rfl | (simp only [sf_rc, c_21, c_32, ↓reduceIte, not_true_eq_false, not_false_eq_true]; done) | (simp only [sf_rc, c_21, c_32, ↓reduceIte, not_true_eq_false, not_false_eq_true]; rfl) | simp [sf_rc, c_21, c_32]) (by first | rfl | (simp only [sf_rc, c_21, c_32, ↓reduceIte, not_true_eq_false, not_false_eq_true]; done) | (simp only [sf_rc, c_21, c_32, ↓reduceIte, not_true_eq_false, not_false_eq_true]; rfl) | simp [sf_rc, c_21, c_32]) (by first | rfl | (simp only [sf_rc, c_21, c_32, ↓reduceIte, not_true_eq_false, not_false_eq_true]; done) | (simp only [sf_rc, c_21, c_32, ↓reduceIte, not_true_eq_false, not_false_eq_true]; rfl) | simp [sf_rc, c_21, c_32]) (by first | rfl | (simp only [sf_rc, c_21, c_32, ↓reduceIte, not_true_eq_false, not_false_eq_true]; done) | (simp only [sf_rc, c_21, c_32, ↓reduceIte, not_true_eq_false, not_false_eq_true]; rfl) | simp [sf_rc, c_21, c_32]) (by first | rfl | (simp only [sf_rc, c_21, c_32, ↓reduceIte, not_true_eq_false, not_false_eq_true]; done) | (simp only [sf_rc, c_21, c_32, ↓reduceIte, not_true_eq_false, not_false_eq_true]; rfl) | simp [sf_rc, c_21, c_32]) k
  · refine hq_iload_n (q := 0) C dX5_receiveCouriers_2 rfl rfl ?_
    refine hq_aload_n (q := 1) C dX5_receiveCouriers_3 rfl rfl ?_
    refine hq_getI (f := 0) (g := 2) (Nc := 1) (Ns := 14) C fr_X5_179 dX5_receiveCouriers_4 rfl rfl rfl rfl rfl (by decide) Nat.one_pos ?_
    refine hq_icmp_ge (tgt := 89) C dX5_receiveCouriers_7 (by decide) (fun c_7 => ?_) (fun c_7 => absurd (by rw [show (lp sf_rc nc 0 (I, J)).1 2 0 = nI nc from (sp_rc_ne (by decide) 0).trans hcc]; exact nI_le (Nat.le_refl nc) (by omega)) c_7)
    exact hq_vret C hr hlk dX5_receiveCouriers_89 rfl
