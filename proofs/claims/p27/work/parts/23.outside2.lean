/-! what is called from outside, second half -/
theorem hw_owd.congr {I I' : MI} {no : Nat} (hos : hw_os I no) (h : hw_owd I no) (h1 : ∀ g j, (g = 12 ∨ g = 19 ∨ g = 20) → I' g j = I g j) : hw_owd I' no := fun o ho => ⟨(h o ho).1.congr (hos o ho).1.1 (h1 _ _ (by omega)) (fun k _ => h1 _ _ (by omega)), (h o ho).2.congr (h1 _ _ (by omega))⟩
/-- what keeps the numbers that indices and ways ask for -/
theorem hw_ci.congr {I I' : MI} {J J' : MJ} {nb no nc : Nat} {B B' : Int} (h : hw_ci I J nb no nc B) (h1 : ∀ g j, (g = 0 ∨ g = 1 ∨ g = 2 ∨ g = 4 ∨ g = 5 ∨ g = 6 ∨ g = 12 ∨ g = 17 ∨ g = 19 ∨ g = 20 ∨ g = 22 ∨ g = 23) → I' g j = I g j) (h2 : bd J' B') : hw_ci I' J' nb no nc B' :=
  ⟨h.1.congr2 (fun g j hg => h1 g j (by omega)), h.2.1.congr h.1.2.2.2.2.2.1 (fun g j hg => h1 g j (by omega)), h.2.2.1.congr (fun i => h1 6 i (by omega)), h2⟩
theorem hw_ci.u {I : MI} {J : MJ} {nb no nc : Nat} {B : Int} (h : hw_ci I J nb no nc B) (f : Nat) (hf : f ≠ 0 ∧ f ≠ 1 ∧ f ≠ 2 ∧ f ≠ 4 ∧ f ≠ 5 ∧ f ≠ 6 ∧ f ≠ 12 ∧ f ≠ 17 ∧ f ≠ 19 ∧ f ≠ 20 ∧ f ≠ 22 ∧ f ≠ 23) (i : Nat) (x : Int32) : hw_ci (uI I f i x) J nb no nc B := h.congr (fun g j hg => by
  have : g ≠ f := by omega
  simp [uI, this]) h.2.2.2
theorem bd.u3 {J : MJ} {B : Int} (h : bd J B) (j : Nat) (x : Int64) : bd (uJ J 3 j x) B := fun k => by
  have : uJ J 3 j x 1 k = J 1 k := by simp [uJ]
  rw [this]; exact h k
theorem lo_bd {x : Int32} {I : MI} {J : MJ} {no : Nat} {B : Int} (hos : hw_os I no) (hno : no ≤ 40) (h : bd J B) (hB : B + 1030792151040 < 9223372036854775808) : bd (sp_lo I J x no).2.1 (B + 1030792151040) := by
  have key := lp_inv (sf_lo x) (fun i σ => hw_os σ.1 no ∧ bd σ.2.1 (B + i * 25769803776)) no (fun i σ hi hs => by
    refine ⟨hs.1.congr (fun g j hg => sf_lo_ne (by omega) j), ?_⟩
    have hl := (hs.1 i hi).1.1
    have h9 : bd σ.2.1 (B + ((i + 1 : Nat) : Int) * 25769803776) := hs.2.mono (by omega)
    unfold sf_lo
    repeat' split
    all_goals first | exact h9 | exact (bd.lp (fun k J B hb h => hb.tb h) (hw_ln σ.1 i) 0 _ _ hs.2 (by omega)).mono (by omega)) no 0 (I, J, 0) (by omega) ⟨hos, h.mono (by omega)⟩
  exact key.2.mono (by omega)
theorem lo_ci {x : Int32} {I : MI} {J : MJ} {nb no nc : Nat} {B : Int} (h : hw_ci I J nb no nc B) (hB : B + 1030792151040 < 9223372036854775808) : hw_ci (sp_lo I J x no).1 (sp_lo I J x no).2.1 nb no nc (B + 1030792151040) := h.congr (fun g j hg => sp_lo_ne (by omega) j) (lo_bd h.1.2.2.2.2.2.1 h.1.2.1.2 h.2.2.2 hB)
def i_festival (I : MI) : MI := uI I 4 0 (if I 4 0 = 0 then 1 else 0)
set_option maxHeartbeats 4000000 in
set_option maxRecDepth 100000 in
theorem m_X5_festival {l : Launch} {D : va_G} {b0 : Nat} {I : MI} {J : MJ} {P : MI} {N : MJ} {o : Int64} {nb no nc : Nat} {B : Int} (h : hw_ci I J nb no nc B) : hM l yX5_festival cX5_festival 1 (some .boolean) rX5_festival D b0 [.ref (hw_ad b0 0 0)] I J P N o (some (.int (if I 4 0 = 0 then 1 else 0))) (i_festival I) J P N o := by
  have hbc := h.1.1.1
  have hnb := h.1.1.2
  have hoc := h.1.2.1.1
  have hno := h.1.2.1.2
  have hcc := h.1.2.2.1.1
  have hnc := h.1.2.2.1.2
  refine hw_Mof (by decide) [(0, .ref _)] rfl (Nat.le_of_ble_eq_true rfl) ?_
  intro p e s m args below meth c C hr hlk hnm
  refine hq_aload_n (q := 0) C dX5_festival_0 rfl rfl ?_
  refine hq_aload_n (q := 0) C dX5_festival_1 rfl rfl ?_
  refine hq_getI (f := 0) (g := 4) (Nc := 1) (Ns := 14) C fr_X5_93 dX5_festival_2 rfl rfl rfl rfl rfl (by decide) Nat.one_pos ?_
  refine hq_if_ne (tgt := 12) C dX5_festival_5 (by decide) (fun c_5 => ?_) (fun c_5 => ?_)
  · refine hq_iconst (y := 0) C dX5_festival_12 (by decide) ?_
    refine hq_putI (f := 0) (g := 4) (Nc := 1) (Ns := 14) C fl_X5_93 dX5_festival_13 rfl rfl rfl rfl rfl (by decide) Nat.one_pos rfl rfl ?_
    refine hq_aload_n (q := 0) C dX5_festival_16 rfl rfl ?_
    refine hq_getI (f := 0) (g := 4) (Nc := 1) (Ns := 14) C fr_X5_93 dX5_festival_17 rfl rfl rfl rfl rfl (by decide) Nat.one_pos ?_
    exact hq_zret C hr hlk dX5_festival_20 (hw_bon (by first | exact Or.inl rfl | exact Or.inr rfl)) (by simp [c_5, uI]) (by simp [i_festival, c_5])
  · refine hq_iconst (y := 1) C dX5_festival_8 (by decide) ?_
    refine hq_goto (tgt := 13) C dX5_festival_9 (by decide) ?_
    refine hq_putI (f := 0) (g := 4) (Nc := 1) (Ns := 14) C fl_X5_93 dX5_festival_13 rfl rfl rfl rfl rfl (by decide) Nat.one_pos rfl rfl ?_
    refine hq_aload_n (q := 0) C dX5_festival_16 rfl rfl ?_
    refine hq_getI (f := 0) (g := 4) (Nc := 1) (Ns := 14) C fr_X5_93 dX5_festival_17 rfl rfl rfl rfl rfl (by decide) Nat.one_pos ?_
    exact hq_zret C hr hlk dX5_festival_20 (hw_bon (by first | exact Or.inl rfl | exact Or.inr rfl)) (by simp [c_5, uI]) (by simp [i_festival, c_5])
def e_breakWord (I : MI) (x : Int32) : Option String := hx_or (sx_ix x (I 0 0)) (sx_st (if I 7 (tn x) = 2 then 0 else 1))
def l_breakWord (I : MI) (J : MJ) (x : Int32) (no : Nat) : MI × MJ × Nat := sp_lo (uI I 7 (tn x) 2) J x no
def s_breakWord (I : MI) (J : MJ) (x : Int32) (no : Nat) : MI × MJ := sp_av (l_breakWord I J x no).1 (l_breakWord I J x no).2.1 x no
set_option maxHeartbeats 4000000 in
set_option maxRecDepth 100000 in
theorem m_X5_breakWord {l : Launch} {D : va_G} {b0 : Nat} {I : MI} {J : MJ} {P : MI} {N : MJ} {o : Int64} (hlt : l.stackTraces = false) {x : Int32} {nb no nc : Nat} {B : Int} (h : hw_ci I J nb no nc B) (hB : B + 3092376453120 ≤ 4611686018427387904) : hX l yX5_breakWord wX5_breakWord rX5_breakWord D b0 [.ref (hw_ad b0 0 0), .int x] I J P N o (e_breakWord I x) (some (.int (nI (l_breakWord I J x no).2.2))) (s_breakWord I J x no).1 (s_breakWord I J x no).2 P N o := by
  have hbc := h.1.1.1
  have hnb := h.1.1.2
  have hoc := h.1.2.1.1
  have hno := h.1.2.1.2
  have hcc := h.1.2.2.1.1
  have hnc := h.1.2.2.1.2
  refine hw_MXof (by decide) [(0, .ref _), (1, .int _)] rfl (Nat.le_of_ble_eq_true rfl) ?_
  intro p e s m args below meth c C hr hlk ht
  refine hq_iload_n (q := 1) C dX5_breakWord_0 rfl rfl ?_
  refine hq_aload_n (q := 0) C dX5_breakWord_1 rfl rfl ?_
  refine hq_getI (f := 0) (g := 0) (Nc := 1) (Ns := 14) C fr_X5_66 dX5_breakWord_2 rfl rfl rfl rfl rfl (by decide) Nat.one_pos ?_
  refine hq_cSXv (As := [.int _, .int _]) (rm := rX5_requireIndex) (Cn := "") C (m_X5_requireIndex hlt) ws_X5_requireIndex ml_X5_58 rfl rfl rfl rfl ⟨Nat.le_of_ble_eq_true rfl, Nat.le_of_ble_eq_true rfl⟩ (Nat.le_of_ble_eq_true rfl) ⟨Nat.le_of_ble_eq_true rfl, Nat.le_of_ble_eq_true rfl⟩ dX5_breakWord_5 (fun n_5 => ?_) (fun E x_5 => hq_out ht hlk (by simp [hx_or, e_breakWord, x_5]) rfl (Nat.le_of_ble_eq_true rfl) (Nat.le_of_ble_eq_true rfl))
  obtain ⟨hx, hxb⟩ := sx_ix_i hbc (by omega) n_5
  refine hq_aload_n (q := 0) C dX5_breakWord_8 rfl rfl ?_
  refine hq_getR (f := 0) (g := 1) (Nc := 1) (Ns := 14) C fr_X5_11 dX5_breakWord_9 rfl rfl rfl rfl rfl (by decide) Nat.one_pos ?_
  refine hq_iload_n (q := 1) C dX5_breakWord_12 rfl rfl ?_
  refine hq_aaldBR0 (f := 1) (g := 2) (Nc := 1) (Ns := 12) C dX5_breakWord_13 rfl rfl rfl rfl rfl rfl (by first | rfl | assumption) (by first | assumption | omega) Nat.one_pos ?_
  refine hq_getI (f := 2) (g := 7) (Nc := 12) (Ns := 8) C fr_X5_97 dX5_breakWord_14 rfl rfl rfl rfl rfl (by decide) (by first | assumption | omega) ?_
  refine hq_iconst (y := 2) C dX5_breakWord_17 (by decide) ?_
  refine hq_icmp_eq (tgt := 25) C dX5_breakWord_18 (by decide) (fun c_18 => ?_) (fun c_18 => ?_)
  · refine hq_iconst (y := 0) C dX5_breakWord_25 (by decide) ?_
    exact hq_cSXv (As := [.int _]) (rm := rX5_requireState) (Cn := "") C (m_X5_requireState hlt) ws_X5_requireState ml_X5_70 rfl rfl rfl rfl ⟨Nat.le_of_ble_eq_true rfl, Nat.le_of_ble_eq_true rfl⟩ (Nat.le_of_ble_eq_true rfl) ⟨Nat.le_of_ble_eq_true rfl, Nat.le_of_ble_eq_true rfl⟩ dX5_breakWord_26 (fun n_26 => absurd n_26 (by simp [sx_st])) (fun E x_26 => hq_out ht hlk (by simpa [hx_or, e_breakWord, sx_st, n_5, c_18] using x_26) rfl (Nat.le_of_ble_eq_true rfl) (Nat.le_of_ble_eq_true rfl))
  · refine hq_iconst (y := 1) C dX5_breakWord_21 (by decide) ?_
    refine hq_goto (tgt := 26) C dX5_breakWord_22 (by decide) ?_
    refine hq_cSXv (As := [.int _]) (rm := rX5_requireState) (Cn := "") C (m_X5_requireState hlt) ws_X5_requireState ml_X5_70 rfl rfl rfl rfl ⟨Nat.le_of_ble_eq_true rfl, Nat.le_of_ble_eq_true rfl⟩ (Nat.le_of_ble_eq_true rfl) ⟨Nat.le_of_ble_eq_true rfl, Nat.le_of_ble_eq_true rfl⟩ dX5_breakWord_26 (fun _ => ?_) (fun E x_26 => absurd x_26 (by simp [sx_st]))
    refine hq_aload_n (q := 0) C dX5_breakWord_29 rfl rfl ?_
    refine hq_getR (f := 0) (g := 1) (Nc := 1) (Ns := 14) C fr_X5_11 dX5_breakWord_30 rfl rfl rfl rfl rfl (by decide) Nat.one_pos ?_
    refine hq_iload_n (q := 1) C dX5_breakWord_33 rfl rfl ?_
    refine hq_aaldBR0 (f := 1) (g := 2) (Nc := 1) (Ns := 12) C dX5_breakWord_34 rfl rfl rfl rfl rfl rfl (by first | rfl | assumption) (by first | assumption | omega) Nat.one_pos ?_
    refine hq_iconst (y := 2) C dX5_breakWord_35 (by decide) ?_
    refine hq_putI (f := 2) (g := 7) (Nc := 12) (Ns := 8) C fl_X5_97 dX5_breakWord_36 rfl rfl rfl rfl rfl (by decide) (by first | assumption | omega) rfl rfl ?_
    have h2 := h.u 7 (by omega) (tn x) 2
    have h3 := lo_ci (x := x) h2 (by omega)
    refine hq_aload_n (q := 0) C dX5_breakWord_39 rfl rfl ?_
    refine hq_iload_n (q := 1) C dX5_breakWord_40 rfl rfl ?_
    refine hq_cVr (As := [.int _]) (rm := rX5_loseOrdersFrom) (f := 0) (Nc := 1) C (m_X5_loseOrdersFrom (no := no) h2.1.2.1.1 h2.1.2.1.2 h2.1.2.2.2.2.2.1) wv_X5_loseOrdersFrom ml_X5_100 rfl rfl rfl Nat.one_pos rfl rfl rfl rfl ⟨Nat.le_of_ble_eq_true rfl, Nat.le_of_ble_eq_true rfl⟩ (Nat.le_of_ble_eq_true rfl) ⟨Nat.le_of_ble_eq_true rfl, Nat.le_of_ble_eq_true rfl⟩ dX5_breakWord_41 ?_
    refine hq_istore_n (L' := [(2, .int _), (0, .ref _), (1, .int _)]) C dX5_breakWord_44 rfl (by decide) rfl ?_
    refine hq_aload_n (q := 1) C dX5_breakWord_45 rfl rfl ?_
    refine hq_iload_n (q := 2) C dX5_breakWord_46 rfl rfl ?_
    refine hq_cVv (As := [.int _]) (rm := rX5_avoid) (f := 0) (Nc := 1) C (m_X5_avoid h3 (by omega)) wv_X5_avoid ml_X5_104 rfl rfl rfl Nat.one_pos rfl rfl rfl rfl ⟨Nat.le_of_ble_eq_true rfl, Nat.le_of_ble_eq_true rfl⟩ (Nat.le_of_ble_eq_true rfl) ⟨Nat.le_of_ble_eq_true rfl, Nat.le_of_ble_eq_true rfl⟩ dX5_breakWord_47 ?_
    refine hq_iload_n (q := 0) C dX5_breakWord_50 rfl rfl ?_
    exact hq_iretX C hr hlk dX5_breakWord_51 (by first | (simp [hx_or, e_breakWord, n_5, c_18]; done) | simp [hx_or, e_breakWord, sx_st, n_5, c_18]) rfl rfl (Nat.le_of_ble_eq_true rfl) (Nat.le_of_ble_eq_true rfl)
def e_raid (I : MI) (x : Int32) : Option String := hx_or (sx_ix x (I 0 0)) (sx_st (hb (I 7 (tn x) = 0)))
def s_raid (I : MI) (J : MJ) (x : Int32) (no : Nat) : MI × MJ := sp_av (uI (uI (uI I 7 (tn x) 1) 8 (tn x) (I 3 0 + 720)) 9 (tn x) 1) (uJ (uJ J 0 (tn x) 0) 3 0 (J 3 0 + J 0 (tn x))) x no
set_option maxHeartbeats 4000000 in
set_option maxRecDepth 100000 in
theorem m_X5_raid {l : Launch} {D : va_G} {b0 : Nat} {I : MI} {J : MJ} {P : MI} {N : MJ} {o : Int64} (hlt : l.stackTraces = false) {x : Int32} {nb no nc : Nat} {B : Int} (h : hw_ci I J nb no nc B) (hB : B + 3092376453120 ≤ 4611686018427387904) : hX l yX5_raid wX5_raid rX5_raid D b0 [.ref (hw_ad b0 0 0), .int x] I J P N o (e_raid I x) (some (.int (J 0 (tn x)).toInt32)) (s_raid I J x no).1 (s_raid I J x no).2 P N o := by
  have hbc := h.1.1.1
  have hnb := h.1.1.2
  have hoc := h.1.2.1.1
  have hno := h.1.2.1.2
  have hcc := h.1.2.2.1.1
  have hnc := h.1.2.2.1.2
  refine hw_MXof (by decide) [(0, .ref _), (1, .int _)] rfl (Nat.le_of_ble_eq_true rfl) ?_
  intro p e s m args below meth c C hr hlk ht
  refine hq_iload_n (q := 1) C dX5_raid_0 rfl rfl ?_
  refine hq_aload_n (q := 0) C dX5_raid_1 rfl rfl ?_
  refine hq_getI (f := 0) (g := 0) (Nc := 1) (Ns := 14) C fr_X5_66 dX5_raid_2 rfl rfl rfl rfl rfl (by decide) Nat.one_pos ?_
  refine hq_cSXv (As := [.int _, .int _]) (rm := rX5_requireIndex) (Cn := "") C (m_X5_requireIndex hlt) ws_X5_requireIndex ml_X5_58 rfl rfl rfl rfl ⟨Nat.le_of_ble_eq_true rfl, Nat.le_of_ble_eq_true rfl⟩ (Nat.le_of_ble_eq_true rfl) ⟨Nat.le_of_ble_eq_true rfl, Nat.le_of_ble_eq_true rfl⟩ dX5_raid_5 (fun n_5 => ?_) (fun E x_5 => hq_out ht hlk (by simp [hx_or, e_raid, x_5]) rfl (Nat.le_of_ble_eq_true rfl) (Nat.le_of_ble_eq_true rfl))
  obtain ⟨hx, hxb⟩ := sx_ix_i hbc (by omega) n_5
  refine hq_aload_n (q := 0) C dX5_raid_8 rfl rfl ?_
  refine hq_getR (f := 0) (g := 1) (Nc := 1) (Ns := 14) C fr_X5_11 dX5_raid_9 rfl rfl rfl rfl rfl (by decide) Nat.one_pos ?_
  refine hq_iload_n (q := 1) C dX5_raid_12 rfl rfl ?_
  refine hq_aaldBR0 (f := 1) (g := 2) (Nc := 1) (Ns := 12) C dX5_raid_13 rfl rfl rfl rfl rfl rfl (by first | rfl | assumption) (by first | assumption | omega) Nat.one_pos ?_
  refine hq_cVr (As := []) (rm := rX0_isGood) (f := 2) (Nc := 12) C (m_X0_isGood (by first | assumption | omega)) wv_X0_isGood ml_X5_108 rfl rfl rfl (by first | assumption | omega) rfl rfl rfl rfl ⟨Nat.le_of_ble_eq_true rfl, Nat.le_of_ble_eq_true rfl⟩ (Nat.le_of_ble_eq_true rfl) ⟨Nat.le_of_ble_eq_true rfl, Nat.le_of_ble_eq_true rfl⟩ dX5_raid_14 ?_
  refine hq_cSXv (As := [.int _]) (rm := rX5_requireState) (Cn := "") C (m_X5_requireState hlt) ws_X5_requireState ml_X5_70 rfl rfl rfl rfl ⟨Nat.le_of_ble_eq_true rfl, Nat.le_of_ble_eq_true rfl⟩ (Nat.le_of_ble_eq_true rfl) ⟨Nat.le_of_ble_eq_true rfl, Nat.le_of_ble_eq_true rfl⟩ dX5_raid_17 (fun n_17 => ?_) (fun E x_17 => hq_out ht hlk (by simp [hx_or, e_raid, n_5, x_17]) rfl (Nat.le_of_ble_eq_true rfl) (Nat.le_of_ble_eq_true rfl))
  refine hq_aload_n (q := 0) C dX5_raid_20 rfl rfl ?_
  refine hq_getR (f := 0) (g := 1) (Nc := 1) (Ns := 14) C fr_X5_11 dX5_raid_21 rfl rfl rfl rfl rfl (by decide) Nat.one_pos ?_
  refine hq_iload_n (q := 1) C dX5_raid_24 rfl rfl ?_
  refine hq_aaldBR0 (f := 1) (a := tn x) (g := 2) (Nc := 1) (Ns := 12) C dX5_raid_25 rfl rfl rfl rfl rfl rfl hx (by omega) Nat.one_pos ?_
  refine hq_astore_n (L' := [(2, .ref _), (0, .ref _), (1, .int _)]) C dX5_raid_26 rfl (by decide) rfl ?_
  refine hq_aload_n (q := 0) C dX5_raid_27 rfl rfl ?_
  refine hq_getJ (f := 2) (g := 0) (Nc := 12) (Ns := 8) C fr_X5_77 dX5_raid_28 rfl rfl rfl rfl rfl (by decide) (by first | assumption | omega) ?_
  refine hq_lstore_n (L' := [(3, .long _), (2, .ref _), (0, .ref _), (1, .int _)]) C dX5_raid_31 rfl (by decide) rfl ?_
  refine hq_aload_n (q := 1) C dX5_raid_32 rfl rfl ?_
  refine hq_lconst (y := 0) C dX5_raid_33 rfl ?_
  refine hq_putJ (f := 2) (g := 0) (Nc := 12) (Ns := 8) C fl_X5_77 dX5_raid_34 rfl rfl rfl rfl rfl (by decide) (by first | assumption | omega) rfl rfl ?_
  refine hq_aload_n (q := 1) C dX5_raid_37 rfl rfl ?_
  refine hq_iconst (y := 1) C dX5_raid_38 (by decide) ?_
  refine hq_putI (f := 2) (g := 7) (Nc := 12) (Ns := 8) C fl_X5_97 dX5_raid_39 rfl rfl rfl rfl rfl (by decide) (by first | assumption | omega) rfl rfl ?_
  refine hq_aload_n (q := 1) C dX5_raid_42 rfl rfl ?_
  refine hq_aload_n (q := 2) C dX5_raid_43 rfl rfl ?_
  refine hq_getI (f := 0) (g := 3) (Nc := 1) (Ns := 14) C fr_X5_112 dX5_raid_44 rfl rfl rfl rfl rfl (by decide) Nat.one_pos ?_
  refine hq_sipush (y := 720) C dX5_raid_47 (by decide) ?_
  refine hq_iadd C dX5_raid_50 ?_
  refine hq_putI (f := 2) (g := 8) (Nc := 12) (Ns := 8) C fl_X5_115 dX5_raid_51 rfl rfl rfl rfl rfl (by decide) (by first | assumption | omega) rfl rfl ?_
  refine hq_aload_n (q := 1) C dX5_raid_54 rfl rfl ?_
  refine hq_iconst (y := 1) C dX5_raid_55 (by decide) ?_
  refine hq_putI (f := 2) (g := 9) (Nc := 12) (Ns := 8) C fl_X5_118 dX5_raid_56 rfl rfl rfl rfl rfl (by decide) (by first | assumption | omega) (by decide) (by decide) ?_
  refine hq_aload_n (q := 2) C dX5_raid_59 rfl rfl ?_
  refine hq_dup C dX5_raid_60 rfl ?_
  refine hq_getJ (f := 0) (g := 3) (Nc := 1) (Ns := 14) C fr_X5_121 dX5_raid_61 rfl rfl rfl rfl rfl (by decide) Nat.one_pos ?_
  refine hq_lload_n (q := 0) C dX5_raid_64 rfl rfl ?_
  refine hq_ladd C dX5_raid_65 ?_
  refine hq_putJ (f := 0) (g := 3) (Nc := 1) (Ns := 14) C fl_X5_121 dX5_raid_66 rfl rfl rfl rfl rfl (by decide) Nat.one_pos rfl rfl ?_
  have h2 := ((((h.u 7 (by omega) (tn x) 1).u 8 (by omega) (tn x) (I 3 0 + 720)).u 9 (by omega) (tn x) 1))
  have h3 : hw_ci _ (uJ (uJ J 0 (tn x) 0) 3 0 (J 3 0 + J 0 (tn x))) nb no nc B := h2.congr (fun _ _ _ => rfl) ((h2.2.2.2.u0 _ _).u3 _ _)
  refine hq_aload_n (q := 2) C dX5_raid_69 rfl rfl ?_
  refine hq_iload_n (q := 3) C dX5_raid_70 rfl rfl ?_
  refine hq_cVv (As := [.int _]) (rm := rX5_avoid) (f := 0) (Nc := 1) C (m_X5_avoid h3 (by omega)) wv_X5_avoid ml_X5_104 rfl rfl rfl Nat.one_pos rfl rfl rfl rfl ⟨Nat.le_of_ble_eq_true rfl, Nat.le_of_ble_eq_true rfl⟩ (Nat.le_of_ble_eq_true rfl) ⟨Nat.le_of_ble_eq_true rfl, Nat.le_of_ble_eq_true rfl⟩ dX5_raid_71 ?_
  refine hq_lload_n (q := 0) C dX5_raid_74 rfl rfl ?_
  refine hq_l2i C dX5_raid_75 ?_
  exact hq_iretX C hr hlk dX5_raid_76 (by first | (simp [hx_or, e_raid, n_5, n_17]; done) | simp [hx_or, e_raid, sx_st, n_5, n_17]) rfl rfl (Nat.le_of_ble_eq_true rfl) (Nat.le_of_ble_eq_true rfl)
def e_pay (I : MI) (J : MJ) (x y z : Int32) : Option String := hx_or (sx_two I x y) (hx_or (sx_rg z 1 1000000) (hx_or (sx_st (if hb (I 7 (tn x) = 0) = 0 then 0 else if hb (I 7 (tn y) = 0) = 0 then 0 else 1)) (hx_or (sx_st (if lg_cmp (J 1 (12 * tn x + tn y)) z.toInt64 < 0 then 0 else 1)) (sx_st (if lg_cmp (J 0 (tn x)) z.toInt64 < 0 then 0 else 1)))))
def j_pay (J : MJ) (x y z : Int32) : MJ := sp_known (uJ (uJ J 0 (tn x) (J 0 (tn x) - z.toInt64)) 0 (tn y) (uJ J 0 (tn x) (J 0 (tn x) - z.toInt64) 0 (tn y) + z.toInt64)) (tn x) (tn y) (-z).toInt64
set_option maxHeartbeats 4000000 in
set_option maxRecDepth 100000 in
theorem m_X5_pay {l : Launch} {D : va_G} {b0 : Nat} {I : MI} {J : MJ} {P : MI} {N : MJ} {o : Int64} (hlt : l.stackTraces = false) {x y z : Int32} {nb no nc : Nat} {B : Int} (h : hw_ci I J nb no nc B) : hX l yX5_pay wX5_pay rX5_pay D b0 [.ref (hw_ad b0 0 0), .int x, .int y, .int z] I J P N o (e_pay I J x y z) (some (.int (j_pay J x y z 1 (12 * tn x + tn y)).toInt32)) I (j_pay J x y z) P N o := by
  have hbc := h.1.1.1
  have hnb := h.1.1.2
  have hoc := h.1.2.1.1
  have hno := h.1.2.1.2
  have hcc := h.1.2.2.1.1
  have hnc := h.1.2.2.1.2
  refine hw_MXof (by decide) [(0, .ref _), (1, .int _), (2, .int _), (3, .int _)] rfl (Nat.le_of_ble_eq_true rfl) ?_
  intro p e s m args below meth c C hr hlk ht
  refine hq_aload_n (q := 0) C dX5_pay_0 rfl rfl ?_
  refine hq_iload_n (q := 1) C dX5_pay_1 rfl rfl ?_
  refine hq_iload_n (q := 2) C dX5_pay_2 rfl rfl ?_
  refine hq_cVXv (As := [.int _, .int _]) (rm := rX5_requireTwoBrokers) (f := 0) (Nc := 1) C (m_X5_requireTwoBrokers hlt) wv_X5_requireTwoBrokers ml_X5_84 rfl rfl rfl Nat.one_pos rfl rfl rfl rfl ⟨Nat.le_of_ble_eq_true rfl, Nat.le_of_ble_eq_true rfl⟩ (Nat.le_of_ble_eq_true rfl) ⟨Nat.le_of_ble_eq_true rfl, Nat.le_of_ble_eq_true rfl⟩ dX5_pay_3 (fun n_3 => ?_) (fun E x_3 => hq_out ht hlk (by simp [hx_or, e_pay, x_3]) rfl (Nat.le_of_ble_eq_true rfl) (Nat.le_of_ble_eq_true rfl))
  obtain ⟨⟨hx, hxb⟩, ⟨hy, hyb⟩, hxy⟩ := sx_two_n hbc (by omega) n_3
  refine hq_iload_n (q := 3) C dX5_pay_6 rfl rfl ?_
  refine hq_iconst (y := 1) C dX5_pay_7 (by decide) ?_
  refine hq_ldc C wc_X5_50 dX5_pay_8 ?_
  refine hq_cSXv (As := [.int _, .int _, .int _]) (rm := rX5_requireRange) (Cn := "") C (m_X5_requireRange hlt) ws_X5_requireRange ml_X5_62 rfl rfl rfl rfl ⟨Nat.le_of_ble_eq_true rfl, Nat.le_of_ble_eq_true rfl⟩ (Nat.le_of_ble_eq_true rfl) ⟨Nat.le_of_ble_eq_true rfl, Nat.le_of_ble_eq_true rfl⟩ dX5_pay_10 (fun n_10 => ?_) (fun E x_10 => hq_out ht hlk (by simp [hx_or, e_pay, n_3, x_10]) rfl (Nat.le_of_ble_eq_true rfl) (Nat.le_of_ble_eq_true rfl))
  refine hq_aload_n (q := 0) C dX5_pay_13 rfl rfl ?_
  refine hq_getR (f := 0) (g := 1) (Nc := 1) (Ns := 14) C fr_X5_11 dX5_pay_14 rfl rfl rfl rfl rfl (by decide) Nat.one_pos ?_
  refine hq_iload_n (q := 1) C dX5_pay_17 rfl rfl ?_
  refine hq_aaldBR0 (f := 1) (a := tn x) (g := 2) (Nc := 1) (Ns := 12) C dX5_pay_18 rfl rfl rfl rfl rfl rfl hx (by omega) Nat.one_pos ?_
  refine hq_cVr (As := []) (rm := rX0_isGood) (f := 2) (Nc := 12) C (m_X0_isGood (by first | assumption | omega)) wv_X0_isGood ml_X5_108 rfl rfl rfl (by first | assumption | omega) rfl rfl rfl rfl ⟨Nat.le_of_ble_eq_true rfl, Nat.le_of_ble_eq_true rfl⟩ (Nat.le_of_ble_eq_true rfl) ⟨Nat.le_of_ble_eq_true rfl, Nat.le_of_ble_eq_true rfl⟩ dX5_pay_19 ?_
  refine hq_if_eq (tgt := 41) C dX5_pay_22 (by decide) (fun c_22 => ?_) (fun c_22 => ?_)
  · refine hq_iconst (y := 0) C dX5_pay_41 (by decide) ?_
    exact hq_cSXv (As := [.int _]) (rm := rX5_requireState) (Cn := "") C (m_X5_requireState hlt) ws_X5_requireState ml_X5_70 rfl rfl rfl rfl ⟨Nat.le_of_ble_eq_true rfl, Nat.le_of_ble_eq_true rfl⟩ (Nat.le_of_ble_eq_true rfl) ⟨Nat.le_of_ble_eq_true rfl, Nat.le_of_ble_eq_true rfl⟩ dX5_pay_42 (fun n_42 => absurd n_42 (by simp [sx_st])) (fun E x_42 => hq_out ht hlk (by simpa [hx_or, e_pay, sx_st, n_3, n_10, c_22] using x_42) rfl (Nat.le_of_ble_eq_true rfl) (Nat.le_of_ble_eq_true rfl))
  · refine hq_aload_n (q := 0) C dX5_pay_25 rfl rfl ?_
    refine hq_getR (f := 0) (g := 1) (Nc := 1) (Ns := 14) C fr_X5_11 dX5_pay_26 rfl rfl rfl rfl rfl (by decide) Nat.one_pos ?_
    refine hq_iload_n (q := 2) C dX5_pay_29 rfl rfl ?_
    refine hq_aaldBR0 (f := 1) (a := tn y) (g := 2) (Nc := 1) (Ns := 12) C dX5_pay_30 rfl rfl rfl rfl rfl rfl hy (by omega) Nat.one_pos ?_
    refine hq_cVr (As := []) (rm := rX0_isGood) (f := 2) (Nc := 12) C (m_X0_isGood (by first | assumption | omega)) wv_X0_isGood ml_X5_108 rfl rfl rfl (by first | assumption | omega) rfl rfl rfl rfl ⟨Nat.le_of_ble_eq_true rfl, Nat.le_of_ble_eq_true rfl⟩ (Nat.le_of_ble_eq_true rfl) ⟨Nat.le_of_ble_eq_true rfl, Nat.le_of_ble_eq_true rfl⟩ dX5_pay_31 ?_
    refine hq_if_eq (tgt := 41) C dX5_pay_34 (by decide) (fun c_34 => ?_) (fun c_34 => ?_)
    · refine hq_iconst (y := 0) C dX5_pay_41 (by decide) ?_
      exact hq_cSXv (As := [.int _]) (rm := rX5_requireState) (Cn := "") C (m_X5_requireState hlt) ws_X5_requireState ml_X5_70 rfl rfl rfl rfl ⟨Nat.le_of_ble_eq_true rfl, Nat.le_of_ble_eq_true rfl⟩ (Nat.le_of_ble_eq_true rfl) ⟨Nat.le_of_ble_eq_true rfl, Nat.le_of_ble_eq_true rfl⟩ dX5_pay_42 (fun n_42 => absurd n_42 (by simp [sx_st])) (fun E x_42 => hq_out ht hlk (by simpa [hx_or, e_pay, sx_st, n_3, n_10, c_22, c_34] using x_42) rfl (Nat.le_of_ble_eq_true rfl) (Nat.le_of_ble_eq_true rfl))
    · refine hq_iconst (y := 1) C dX5_pay_37 (by decide) ?_
      refine hq_goto (tgt := 42) C dX5_pay_38 (by decide) ?_
      refine hq_cSXv (As := [.int _]) (rm := rX5_requireState) (Cn := "") C (m_X5_requireState hlt) ws_X5_requireState ml_X5_70 rfl rfl rfl rfl ⟨Nat.le_of_ble_eq_true rfl, Nat.le_of_ble_eq_true rfl⟩ (Nat.le_of_ble_eq_true rfl) ⟨Nat.le_of_ble_eq_true rfl, Nat.le_of_ble_eq_true rfl⟩ dX5_pay_42 (fun _ => ?_) (fun E x_42 => absurd x_42 (by simp [sx_st]))
      refine hq_aload_n (q := 0) C dX5_pay_45 rfl rfl ?_
      refine hq_getR (f := 0) (g := 11) (Nc := 1) (Ns := 14) C fr_X5_33 dX5_pay_46 rfl rfl rfl rfl rfl (by decide) Nat.one_pos ?_
      refine hq_getR (f := 11) (g := 12) (Nc := 1) (Ns := 2) C fr_X5_171 dX5_pay_49 rfl rfl rfl rfl rfl (by decide) Nat.one_pos ?_
      refine hq_iload_n (q := 1) C dX5_pay_52 rfl rfl ?_
      refine hq_aaldJR0 (f := 12) (a := tn x) (g := 13) (Nc := 1) (Ns := 12) C dX5_pay_53 rfl rfl rfl rfl rfl rfl hx (by omega) Nat.one_pos ?_
      refine hq_iload_n (q := 2) C dX5_pay_54 rfl rfl ?_
      refine hq_laldJw (f := 13) (a := tn y) (g := 1) (w := 12) (Nc := 12) (Ns := 12) C dX5_pay_55 rfl rfl rfl ⟨rfl, by decide⟩ rfl rfl hy (by omega) (by first | assumption | omega) ?_
      refine hq_iload_n (q := 3) C dX5_pay_56 rfl rfl ?_
      refine hq_i2l C dX5_pay_57 ?_
      refine hq_lcmp C dX5_pay_58 ?_
      refine hq_if_lt (tgt := 66) C dX5_pay_59 (by decide) (fun c_59 => ?_) (fun c_59 => ?_)
      · refine hq_iconst (y := 0) C dX5_pay_66 (by decide) ?_
        exact hq_cSXv (As := [.int _]) (rm := rX5_requireState) (Cn := "") C (m_X5_requireState hlt) ws_X5_requireState ml_X5_70 rfl rfl rfl rfl ⟨Nat.le_of_ble_eq_true rfl, Nat.le_of_ble_eq_true rfl⟩ (Nat.le_of_ble_eq_true rfl) ⟨Nat.le_of_ble_eq_true rfl, Nat.le_of_ble_eq_true rfl⟩ dX5_pay_67 (fun n_67 => absurd n_67 (by simp [sx_st])) (fun E x_67 => hq_out ht hlk (by simpa [hx_or, e_pay, sx_st, n_3, n_10, c_22, c_34, c_59] using x_67) rfl (Nat.le_of_ble_eq_true rfl) (Nat.le_of_ble_eq_true rfl))
      · refine hq_iconst (y := 1) C dX5_pay_62 (by decide) ?_
        refine hq_goto (tgt := 67) C dX5_pay_63 (by decide) ?_
        refine hq_cSXv (As := [.int _]) (rm := rX5_requireState) (Cn := "") C (m_X5_requireState hlt) ws_X5_requireState ml_X5_70 rfl rfl rfl rfl ⟨Nat.le_of_ble_eq_true rfl, Nat.le_of_ble_eq_true rfl⟩ (Nat.le_of_ble_eq_true rfl) ⟨Nat.le_of_ble_eq_true rfl, Nat.le_of_ble_eq_true rfl⟩ dX5_pay_67 (fun _ => ?_) (fun E x_67 => absurd x_67 (by simp [sx_st]))
        refine hq_aload_n (q := 0) C dX5_pay_70 rfl rfl ?_
        refine hq_getR (f := 0) (g := 1) (Nc := 1) (Ns := 14) C fr_X5_11 dX5_pay_71 rfl rfl rfl rfl rfl (by decide) Nat.one_pos ?_
        refine hq_iload_n (q := 1) C dX5_pay_74 rfl rfl ?_
        refine hq_aaldBR0 (f := 1) (a := tn x) (g := 2) (Nc := 1) (Ns := 12) C dX5_pay_75 rfl rfl rfl rfl rfl rfl hx (by omega) Nat.one_pos ?_
        refine hq_getJ (f := 2) (g := 0) (Nc := 12) (Ns := 8) C fr_X5_77 dX5_pay_76 rfl rfl rfl rfl rfl (by decide) (by first | assumption | omega) ?_
        refine hq_iload_n (q := 3) C dX5_pay_79 rfl rfl ?_
        refine hq_i2l C dX5_pay_80 ?_
        refine hq_lcmp C dX5_pay_81 ?_
        refine hq_if_lt (tgt := 89) C dX5_pay_82 (by decide) (fun c_82 => ?_) (fun c_82 => ?_)
        · refine hq_iconst (y := 0) C dX5_pay_89 (by decide) ?_
          exact hq_cSXv (As := [.int _]) (rm := rX5_requireState) (Cn := "") C (m_X5_requireState hlt) ws_X5_requireState ml_X5_70 rfl rfl rfl rfl ⟨Nat.le_of_ble_eq_true rfl, Nat.le_of_ble_eq_true rfl⟩ (Nat.le_of_ble_eq_true rfl) ⟨Nat.le_of_ble_eq_true rfl, Nat.le_of_ble_eq_true rfl⟩ dX5_pay_90 (fun n_90 => absurd n_90 (by simp [sx_st])) (fun E x_90 => hq_out ht hlk (by simpa [hx_or, e_pay, sx_st, n_3, n_10, c_22, c_34, c_59, c_82] using x_90) rfl (Nat.le_of_ble_eq_true rfl) (Nat.le_of_ble_eq_true rfl))
        · refine hq_iconst (y := 1) C dX5_pay_85 (by decide) ?_
          refine hq_goto (tgt := 90) C dX5_pay_86 (by decide) ?_
          refine hq_cSXv (As := [.int _]) (rm := rX5_requireState) (Cn := "") C (m_X5_requireState hlt) ws_X5_requireState ml_X5_70 rfl rfl rfl rfl ⟨Nat.le_of_ble_eq_true rfl, Nat.le_of_ble_eq_true rfl⟩ (Nat.le_of_ble_eq_true rfl) ⟨Nat.le_of_ble_eq_true rfl, Nat.le_of_ble_eq_true rfl⟩ dX5_pay_90 (fun _ => ?_) (fun E x_90 => absurd x_90 (by simp [sx_st]))
          refine hq_aload_n (q := 0) C dX5_pay_93 rfl rfl ?_
          refine hq_getR (f := 0) (g := 1) (Nc := 1) (Ns := 14) C fr_X5_11 dX5_pay_94 rfl rfl rfl rfl rfl (by decide) Nat.one_pos ?_
          refine hq_iload_n (q := 1) C dX5_pay_97 rfl rfl ?_
          refine hq_aaldBR0 (f := 1) (a := tn x) (g := 2) (Nc := 1) (Ns := 12) C dX5_pay_98 rfl rfl rfl rfl rfl rfl hx (by omega) Nat.one_pos ?_
          refine hq_dup C dX5_pay_99 rfl ?_
          refine hq_getJ (f := 2) (g := 0) (Nc := 12) (Ns := 8) C fr_X5_77 dX5_pay_100 rfl rfl rfl rfl rfl (by decide) (by first | assumption | omega) ?_
          refine hq_iload_n (q := 3) C dX5_pay_103 rfl rfl ?_
          refine hq_i2l C dX5_pay_104 ?_
          refine hq_lsub C dX5_pay_105 ?_
          refine hq_putJ (f := 2) (g := 0) (Nc := 12) (Ns := 8) C fl_X5_77 dX5_pay_106 rfl rfl rfl rfl rfl (by decide) (by first | assumption | omega) rfl rfl ?_
          refine hq_aload_n (q := 0) C dX5_pay_109 rfl rfl ?_
          refine hq_getR (f := 0) (g := 1) (Nc := 1) (Ns := 14) C fr_X5_11 dX5_pay_110 rfl rfl rfl rfl rfl (by decide) Nat.one_pos ?_
          refine hq_iload_n (q := 2) C dX5_pay_113 rfl rfl ?_
          refine hq_aaldBR0 (f := 1) (a := tn y) (g := 2) (Nc := 1) (Ns := 12) C dX5_pay_114 rfl rfl rfl rfl rfl rfl hy (by omega) Nat.one_pos ?_
          refine hq_dup C dX5_pay_115 rfl ?_
          refine hq_getJ (f := 2) (g := 0) (Nc := 12) (Ns := 8) C fr_X5_77 dX5_pay_116 rfl rfl rfl rfl rfl (by decide) (by first | assumption | omega) ?_
          refine hq_iload_n (q := 3) C dX5_pay_119 rfl rfl ?_
          refine hq_i2l C dX5_pay_120 ?_
          refine hq_ladd C dX5_pay_121 ?_
          refine hq_putJ (f := 2) (g := 0) (Nc := 12) (Ns := 8) C fl_X5_77 dX5_pay_122 rfl rfl rfl rfl rfl (by decide) (by first | assumption | omega) rfl rfl ?_
          refine hq_aload_n (q := 0) C dX5_pay_125 rfl rfl ?_
          refine hq_getR (f := 0) (g := 11) (Nc := 1) (Ns := 14) C fr_X5_33 dX5_pay_126 rfl rfl rfl rfl rfl (by decide) Nat.one_pos ?_
          refine hq_iload_n (q := 1) C dX5_pay_129 rfl rfl ?_
          refine hq_iload_n (q := 2) C dX5_pay_130 rfl rfl ?_
          refine hq_iload_n (q := 3) C dX5_pay_131 rfl rfl ?_
          refine hq_ineg C dX5_pay_132 ?_
          refine hq_i2l C dX5_pay_133 ?_
          refine hq_cVv (As := [.int _, .int _, .long _]) (rm := rX2_changeKnown) (f := 11) (Nc := 1) C (m_X2_changeKnown (a := tn x) (b := tn y) hx (by omega) hy (by omega)) wv_X2_changeKnown ml_X5_175 rfl rfl rfl Nat.one_pos rfl rfl rfl rfl ⟨Nat.le_of_ble_eq_true rfl, Nat.le_of_ble_eq_true rfl⟩ (Nat.le_of_ble_eq_true rfl) ⟨Nat.le_of_ble_eq_true rfl, Nat.le_of_ble_eq_true rfl⟩ dX5_pay_134 ?_
          refine hq_aload_n (q := 0) C dX5_pay_137 rfl rfl ?_
          refine hq_getR (f := 0) (g := 11) (Nc := 1) (Ns := 14) C fr_X5_33 dX5_pay_138 rfl rfl rfl rfl rfl (by decide) Nat.one_pos ?_
          refine hq_getR (f := 11) (g := 12) (Nc := 1) (Ns := 2) C fr_X5_171 dX5_pay_141 rfl rfl rfl rfl rfl (by decide) Nat.one_pos ?_
          refine hq_iload_n (q := 1) C dX5_pay_144 rfl rfl ?_
          refine hq_aaldJR0 (f := 12) (a := tn x) (g := 13) (Nc := 1) (Ns := 12) C dX5_pay_145 rfl rfl rfl rfl rfl rfl hx (by omega) Nat.one_pos ?_
          refine hq_iload_n (q := 2) C dX5_pay_146 rfl rfl ?_
          refine hq_laldJw (f := 13) (a := tn y) (g := 1) (w := 12) (Nc := 12) (Ns := 12) C dX5_pay_147 rfl rfl rfl ⟨rfl, by decide⟩ rfl rfl hy (by omega) (by first | assumption | omega) ?_
          refine hq_l2i C dX5_pay_148 ?_
          exact hq_iretX C hr hlk dX5_pay_149 (by first | (simp [hx_or, e_pay, n_3, n_10, c_22, c_34, c_59, c_82]; done) | simp [hx_or, e_pay, sx_st, n_3, n_10, c_22, c_34, c_59, c_82]) rfl rfl (Nat.le_of_ble_eq_true rfl) (Nat.le_of_ble_eq_true rfl)
def e_deliver (I : MI) (J : MJ) (x y z : Int32) : Option String := hx_or (sx_two I x y) (hx_or (sx_rg z 1 1000000) (hx_or (sx_st (if I 7 (tn x) = 2 then 0 else if I 7 (tn y) = 2 then 0 else 1)) (sx_st (if lg_cmp (J 1 (12 * tn x + tn y)) z.toInt64 < 0 then 0 else 1))))
def j_deliver (J : MJ) (x y z : Int32) : MJ := sp_known J (tn x) (tn y) (-z).toInt64
set_option maxHeartbeats 4000000 in
set_option maxRecDepth 100000 in
theorem m_X5_deliver {l : Launch} {D : va_G} {b0 : Nat} {I : MI} {J : MJ} {P : MI} {N : MJ} {o : Int64} (hlt : l.stackTraces = false) {x y z : Int32} {nb no nc : Nat} {B : Int} (h : hw_ci I J nb no nc B) : hX l yX5_deliver wX5_deliver rX5_deliver D b0 [.ref (hw_ad b0 0 0), .int x, .int y, .int z] I J P N o (e_deliver I J x y z) (some (.int (j_deliver J x y z 1 (12 * tn x + tn y)).toInt32)) I (j_deliver J x y z) P N o := by
  have hbc := h.1.1.1
  have hnb := h.1.1.2
  have hoc := h.1.2.1.1
  have hno := h.1.2.1.2
  have hcc := h.1.2.2.1.1
  have hnc := h.1.2.2.1.2
  refine hw_MXof (by decide) [(0, .ref _), (1, .int _), (2, .int _), (3, .int _)] rfl (Nat.le_of_ble_eq_true rfl) ?_
  intro p e s m args below meth c C hr hlk ht
  refine hq_aload_n (q := 0) C dX5_deliver_0 rfl rfl ?_
  refine hq_iload_n (q := 1) C dX5_deliver_1 rfl rfl ?_
  refine hq_iload_n (q := 2) C dX5_deliver_2 rfl rfl ?_
  refine hq_cVXv (As := [.int _, .int _]) (rm := rX5_requireTwoBrokers) (f := 0) (Nc := 1) C (m_X5_requireTwoBrokers hlt) wv_X5_requireTwoBrokers ml_X5_84 rfl rfl rfl Nat.one_pos rfl rfl rfl rfl ⟨Nat.le_of_ble_eq_true rfl, Nat.le_of_ble_eq_true rfl⟩ (Nat.le_of_ble_eq_true rfl) ⟨Nat.le_of_ble_eq_true rfl, Nat.le_of_ble_eq_true rfl⟩ dX5_deliver_3 (fun n_3 => ?_) (fun E x_3 => hq_out ht hlk (by simp [hx_or, e_deliver, x_3]) rfl (Nat.le_of_ble_eq_true rfl) (Nat.le_of_ble_eq_true rfl))
  obtain ⟨⟨hx, hxb⟩, ⟨hy, hyb⟩, hxy⟩ := sx_two_n hbc (by omega) n_3
  refine hq_iload_n (q := 3) C dX5_deliver_6 rfl rfl ?_
  refine hq_iconst (y := 1) C dX5_deliver_7 (by decide) ?_
  refine hq_ldc C wc_X5_50 dX5_deliver_8 ?_
  refine hq_cSXv (As := [.int _, .int _, .int _]) (rm := rX5_requireRange) (Cn := "") C (m_X5_requireRange hlt) ws_X5_requireRange ml_X5_62 rfl rfl rfl rfl ⟨Nat.le_of_ble_eq_true rfl, Nat.le_of_ble_eq_true rfl⟩ (Nat.le_of_ble_eq_true rfl) ⟨Nat.le_of_ble_eq_true rfl, Nat.le_of_ble_eq_true rfl⟩ dX5_deliver_10 (fun n_10 => ?_) (fun E x_10 => hq_out ht hlk (by simp [hx_or, e_deliver, n_3, x_10]) rfl (Nat.le_of_ble_eq_true rfl) (Nat.le_of_ble_eq_true rfl))
  refine hq_aload_n (q := 0) C dX5_deliver_13 rfl rfl ?_
  refine hq_getR (f := 0) (g := 1) (Nc := 1) (Ns := 14) C fr_X5_11 dX5_deliver_14 rfl rfl rfl rfl rfl (by decide) Nat.one_pos ?_
  refine hq_iload_n (q := 1) C dX5_deliver_17 rfl rfl ?_
  refine hq_aaldBR0 (f := 1) (a := tn x) (g := 2) (Nc := 1) (Ns := 12) C dX5_deliver_18 rfl rfl rfl rfl rfl rfl hx (by omega) Nat.one_pos ?_
  refine hq_getI (f := 2) (g := 7) (Nc := 12) (Ns := 8) C fr_X5_97 dX5_deliver_19 rfl rfl rfl rfl rfl (by decide) (by first | assumption | omega) ?_
  refine hq_iconst (y := 2) C dX5_deliver_22 (by decide) ?_
  refine hq_icmp_eq (tgt := 43) C dX5_deliver_23 (by decide) (fun c_23 => ?_) (fun c_23 => ?_)
  · refine hq_iconst (y := 0) C dX5_deliver_43 (by decide) ?_
    exact hq_cSXv (As := [.int _]) (rm := rX5_requireState) (Cn := "") C (m_X5_requireState hlt) ws_X5_requireState ml_X5_70 rfl rfl rfl rfl ⟨Nat.le_of_ble_eq_true rfl, Nat.le_of_ble_eq_true rfl⟩ (Nat.le_of_ble_eq_true rfl) ⟨Nat.le_of_ble_eq_true rfl, Nat.le_of_ble_eq_true rfl⟩ dX5_deliver_44 (fun n_44 => absurd n_44 (by simp [sx_st])) (fun E x_44 => hq_out ht hlk (by simpa [hx_or, e_deliver, sx_st, n_3, n_10, c_23] using x_44) rfl (Nat.le_of_ble_eq_true rfl) (Nat.le_of_ble_eq_true rfl))
  · refine hq_aload_n (q := 0) C dX5_deliver_26 rfl rfl ?_
    refine hq_getR (f := 0) (g := 1) (Nc := 1) (Ns := 14) C fr_X5_11 dX5_deliver_27 rfl rfl rfl rfl rfl (by decide) Nat.one_pos ?_
    refine hq_iload_n (q := 2) C dX5_deliver_30 rfl rfl ?_
    refine hq_aaldBR0 (f := 1) (a := tn y) (g := 2) (Nc := 1) (Ns := 12) C dX5_deliver_31 rfl rfl rfl rfl rfl rfl hy (by omega) Nat.one_pos ?_
    refine hq_getI (f := 2) (g := 7) (Nc := 12) (Ns := 8) C fr_X5_97 dX5_deliver_32 rfl rfl rfl rfl rfl (by decide) (by first | assumption | omega) ?_
    refine hq_iconst (y := 2) C dX5_deliver_35 (by decide) ?_
    refine hq_icmp_eq (tgt := 43) C dX5_deliver_36 (by decide) (fun c_36 => ?_) (fun c_36 => ?_)
    · refine hq_iconst (y := 0) C dX5_deliver_43 (by decide) ?_
      exact hq_cSXv (As := [.int _]) (rm := rX5_requireState) (Cn := "") C (m_X5_requireState hlt) ws_X5_requireState ml_X5_70 rfl rfl rfl rfl ⟨Nat.le_of_ble_eq_true rfl, Nat.le_of_ble_eq_true rfl⟩ (Nat.le_of_ble_eq_true rfl) ⟨Nat.le_of_ble_eq_true rfl, Nat.le_of_ble_eq_true rfl⟩ dX5_deliver_44 (fun n_44 => absurd n_44 (by simp [sx_st])) (fun E x_44 => hq_out ht hlk (by simpa [hx_or, e_deliver, sx_st, n_3, n_10, c_23, c_36] using x_44) rfl (Nat.le_of_ble_eq_true rfl) (Nat.le_of_ble_eq_true rfl))
    · refine hq_iconst (y := 1) C dX5_deliver_39 (by decide) ?_
      refine hq_goto (tgt := 44) C dX5_deliver_40 (by decide) ?_
      refine hq_cSXv (As := [.int _]) (rm := rX5_requireState) (Cn := "") C (m_X5_requireState hlt) ws_X5_requireState ml_X5_70 rfl rfl rfl rfl ⟨Nat.le_of_ble_eq_true rfl, Nat.le_of_ble_eq_true rfl⟩ (Nat.le_of_ble_eq_true rfl) ⟨Nat.le_of_ble_eq_true rfl, Nat.le_of_ble_eq_true rfl⟩ dX5_deliver_44 (fun _ => ?_) (fun E x_44 => absurd x_44 (by simp [sx_st]))
      refine hq_aload_n (q := 0) C dX5_deliver_47 rfl rfl ?_
      refine hq_getR (f := 0) (g := 11) (Nc := 1) (Ns := 14) C fr_X5_33 dX5_deliver_48 rfl rfl rfl rfl rfl (by decide) Nat.one_pos ?_
      refine hq_getR (f := 11) (g := 12) (Nc := 1) (Ns := 2) C fr_X5_171 dX5_deliver_51 rfl rfl rfl rfl rfl (by decide) Nat.one_pos ?_
      refine hq_iload_n (q := 1) C dX5_deliver_54 rfl rfl ?_
      refine hq_aaldJR0 (f := 12) (a := tn x) (g := 13) (Nc := 1) (Ns := 12) C dX5_deliver_55 rfl rfl rfl rfl rfl rfl hx (by omega) Nat.one_pos ?_
      refine hq_iload_n (q := 2) C dX5_deliver_56 rfl rfl ?_
      refine hq_laldJw (f := 13) (a := tn y) (g := 1) (w := 12) (Nc := 12) (Ns := 12) C dX5_deliver_57 rfl rfl rfl ⟨rfl, by decide⟩ rfl rfl hy (by omega) (by first | assumption | omega) ?_
      refine hq_iload_n (q := 3) C dX5_deliver_58 rfl rfl ?_
      refine hq_i2l C dX5_deliver_59 ?_
      refine hq_lcmp C dX5_deliver_60 ?_
      refine hq_if_lt (tgt := 68) C dX5_deliver_61 (by decide) (fun c_61 => ?_) (fun c_61 => ?_)
      · refine hq_iconst (y := 0) C dX5_deliver_68 (by decide) ?_
        exact hq_cSXv (As := [.int _]) (rm := rX5_requireState) (Cn := "") C (m_X5_requireState hlt) ws_X5_requireState ml_X5_70 rfl rfl rfl rfl ⟨Nat.le_of_ble_eq_true rfl, Nat.le_of_ble_eq_true rfl⟩ (Nat.le_of_ble_eq_true rfl) ⟨Nat.le_of_ble_eq_true rfl, Nat.le_of_ble_eq_true rfl⟩ dX5_deliver_69 (fun n_69 => absurd n_69 (by simp [sx_st])) (fun E x_69 => hq_out ht hlk (by simpa [hx_or, e_deliver, sx_st, n_3, n_10, c_23, c_36, c_61] using x_69) rfl (Nat.le_of_ble_eq_true rfl) (Nat.le_of_ble_eq_true rfl))
      · refine hq_iconst (y := 1) C dX5_deliver_64 (by decide) ?_
        refine hq_goto (tgt := 69) C dX5_deliver_65 (by decide) ?_
        refine hq_cSXv (As := [.int _]) (rm := rX5_requireState) (Cn := "") C (m_X5_requireState hlt) ws_X5_requireState ml_X5_70 rfl rfl rfl rfl ⟨Nat.le_of_ble_eq_true rfl, Nat.le_of_ble_eq_true rfl⟩ (Nat.le_of_ble_eq_true rfl) ⟨Nat.le_of_ble_eq_true rfl, Nat.le_of_ble_eq_true rfl⟩ dX5_deliver_69 (fun _ => ?_) (fun E x_69 => absurd x_69 (by simp [sx_st]))
        refine hq_aload_n (q := 0) C dX5_deliver_72 rfl rfl ?_
        refine hq_getR (f := 0) (g := 11) (Nc := 1) (Ns := 14) C fr_X5_33 dX5_deliver_73 rfl rfl rfl rfl rfl (by decide) Nat.one_pos ?_
        refine hq_iload_n (q := 1) C dX5_deliver_76 rfl rfl ?_
        refine hq_iload_n (q := 2) C dX5_deliver_77 rfl rfl ?_
        refine hq_iload_n (q := 3) C dX5_deliver_78 rfl rfl ?_
        refine hq_ineg C dX5_deliver_79 ?_
        refine hq_i2l C dX5_deliver_80 ?_
        refine hq_cVv (As := [.int _, .int _, .long _]) (rm := rX2_changeKnown) (f := 11) (Nc := 1) C (m_X2_changeKnown (a := tn x) (b := tn y) hx (by omega) hy (by omega)) wv_X2_changeKnown ml_X5_175 rfl rfl rfl Nat.one_pos rfl rfl rfl rfl ⟨Nat.le_of_ble_eq_true rfl, Nat.le_of_ble_eq_true rfl⟩ (Nat.le_of_ble_eq_true rfl) ⟨Nat.le_of_ble_eq_true rfl, Nat.le_of_ble_eq_true rfl⟩ dX5_deliver_81 ?_
        refine hq_aload_n (q := 0) C dX5_deliver_84 rfl rfl ?_
        refine hq_getR (f := 0) (g := 11) (Nc := 1) (Ns := 14) C fr_X5_33 dX5_deliver_85 rfl rfl rfl rfl rfl (by decide) Nat.one_pos ?_
        refine hq_getR (f := 11) (g := 12) (Nc := 1) (Ns := 2) C fr_X5_171 dX5_deliver_88 rfl rfl rfl rfl rfl (by decide) Nat.one_pos ?_
        refine hq_iload_n (q := 1) C dX5_deliver_91 rfl rfl ?_
        refine hq_aaldJR0 (f := 12) (a := tn x) (g := 13) (Nc := 1) (Ns := 12) C dX5_deliver_92 rfl rfl rfl rfl rfl rfl hx (by omega) Nat.one_pos ?_
        refine hq_iload_n (q := 2) C dX5_deliver_93 rfl rfl ?_
        refine hq_laldJw (f := 13) (a := tn y) (g := 1) (w := 12) (Nc := 12) (Ns := 12) C dX5_deliver_94 rfl rfl rfl ⟨rfl, by decide⟩ rfl rfl hy (by omega) (by first | assumption | omega) ?_
        refine hq_l2i C dX5_deliver_95 ?_
        exact hq_iretX C hr hlk dX5_deliver_96 (by first | (simp [hx_or, e_deliver, n_3, n_10, c_23, c_36, c_61]; done) | simp [hx_or, e_deliver, sx_st, n_3, n_10, c_23, c_36, c_61]) rfl rfl (Nat.le_of_ble_eq_true rfl) (Nat.le_of_ble_eq_true rfl)
def e_courier (I : MI) (J : MJ) (x y z w : Int32) : Option String := hx_or (sx_two I x y) (hx_or (sx_rg z 1 1000000) (hx_or (sx_rg w 1 500) (hx_or (sx_st (if 40 ≤ I 2 0 then 0 else 1)) (sx_st (if hb (I 7 (tn x) = 0) = 0 then 0 else if lg_cmp (J 0 (tn x)) z.toInt64 < 0 then 0 else 1)))))
def i_courier (I : MI) (x y z w : Int32) (n : Nat) : MI := uI (uI (uI (uI (uI (uI I 22 n x) 23 n y) 24 n z) 25 n (I 3 0 + w)) 26 n 1) 2 0 (I 2 0 + 1)
set_option maxHeartbeats 4000000 in
set_option maxRecDepth 100000 in
theorem m_X5_courier {l : Launch} {D : va_G} {b0 : Nat} {I : MI} {J : MJ} {P : MI} {N : MJ} {o : Int64} (hlt : l.stackTraces = false) {x y z w : Int32} {nb no nc : Nat} {B : Int} (h : hw_ci I J nb no nc B) : hX l yX5_courier wX5_courier rX5_courier D b0 [.ref (hw_ad b0 0 0), .int x, .int y, .int z, .int w] I J P N o (e_courier I J x y z w) (some (.int (I 2 0 + 1 - 1))) (i_courier I x y z w nc) (uJ J 0 (tn x) (J 0 (tn x) - z.toInt64)) P N o := by
  have hbc := h.1.1.1
  have hnb := h.1.1.2
  have hoc := h.1.2.1.1
  have hno := h.1.2.1.2
  have hcc := h.1.2.2.1.1
  have hnc := h.1.2.2.1.2
  refine hw_MXof (by decide) [(0, .ref _), (1, .int _), (2, .int _), (3, .int _), (4, .int _)] rfl (Nat.le_of_ble_eq_true rfl) ?_
  intro p e s m args below meth c C hr hlk ht
  refine hq_aload_n (q := 0) C dX5_courier_0 rfl rfl ?_
  refine hq_iload_n (q := 1) C dX5_courier_1 rfl rfl ?_
  refine hq_iload_n (q := 2) C dX5_courier_2 rfl rfl ?_
  refine hq_cVXv (As := [.int _, .int _]) (rm := rX5_requireTwoBrokers) (f := 0) (Nc := 1) C (m_X5_requireTwoBrokers hlt) wv_X5_requireTwoBrokers ml_X5_84 rfl rfl rfl Nat.one_pos rfl rfl rfl rfl ⟨Nat.le_of_ble_eq_true rfl, Nat.le_of_ble_eq_true rfl⟩ (Nat.le_of_ble_eq_true rfl) ⟨Nat.le_of_ble_eq_true rfl, Nat.le_of_ble_eq_true rfl⟩ dX5_courier_3 (fun n_3 => ?_) (fun E x_3 => hq_out ht hlk (by simp [hx_or, e_courier, x_3]) rfl (Nat.le_of_ble_eq_true rfl) (Nat.le_of_ble_eq_true rfl))
  obtain ⟨⟨hx, hxb⟩, ⟨hy, hyb⟩, hxy⟩ := sx_two_n hbc (by omega) n_3
  refine hq_iload_n (q := 3) C dX5_courier_6 rfl rfl ?_
  refine hq_iconst (y := 1) C dX5_courier_7 (by decide) ?_
  refine hq_ldc C wc_X5_50 dX5_courier_8 ?_
  refine hq_cSXv (As := [.int _, .int _, .int _]) (rm := rX5_requireRange) (Cn := "") C (m_X5_requireRange hlt) ws_X5_requireRange ml_X5_62 rfl rfl rfl rfl ⟨Nat.le_of_ble_eq_true rfl, Nat.le_of_ble_eq_true rfl⟩ (Nat.le_of_ble_eq_true rfl) ⟨Nat.le_of_ble_eq_true rfl, Nat.le_of_ble_eq_true rfl⟩ dX5_courier_10 (fun n_10 => ?_) (fun E x_10 => hq_out ht hlk (by simp [hx_or, e_courier, n_3, x_10]) rfl (Nat.le_of_ble_eq_true rfl) (Nat.le_of_ble_eq_true rfl))
  refine hq_iload (q := 4) C dX5_courier_13 rfl ?_
  refine hq_iconst (y := 1) C dX5_courier_15 (by decide) ?_
  refine hq_sipush (y := 500) C dX5_courier_16 (by decide) ?_
  refine hq_cSXv (As := [.int _, .int _, .int _]) (rm := rX5_requireRange) (Cn := "") C (m_X5_requireRange hlt) ws_X5_requireRange ml_X5_62 rfl rfl rfl rfl ⟨Nat.le_of_ble_eq_true rfl, Nat.le_of_ble_eq_true rfl⟩ (Nat.le_of_ble_eq_true rfl) ⟨Nat.le_of_ble_eq_true rfl, Nat.le_of_ble_eq_true rfl⟩ dX5_courier_19 (fun n_19 => ?_) (fun E x_19 => hq_out ht hlk (by simp [hx_or, e_courier, n_3, n_10, x_19]) rfl (Nat.le_of_ble_eq_true rfl) (Nat.le_of_ble_eq_true rfl))
  refine hq_aload_n (q := 0) C dX5_courier_22 rfl rfl ?_
  refine hq_getI (f := 0) (g := 2) (Nc := 1) (Ns := 14) C fr_X5_179 dX5_courier_23 rfl rfl rfl rfl rfl (by decide) Nat.one_pos ?_
  refine hq_bipush (y := 40) C dX5_courier_26 (by decide) ?_
  refine hq_icmp_ge (tgt := 35) C dX5_courier_28 (by decide) (fun c_28 => ?_) (fun c_28 => ?_)
  · refine hq_iconst (y := 0) C dX5_courier_35 (by decide) ?_
    exact hq_cSXv (As := [.int _]) (rm := rX5_requireState) (Cn := "") C (m_X5_requireState hlt) ws_X5_requireState ml_X5_70 rfl rfl rfl rfl ⟨Nat.le_of_ble_eq_true rfl, Nat.le_of_ble_eq_true rfl⟩ (Nat.le_of_ble_eq_true rfl) ⟨Nat.le_of_ble_eq_true rfl, Nat.le_of_ble_eq_true rfl⟩ dX5_courier_36 (fun n_36 => absurd n_36 (by simp [sx_st])) (fun E x_36 => hq_out ht hlk (by simpa [hx_or, e_courier, sx_st, n_3, n_10, n_19, c_28] using x_36) rfl (Nat.le_of_ble_eq_true rfl) (Nat.le_of_ble_eq_true rfl))
  · refine hq_iconst (y := 1) C dX5_courier_31 (by decide) ?_
    refine hq_goto (tgt := 36) C dX5_courier_32 (by decide) ?_
    refine hq_cSXv (As := [.int _]) (rm := rX5_requireState) (Cn := "") C (m_X5_requireState hlt) ws_X5_requireState ml_X5_70 rfl rfl rfl rfl ⟨Nat.le_of_ble_eq_true rfl, Nat.le_of_ble_eq_true rfl⟩ (Nat.le_of_ble_eq_true rfl) ⟨Nat.le_of_ble_eq_true rfl, Nat.le_of_ble_eq_true rfl⟩ dX5_courier_36 (fun _ => ?_) (fun E x_36 => absurd x_36 (by simp [sx_st]))
    have h40 : nc < 40 := by rcases Nat.lt_or_ge nc 40 with z | z; exact z; exact absurd (by rw [hcc]; exact nI_le z (by omega) : (40 : Int32) ≤ I 2 0) c_28
    refine hq_aload_n (q := 0) C dX5_courier_39 rfl rfl ?_
    refine hq_getR (f := 0) (g := 1) (Nc := 1) (Ns := 14) C fr_X5_11 dX5_courier_40 rfl rfl rfl rfl rfl (by decide) Nat.one_pos ?_
    refine hq_iload_n (q := 1) C dX5_courier_43 rfl rfl ?_
    refine hq_aaldBR0 (f := 1) (a := tn x) (g := 2) (Nc := 1) (Ns := 12) C dX5_courier_44 rfl rfl rfl rfl rfl rfl hx (by omega) Nat.one_pos ?_
    refine hq_cVr (As := []) (rm := rX0_isGood) (f := 2) (Nc := 12) C (m_X0_isGood (by first | assumption | omega)) wv_X0_isGood ml_X5_108 rfl rfl rfl (by first | assumption | omega) rfl rfl rfl rfl ⟨Nat.le_of_ble_eq_true rfl, Nat.le_of_ble_eq_true rfl⟩ (Nat.le_of_ble_eq_true rfl) ⟨Nat.le_of_ble_eq_true rfl, Nat.le_of_ble_eq_true rfl⟩ dX5_courier_45 ?_
    refine hq_if_eq (tgt := 70) C dX5_courier_48 (by decide) (fun c_48 => ?_) (fun c_48 => ?_)
    · refine hq_iconst (y := 0) C dX5_courier_70 (by decide) ?_
      exact hq_cSXv (As := [.int _]) (rm := rX5_requireState) (Cn := "") C (m_X5_requireState hlt) ws_X5_requireState ml_X5_70 rfl rfl rfl rfl ⟨Nat.le_of_ble_eq_true rfl, Nat.le_of_ble_eq_true rfl⟩ (Nat.le_of_ble_eq_true rfl) ⟨Nat.le_of_ble_eq_true rfl, Nat.le_of_ble_eq_true rfl⟩ dX5_courier_71 (fun n_71 => absurd n_71 (by simp [sx_st])) (fun E x_71 => hq_out ht hlk (by simpa [hx_or, e_courier, sx_st, n_3, n_10, n_19, c_28, c_48] using x_71) rfl (Nat.le_of_ble_eq_true rfl) (Nat.le_of_ble_eq_true rfl))
    · refine hq_aload_n (q := 0) C dX5_courier_51 rfl rfl ?_
      refine hq_getR (f := 0) (g := 1) (Nc := 1) (Ns := 14) C fr_X5_11 dX5_courier_52 rfl rfl rfl rfl rfl (by decide) Nat.one_pos ?_
      refine hq_iload_n (q := 1) C dX5_courier_55 rfl rfl ?_
      refine hq_aaldBR0 (f := 1) (a := tn x) (g := 2) (Nc := 1) (Ns := 12) C dX5_courier_56 rfl rfl rfl rfl rfl rfl hx (by omega) Nat.one_pos ?_
      refine hq_getJ (f := 2) (g := 0) (Nc := 12) (Ns := 8) C fr_X5_77 dX5_courier_57 rfl rfl rfl rfl rfl (by decide) (by first | assumption | omega) ?_
      refine hq_iload_n (q := 3) C dX5_courier_60 rfl rfl ?_
      refine hq_i2l C dX5_courier_61 ?_
      refine hq_lcmp C dX5_courier_62 ?_
      refine hq_if_lt (tgt := 70) C dX5_courier_63 (by decide) (fun c_63 => ?_) (fun c_63 => ?_)
      · refine hq_iconst (y := 0) C dX5_courier_70 (by decide) ?_
        exact hq_cSXv (As := [.int _]) (rm := rX5_requireState) (Cn := "") C (m_X5_requireState hlt) ws_X5_requireState ml_X5_70 rfl rfl rfl rfl ⟨Nat.le_of_ble_eq_true rfl, Nat.le_of_ble_eq_true rfl⟩ (Nat.le_of_ble_eq_true rfl) ⟨Nat.le_of_ble_eq_true rfl, Nat.le_of_ble_eq_true rfl⟩ dX5_courier_71 (fun n_71 => absurd n_71 (by simp [sx_st])) (fun E x_71 => hq_out ht hlk (by simpa [hx_or, e_courier, sx_st, n_3, n_10, n_19, c_28, c_48, c_63] using x_71) rfl (Nat.le_of_ble_eq_true rfl) (Nat.le_of_ble_eq_true rfl))
      · refine hq_iconst (y := 1) C dX5_courier_66 (by decide) ?_
        refine hq_goto (tgt := 71) C dX5_courier_67 (by decide) ?_
        refine hq_cSXv (As := [.int _]) (rm := rX5_requireState) (Cn := "") C (m_X5_requireState hlt) ws_X5_requireState ml_X5_70 rfl rfl rfl rfl ⟨Nat.le_of_ble_eq_true rfl, Nat.le_of_ble_eq_true rfl⟩ (Nat.le_of_ble_eq_true rfl) ⟨Nat.le_of_ble_eq_true rfl, Nat.le_of_ble_eq_true rfl⟩ dX5_courier_71 (fun _ => ?_) (fun E x_71 => absurd x_71 (by simp [sx_st]))
        refine hq_aload_n (q := 0) C dX5_courier_74 rfl rfl ?_
        refine hq_getR (f := 0) (g := 9) (Nc := 1) (Ns := 14) C fr_X5_25 dX5_courier_75 rfl rfl rfl rfl rfl (by decide) Nat.one_pos ?_
        refine hq_aload_n (q := 0) C dX5_courier_78 rfl rfl ?_
        refine hq_getI (f := 0) (g := 2) (Nc := 1) (Ns := 14) C fr_X5_179 dX5_courier_79 rfl rfl rfl rfl rfl (by decide) Nat.one_pos ?_
        refine hq_aaldCR0 (f := 9) (a := nc) (g := 10) (Nc := 1) (Ns := 40) C dX5_courier_82 rfl rfl rfl rfl rfl rfl hcc h40 Nat.one_pos ?_
        refine hq_astore (L' := [(5, .ref _), (0, .ref _), (1, .int _), (2, .int _), (3, .int _), (4, .int _)]) C dX5_courier_83 (by decide) rfl ?_
        refine hq_aload (q := 0) C dX5_courier_85 rfl ?_
        refine hq_iload_n (q := 2) C dX5_courier_87 rfl rfl ?_
        refine hq_putI (f := 10) (g := 22) (Nc := 40) (Ns := 6) C fl_X5_182 dX5_courier_88 rfl rfl rfl rfl rfl (by decide) (by first | assumption | omega) rfl rfl ?_
        refine hq_aload (q := 0) C dX5_courier_91 rfl ?_
        refine hq_iload_n (q := 3) C dX5_courier_93 rfl rfl ?_
        refine hq_putI (f := 10) (g := 23) (Nc := 40) (Ns := 6) C fl_X5_185 dX5_courier_94 rfl rfl rfl rfl rfl (by decide) (by first | assumption | omega) rfl rfl ?_
        refine hq_aload (q := 0) C dX5_courier_97 rfl ?_
        refine hq_iload_n (q := 4) C dX5_courier_99 rfl rfl ?_
        refine hq_putI (f := 10) (g := 24) (Nc := 40) (Ns := 6) C fl_X5_188 dX5_courier_100 rfl rfl rfl rfl rfl (by decide) (by first | assumption | omega) rfl rfl ?_
        refine hq_aload (q := 0) C dX5_courier_103 rfl ?_
        refine hq_aload_n (q := 1) C dX5_courier_105 rfl rfl ?_
        refine hq_getI (f := 0) (g := 3) (Nc := 1) (Ns := 14) C fr_X5_112 dX5_courier_106 rfl rfl rfl rfl rfl (by decide) Nat.one_pos ?_
        refine hq_iload (q := 5) C dX5_courier_109 rfl ?_
        refine hq_iadd C dX5_courier_111 ?_
        refine hq_putI (f := 10) (g := 25) (Nc := 40) (Ns := 6) C fl_X5_189 dX5_courier_112 rfl rfl rfl rfl rfl (by decide) (by first | assumption | omega) rfl rfl ?_
        refine hq_aload (q := 0) C dX5_courier_115 rfl ?_
        refine hq_iconst (y := 1) C dX5_courier_117 (by decide) ?_
        refine hq_putI (f := 10) (g := 26) (Nc := 40) (Ns := 6) C fl_X5_192 dX5_courier_118 rfl rfl rfl rfl rfl (by decide) (by first | assumption | omega) (by decide) (by decide) ?_
        refine hq_aload_n (q := 1) C dX5_courier_121 rfl rfl ?_
        refine hq_getR (f := 0) (g := 1) (Nc := 1) (Ns := 14) C fr_X5_11 dX5_courier_122 rfl rfl rfl rfl rfl (by decide) Nat.one_pos ?_
        refine hq_iload_n (q := 2) C dX5_courier_125 rfl rfl ?_
        refine hq_aaldBR0 (f := 1) (a := tn x) (g := 2) (Nc := 1) (Ns := 12) C dX5_courier_126 rfl rfl rfl rfl rfl rfl hx (by omega) Nat.one_pos ?_
        refine hq_dup C dX5_courier_127 rfl ?_
        refine hq_getJ (f := 2) (g := 0) (Nc := 12) (Ns := 8) C fr_X5_77 dX5_courier_128 rfl rfl rfl rfl rfl (by decide) (by first | assumption | omega) ?_
        refine hq_iload_n (q := 4) C dX5_courier_131 rfl rfl ?_
        refine hq_i2l C dX5_courier_132 ?_
        refine hq_lsub C dX5_courier_133 ?_
        refine hq_putJ (f := 2) (g := 0) (Nc := 12) (Ns := 8) C fl_X5_77 dX5_courier_134 rfl rfl rfl rfl rfl (by decide) (by first | assumption | omega) rfl rfl ?_
        refine hq_aload_n (q := 1) C dX5_courier_137 rfl rfl ?_
        refine hq_dup C dX5_courier_138 rfl ?_
        refine hq_getI (f := 0) (g := 2) (Nc := 1) (Ns := 14) C fr_X5_179 dX5_courier_139 rfl rfl rfl rfl rfl (by decide) Nat.one_pos ?_
        refine hq_iconst (y := 1) C dX5_courier_142 (by decide) ?_
        refine hq_iadd C dX5_courier_143 ?_
        refine hq_putI (f := 0) (g := 2) (Nc := 1) (Ns := 14) C fl_X5_179 dX5_courier_144 rfl rfl rfl rfl rfl (by decide) Nat.one_pos rfl rfl ?_
        refine hq_aload_n (q := 1) C dX5_courier_147 rfl rfl ?_
        refine hq_getI (f := 0) (g := 2) (Nc := 1) (Ns := 14) C fr_X5_179 dX5_courier_148 rfl rfl rfl rfl rfl (by decide) Nat.one_pos ?_
        refine hq_iconst (y := 1) C dX5_courier_151 (by decide) ?_
        refine hq_isub C dX5_courier_152 ?_
        exact hq_iretX C hr hlk dX5_courier_153 (by first | (simp [hx_or, e_courier, n_3, n_10, n_19, c_28, c_48, c_63]; done) | simp [hx_or, e_courier, sx_st, n_3, n_10, n_19, c_28, c_48, c_63]) rfl rfl (Nat.le_of_ble_eq_true rfl) (Nat.le_of_ble_eq_true rfl)
