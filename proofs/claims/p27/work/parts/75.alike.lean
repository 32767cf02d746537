/-! the law: are both halls alike -/
abbrev rA : Room := { frames := 9, cells := 90, slots := 540, locals := 150 }
set_option maxHeartbeats 4000000 in
set_option maxRecDepth 100000 in
theorem m_L_areAlike1 {l : Launch} {D : va_G} {b0 k nb no nc : Nat} {I1 I2 P : MI} {J1 J2 N : MJ} (hlt : l.stackTraces = false) (h1 : IV k nb no nc I1 J1 P N) (h2 : IV k nb no nc I2 J2 P N) {v : Int32} (hb9 : (v &&& 1) = 1) : hw_MX l yL_areAlike wL_areAlike rA D b0 (hw_n 0) [.ref (hw_ad b0 0 0), .ref (hw_ad (b0 + 237) 0 0), .int v] (hw_vl b0 I1 J1 I2 J2 0) none (some (.int 1)) (hw_vl b0 I1 J1 I2 J2 0) rA.cells rA.slots := by
  refine hw_MXof (by decide) [(0, .ref _), (1, .ref _), (2, .int _)] rfl (Nat.le_of_ble_eq_true rfl) ?_
  intro p e s m args below meth c C hr hlk ht
  refine hq_aload_n (q := 0) C dL_areAlike_0 rfl rfl ?_
  refine hq_cVr (As := []) (rm := rX5_inquiry) (f := 0) (Nc := 1) C (aq_inq h1 l D b0 I2 J2 0) wv_X5_inquiry ml_L_151 rfl rfl rfl Nat.one_pos rfl rfl rfl rfl ⟨Nat.le_of_ble_eq_true rfl, Nat.le_of_ble_eq_true rfl⟩ (Nat.le_of_ble_eq_true rfl) ⟨Nat.le_of_ble_eq_true rfl, Nat.le_of_ble_eq_true rfl⟩ dL_areAlike_1 ?_
  refine hq_aload_n (q := 1) C dL_areAlike_4 rfl rfl ?_
  refine hq_cVp (As := []) (rm := rX5_inquiry) C (aq_inq h2 l D (b0 + 237) I2 J2 1) wv_X5_inquiry ml_L_151 rfl rfl rfl rfl ⟨Nat.le_of_ble_eq_true rfl, Nat.le_of_ble_eq_true rfl⟩ (Nat.le_of_ble_eq_true rfl) ⟨Nat.le_of_ble_eq_true rfl, Nat.le_of_ble_eq_true rfl⟩ dL_areAlike_5 ?_
  refine hq_icmp_ne (tgt := 15) C dL_areAlike_8 (by decide) (fun c_8 => absurd rfl c_8) (fun c_8 => ?_)
  refine hq_iconst (y := 1) C dL_areAlike_11 (by decide) ?_
  refine hq_goto (tgt := 16) C dL_areAlike_12 (by decide) ?_
  refine hq_istore_n (L' := [(3, .int _), (0, .ref _), (1, .ref _), (2, .int _)]) C dL_areAlike_16 rfl (by decide) rfl ?_
  refine hq_iconst (y := 0) C dL_areAlike_17 (by decide) ?_
  refine hq_istore (L' := [(4, .int _), (3, .int _), (0, .ref _), (1, .ref _), (2, .int _)]) C dL_areAlike_18 (by decide) rfl ?_
  refine hq_iload (q := 0) C dL_areAlike_20 rfl ?_
  refine hq_iconst (y := 5) C dL_areAlike_22 (by decide) ?_
  refine hq_icmp_ge (tgt := 202) C dL_areAlike_23 (by decide) (fun c_23 => absurd c_23 (by decide)) (fun _ => ?_)
  refine hq_iload_n (q := 1) C dL_areAlike_26 rfl rfl ?_
  refine hq_if_eq (tgt := 202) C dL_areAlike_27 (by decide) (fun c_27 => absurd c_27 (by decide)) (fun _ => ?_)
  refine hq_aload_n (q := 2) C dL_areAlike_30 rfl rfl ?_
  refine hq_iload (q := 0) C dL_areAlike_31 rfl ?_
  refine hq_iload_n (q := 4) C dL_areAlike_33 rfl rfl ?_
  refine hq_iconst (y := 4) C dL_areAlike_34 (by decide) ?_
  refine hq_cSr (As := [.int _, .int _]) (rm := rL_low) (Cn := "") C (m_L_low (by decide)) ws_L_low ml_L_92 rfl rfl rfl rfl ⟨Nat.le_of_ble_eq_true rfl, Nat.le_of_ble_eq_true rfl⟩ (Nat.le_of_ble_eq_true rfl) ⟨Nat.le_of_ble_eq_true rfl, Nat.le_of_ble_eq_true rfl⟩ dL_areAlike_35 ?_
  refine hq_cSLr (As := [.ref _, .int _, .int _]) (rm := rL_brokerOf) (Cn := "") C (aq_brokerOf _ _ h1 l D b0 I2 J2 0 hlt) ws_L_brokerOf ml_L_155 rfl rfl rfl rfl ⟨Nat.le_of_ble_eq_true rfl, Nat.le_of_ble_eq_true rfl⟩ (Nat.le_of_ble_eq_true rfl) ⟨Nat.le_of_ble_eq_true rfl, Nat.le_of_ble_eq_true rfl⟩ dL_areAlike_38 ?_
  refine hq_aload_n (q := 3) C dL_areAlike_41 rfl rfl ?_
  refine hq_iload (q := 0) C dL_areAlike_42 rfl ?_
  refine hq_iload_n (q := 4) C dL_areAlike_44 rfl rfl ?_
  refine hq_iconst (y := 4) C dL_areAlike_45 (by decide) ?_
  refine hq_cSr (As := [.int _, .int _]) (rm := rL_low) (Cn := "") C (m_L_low (by decide)) ws_L_low ml_L_92 rfl rfl rfl rfl ⟨Nat.le_of_ble_eq_true rfl, Nat.le_of_ble_eq_true rfl⟩ (Nat.le_of_ble_eq_true rfl) ⟨Nat.le_of_ble_eq_true rfl, Nat.le_of_ble_eq_true rfl⟩ dL_areAlike_46 ?_
  refine hq_cSLp (As := [.ref _, .int _, .int _]) (rm := rL_brokerOf) C (aq_brokerOf _ _ h2 l D (b0 + 237) I2 J2 1 hlt) ws_L_brokerOf ml_L_155 rfl rfl rfl rfl ⟨Nat.le_of_ble_eq_true rfl, Nat.le_of_ble_eq_true rfl⟩ (Nat.le_of_ble_eq_true rfl) ⟨Nat.le_of_ble_eq_true rfl, Nat.le_of_ble_eq_true rfl⟩ dL_areAlike_49 ?_
  refine hq_lcmp C dL_areAlike_52 ?_
  refine hq_if_ne (tgt := 194) C dL_areAlike_53 (by decide) (fun c_53 => absurd ((lg_cmp_eq _ _).mpr rfl) c_53) (fun c_53 => ?_)
  refine hq_aload_n (q := 2) C dL_areAlike_56 rfl rfl ?_
  refine hq_iload (q := 0) C dL_areAlike_57 rfl ?_
  refine hq_iload_n (q := 4) C dL_areAlike_59 rfl rfl ?_
  refine hq_iconst (y := 2) C dL_areAlike_60 (by decide) ?_
  refine hq_ishr C dL_areAlike_61 ?_
  refine hq_iconst (y := 5) C dL_areAlike_62 (by decide) ?_
  refine hq_cSr (As := [.int _, .int _]) (rm := rL_low) (Cn := "") C (m_L_low (by decide)) ws_L_low ml_L_92 rfl rfl rfl rfl ⟨Nat.le_of_ble_eq_true rfl, Nat.le_of_ble_eq_true rfl⟩ (Nat.le_of_ble_eq_true rfl) ⟨Nat.le_of_ble_eq_true rfl, Nat.le_of_ble_eq_true rfl⟩ dL_areAlike_63 ?_
  refine hq_iload_n (q := 4) C dL_areAlike_66 rfl rfl ?_
  refine hq_iconst (y := 1) C dL_areAlike_67 (by decide) ?_
  refine hq_iand C dL_areAlike_68 ?_
  refine hq_iconst (y := 1) C dL_areAlike_69 (by decide) ?_
  refine hq_icmp_ne (tgt := 77) C dL_areAlike_70 (by decide) (fun c_70 => absurd hb9 c_70) (fun c_70 => ?_)
  refine hq_iconst (y := 1) C dL_areAlike_73 (by decide) ?_
  refine hq_goto (tgt := 78) C dL_areAlike_74 (by decide) ?_
  refine hq_cSLr (As := [.ref _, .int _, .int _, .int _]) (rm := rL_debt) (Cn := "") C (aq_debt _ _ _ h1 l D b0 I2 J2 0 hlt) ws_L_debt ml_L_148 rfl rfl rfl rfl ⟨Nat.le_of_ble_eq_true rfl, Nat.le_of_ble_eq_true rfl⟩ (Nat.le_of_ble_eq_true rfl) ⟨Nat.le_of_ble_eq_true rfl, Nat.le_of_ble_eq_true rfl⟩ dL_areAlike_78 ?_
  refine hq_aload_n (q := 3) C dL_areAlike_81 rfl rfl ?_
  refine hq_iload (q := 0) C dL_areAlike_82 rfl ?_
  refine hq_iload_n (q := 4) C dL_areAlike_84 rfl rfl ?_
  refine hq_iconst (y := 2) C dL_areAlike_85 (by decide) ?_
  refine hq_ishr C dL_areAlike_86 ?_
  refine hq_iconst (y := 5) C dL_areAlike_87 (by decide) ?_
  refine hq_cSr (As := [.int _, .int _]) (rm := rL_low) (Cn := "") C (m_L_low (by decide)) ws_L_low ml_L_92 rfl rfl rfl rfl ⟨Nat.le_of_ble_eq_true rfl, Nat.le_of_ble_eq_true rfl⟩ (Nat.le_of_ble_eq_true rfl) ⟨Nat.le_of_ble_eq_true rfl, Nat.le_of_ble_eq_true rfl⟩ dL_areAlike_88 ?_
  refine hq_iload_n (q := 4) C dL_areAlike_91 rfl rfl ?_
  refine hq_iconst (y := 1) C dL_areAlike_92 (by decide) ?_
  refine hq_iand C dL_areAlike_93 ?_
  refine hq_iconst (y := 1) C dL_areAlike_94 (by decide) ?_
  refine hq_icmp_ne (tgt := 102) C dL_areAlike_95 (by decide) (fun c_95 => absurd hb9 c_95) (fun c_95 => ?_)
  refine hq_iconst (y := 1) C dL_areAlike_98 (by decide) ?_
  refine hq_goto (tgt := 103) C dL_areAlike_99 (by decide) ?_
  refine hq_cSLp (As := [.ref _, .int _, .int _, .int _]) (rm := rL_debt) C (aq_debt _ _ _ h2 l D (b0 + 237) I2 J2 1 hlt) ws_L_debt ml_L_148 rfl rfl rfl rfl ⟨Nat.le_of_ble_eq_true rfl, Nat.le_of_ble_eq_true rfl⟩ (Nat.le_of_ble_eq_true rfl) ⟨Nat.le_of_ble_eq_true rfl, Nat.le_of_ble_eq_true rfl⟩ dL_areAlike_103 ?_
  refine hq_lcmp C dL_areAlike_106 ?_
  refine hq_if_ne (tgt := 194) C dL_areAlike_107 (by decide) (fun c_107 => absurd ((lg_cmp_eq _ _).mpr rfl) c_107) (fun c_107 => ?_)
  refine hq_aload_n (q := 2) C dL_areAlike_110 rfl rfl ?_
  refine hq_iload (q := 0) C dL_areAlike_111 rfl ?_
  refine hq_iload_n (q := 4) C dL_areAlike_113 rfl rfl ?_
  refine hq_iconst (y := 4) C dL_areAlike_114 (by decide) ?_
  refine hq_ishr C dL_areAlike_115 ?_
  refine hq_bipush (y := 6) C dL_areAlike_116 (by decide) ?_
  refine hq_cSr (As := [.int _, .int _]) (rm := rL_low) (Cn := "") C (m_L_low (by decide)) ws_L_low ml_L_92 rfl rfl rfl rfl ⟨Nat.le_of_ble_eq_true rfl, Nat.le_of_ble_eq_true rfl⟩ (Nat.le_of_ble_eq_true rfl) ⟨Nat.le_of_ble_eq_true rfl, Nat.le_of_ble_eq_true rfl⟩ dL_areAlike_118 ?_
  refine hq_cSLr (As := [.ref _, .int _, .int _]) (rm := rL_orderOf) (Cn := "") C (aq_orderOf _ _ h1 l D b0 I2 J2 0 hlt) ws_L_orderOf ml_L_144 rfl rfl rfl rfl ⟨Nat.le_of_ble_eq_true rfl, Nat.le_of_ble_eq_true rfl⟩ (Nat.le_of_ble_eq_true rfl) ⟨Nat.le_of_ble_eq_true rfl, Nat.le_of_ble_eq_true rfl⟩ dL_areAlike_121 ?_
  refine hq_aload_n (q := 3) C dL_areAlike_124 rfl rfl ?_
  refine hq_iload (q := 0) C dL_areAlike_125 rfl ?_
  refine hq_iload_n (q := 4) C dL_areAlike_127 rfl rfl ?_
  refine hq_iconst (y := 4) C dL_areAlike_128 (by decide) ?_
  refine hq_ishr C dL_areAlike_129 ?_
  refine hq_bipush (y := 6) C dL_areAlike_130 (by decide) ?_
  refine hq_cSr (As := [.int _, .int _]) (rm := rL_low) (Cn := "") C (m_L_low (by decide)) ws_L_low ml_L_92 rfl rfl rfl rfl ⟨Nat.le_of_ble_eq_true rfl, Nat.le_of_ble_eq_true rfl⟩ (Nat.le_of_ble_eq_true rfl) ⟨Nat.le_of_ble_eq_true rfl, Nat.le_of_ble_eq_true rfl⟩ dL_areAlike_132 ?_
  refine hq_cSLp (As := [.ref _, .int _, .int _]) (rm := rL_orderOf) C (aq_orderOf _ _ h2 l D (b0 + 237) I2 J2 1 hlt) ws_L_orderOf ml_L_144 rfl rfl rfl rfl ⟨Nat.le_of_ble_eq_true rfl, Nat.le_of_ble_eq_true rfl⟩ (Nat.le_of_ble_eq_true rfl) ⟨Nat.le_of_ble_eq_true rfl, Nat.le_of_ble_eq_true rfl⟩ dL_areAlike_135 ?_
  refine hq_lcmp C dL_areAlike_138 ?_
  refine hq_if_ne (tgt := 194) C dL_areAlike_139 (by decide) (fun c_139 => absurd ((lg_cmp_eq _ _).mpr rfl) c_139) (fun c_139 => ?_)
  refine hq_aload_n (q := 2) C dL_areAlike_142 rfl rfl ?_
  refine hq_iload (q := 0) C dL_areAlike_143 rfl ?_
  refine hq_iload_n (q := 4) C dL_areAlike_145 rfl rfl ?_
  refine hq_bipush (y := 6) C dL_areAlike_146 (by decide) ?_
  refine hq_ishr C dL_areAlike_148 ?_
  refine hq_iconst (y := 3) C dL_areAlike_149 (by decide) ?_
  refine hq_cSr (As := [.int _, .int _]) (rm := rL_low) (Cn := "") C (m_L_low (by decide)) ws_L_low ml_L_92 rfl rfl rfl rfl ⟨Nat.le_of_ble_eq_true rfl, Nat.le_of_ble_eq_true rfl⟩ (Nat.le_of_ble_eq_true rfl) ⟨Nat.le_of_ble_eq_true rfl, Nat.le_of_ble_eq_true rfl⟩ dL_areAlike_150 ?_
  refine hq_cSLr (As := [.ref _, .int _, .int _]) (rm := rL_wayOf) (Cn := "") C (aq_wayOf _ _ h1 l D b0 I2 J2 0 hlt) ws_L_wayOf ml_L_142 rfl rfl rfl rfl ⟨Nat.le_of_ble_eq_true rfl, Nat.le_of_ble_eq_true rfl⟩ (Nat.le_of_ble_eq_true rfl) ⟨Nat.le_of_ble_eq_true rfl, Nat.le_of_ble_eq_true rfl⟩ dL_areAlike_153 ?_
  refine hq_aload_n (q := 3) C dL_areAlike_156 rfl rfl ?_
  refine hq_iload (q := 0) C dL_areAlike_157 rfl ?_
  refine hq_iload_n (q := 4) C dL_areAlike_159 rfl rfl ?_
  refine hq_bipush (y := 6) C dL_areAlike_160 (by decide) ?_
  refine hq_ishr C dL_areAlike_162 ?_
  refine hq_iconst (y := 3) C dL_areAlike_163 (by decide) ?_
  refine hq_cSr (As := [.int _, .int _]) (rm := rL_low) (Cn := "") C (m_L_low (by decide)) ws_L_low ml_L_92 rfl rfl rfl rfl ⟨Nat.le_of_ble_eq_true rfl, Nat.le_of_ble_eq_true rfl⟩ (Nat.le_of_ble_eq_true rfl) ⟨Nat.le_of_ble_eq_true rfl, Nat.le_of_ble_eq_true rfl⟩ dL_areAlike_164 ?_
  refine hq_cSLp (As := [.ref _, .int _, .int _]) (rm := rL_wayOf) C (aq_wayOf _ _ h2 l D (b0 + 237) I2 J2 1 hlt) ws_L_wayOf ml_L_142 rfl rfl rfl rfl ⟨Nat.le_of_ble_eq_true rfl, Nat.le_of_ble_eq_true rfl⟩ (Nat.le_of_ble_eq_true rfl) ⟨Nat.le_of_ble_eq_true rfl, Nat.le_of_ble_eq_true rfl⟩ dL_areAlike_167 ?_
  refine hq_lcmp C dL_areAlike_170 ?_
  refine hq_if_ne (tgt := 194) C dL_areAlike_171 (by decide) (fun c_171 => absurd ((lg_cmp_eq _ _).mpr rfl) c_171) (fun c_171 => ?_)
  refine hq_aload_n (q := 2) C dL_areAlike_174 rfl rfl ?_
  refine hq_iload (q := 0) C dL_areAlike_175 rfl ?_
  refine hq_cSLr (As := [.ref _, .int _]) (rm := rL_sum) (Cn := "") C (aq_sum _ h1 l D b0 I2 J2 0 hlt) ws_L_sum ml_L_146 rfl rfl rfl rfl ⟨Nat.le_of_ble_eq_true rfl, Nat.le_of_ble_eq_true rfl⟩ (Nat.le_of_ble_eq_true rfl) ⟨Nat.le_of_ble_eq_true rfl, Nat.le_of_ble_eq_true rfl⟩ dL_areAlike_177 ?_
  refine hq_aload_n (q := 3) C dL_areAlike_180 rfl rfl ?_
  refine hq_iload (q := 0) C dL_areAlike_181 rfl ?_
  refine hq_cSLp (As := [.ref _, .int _]) (rm := rL_sum) C (aq_sum _ h2 l D (b0 + 237) I2 J2 1 hlt) ws_L_sum ml_L_146 rfl rfl rfl rfl ⟨Nat.le_of_ble_eq_true rfl, Nat.le_of_ble_eq_true rfl⟩ (Nat.le_of_ble_eq_true rfl) ⟨Nat.le_of_ble_eq_true rfl, Nat.le_of_ble_eq_true rfl⟩ dL_areAlike_183 ?_
  refine hq_lcmp C dL_areAlike_186 ?_
  refine hq_if_ne (tgt := 194) C dL_areAlike_187 (by decide) (fun c_187 => absurd ((lg_cmp_eq _ _).mpr rfl) c_187) (fun c_187 => ?_)
  refine hq_iconst (y := 1) C dL_areAlike_190 (by decide) ?_
  refine hq_goto (tgt := 195) C dL_areAlike_191 (by decide) ?_
  refine hq_istore_n (L' := [(3, .int _), (4, .int _), (0, .ref _), (1, .ref _), (2, .int _)]) C dL_areAlike_195 rfl (by decide) rfl ?_
  refine hq_iinc (q := 1) (y := 1) (L' := [(4, .int _), (3, .int _), (0, .ref _), (1, .ref _), (2, .int _)]) C dL_areAlike_196 rfl (by decide) (by decide) rfl ?_
  refine hq_goto (tgt := 20) C dL_areAlike_199 (by decide) ?_
  refine hq_iload (q := 0) C dL_areAlike_20 rfl ?_
  refine hq_iconst (y := 5) C dL_areAlike_22 (by decide) ?_
  refine hq_icmp_ge (tgt := 202) C dL_areAlike_23 (by decide) (fun c_23 => absurd c_23 (by decide)) (fun _ => ?_)
  refine hq_iload_n (q := 1) C dL_areAlike_26 rfl rfl ?_
  refine hq_if_eq (tgt := 202) C dL_areAlike_27 (by decide) (fun c_27 => absurd c_27 (by decide)) (fun _ => ?_)
  refine hq_aload_n (q := 2) C dL_areAlike_30 rfl rfl ?_
  refine hq_iload (q := 0) C dL_areAlike_31 rfl ?_
  refine hq_iload_n (q := 4) C dL_areAlike_33 rfl rfl ?_
  refine hq_iconst (y := 4) C dL_areAlike_34 (by decide) ?_
  refine hq_cSr (As := [.int _, .int _]) (rm := rL_low) (Cn := "") C (m_L_low (by decide)) ws_L_low ml_L_92 rfl rfl rfl rfl ⟨Nat.le_of_ble_eq_true rfl, Nat.le_of_ble_eq_true rfl⟩ (Nat.le_of_ble_eq_true rfl) ⟨Nat.le_of_ble_eq_true rfl, Nat.le_of_ble_eq_true rfl⟩ dL_areAlike_35 ?_
  refine hq_cSLr (As := [.ref _, .int _, .int _]) (rm := rL_brokerOf) (Cn := "") C (aq_brokerOf _ _ h1 l D b0 I2 J2 0 hlt) ws_L_brokerOf ml_L_155 rfl rfl rfl rfl ⟨Nat.le_of_ble_eq_true rfl, Nat.le_of_ble_eq_true rfl⟩ (Nat.le_of_ble_eq_true rfl) ⟨Nat.le_of_ble_eq_true rfl, Nat.le_of_ble_eq_true rfl⟩ dL_areAlike_38 ?_
  refine hq_aload_n (q := 3) C dL_areAlike_41 rfl rfl ?_
  refine hq_iload (q := 0) C dL_areAlike_42 rfl ?_
  refine hq_iload_n (q := 4) C dL_areAlike_44 rfl rfl ?_
  refine hq_iconst (y := 4) C dL_areAlike_45 (by decide) ?_
  refine hq_cSr (As := [.int _, .int _]) (rm := rL_low) (Cn := "") C (m_L_low (by decide)) ws_L_low ml_L_92 rfl rfl rfl rfl ⟨Nat.le_of_ble_eq_true rfl, Nat.le_of_ble_eq_true rfl⟩ (Nat.le_of_ble_eq_true rfl) ⟨Nat.le_of_ble_eq_true rfl, Nat.le_of_ble_eq_true rfl⟩ dL_areAlike_46 ?_
  refine hq_cSLp (As := [.ref _, .int _, .int _]) (rm := rL_brokerOf) C (aq_brokerOf _ _ h2 l D (b0 + 237) I2 J2 1 hlt) ws_L_brokerOf ml_L_155 rfl rfl rfl rfl ⟨Nat.le_of_ble_eq_true rfl, Nat.le_of_ble_eq_true rfl⟩ (Nat.le_of_ble_eq_true rfl) ⟨Nat.le_of_ble_eq_true rfl, Nat.le_of_ble_eq_true rfl⟩ dL_areAlike_49 ?_
  refine hq_lcmp C dL_areAlike_52 ?_
  refine hq_if_ne (tgt := 194) C dL_areAlike_53 (by decide) (fun c_53 => absurd ((lg_cmp_eq _ _).mpr rfl) c_53) (fun c_53 => ?_)
  refine hq_aload_n (q := 2) C dL_areAlike_56 rfl rfl ?_
  refine hq_iload (q := 0) C dL_areAlike_57 rfl ?_
  refine hq_iload_n (q := 4) C dL_areAlike_59 rfl rfl ?_
  refine hq_iconst (y := 2) C dL_areAlike_60 (by decide) ?_
  refine hq_ishr C dL_areAlike_61 ?_
  refine hq_iconst (y := 5) C dL_areAlike_62 (by decide) ?_
  refine hq_cSr (As := [.int _, .int _]) (rm := rL_low) (Cn := "") C (m_L_low (by decide)) ws_L_low ml_L_92 rfl rfl rfl rfl ⟨Nat.le_of_ble_eq_true rfl, Nat.le_of_ble_eq_true rfl⟩ (Nat.le_of_ble_eq_true rfl) ⟨Nat.le_of_ble_eq_true rfl, Nat.le_of_ble_eq_true rfl⟩ dL_areAlike_63 ?_
  refine hq_iload_n (q := 4) C dL_areAlike_66 rfl rfl ?_
  refine hq_iconst (y := 1) C dL_areAlike_67 (by decide) ?_
  refine hq_iand C dL_areAlike_68 ?_
  refine hq_iconst (y := 1) C dL_areAlike_69 (by decide) ?_
  refine hq_icmp_ne (tgt := 77) C dL_areAlike_70 (by decide) (fun c_70 => absurd hb9 c_70) (fun c_70 => ?_)
  refine hq_iconst (y := 1) C dL_areAlike_73 (by decide) ?_
  refine hq_goto (tgt := 78) C dL_areAlike_74 (by decide) ?_
  refine hq_cSLr (As := [.ref _, .int _, .int _, .int _]) (rm := rL_debt) (Cn := "") C (aq_debt _ _ _ h1 l D b0 I2 J2 0 hlt) ws_L_debt ml_L_148 rfl rfl rfl rfl ⟨Nat.le_of_ble_eq_true rfl, Nat.le_of_ble_eq_true rfl⟩ (Nat.le_of_ble_eq_true rfl) ⟨Nat.le_of_ble_eq_true rfl, Nat.le_of_ble_eq_true rfl⟩ dL_areAlike_78 ?_
  refine hq_aload_n (q := 3) C dL_areAlike_81 rfl rfl ?_
  refine hq_iload (q := 0) C dL_areAlike_82 rfl ?_
  refine hq_iload_n (q := 4) C dL_areAlike_84 rfl rfl ?_
  refine hq_iconst (y := 2) C dL_areAlike_85 (by decide) ?_
  refine hq_ishr C dL_areAlike_86 ?_
  refine hq_iconst (y := 5) C dL_areAlike_87 (by decide) ?_
  refine hq_cSr (As := [.int _, .int _]) (rm := rL_low) (Cn := "") C (m_L_low (by decide)) ws_L_low ml_L_92 rfl rfl rfl rfl ⟨Nat.le_of_ble_eq_true rfl, Nat.le_of_ble_eq_true rfl⟩ (Nat.le_of_ble_eq_true rfl) ⟨Nat.le_of_ble_eq_true rfl, Nat.le_of_ble_eq_true rfl⟩ dL_areAlike_88 ?_
  refine hq_iload_n (q := 4) C dL_areAlike_91 rfl rfl ?_
  refine hq_iconst (y := 1) C dL_areAlike_92 (by decide) ?_
  refine hq_iand C dL_areAlike_93 ?_
  refine hq_iconst (y := 1) C dL_areAlike_94 (by decide) ?_
  refine hq_icmp_ne (tgt := 102) C dL_areAlike_95 (by decide) (fun c_95 => absurd hb9 c_95) (fun c_95 => ?_)
  refine hq_iconst (y := 1) C dL_areAlike_98 (by decide) ?_
  refine hq_goto (tgt := 103) C dL_areAlike_99 (by decide) ?_
  refine hq_cSLp (As := [.ref _, .int _, .int _, .int _]) (rm := rL_debt) C (aq_debt _ _ _ h2 l D (b0 + 237) I2 J2 1 hlt) ws_L_debt ml_L_148 rfl rfl rfl rfl ⟨Nat.le_of_ble_eq_true rfl, Nat.le_of_ble_eq_true rfl⟩ (Nat.le_of_ble_eq_true rfl) ⟨Nat.le_of_ble_eq_true rfl, Nat.le_of_ble_eq_true rfl⟩ dL_areAlike_103 ?_
  refine hq_lcmp C dL_areAlike_106 ?_
  refine hq_if_ne (tgt := 194) C dL_areAlike_107 (by decide) (fun c_107 => absurd ((lg_cmp_eq _ _).mpr rfl) c_107) (fun c_107 => ?_)
  refine hq_aload_n (q := 2) C dL_areAlike_110 rfl rfl ?_
  refine hq_iload (q := 0) C dL_areAlike_111 rfl ?_
  refine hq_iload_n (q := 4) C dL_areAlike_113 rfl rfl ?_
  refine hq_iconst (y := 4) C dL_areAlike_114 (by decide) ?_
  refine hq_ishr C dL_areAlike_115 ?_
  refine hq_bipush (y := 6) C dL_areAlike_116 (by decide) ?_
  refine hq_cSr (As := [.int _, .int _]) (rm := rL_low) (Cn := "") C (m_L_low (by decide)) ws_L_low ml_L_92 rfl rfl rfl rfl ⟨Nat.le_of_ble_eq_true rfl, Nat.le_of_ble_eq_true rfl⟩ (Nat.le_of_ble_eq_true rfl) ⟨Nat.le_of_ble_eq_true rfl, Nat.le_of_ble_eq_true rfl⟩ dL_areAlike_118 ?_
  refine hq_cSLr (As := [.ref _, .int _, .int _]) (rm := rL_orderOf) (Cn := "") C (aq_orderOf _ _ h1 l D b0 I2 J2 0 hlt) ws_L_orderOf ml_L_144 rfl rfl rfl rfl ⟨Nat.le_of_ble_eq_true rfl, Nat.le_of_ble_eq_true rfl⟩ (Nat.le_of_ble_eq_true rfl) ⟨Nat.le_of_ble_eq_true rfl, Nat.le_of_ble_eq_true rfl⟩ dL_areAlike_121 ?_
  refine hq_aload_n (q := 3) C dL_areAlike_124 rfl rfl ?_
  refine hq_iload (q := 0) C dL_areAlike_125 rfl ?_
  refine hq_iload_n (q := 4) C dL_areAlike_127 rfl rfl ?_
  refine hq_iconst (y := 4) C dL_areAlike_128 (by decide) ?_
  refine hq_ishr C dL_areAlike_129 ?_
  refine hq_bipush (y := 6) C dL_areAlike_130 (by decide) ?_
  refine hq_cSr (As := [.int _, .int _]) (rm := rL_low) (Cn := "") C (m_L_low (by decide)) ws_L_low ml_L_92 rfl rfl rfl rfl ⟨Nat.le_of_ble_eq_true rfl, Nat.le_of_ble_eq_true rfl⟩ (Nat.le_of_ble_eq_true rfl) ⟨Nat.le_of_ble_eq_true rfl, Nat.le_of_ble_eq_true rfl⟩ dL_areAlike_132 ?_
  refine hq_cSLp (As := [.ref _, .int _, .int _]) (rm := rL_orderOf) C (aq_orderOf _ _ h2 l D (b0 + 237) I2 J2 1 hlt) ws_L_orderOf ml_L_144 rfl rfl rfl rfl ⟨Nat.le_of_ble_eq_true rfl, Nat.le_of_ble_eq_true rfl⟩ (Nat.le_of_ble_eq_true rfl) ⟨Nat.le_of_ble_eq_true rfl, Nat.le_of_ble_eq_true rfl⟩ dL_areAlike_135 ?_
  refine hq_lcmp C dL_areAlike_138 ?_
  refine hq_if_ne (tgt := 194) C dL_areAlike_139 (by decide) (fun c_139 => absurd ((lg_cmp_eq _ _).mpr rfl) c_139) (fun c_139 => ?_)
  refine hq_aload_n (q := 2) C dL_areAlike_142 rfl rfl ?_
  refine hq_iload (q := 0) C dL_areAlike_143 rfl ?_
  refine hq_iload_n (q := 4) C dL_areAlike_145 rfl rfl ?_
  refine hq_bipush (y := 6) C dL_areAlike_146 (by decide) ?_
  refine hq_ishr C dL_areAlike_148 ?_
  refine hq_iconst (y := 3) C dL_areAlike_149 (by decide) ?_
  refine hq_cSr (As := [.int _, .int _]) (rm := rL_low) (Cn := "") C (m_L_low (by decide)) ws_L_low ml_L_92 rfl rfl rfl rfl ⟨Nat.le_of_ble_eq_true rfl, Nat.le_of_ble_eq_true rfl⟩ (Nat.le_of_ble_eq_true rfl) ⟨Nat.le_of_ble_eq_true rfl, Nat.le_of_ble_eq_true rfl⟩ dL_areAlike_150 ?_
  refine hq_cSLr (As := [.ref _, .int _, .int _]) (rm := rL_wayOf) (Cn := "") C (aq_wayOf _ _ h1 l D b0 I2 J2 0 hlt) ws_L_wayOf ml_L_142 rfl rfl rfl rfl ⟨Nat.le_of_ble_eq_true rfl, Nat.le_of_ble_eq_true rfl⟩ (Nat.le_of_ble_eq_true rfl) ⟨Nat.le_of_ble_eq_true rfl, Nat.le_of_ble_eq_true rfl⟩ dL_areAlike_153 ?_
  refine hq_aload_n (q := 3) C dL_areAlike_156 rfl rfl ?_
  refine hq_iload (q := 0) C dL_areAlike_157 rfl ?_
  refine hq_iload_n (q := 4) C dL_areAlike_159 rfl rfl ?_
  refine hq_bipush (y := 6) C dL_areAlike_160 (by decide) ?_
  refine hq_ishr C dL_areAlike_162 ?_
  refine hq_iconst (y := 3) C dL_areAlike_163 (by decide) ?_
  refine hq_cSr (As := [.int _, .int _]) (rm := rL_low) (Cn := "") C (m_L_low (by decide)) ws_L_low ml_L_92 rfl rfl rfl rfl ⟨Nat.le_of_ble_eq_true rfl, Nat.le_of_ble_eq_true rfl⟩ (Nat.le_of_ble_eq_true rfl) ⟨Nat.le_of_ble_eq_true rfl, Nat.le_of_ble_eq_true rfl⟩ dL_areAlike_164 ?_
  refine hq_cSLp (As := [.ref _, .int _, .int _]) (rm := rL_wayOf) C (aq_wayOf _ _ h2 l D (b0 + 237) I2 J2 1 hlt) ws_L_wayOf ml_L_142 rfl rfl rfl rfl ⟨Nat.le_of_ble_eq_true rfl, Nat.le_of_ble_eq_true rfl⟩ (Nat.le_of_ble_eq_true rfl) ⟨Nat.le_of_ble_eq_true rfl, Nat.le_of_ble_eq_true rfl⟩ dL_areAlike_167 ?_
  refine hq_lcmp C dL_areAlike_170 ?_
  refine hq_if_ne (tgt := 194) C dL_areAlike_171 (by decide) (fun c_171 => absurd ((lg_cmp_eq _ _).mpr rfl) c_171) (fun c_171 => ?_)
  refine hq_aload_n (q := 2) C dL_areAlike_174 rfl rfl ?_
  refine hq_iload (q := 0) C dL_areAlike_175 rfl ?_
  refine hq_cSLr (As := [.ref _, .int _]) (rm := rL_sum) (Cn := "") C (aq_sum _ h1 l D b0 I2 J2 0 hlt) ws_L_sum ml_L_146 rfl rfl rfl rfl ⟨Nat.le_of_ble_eq_true rfl, Nat.le_of_ble_eq_true rfl⟩ (Nat.le_of_ble_eq_true rfl) ⟨Nat.le_of_ble_eq_true rfl, Nat.le_of_ble_eq_true rfl⟩ dL_areAlike_177 ?_
  refine hq_aload_n (q := 3) C dL_areAlike_180 rfl rfl ?_
  refine hq_iload (q := 0) C dL_areAlike_181 rfl ?_
  refine hq_cSLp (As := [.ref _, .int _]) (rm := rL_sum) C (aq_sum _ h2 l D (b0 + 237) I2 J2 1 hlt) ws_L_sum ml_L_146 rfl rfl rfl rfl ⟨Nat.le_of_ble_eq_true rfl, Nat.le_of_ble_eq_true rfl⟩ (Nat.le_of_ble_eq_true rfl) ⟨Nat.le_of_ble_eq_true rfl, Nat.le_of_ble_eq_true rfl⟩ dL_areAlike_183 ?_
  refine hq_lcmp C dL_areAlike_186 ?_
  refine hq_if_ne (tgt := 194) C dL_areAlike_187 (by decide) (fun c_187 => absurd ((lg_cmp_eq _ _).mpr rfl) c_187) (fun c_187 => ?_)
  refine hq_iconst (y := 1) C dL_areAlike_190 (by decide) ?_
  refine hq_goto (tgt := 195) C dL_areAlike_191 (by decide) ?_
  refine hq_istore_n (L' := [(3, .int _), (4, .int _), (0, .ref _), (1, .ref _), (2, .int _)]) C dL_areAlike_195 rfl (by decide) rfl ?_
  refine hq_iinc (q := 1) (y := 2) (L' := [(4, .int _), (3, .int _), (0, .ref _), (1, .ref _), (2, .int _)]) C dL_areAlike_196 rfl (by decide) (by decide) rfl ?_
  refine hq_goto (tgt := 20) C dL_areAlike_199 (by decide) ?_
  refine hq_iload (q := 0) C dL_areAlike_20 rfl ?_
  refine hq_iconst (y := 5) C dL_areAlike_22 (by decide) ?_
  refine hq_icmp_ge (tgt := 202) C dL_areAlike_23 (by decide) (fun c_23 => absurd c_23 (by decide)) (fun _ => ?_)
  refine hq_iload_n (q := 1) C dL_areAlike_26 rfl rfl ?_
  refine hq_if_eq (tgt := 202) C dL_areAlike_27 (by decide) (fun c_27 => absurd c_27 (by decide)) (fun _ => ?_)
  refine hq_aload_n (q := 2) C dL_areAlike_30 rfl rfl ?_
  refine hq_iload (q := 0) C dL_areAlike_31 rfl ?_
  refine hq_iload_n (q := 4) C dL_areAlike_33 rfl rfl ?_
  refine hq_iconst (y := 4) C dL_areAlike_34 (by decide) ?_
  refine hq_cSr (As := [.int _, .int _]) (rm := rL_low) (Cn := "") C (m_L_low (by decide)) ws_L_low ml_L_92 rfl rfl rfl rfl ⟨Nat.le_of_ble_eq_true rfl, Nat.le_of_ble_eq_true rfl⟩ (Nat.le_of_ble_eq_true rfl) ⟨Nat.le_of_ble_eq_true rfl, Nat.le_of_ble_eq_true rfl⟩ dL_areAlike_35 ?_
  refine hq_cSLr (As := [.ref _, .int _, .int _]) (rm := rL_brokerOf) (Cn := "") C (aq_brokerOf _ _ h1 l D b0 I2 J2 0 hlt) ws_L_brokerOf ml_L_155 rfl rfl rfl rfl ⟨Nat.le_of_ble_eq_true rfl, Nat.le_of_ble_eq_true rfl⟩ (Nat.le_of_ble_eq_true rfl) ⟨Nat.le_of_ble_eq_true rfl, Nat.le_of_ble_eq_true rfl⟩ dL_areAlike_38 ?_
  refine hq_aload_n (q := 3) C dL_areAlike_41 rfl rfl ?_
  refine hq_iload (q := 0) C dL_areAlike_42 rfl ?_
  refine hq_iload_n (q := 4) C dL_areAlike_44 rfl rfl ?_
  refine hq_iconst (y := 4) C dL_areAlike_45 (by decide) ?_
  refine hq_cSr (As := [.int _, .int _]) (rm := rL_low) (Cn := "") C (m_L_low (by decide)) ws_L_low ml_L_92 rfl rfl rfl rfl ⟨Nat.le_of_ble_eq_true rfl, Nat.le_of_ble_eq_true rfl⟩ (Nat.le_of_ble_eq_true rfl) ⟨Nat.le_of_ble_eq_true rfl, Nat.le_of_ble_eq_true rfl⟩ dL_areAlike_46 ?_
  refine hq_cSLp (As := [.ref _, .int _, .int _]) (rm := rL_brokerOf) C (aq_brokerOf _ _ h2 l D (b0 + 237) I2 J2 1 hlt) ws_L_brokerOf ml_L_155 rfl rfl rfl rfl ⟨Nat.le_of_ble_eq_true rfl, Nat.le_of_ble_eq_true rfl⟩ (Nat.le_of_ble_eq_true rfl) ⟨Nat.le_of_ble_eq_true rfl, Nat.le_of_ble_eq_true rfl⟩ dL_areAlike_49 ?_
  refine hq_lcmp C dL_areAlike_52 ?_
  refine hq_if_ne (tgt := 194) C dL_areAlike_53 (by decide) (fun c_53 => absurd ((lg_cmp_eq _ _).mpr rfl) c_53) (fun c_53 => ?_)
  refine hq_aload_n (q := 2) C dL_areAlike_56 rfl rfl ?_
  refine hq_iload (q := 0) C dL_areAlike_57 rfl ?_
  refine hq_iload_n (q := 4) C dL_areAlike_59 rfl rfl ?_
  refine hq_iconst (y := 2) C dL_areAlike_60 (by decide) ?_
  refine hq_ishr C dL_areAlike_61 ?_
  refine hq_iconst (y := 5) C dL_areAlike_62 (by decide) ?_
  refine hq_cSr (As := [.int _, .int _]) (rm := rL_low) (Cn := "") C (m_L_low (by decide)) ws_L_low ml_L_92 rfl rfl rfl rfl ⟨Nat.le_of_ble_eq_true rfl, Nat.le_of_ble_eq_true rfl⟩ (Nat.le_of_ble_eq_true rfl) ⟨Nat.le_of_ble_eq_true rfl, Nat.le_of_ble_eq_true rfl⟩ dL_areAlike_63 ?_
  refine hq_iload_n (q := 4) C dL_areAlike_66 rfl rfl ?_
  refine hq_iconst (y := 1) C dL_areAlike_67 (by decide) ?_
  refine hq_iand C dL_areAlike_68 ?_
  refine hq_iconst (y := 1) C dL_areAlike_69 (by decide) ?_
  refine hq_icmp_ne (tgt := 77) C dL_areAlike_70 (by decide) (fun c_70 => absurd hb9 c_70) (fun c_70 => ?_)
  refine hq_iconst (y := 1) C dL_areAlike_73 (by decide) ?_
  refine hq_goto (tgt := 78) C dL_areAlike_74 (by decide) ?_
  refine hq_cSLr (As := [.ref _, .int _, .int _, .int _]) (rm := rL_debt) (Cn := "") C (aq_debt _ _ _ h1 l D b0 I2 J2 0 hlt) ws_L_debt ml_L_148 rfl rfl rfl rfl ⟨Nat.le_of_ble_eq_true rfl, Nat.le_of_ble_eq_true rfl⟩ (Nat.le_of_ble_eq_true rfl) ⟨Nat.le_of_ble_eq_true rfl, Nat.le_of_ble_eq_true rfl⟩ dL_areAlike_78 ?_
  refine hq_aload_n (q := 3) C dL_areAlike_81 rfl rfl ?_
  refine hq_iload (q := 0) C dL_areAlike_82 rfl ?_
  refine hq_iload_n (q := 4) C dL_areAlike_84 rfl rfl ?_
  refine hq_iconst (y := 2) C dL_areAlike_85 (by decide) ?_
  refine hq_ishr C dL_areAlike_86 ?_
  refine hq_iconst (y := 5) C dL_areAlike_87 (by decide) ?_
  refine hq_cSr (As := [.int _, .int _]) (rm := rL_low) (Cn := "") C (m_L_low (by decide)) ws_L_low ml_L_92 rfl rfl rfl rfl ⟨Nat.le_of_ble_eq_true rfl, Nat.le_of_ble_eq_true rfl⟩ (Nat.le_of_ble_eq_true rfl) ⟨Nat.le_of_ble_eq_true rfl, Nat.le_of_ble_eq_true rfl⟩ dL_areAlike_88 ?_
  refine hq_iload_n (q := 4) C dL_areAlike_91 rfl rfl ?_
  refine hq_iconst (y := 1) C dL_areAlike_92 (by decide) ?_
  refine hq_iand C dL_areAlike_93 ?_
  refine hq_iconst (y := 1) C dL_areAlike_94 (by decide) ?_
  refine hq_icmp_ne (tgt := 102) C dL_areAlike_95 (by decide) (fun c_95 => absurd hb9 c_95) (fun c_95 => ?_)
  refine hq_iconst (y := 1) C dL_areAlike_98 (by decide) ?_
  refine hq_goto (tgt := 103) C dL_areAlike_99 (by decide) ?_
  refine hq_cSLp (As := [.ref _, .int _, .int _, .int _]) (rm := rL_debt) C (aq_debt _ _ _ h2 l D (b0 + 237) I2 J2 1 hlt) ws_L_debt ml_L_148 rfl rfl rfl rfl ⟨Nat.le_of_ble_eq_true rfl, Nat.le_of_ble_eq_true rfl⟩ (Nat.le_of_ble_eq_true rfl) ⟨Nat.le_of_ble_eq_true rfl, Nat.le_of_ble_eq_true rfl⟩ dL_areAlike_103 ?_
  refine hq_lcmp C dL_areAlike_106 ?_
  refine hq_if_ne (tgt := 194) C dL_areAlike_107 (by decide) (fun c_107 => absurd ((lg_cmp_eq _ _).mpr rfl) c_107) (fun c_107 => ?_)
  refine hq_aload_n (q := 2) C dL_areAlike_110 rfl rfl ?_
  refine hq_iload (q := 0) C dL_areAlike_111 rfl ?_
  refine hq_iload_n (q := 4) C dL_areAlike_113 rfl rfl ?_
  refine hq_iconst (y := 4) C dL_areAlike_114 (by decide) ?_
  refine hq_ishr C dL_areAlike_115 ?_
  refine hq_bipush (y := 6) C dL_areAlike_116 (by decide) ?_
  refine hq_cSr (As := [.int _, .int _]) (rm := rL_low) (Cn := "") C (m_L_low (by decide)) ws_L_low ml_L_92 rfl rfl rfl rfl ⟨Nat.le_of_ble_eq_true rfl, Nat.le_of_ble_eq_true rfl⟩ (Nat.le_of_ble_eq_true rfl) ⟨Nat.le_of_ble_eq_true rfl, Nat.le_of_ble_eq_true rfl⟩ dL_areAlike_118 ?_
  refine hq_cSLr (As := [.ref _, .int _, .int _]) (rm := rL_orderOf) (Cn := "") C (aq_orderOf _ _ h1 l D b0 I2 J2 0 hlt) ws_L_orderOf ml_L_144 rfl rfl rfl rfl ⟨Nat.le_of_ble_eq_true rfl, Nat.le_of_ble_eq_true rfl⟩ (Nat.le_of_ble_eq_true rfl) ⟨Nat.le_of_ble_eq_true rfl, Nat.le_of_ble_eq_true rfl⟩ dL_areAlike_121 ?_
  refine hq_aload_n (q := 3) C dL_areAlike_124 rfl rfl ?_
  refine hq_iload (q := 0) C dL_areAlike_125 rfl ?_
  refine hq_iload_n (q := 4) C dL_areAlike_127 rfl rfl ?_
  refine hq_iconst (y := 4) C dL_areAlike_128 (by decide) ?_
  refine hq_ishr C dL_areAlike_129 ?_
  refine hq_bipush (y := 6) C dL_areAlike_130 (by decide) ?_
  refine hq_cSr (As := [.int _, .int _]) (rm := rL_low) (Cn := "") C (m_L_low (by decide)) ws_L_low ml_L_92 rfl rfl rfl rfl ⟨Nat.le_of_ble_eq_true rfl, Nat.le_of_ble_eq_true rfl⟩ (Nat.le_of_ble_eq_true rfl) ⟨Nat.le_of_ble_eq_true rfl, Nat.le_of_ble_eq_true rfl⟩ dL_areAlike_132 ?_
  refine hq_cSLp (As := [.ref _, .int _, .int _]) (rm := rL_orderOf) C (aq_orderOf _ _ h2 l D (b0 + 237) I2 J2 1 hlt) ws_L_orderOf ml_L_144 rfl rfl rfl rfl ⟨Nat.le_of_ble_eq_true rfl, Nat.le_of_ble_eq_true rfl⟩ (Nat.le_of_ble_eq_true rfl) ⟨Nat.le_of_ble_eq_true rfl, Nat.le_of_ble_eq_true rfl⟩ dL_areAlike_135 ?_
  refine hq_lcmp C dL_areAlike_138 ?_
  refine hq_if_ne (tgt := 194) C dL_areAlike_139 (by decide) (fun c_139 => absurd ((lg_cmp_eq _ _).mpr rfl) c_139) (fun c_139 => ?_)
  refine hq_aload_n (q := 2) C dL_areAlike_142 rfl rfl ?_
  refine hq_iload (q := 0) C dL_areAlike_143 rfl ?_
  refine hq_iload_n (q := 4) C dL_areAlike_145 rfl rfl ?_
  refine hq_bipush (y := 6) C dL_areAlike_146 (by decide) ?_
  refine hq_ishr C dL_areAlike_148 ?_
  refine hq_iconst (y := 3) C dL_areAlike_149 (by decide) ?_
  refine hq_cSr (As := [.int _, .int _]) (rm := rL_low) (Cn := "") C (m_L_low (by decide)) ws_L_low ml_L_92 rfl rfl rfl rfl ⟨Nat.le_of_ble_eq_true rfl, Nat.le_of_ble_eq_true rfl⟩ (Nat.le_of_ble_eq_true rfl) ⟨Nat.le_of_ble_eq_true rfl, Nat.le_of_ble_eq_true rfl⟩ dL_areAlike_150 ?_
  refine hq_cSLr (As := [.ref _, .int _, .int _]) (rm := rL_wayOf) (Cn := "") C (aq_wayOf _ _ h1 l D b0 I2 J2 0 hlt) ws_L_wayOf ml_L_142 rfl rfl rfl rfl ⟨Nat.le_of_ble_eq_true rfl, Nat.le_of_ble_eq_true rfl⟩ (Nat.le_of_ble_eq_true rfl) ⟨Nat.le_of_ble_eq_true rfl, Nat.le_of_ble_eq_true rfl⟩ dL_areAlike_153 ?_
  refine hq_aload_n (q := 3) C dL_areAlike_156 rfl rfl ?_
  refine hq_iload (q := 0) C dL_areAlike_157 rfl ?_
  refine hq_iload_n (q := 4) C dL_areAlike_159 rfl rfl ?_
  refine hq_bipush (y := 6) C dL_areAlike_160 (by decide) ?_
  refine hq_ishr C dL_areAlike_162 ?_
  refine hq_iconst (y := 3) C dL_areAlike_163 (by decide) ?_
  refine hq_cSr (As := [.int _, .int _]) (rm := rL_low) (Cn := "") C (m_L_low (by decide)) ws_L_low ml_L_92 rfl rfl rfl rfl ⟨Nat.le_of_ble_eq_true rfl, Nat.le_of_ble_eq_true rfl⟩ (Nat.le_of_ble_eq_true rfl) ⟨Nat.le_of_ble_eq_true rfl, Nat.le_of_ble_eq_true rfl⟩ dL_areAlike_164 ?_
  refine hq_cSLp (As := [.ref _, .int _, .int _]) (rm := rL_wayOf) C (aq_wayOf _ _ h2 l D (b0 + 237) I2 J2 1 hlt) ws_L_wayOf ml_L_142 rfl rfl rfl rfl ⟨Nat.le_of_ble_eq_true rfl, Nat.le_of_ble_eq_true rfl⟩ (Nat.le_of_ble_eq_true rfl) ⟨Nat.le_of_ble_eq_true rfl, Nat.le_of_ble_eq_true rfl⟩ dL_areAlike_167 ?_
  refine hq_lcmp C dL_areAlike_170 ?_
  refine hq_if_ne (tgt := 194) C dL_areAlike_171 (by decide) (fun c_171 => absurd ((lg_cmp_eq _ _).mpr rfl) c_171) (fun c_171 => ?_)
  refine hq_aload_n (q := 2) C dL_areAlike_174 rfl rfl ?_
  refine hq_iload (q := 0) C dL_areAlike_175 rfl ?_
  refine hq_cSLr (As := [.ref _, .int _]) (rm := rL_sum) (Cn := "") C (aq_sum _ h1 l D b0 I2 J2 0 hlt) ws_L_sum ml_L_146 rfl rfl rfl rfl ⟨Nat.le_of_ble_eq_true rfl, Nat.le_of_ble_eq_true rfl⟩ (Nat.le_of_ble_eq_true rfl) ⟨Nat.le_of_ble_eq_true rfl, Nat.le_of_ble_eq_true rfl⟩ dL_areAlike_177 ?_
  refine hq_aload_n (q := 3) C dL_areAlike_180 rfl rfl ?_
  refine hq_iload (q := 0) C dL_areAlike_181 rfl ?_
  refine hq_cSLp (As := [.ref _, .int _]) (rm := rL_sum) C (aq_sum _ h2 l D (b0 + 237) I2 J2 1 hlt) ws_L_sum ml_L_146 rfl rfl rfl rfl ⟨Nat.le_of_ble_eq_true rfl, Nat.le_of_ble_eq_true rfl⟩ (Nat.le_of_ble_eq_true rfl) ⟨Nat.le_of_ble_eq_true rfl, Nat.le_of_ble_eq_true rfl⟩ dL_areAlike_183 ?_
  refine hq_lcmp C dL_areAlike_186 ?_
  refine hq_if_ne (tgt := 194) C dL_areAlike_187 (by decide) (fun c_187 => absurd ((lg_cmp_eq _ _).mpr rfl) c_187) (fun c_187 => ?_)
  refine hq_iconst (y := 1) C dL_areAlike_190 (by decide) ?_
  refine hq_goto (tgt := 195) C dL_areAlike_191 (by decide) ?_
  refine hq_istore_n (L' := [(3, .int _), (4, .int _), (0, .ref _), (1, .ref _), (2, .int _)]) C dL_areAlike_195 rfl (by decide) rfl ?_
  refine hq_iinc (q := 1) (y := 3) (L' := [(4, .int _), (3, .int _), (0, .ref _), (1, .ref _), (2, .int _)]) C dL_areAlike_196 rfl (by decide) (by decide) rfl ?_
  refine hq_goto (tgt := 20) C dL_areAlike_199 (by decide) ?_
  refine hq_iload (q := 0) C dL_areAlike_20 rfl ?_
  refine hq_iconst (y := 5) C dL_areAlike_22 (by decide) ?_
  refine hq_icmp_ge (tgt := 202) C dL_areAlike_23 (by decide) (fun c_23 => absurd c_23 (by decide)) (fun _ => ?_)
  refine hq_iload_n (q := 1) C dL_areAlike_26 rfl rfl ?_
  refine hq_if_eq (tgt := 202) C dL_areAlike_27 (by decide) (fun c_27 => absurd c_27 (by decide)) (fun _ => ?_)
  refine hq_aload_n (q := 2) C dL_areAlike_30 rfl rfl ?_
  refine hq_iload (q := 0) C dL_areAlike_31 rfl ?_
  refine hq_iload_n (q := 4) C dL_areAlike_33 rfl rfl ?_
  refine hq_iconst (y := 4) C dL_areAlike_34 (by decide) ?_
  refine hq_cSr (As := [.int _, .int _]) (rm := rL_low) (Cn := "") C (m_L_low (by decide)) ws_L_low ml_L_92 rfl rfl rfl rfl ⟨Nat.le_of_ble_eq_true rfl, Nat.le_of_ble_eq_true rfl⟩ (Nat.le_of_ble_eq_true rfl) ⟨Nat.le_of_ble_eq_true rfl, Nat.le_of_ble_eq_true rfl⟩ dL_areAlike_35 ?_
  refine hq_cSLr (As := [.ref _, .int _, .int _]) (rm := rL_brokerOf) (Cn := "") C (aq_brokerOf _ _ h1 l D b0 I2 J2 0 hlt) ws_L_brokerOf ml_L_155 rfl rfl rfl rfl ⟨Nat.le_of_ble_eq_true rfl, Nat.le_of_ble_eq_true rfl⟩ (Nat.le_of_ble_eq_true rfl) ⟨Nat.le_of_ble_eq_true rfl, Nat.le_of_ble_eq_true rfl⟩ dL_areAlike_38 ?_
  refine hq_aload_n (q := 3) C dL_areAlike_41 rfl rfl ?_
  refine hq_iload (q := 0) C dL_areAlike_42 rfl ?_
  refine hq_iload_n (q := 4) C dL_areAlike_44 rfl rfl ?_
  refine hq_iconst (y := 4) C dL_areAlike_45 (by decide) ?_
  refine hq_cSr (As := [.int _, .int _]) (rm := rL_low) (Cn := "") C (m_L_low (by decide)) ws_L_low ml_L_92 rfl rfl rfl rfl ⟨Nat.le_of_ble_eq_true rfl, Nat.le_of_ble_eq_true rfl⟩ (Nat.le_of_ble_eq_true rfl) ⟨Nat.le_of_ble_eq_true rfl, Nat.le_of_ble_eq_true rfl⟩ dL_areAlike_46 ?_
  refine hq_cSLp (As := [.ref _, .int _, .int _]) (rm := rL_brokerOf) C (aq_brokerOf _ _ h2 l D (b0 + 237) I2 J2 1 hlt) ws_L_brokerOf ml_L_155 rfl rfl rfl rfl ⟨Nat.le_of_ble_eq_true rfl, Nat.le_of_ble_eq_true rfl⟩ (Nat.le_of_ble_eq_true rfl) ⟨Nat.le_of_ble_eq_true rfl, Nat.le_of_ble_eq_true rfl⟩ dL_areAlike_49 ?_
  refine hq_lcmp C dL_areAlike_52 ?_
  refine hq_if_ne (tgt := 194) C dL_areAlike_53 (by decide) (fun c_53 => absurd ((lg_cmp_eq _ _).mpr rfl) c_53) (fun c_53 => ?_)
  refine hq_aload_n (q := 2) C dL_areAlike_56 rfl rfl ?_
  refine hq_iload (q := 0) C dL_areAlike_57 rfl ?_
  refine hq_iload_n (q := 4) C dL_areAlike_59 rfl rfl ?_
  refine hq_iconst (y := 2) C dL_areAlike_60 (by decide) ?_
  refine hq_ishr C dL_areAlike_61 ?_
  refine hq_iconst (y := 5) C dL_areAlike_62 (by decide) ?_
  refine hq_cSr (As := [.int _, .int _]) (rm := rL_low) (Cn := "") C (m_L_low (by decide)) ws_L_low ml_L_92 rfl rfl rfl rfl ⟨Nat.le_of_ble_eq_true rfl, Nat.le_of_ble_eq_true rfl⟩ (Nat.le_of_ble_eq_true rfl) ⟨Nat.le_of_ble_eq_true rfl, Nat.le_of_ble_eq_true rfl⟩ dL_areAlike_63 ?_
  refine hq_iload_n (q := 4) C dL_areAlike_66 rfl rfl ?_
  refine hq_iconst (y := 1) C dL_areAlike_67 (by decide) ?_
  refine hq_iand C dL_areAlike_68 ?_
  refine hq_iconst (y := 1) C dL_areAlike_69 (by decide) ?_
  refine hq_icmp_ne (tgt := 77) C dL_areAlike_70 (by decide) (fun c_70 => absurd hb9 c_70) (fun c_70 => ?_)
  refine hq_iconst (y := 1) C dL_areAlike_73 (by decide) ?_
  refine hq_goto (tgt := 78) C dL_areAlike_74 (by decide) ?_
  refine hq_cSLr (As := [.ref _, .int _, .int _, .int _]) (rm := rL_debt) (Cn := "") C (aq_debt _ _ _ h1 l D b0 I2 J2 0 hlt) ws_L_debt ml_L_148 rfl rfl rfl rfl ⟨Nat.le_of_ble_eq_true rfl, Nat.le_of_ble_eq_true rfl⟩ (Nat.le_of_ble_eq_true rfl) ⟨Nat.le_of_ble_eq_true rfl, Nat.le_of_ble_eq_true rfl⟩ dL_areAlike_78 ?_
  refine hq_aload_n (q := 3) C dL_areAlike_81 rfl rfl ?_
  refine hq_iload (q := 0) C dL_areAlike_82 rfl ?_
  refine hq_iload_n (q := 4) C dL_areAlike_84 rfl rfl ?_
  refine hq_iconst (y := 2) C dL_areAlike_85 (by decide) ?_
  refine hq_ishr C dL_areAlike_86 ?_
  refine hq_iconst (y := 5) C dL_areAlike_87 (by decide) ?_
  refine hq_cSr (As := [.int _, .int _]) (rm := rL_low) (Cn := "") C (m_L_low (by decide)) ws_L_low ml_L_92 rfl rfl rfl rfl ⟨Nat.le_of_ble_eq_true rfl, Nat.le_of_ble_eq_true rfl⟩ (Nat.le_of_ble_eq_true rfl) ⟨Nat.le_of_ble_eq_true rfl, Nat.le_of_ble_eq_true rfl⟩ dL_areAlike_88 ?_
  refine hq_iload_n (q := 4) C dL_areAlike_91 rfl rfl ?_
  refine hq_iconst (y := 1) C dL_areAlike_92 (by decide) ?_
  refine hq_iand C dL_areAlike_93 ?_
  refine hq_iconst (y := 1) C dL_areAlike_94 (by decide) ?_
  refine hq_icmp_ne (tgt := 102) C dL_areAlike_95 (by decide) (fun c_95 => absurd hb9 c_95) (fun c_95 => ?_)
  refine hq_iconst (y := 1) C dL_areAlike_98 (by decide) ?_
  refine hq_goto (tgt := 103) C dL_areAlike_99 (by decide) ?_
  refine hq_cSLp (As := [.ref _, .int _, .int _, .int _]) (rm := rL_debt) C (aq_debt _ _ _ h2 l D (b0 + 237) I2 J2 1 hlt) ws_L_debt ml_L_148 rfl rfl rfl rfl ⟨Nat.le_of_ble_eq_true rfl, Nat.le_of_ble_eq_true rfl⟩ (Nat.le_of_ble_eq_true rfl) ⟨Nat.le_of_ble_eq_true rfl, Nat.le_of_ble_eq_true rfl⟩ dL_areAlike_103 ?_
  refine hq_lcmp C dL_areAlike_106 ?_
  refine hq_if_ne (tgt := 194) C dL_areAlike_107 (by decide) (fun c_107 => absurd ((lg_cmp_eq _ _).mpr rfl) c_107) (fun c_107 => ?_)
  refine hq_aload_n (q := 2) C dL_areAlike_110 rfl rfl ?_
  refine hq_iload (q := 0) C dL_areAlike_111 rfl ?_
  refine hq_iload_n (q := 4) C dL_areAlike_113 rfl rfl ?_
  refine hq_iconst (y := 4) C dL_areAlike_114 (by decide) ?_
  refine hq_ishr C dL_areAlike_115 ?_
  refine hq_bipush (y := 6) C dL_areAlike_116 (by decide) ?_
  refine hq_cSr (As := [.int _, .int _]) (rm := rL_low) (Cn := "") C (m_L_low (by decide)) ws_L_low ml_L_92 rfl rfl rfl rfl ⟨Nat.le_of_ble_eq_true rfl, Nat.le_of_ble_eq_true rfl⟩ (Nat.le_of_ble_eq_true rfl) ⟨Nat.le_of_ble_eq_true rfl, Nat.le_of_ble_eq_true rfl⟩ dL_areAlike_118 ?_
  refine hq_cSLr (As := [.ref _, .int _, .int _]) (rm := rL_orderOf) (Cn := "") C (aq_orderOf _ _ h1 l D b0 I2 J2 0 hlt) ws_L_orderOf ml_L_144 rfl rfl rfl rfl ⟨Nat.le_of_ble_eq_true rfl, Nat.le_of_ble_eq_true rfl⟩ (Nat.le_of_ble_eq_true rfl) ⟨Nat.le_of_ble_eq_true rfl, Nat.le_of_ble_eq_true rfl⟩ dL_areAlike_121 ?_
  refine hq_aload_n (q := 3) C dL_areAlike_124 rfl rfl ?_
  refine hq_iload (q := 0) C dL_areAlike_125 rfl ?_
  refine hq_iload_n (q := 4) C dL_areAlike_127 rfl rfl ?_
  refine hq_iconst (y := 4) C dL_areAlike_128 (by decide) ?_
  refine hq_ishr C dL_areAlike_129 ?_
  refine hq_bipush (y := 6) C dL_areAlike_130 (by decide) ?_
  refine hq_cSr (As := [.int _, .int _]) (rm := rL_low) (Cn := "") C (m_L_low (by decide)) ws_L_low ml_L_92 rfl rfl rfl rfl ⟨Nat.le_of_ble_eq_true rfl, Nat.le_of_ble_eq_true rfl⟩ (Nat.le_of_ble_eq_true rfl) ⟨Nat.le_of_ble_eq_true rfl, Nat.le_of_ble_eq_true rfl⟩ dL_areAlike_132 ?_
  refine hq_cSLp (As := [.ref _, .int _, .int _]) (rm := rL_orderOf) C (aq_orderOf _ _ h2 l D (b0 + 237) I2 J2 1 hlt) ws_L_orderOf ml_L_144 rfl rfl rfl rfl ⟨Nat.le_of_ble_eq_true rfl, Nat.le_of_ble_eq_true rfl⟩ (Nat.le_of_ble_eq_true rfl) ⟨Nat.le_of_ble_eq_true rfl, Nat.le_of_ble_eq_true rfl⟩ dL_areAlike_135 ?_
  refine hq_lcmp C dL_areAlike_138 ?_
  refine hq_if_ne (tgt := 194) C dL_areAlike_139 (by decide) (fun c_139 => absurd ((lg_cmp_eq _ _).mpr rfl) c_139) (fun c_139 => ?_)
  refine hq_aload_n (q := 2) C dL_areAlike_142 rfl rfl ?_
  refine hq_iload (q := 0) C dL_areAlike_143 rfl ?_
  refine hq_iload_n (q := 4) C dL_areAlike_145 rfl rfl ?_
  refine hq_bipush (y := 6) C dL_areAlike_146 (by decide) ?_
  refine hq_ishr C dL_areAlike_148 ?_
  refine hq_iconst (y := 3) C dL_areAlike_149 (by decide) ?_
  refine hq_cSr (As := [.int _, .int _]) (rm := rL_low) (Cn := "") C (m_L_low (by decide)) ws_L_low ml_L_92 rfl rfl rfl rfl ⟨Nat.le_of_ble_eq_true rfl, Nat.le_of_ble_eq_true rfl⟩ (Nat.le_of_ble_eq_true rfl) ⟨Nat.le_of_ble_eq_true rfl, Nat.le_of_ble_eq_true rfl⟩ dL_areAlike_150 ?_
  refine hq_cSLr (As := [.ref _, .int _, .int _]) (rm := rL_wayOf) (Cn := "") C (aq_wayOf _ _ h1 l D b0 I2 J2 0 hlt) ws_L_wayOf ml_L_142 rfl rfl rfl rfl ⟨Nat.le_of_ble_eq_true rfl, Nat.le_of_ble_eq_true rfl⟩ (Nat.le_of_ble_eq_true rfl) ⟨Nat.le_of_ble_eq_true rfl, Nat.le_of_ble_eq_true rfl⟩ dL_areAlike_153 ?_
  refine hq_aload_n (q := 3) C dL_areAlike_156 rfl rfl ?_
  refine hq_iload (q := 0) C dL_areAlike_157 rfl ?_
  refine hq_iload_n (q := 4) C dL_areAlike_159 rfl rfl ?_
  refine hq_bipush (y := 6) C dL_areAlike_160 (by decide) ?_
  refine hq_ishr C dL_areAlike_162 ?_
  refine hq_iconst (y := 3) C dL_areAlike_163 (by decide) ?_
  refine hq_cSr (As := [.int _, .int _]) (rm := rL_low) (Cn := "") C (m_L_low (by decide)) ws_L_low ml_L_92 rfl rfl rfl rfl ⟨Nat.le_of_ble_eq_true rfl, Nat.le_of_ble_eq_true rfl⟩ (Nat.le_of_ble_eq_true rfl) ⟨Nat.le_of_ble_eq_true rfl, Nat.le_of_ble_eq_true rfl⟩ dL_areAlike_164 ?_
  refine hq_cSLp (As := [.ref _, .int _, .int _]) (rm := rL_wayOf) C (aq_wayOf _ _ h2 l D (b0 + 237) I2 J2 1 hlt) ws_L_wayOf ml_L_142 rfl rfl rfl rfl ⟨Nat.le_of_ble_eq_true rfl, Nat.le_of_ble_eq_true rfl⟩ (Nat.le_of_ble_eq_true rfl) ⟨Nat.le_of_ble_eq_true rfl, Nat.le_of_ble_eq_true rfl⟩ dL_areAlike_167 ?_
  refine hq_lcmp C dL_areAlike_170 ?_
  refine hq_if_ne (tgt := 194) C dL_areAlike_171 (by decide) (fun c_171 => absurd ((lg_cmp_eq _ _).mpr rfl) c_171) (fun c_171 => ?_)
  refine hq_aload_n (q := 2) C dL_areAlike_174 rfl rfl ?_
  refine hq_iload (q := 0) C dL_areAlike_175 rfl ?_
  refine hq_cSLr (As := [.ref _, .int _]) (rm := rL_sum) (Cn := "") C (aq_sum _ h1 l D b0 I2 J2 0 hlt) ws_L_sum ml_L_146 rfl rfl rfl rfl ⟨Nat.le_of_ble_eq_true rfl, Nat.le_of_ble_eq_true rfl⟩ (Nat.le_of_ble_eq_true rfl) ⟨Nat.le_of_ble_eq_true rfl, Nat.le_of_ble_eq_true rfl⟩ dL_areAlike_177 ?_
  refine hq_aload_n (q := 3) C dL_areAlike_180 rfl rfl ?_
  refine hq_iload (q := 0) C dL_areAlike_181 rfl ?_
  refine hq_cSLp (As := [.ref _, .int _]) (rm := rL_sum) C (aq_sum _ h2 l D (b0 + 237) I2 J2 1 hlt) ws_L_sum ml_L_146 rfl rfl rfl rfl ⟨Nat.le_of_ble_eq_true rfl, Nat.le_of_ble_eq_true rfl⟩ (Nat.le_of_ble_eq_true rfl) ⟨Nat.le_of_ble_eq_true rfl, Nat.le_of_ble_eq_true rfl⟩ dL_areAlike_183 ?_
  refine hq_lcmp C dL_areAlike_186 ?_
  refine hq_if_ne (tgt := 194) C dL_areAlike_187 (by decide) (fun c_187 => absurd ((lg_cmp_eq _ _).mpr rfl) c_187) (fun c_187 => ?_)
  refine hq_iconst (y := 1) C dL_areAlike_190 (by decide) ?_
  refine hq_goto (tgt := 195) C dL_areAlike_191 (by decide) ?_
  refine hq_istore_n (L' := [(3, .int _), (4, .int _), (0, .ref _), (1, .ref _), (2, .int _)]) C dL_areAlike_195 rfl (by decide) rfl ?_
  refine hq_iinc (q := 1) (y := 4) (L' := [(4, .int _), (3, .int _), (0, .ref _), (1, .ref _), (2, .int _)]) C dL_areAlike_196 rfl (by decide) (by decide) rfl ?_
  refine hq_goto (tgt := 20) C dL_areAlike_199 (by decide) ?_
  refine hq_iload (q := 0) C dL_areAlike_20 rfl ?_
  refine hq_iconst (y := 5) C dL_areAlike_22 (by decide) ?_
  refine hq_icmp_ge (tgt := 202) C dL_areAlike_23 (by decide) (fun c_23 => absurd c_23 (by decide)) (fun _ => ?_)
  refine hq_iload_n (q := 1) C dL_areAlike_26 rfl rfl ?_
  refine hq_if_eq (tgt := 202) C dL_areAlike_27 (by decide) (fun c_27 => absurd c_27 (by decide)) (fun _ => ?_)
  refine hq_aload_n (q := 2) C dL_areAlike_30 rfl rfl ?_
  refine hq_iload (q := 0) C dL_areAlike_31 rfl ?_
  refine hq_iload_n (q := 4) C dL_areAlike_33 rfl rfl ?_
  refine hq_iconst (y := 4) C dL_areAlike_34 (by decide) ?_
  refine hq_cSr (As := [.int _, .int _]) (rm := rL_low) (Cn := "") C (m_L_low (by decide)) ws_L_low ml_L_92 rfl rfl rfl rfl ⟨Nat.le_of_ble_eq_true rfl, Nat.le_of_ble_eq_true rfl⟩ (Nat.le_of_ble_eq_true rfl) ⟨Nat.le_of_ble_eq_true rfl, Nat.le_of_ble_eq_true rfl⟩ dL_areAlike_35 ?_
  refine hq_cSLr (As := [.ref _, .int _, .int _]) (rm := rL_brokerOf) (Cn := "") C (aq_brokerOf _ _ h1 l D b0 I2 J2 0 hlt) ws_L_brokerOf ml_L_155 rfl rfl rfl rfl ⟨Nat.le_of_ble_eq_true rfl, Nat.le_of_ble_eq_true rfl⟩ (Nat.le_of_ble_eq_true rfl) ⟨Nat.le_of_ble_eq_true rfl, Nat.le_of_ble_eq_true rfl⟩ dL_areAlike_38 ?_
  refine hq_aload_n (q := 3) C dL_areAlike_41 rfl rfl ?_
  refine hq_iload (q := 0) C dL_areAlike_42 rfl ?_
  refine hq_iload_n (q := 4) C dL_areAlike_44 rfl rfl ?_
  refine hq_iconst (y := 4) C dL_areAlike_45 (by decide) ?_
  refine hq_cSr (As := [.int _, .int _]) (rm := rL_low) (Cn := "") C (m_L_low (by decide)) ws_L_low ml_L_92 rfl rfl rfl rfl ⟨Nat.le_of_ble_eq_true rfl, Nat.le_of_ble_eq_true rfl⟩ (Nat.le_of_ble_eq_true rfl) ⟨Nat.le_of_ble_eq_true rfl, Nat.le_of_ble_eq_true rfl⟩ dL_areAlike_46 ?_
  refine hq_cSLp (As := [.ref _, .int _, .int _]) (rm := rL_brokerOf) C (aq_brokerOf _ _ h2 l D (b0 + 237) I2 J2 1 hlt) ws_L_brokerOf ml_L_155 rfl rfl rfl rfl ⟨Nat.le_of_ble_eq_true rfl, Nat.le_of_ble_eq_true rfl⟩ (Nat.le_of_ble_eq_true rfl) ⟨Nat.le_of_ble_eq_true rfl, Nat.le_of_ble_eq_true rfl⟩ dL_areAlike_49 ?_
  refine hq_lcmp C dL_areAlike_52 ?_
  refine hq_if_ne (tgt := 194) C dL_areAlike_53 (by decide) (fun c_53 => absurd ((lg_cmp_eq _ _).mpr rfl) c_53) (fun c_53 => ?_)
  refine hq_aload_n (q := 2) C dL_areAlike_56 rfl rfl ?_
  refine hq_iload (q := 0) C dL_areAlike_57 rfl ?_
  refine hq_iload_n (q := 4) C dL_areAlike_59 rfl rfl ?_
  refine hq_iconst (y := 2) C dL_areAlike_60 (by decide) ?_
  refine hq_ishr C dL_areAlike_61 ?_
  refine hq_iconst (y := 5) C dL_areAlike_62 (by decide) ?_
  refine hq_cSr (As := [.int _, .int _]) (rm := rL_low) (Cn := "") C (m_L_low (by decide)) ws_L_low ml_L_92 rfl rfl rfl rfl ⟨Nat.le_of_ble_eq_true rfl, Nat.le_of_ble_eq_true rfl⟩ (Nat.le_of_ble_eq_true rfl) ⟨Nat.le_of_ble_eq_true rfl, Nat.le_of_ble_eq_true rfl⟩ dL_areAlike_63 ?_
  refine hq_iload_n (q := 4) C dL_areAlike_66 rfl rfl ?_
  refine hq_iconst (y := 1) C dL_areAlike_67 (by decide) ?_
  refine hq_iand C dL_areAlike_68 ?_
  refine hq_iconst (y := 1) C dL_areAlike_69 (by decide) ?_
  refine hq_icmp_ne (tgt := 77) C dL_areAlike_70 (by decide) (fun c_70 => absurd hb9 c_70) (fun c_70 => ?_)
  refine hq_iconst (y := 1) C dL_areAlike_73 (by decide) ?_
  refine hq_goto (tgt := 78) C dL_areAlike_74 (by decide) ?_
  refine hq_cSLr (As := [.ref _, .int _, .int _, .int _]) (rm := rL_debt) (Cn := "") C (aq_debt _ _ _ h1 l D b0 I2 J2 0 hlt) ws_L_debt ml_L_148 rfl rfl rfl rfl ⟨Nat.le_of_ble_eq_true rfl, Nat.le_of_ble_eq_true rfl⟩ (Nat.le_of_ble_eq_true rfl) ⟨Nat.le_of_ble_eq_true rfl, Nat.le_of_ble_eq_true rfl⟩ dL_areAlike_78 ?_
  refine hq_aload_n (q := 3) C dL_areAlike_81 rfl rfl ?_
  refine hq_iload (q := 0) C dL_areAlike_82 rfl ?_
  refine hq_iload_n (q := 4) C dL_areAlike_84 rfl rfl ?_
  refine hq_iconst (y := 2) C dL_areAlike_85 (by decide) ?_
  refine hq_ishr C dL_areAlike_86 ?_
  refine hq_iconst (y := 5) C dL_areAlike_87 (by decide) ?_
  refine hq_cSr (As := [.int _, .int _]) (rm := rL_low) (Cn := "") C (m_L_low (by decide)) ws_L_low ml_L_92 rfl rfl rfl rfl ⟨Nat.le_of_ble_eq_true rfl, Nat.le_of_ble_eq_true rfl⟩ (Nat.le_of_ble_eq_true rfl) ⟨Nat.le_of_ble_eq_true rfl, Nat.le_of_ble_eq_true rfl⟩ dL_areAlike_88 ?_
  refine hq_iload_n (q := 4) C dL_areAlike_91 rfl rfl ?_
  refine hq_iconst (y := 1) C dL_areAlike_92 (by decide) ?_
  refine hq_iand C dL_areAlike_93 ?_
  refine hq_iconst (y := 1) C dL_areAlike_94 (by decide) ?_
  refine hq_icmp_ne (tgt := 102) C dL_areAlike_95 (by decide) (fun c_95 => absurd hb9 c_95) (fun c_95 => ?_)
  refine hq_iconst (y := 1) C dL_areAlike_98 (by decide) ?_
  refine hq_goto (tgt := 103) C dL_areAlike_99 (by decide) ?_
  refine hq_cSLp (As := [.ref _, .int _, .int _, .int _]) (rm := rL_debt) C (aq_debt _ _ _ h2 l D (b0 + 237) I2 J2 1 hlt) ws_L_debt ml_L_148 rfl rfl rfl rfl ⟨Nat.le_of_ble_eq_true rfl, Nat.le_of_ble_eq_true rfl⟩ (Nat.le_of_ble_eq_true rfl) ⟨Nat.le_of_ble_eq_true rfl, Nat.le_of_ble_eq_true rfl⟩ dL_areAlike_103 ?_
  refine hq_lcmp C dL_areAlike_106 ?_
  refine hq_if_ne (tgt := 194) C dL_areAlike_107 (by decide) (fun c_107 => absurd ((lg_cmp_eq _ _).mpr rfl) c_107) (fun c_107 => ?_)
  refine hq_aload_n (q := 2) C dL_areAlike_110 rfl rfl ?_
  refine hq_iload (q := 0) C dL_areAlike_111 rfl ?_
  refine hq_iload_n (q := 4) C dL_areAlike_113 rfl rfl ?_
  refine hq_iconst (y := 4) C dL_areAlike_114 (by decide) ?_
  refine hq_ishr C dL_areAlike_115 ?_
  refine hq_bipush (y := 6) C dL_areAlike_116 (by decide) ?_
  refine hq_cSr (As := [.int _, .int _]) (rm := rL_low) (Cn := "") C (m_L_low (by decide)) ws_L_low ml_L_92 rfl rfl rfl rfl ⟨Nat.le_of_ble_eq_true rfl, Nat.le_of_ble_eq_true rfl⟩ (Nat.le_of_ble_eq_true rfl) ⟨Nat.le_of_ble_eq_true rfl, Nat.le_of_ble_eq_true rfl⟩ dL_areAlike_118 ?_
  refine hq_cSLr (As := [.ref _, .int _, .int _]) (rm := rL_orderOf) (Cn := "") C (aq_orderOf _ _ h1 l D b0 I2 J2 0 hlt) ws_L_orderOf ml_L_144 rfl rfl rfl rfl ⟨Nat.le_of_ble_eq_true rfl, Nat.le_of_ble_eq_true rfl⟩ (Nat.le_of_ble_eq_true rfl) ⟨Nat.le_of_ble_eq_true rfl, Nat.le_of_ble_eq_true rfl⟩ dL_areAlike_121 ?_
  refine hq_aload_n (q := 3) C dL_areAlike_124 rfl rfl ?_
  refine hq_iload (q := 0) C dL_areAlike_125 rfl ?_
  refine hq_iload_n (q := 4) C dL_areAlike_127 rfl rfl ?_
  refine hq_iconst (y := 4) C dL_areAlike_128 (by decide) ?_
  refine hq_ishr C dL_areAlike_129 ?_
  refine hq_bipush (y := 6) C dL_areAlike_130 (by decide) ?_
  refine hq_cSr (As := [.int _, .int _]) (rm := rL_low) (Cn := "") C (m_L_low (by decide)) ws_L_low ml_L_92 rfl rfl rfl rfl ⟨Nat.le_of_ble_eq_true rfl, Nat.le_of_ble_eq_true rfl⟩ (Nat.le_of_ble_eq_true rfl) ⟨Nat.le_of_ble_eq_true rfl, Nat.le_of_ble_eq_true rfl⟩ dL_areAlike_132 ?_
  refine hq_cSLp (As := [.ref _, .int _, .int _]) (rm := rL_orderOf) C (aq_orderOf _ _ h2 l D (b0 + 237) I2 J2 1 hlt) ws_L_orderOf ml_L_144 rfl rfl rfl rfl ⟨Nat.le_of_ble_eq_true rfl, Nat.le_of_ble_eq_true rfl⟩ (Nat.le_of_ble_eq_true rfl) ⟨Nat.le_of_ble_eq_true rfl, Nat.le_of_ble_eq_true rfl⟩ dL_areAlike_135 ?_
  refine hq_lcmp C dL_areAlike_138 ?_
  refine hq_if_ne (tgt := 194) C dL_areAlike_139 (by decide) (fun c_139 => absurd ((lg_cmp_eq _ _).mpr rfl) c_139) (fun c_139 => ?_)
  refine hq_aload_n (q := 2) C dL_areAlike_142 rfl rfl ?_
  refine hq_iload (q := 0) C dL_areAlike_143 rfl ?_
  refine hq_iload_n (q := 4) C dL_areAlike_145 rfl rfl ?_
  refine hq_bipush (y := 6) C dL_areAlike_146 (by decide) ?_
  refine hq_ishr C dL_areAlike_148 ?_
  refine hq_iconst (y := 3) C dL_areAlike_149 (by decide) ?_
  refine hq_cSr (As := [.int _, .int _]) (rm := rL_low) (Cn := "") C (m_L_low (by decide)) ws_L_low ml_L_92 rfl rfl rfl rfl ⟨Nat.le_of_ble_eq_true rfl, Nat.le_of_ble_eq_true rfl⟩ (Nat.le_of_ble_eq_true rfl) ⟨Nat.le_of_ble_eq_true rfl, Nat.le_of_ble_eq_true rfl⟩ dL_areAlike_150 ?_
  refine hq_cSLr (As := [.ref _, .int _, .int _]) (rm := rL_wayOf) (Cn := "") C (aq_wayOf _ _ h1 l D b0 I2 J2 0 hlt) ws_L_wayOf ml_L_142 rfl rfl rfl rfl ⟨Nat.le_of_ble_eq_true rfl, Nat.le_of_ble_eq_true rfl⟩ (Nat.le_of_ble_eq_true rfl) ⟨Nat.le_of_ble_eq_true rfl, Nat.le_of_ble_eq_true rfl⟩ dL_areAlike_153 ?_
  refine hq_aload_n (q := 3) C dL_areAlike_156 rfl rfl ?_
  refine hq_iload (q := 0) C dL_areAlike_157 rfl ?_
  refine hq_iload_n (q := 4) C dL_areAlike_159 rfl rfl ?_
  refine hq_bipush (y := 6) C dL_areAlike_160 (by decide) ?_
  refine hq_ishr C dL_areAlike_162 ?_
  refine hq_iconst (y := 3) C dL_areAlike_163 (by decide) ?_
  refine hq_cSr (As := [.int _, .int _]) (rm := rL_low) (Cn := "") C (m_L_low (by decide)) ws_L_low ml_L_92 rfl rfl rfl rfl ⟨Nat.le_of_ble_eq_true rfl, Nat.le_of_ble_eq_true rfl⟩ (Nat.le_of_ble_eq_true rfl) ⟨Nat.le_of_ble_eq_true rfl, Nat.le_of_ble_eq_true rfl⟩ dL_areAlike_164 ?_
  refine hq_cSLp (As := [.ref _, .int _, .int _]) (rm := rL_wayOf) C (aq_wayOf _ _ h2 l D (b0 + 237) I2 J2 1 hlt) ws_L_wayOf ml_L_142 rfl rfl rfl rfl ⟨Nat.le_of_ble_eq_true rfl, Nat.le_of_ble_eq_true rfl⟩ (Nat.le_of_ble_eq_true rfl) ⟨Nat.le_of_ble_eq_true rfl, Nat.le_of_ble_eq_true rfl⟩ dL_areAlike_167 ?_
  refine hq_lcmp C dL_areAlike_170 ?_
  refine hq_if_ne (tgt := 194) C dL_areAlike_171 (by decide) (fun c_171 => absurd ((lg_cmp_eq _ _).mpr rfl) c_171) (fun c_171 => ?_)
  refine hq_aload_n (q := 2) C dL_areAlike_174 rfl rfl ?_
  refine hq_iload (q := 0) C dL_areAlike_175 rfl ?_
  refine hq_cSLr (As := [.ref _, .int _]) (rm := rL_sum) (Cn := "") C (aq_sum _ h1 l D b0 I2 J2 0 hlt) ws_L_sum ml_L_146 rfl rfl rfl rfl ⟨Nat.le_of_ble_eq_true rfl, Nat.le_of_ble_eq_true rfl⟩ (Nat.le_of_ble_eq_true rfl) ⟨Nat.le_of_ble_eq_true rfl, Nat.le_of_ble_eq_true rfl⟩ dL_areAlike_177 ?_
  refine hq_aload_n (q := 3) C dL_areAlike_180 rfl rfl ?_
  refine hq_iload (q := 0) C dL_areAlike_181 rfl ?_
  refine hq_cSLp (As := [.ref _, .int _]) (rm := rL_sum) C (aq_sum _ h2 l D (b0 + 237) I2 J2 1 hlt) ws_L_sum ml_L_146 rfl rfl rfl rfl ⟨Nat.le_of_ble_eq_true rfl, Nat.le_of_ble_eq_true rfl⟩ (Nat.le_of_ble_eq_true rfl) ⟨Nat.le_of_ble_eq_true rfl, Nat.le_of_ble_eq_true rfl⟩ dL_areAlike_183 ?_
  refine hq_lcmp C dL_areAlike_186 ?_
  refine hq_if_ne (tgt := 194) C dL_areAlike_187 (by decide) (fun c_187 => absurd ((lg_cmp_eq _ _).mpr rfl) c_187) (fun c_187 => ?_)
  refine hq_iconst (y := 1) C dL_areAlike_190 (by decide) ?_
  refine hq_goto (tgt := 195) C dL_areAlike_191 (by decide) ?_
  refine hq_istore_n (L' := [(3, .int _), (4, .int _), (0, .ref _), (1, .ref _), (2, .int _)]) C dL_areAlike_195 rfl (by decide) rfl ?_
  refine hq_iinc (q := 1) (y := 5) (L' := [(4, .int _), (3, .int _), (0, .ref _), (1, .ref _), (2, .int _)]) C dL_areAlike_196 rfl (by decide) (by decide) rfl ?_
  refine hq_goto (tgt := 20) C dL_areAlike_199 (by decide) ?_
  refine hq_iload (q := 0) C dL_areAlike_20 rfl ?_
  refine hq_iconst (y := 5) C dL_areAlike_22 (by decide) ?_
  refine hq_icmp_ge (tgt := 202) C dL_areAlike_23 (by decide) (fun _ => ?_) (fun c_23 => absurd c_23 (by decide))
  refine hq_iload_n (q := 1) C dL_areAlike_202 rfl rfl ?_
  exact hq_zretX C hr hlk dL_areAlike_203 rfl (by decide) rfl rfl (Nat.le_of_ble_eq_true rfl) (Nat.le_of_ble_eq_true rfl)
set_option maxHeartbeats 4000000 in
set_option maxRecDepth 100000 in
theorem m_L_areAlike0 {l : Launch} {D : va_G} {b0 k nb no nc : Nat} {I1 I2 P : MI} {J1 J2 N : MJ} (hlt : l.stackTraces = false) (h1 : IV k nb no nc I1 J1 P N) (h2 : IV k nb no nc I2 J2 P N) {v : Int32} (hb9 : ¬ (v &&& 1) = 1) : hw_MX l yL_areAlike wL_areAlike rA D b0 (hw_n 0) [.ref (hw_ad b0 0 0), .ref (hw_ad (b0 + 237) 0 0), .int v] (hw_vl b0 I1 J1 I2 J2 0) none (some (.int 1)) (hw_vl b0 I1 J1 I2 J2 0) rA.cells rA.slots := by
  refine hw_MXof (by decide) [(0, .ref _), (1, .ref _), (2, .int _)] rfl (Nat.le_of_ble_eq_true rfl) ?_
  intro p e s m args below meth c C hr hlk ht
  refine hq_aload_n (q := 0) C dL_areAlike_0 rfl rfl ?_
  refine hq_cVr (As := []) (rm := rX5_inquiry) (f := 0) (Nc := 1) C (aq_inq h1 l D b0 I2 J2 0) wv_X5_inquiry ml_L_151 rfl rfl rfl Nat.one_pos rfl rfl rfl rfl ⟨Nat.le_of_ble_eq_true rfl, Nat.le_of_ble_eq_true rfl⟩ (Nat.le_of_ble_eq_true rfl) ⟨Nat.le_of_ble_eq_true rfl, Nat.le_of_ble_eq_true rfl⟩ dL_areAlike_1 ?_
  refine hq_aload_n (q := 1) C dL_areAlike_4 rfl rfl ?_
  refine hq_cVp (As := []) (rm := rX5_inquiry) C (aq_inq h2 l D (b0 + 237) I2 J2 1) wv_X5_inquiry ml_L_151 rfl rfl rfl rfl ⟨Nat.le_of_ble_eq_true rfl, Nat.le_of_ble_eq_true rfl⟩ (Nat.le_of_ble_eq_true rfl) ⟨Nat.le_of_ble_eq_true rfl, Nat.le_of_ble_eq_true rfl⟩ dL_areAlike_5 ?_
  refine hq_icmp_ne (tgt := 15) C dL_areAlike_8 (by decide) (fun c_8 => absurd rfl c_8) (fun c_8 => ?_)
  refine hq_iconst (y := 1) C dL_areAlike_11 (by decide) ?_
  refine hq_goto (tgt := 16) C dL_areAlike_12 (by decide) ?_
  refine hq_istore_n (L' := [(3, .int _), (0, .ref _), (1, .ref _), (2, .int _)]) C dL_areAlike_16 rfl (by decide) rfl ?_
  refine hq_iconst (y := 0) C dL_areAlike_17 (by decide) ?_
  refine hq_istore (L' := [(4, .int _), (3, .int _), (0, .ref _), (1, .ref _), (2, .int _)]) C dL_areAlike_18 (by decide) rfl ?_
  refine hq_iload (q := 0) C dL_areAlike_20 rfl ?_
  refine hq_iconst (y := 5) C dL_areAlike_22 (by decide) ?_
  refine hq_icmp_ge (tgt := 202) C dL_areAlike_23 (by decide) (fun c_23 => absurd c_23 (by decide)) (fun _ => ?_)
  refine hq_iload_n (q := 1) C dL_areAlike_26 rfl rfl ?_
  refine hq_if_eq (tgt := 202) C dL_areAlike_27 (by decide) (fun c_27 => absurd c_27 (by decide)) (fun _ => ?_)
  refine hq_aload_n (q := 2) C dL_areAlike_30 rfl rfl ?_
  refine hq_iload (q := 0) C dL_areAlike_31 rfl ?_
  refine hq_iload_n (q := 4) C dL_areAlike_33 rfl rfl ?_
  refine hq_iconst (y := 4) C dL_areAlike_34 (by decide) ?_
  refine hq_cSr (As := [.int _, .int _]) (rm := rL_low) (Cn := "") C (m_L_low (by decide)) ws_L_low ml_L_92 rfl rfl rfl rfl ⟨Nat.le_of_ble_eq_true rfl, Nat.le_of_ble_eq_true rfl⟩ (Nat.le_of_ble_eq_true rfl) ⟨Nat.le_of_ble_eq_true rfl, Nat.le_of_ble_eq_true rfl⟩ dL_areAlike_35 ?_
  refine hq_cSLr (As := [.ref _, .int _, .int _]) (rm := rL_brokerOf) (Cn := "") C (aq_brokerOf _ _ h1 l D b0 I2 J2 0 hlt) ws_L_brokerOf ml_L_155 rfl rfl rfl rfl ⟨Nat.le_of_ble_eq_true rfl, Nat.le_of_ble_eq_true rfl⟩ (Nat.le_of_ble_eq_true rfl) ⟨Nat.le_of_ble_eq_true rfl, Nat.le_of_ble_eq_true rfl⟩ dL_areAlike_38 ?_
  refine hq_aload_n (q := 3) C dL_areAlike_41 rfl rfl ?_
  refine hq_iload (q := 0) C dL_areAlike_42 rfl ?_
  refine hq_iload_n (q := 4) C dL_areAlike_44 rfl rfl ?_
  refine hq_iconst (y := 4) C dL_areAlike_45 (by decide) ?_
  refine hq_cSr (As := [.int _, .int _]) (rm := rL_low) (Cn := "") C (m_L_low (by decide)) ws_L_low ml_L_92 rfl rfl rfl rfl ⟨Nat.le_of_ble_eq_true rfl, Nat.le_of_ble_eq_true rfl⟩ (Nat.le_of_ble_eq_true rfl) ⟨Nat.le_of_ble_eq_true rfl, Nat.le_of_ble_eq_true rfl⟩ dL_areAlike_46 ?_
  refine hq_cSLp (As := [.ref _, .int _, .int _]) (rm := rL_brokerOf) C (aq_brokerOf _ _ h2 l D (b0 + 237) I2 J2 1 hlt) ws_L_brokerOf ml_L_155 rfl rfl rfl rfl ⟨Nat.le_of_ble_eq_true rfl, Nat.le_of_ble_eq_true rfl⟩ (Nat.le_of_ble_eq_true rfl) ⟨Nat.le_of_ble_eq_true rfl, Nat.le_of_ble_eq_true rfl⟩ dL_areAlike_49 ?_
  refine hq_lcmp C dL_areAlike_52 ?_
  refine hq_if_ne (tgt := 194) C dL_areAlike_53 (by decide) (fun c_53 => absurd ((lg_cmp_eq _ _).mpr rfl) c_53) (fun c_53 => ?_)
  refine hq_aload_n (q := 2) C dL_areAlike_56 rfl rfl ?_
  refine hq_iload (q := 0) C dL_areAlike_57 rfl ?_
  refine hq_iload_n (q := 4) C dL_areAlike_59 rfl rfl ?_
  refine hq_iconst (y := 2) C dL_areAlike_60 (by decide) ?_
  refine hq_ishr C dL_areAlike_61 ?_
  refine hq_iconst (y := 5) C dL_areAlike_62 (by decide) ?_
  refine hq_cSr (As := [.int _, .int _]) (rm := rL_low) (Cn := "") C (m_L_low (by decide)) ws_L_low ml_L_92 rfl rfl rfl rfl ⟨Nat.le_of_ble_eq_true rfl, Nat.le_of_ble_eq_true rfl⟩ (Nat.le_of_ble_eq_true rfl) ⟨Nat.le_of_ble_eq_true rfl, Nat.le_of_ble_eq_true rfl⟩ dL_areAlike_63 ?_
  refine hq_iload_n (q := 4) C dL_areAlike_66 rfl rfl ?_
  refine hq_iconst (y := 1) C dL_areAlike_67 (by decide) ?_
  refine hq_iand C dL_areAlike_68 ?_
  refine hq_iconst (y := 1) C dL_areAlike_69 (by decide) ?_
  refine hq_icmp_ne (tgt := 77) C dL_areAlike_70 (by decide) (fun c_70 => ?_) (fun c_70 => absurd c_70 hb9)
  refine hq_iconst (y := 0) C dL_areAlike_77 (by decide) ?_
  refine hq_cSLr (As := [.ref _, .int _, .int _, .int _]) (rm := rL_debt) (Cn := "") C (aq_debt _ _ _ h1 l D b0 I2 J2 0 hlt) ws_L_debt ml_L_148 rfl rfl rfl rfl ⟨Nat.le_of_ble_eq_true rfl, Nat.le_of_ble_eq_true rfl⟩ (Nat.le_of_ble_eq_true rfl) ⟨Nat.le_of_ble_eq_true rfl, Nat.le_of_ble_eq_true rfl⟩ dL_areAlike_78 ?_
  refine hq_aload_n (q := 3) C dL_areAlike_81 rfl rfl ?_
  refine hq_iload (q := 0) C dL_areAlike_82 rfl ?_
  refine hq_iload_n (q := 4) C dL_areAlike_84 rfl rfl ?_
  refine hq_iconst (y := 2) C dL_areAlike_85 (by decide) ?_
  refine hq_ishr C dL_areAlike_86 ?_
  refine hq_iconst (y := 5) C dL_areAlike_87 (by decide) ?_
  refine hq_cSr (As := [.int _, .int _]) (rm := rL_low) (Cn := "") C (m_L_low (by decide)) ws_L_low ml_L_92 rfl rfl rfl rfl ⟨Nat.le_of_ble_eq_true rfl, Nat.le_of_ble_eq_true rfl⟩ (Nat.le_of_ble_eq_true rfl) ⟨Nat.le_of_ble_eq_true rfl, Nat.le_of_ble_eq_true rfl⟩ dL_areAlike_88 ?_
  refine hq_iload_n (q := 4) C dL_areAlike_91 rfl rfl ?_
  refine hq_iconst (y := 1) C dL_areAlike_92 (by decide) ?_
  refine hq_iand C dL_areAlike_93 ?_
  refine hq_iconst (y := 1) C dL_areAlike_94 (by decide) ?_
  refine hq_icmp_ne (tgt := 102) C dL_areAlike_95 (by decide) (fun c_95 => ?_) (fun c_95 => absurd c_95 hb9)
  refine hq_iconst (y := 0) C dL_areAlike_102 (by decide) ?_
  refine hq_cSLp (As := [.ref _, .int _, .int _, .int _]) (rm := rL_debt) C (aq_debt _ _ _ h2 l D (b0 + 237) I2 J2 1 hlt) ws_L_debt ml_L_148 rfl rfl rfl rfl ⟨Nat.le_of_ble_eq_true rfl, Nat.le_of_ble_eq_true rfl⟩ (Nat.le_of_ble_eq_true rfl) ⟨Nat.le_of_ble_eq_true rfl, Nat.le_of_ble_eq_true rfl⟩ dL_areAlike_103 ?_
  refine hq_lcmp C dL_areAlike_106 ?_
  refine hq_if_ne (tgt := 194) C dL_areAlike_107 (by decide) (fun c_107 => absurd ((lg_cmp_eq _ _).mpr rfl) c_107) (fun c_107 => ?_)
  refine hq_aload_n (q := 2) C dL_areAlike_110 rfl rfl ?_
  refine hq_iload (q := 0) C dL_areAlike_111 rfl ?_
  refine hq_iload_n (q := 4) C dL_areAlike_113 rfl rfl ?_
  refine hq_iconst (y := 4) C dL_areAlike_114 (by decide) ?_
  refine hq_ishr C dL_areAlike_115 ?_
  refine hq_bipush (y := 6) C dL_areAlike_116 (by decide) ?_
  refine hq_cSr (As := [.int _, .int _]) (rm := rL_low) (Cn := "") C (m_L_low (by decide)) ws_L_low ml_L_92 rfl rfl rfl rfl ⟨Nat.le_of_ble_eq_true rfl, Nat.le_of_ble_eq_true rfl⟩ (Nat.le_of_ble_eq_true rfl) ⟨Nat.le_of_ble_eq_true rfl, Nat.le_of_ble_eq_true rfl⟩ dL_areAlike_118 ?_
  refine hq_cSLr (As := [.ref _, .int _, .int _]) (rm := rL_orderOf) (Cn := "") C (aq_orderOf _ _ h1 l D b0 I2 J2 0 hlt) ws_L_orderOf ml_L_144 rfl rfl rfl rfl ⟨Nat.le_of_ble_eq_true rfl, Nat.le_of_ble_eq_true rfl⟩ (Nat.le_of_ble_eq_true rfl) ⟨Nat.le_of_ble_eq_true rfl, Nat.le_of_ble_eq_true rfl⟩ dL_areAlike_121 ?_
  refine hq_aload_n (q := 3) C dL_areAlike_124 rfl rfl ?_
  refine hq_iload (q := 0) C dL_areAlike_125 rfl ?_
  refine hq_iload_n (q := 4) C dL_areAlike_127 rfl rfl ?_
  refine hq_iconst (y := 4) C dL_areAlike_128 (by decide) ?_
  refine hq_ishr C dL_areAlike_129 ?_
  refine hq_bipush (y := 6) C dL_areAlike_130 (by decide) ?_
  refine hq_cSr (As := [.int _, .int _]) (rm := rL_low) (Cn := "") C (m_L_low (by decide)) ws_L_low ml_L_92 rfl rfl rfl rfl ⟨Nat.le_of_ble_eq_true rfl, Nat.le_of_ble_eq_true rfl⟩ (Nat.le_of_ble_eq_true rfl) ⟨Nat.le_of_ble_eq_true rfl, Nat.le_of_ble_eq_true rfl⟩ dL_areAlike_132 ?_
  refine hq_cSLp (As := [.ref _, .int _, .int _]) (rm := rL_orderOf) C (aq_orderOf _ _ h2 l D (b0 + 237) I2 J2 1 hlt) ws_L_orderOf ml_L_144 rfl rfl rfl rfl ⟨Nat.le_of_ble_eq_true rfl, Nat.le_of_ble_eq_true rfl⟩ (Nat.le_of_ble_eq_true rfl) ⟨Nat.le_of_ble_eq_true rfl, Nat.le_of_ble_eq_true rfl⟩ dL_areAlike_135 ?_
  refine hq_lcmp C dL_areAlike_138 ?_
  refine hq_if_ne (tgt := 194) C dL_areAlike_139 (by decide) (fun c_139 => absurd ((lg_cmp_eq _ _).mpr rfl) c_139) (fun c_139 => ?_)
  refine hq_aload_n (q := 2) C dL_areAlike_142 rfl rfl ?_
  refine hq_iload (q := 0) C dL_areAlike_143 rfl ?_
  refine hq_iload_n (q := 4) C dL_areAlike_145 rfl rfl ?_
  refine hq_bipush (y := 6) C dL_areAlike_146 (by decide) ?_
  refine hq_ishr C dL_areAlike_148 ?_
  refine hq_iconst (y := 3) C dL_areAlike_149 (by decide) ?_
  refine hq_cSr (As := [.int _, .int _]) (rm := rL_low) (Cn := "") C (m_L_low (by decide)) ws_L_low ml_L_92 rfl rfl rfl rfl ⟨Nat.le_of_ble_eq_true rfl, Nat.le_of_ble_eq_true rfl⟩ (Nat.le_of_ble_eq_true rfl) ⟨Nat.le_of_ble_eq_true rfl, Nat.le_of_ble_eq_true rfl⟩ dL_areAlike_150 ?_
  refine hq_cSLr (As := [.ref _, .int _, .int _]) (rm := rL_wayOf) (Cn := "") C (aq_wayOf _ _ h1 l D b0 I2 J2 0 hlt) ws_L_wayOf ml_L_142 rfl rfl rfl rfl ⟨Nat.le_of_ble_eq_true rfl, Nat.le_of_ble_eq_true rfl⟩ (Nat.le_of_ble_eq_true rfl) ⟨Nat.le_of_ble_eq_true rfl, Nat.le_of_ble_eq_true rfl⟩ dL_areAlike_153 ?_
  refine hq_aload_n (q := 3) C dL_areAlike_156 rfl rfl ?_
  refine hq_iload (q := 0) C dL_areAlike_157 rfl ?_
  refine hq_iload_n (q := 4) C dL_areAlike_159 rfl rfl ?_
  refine hq_bipush (y := 6) C dL_areAlike_160 (by decide) ?_
  refine hq_ishr C dL_areAlike_162 ?_
  refine hq_iconst (y := 3) C dL_areAlike_163 (by decide) ?_
  refine hq_cSr (As := [.int _, .int _]) (rm := rL_low) (Cn := "") C (m_L_low (by decide)) ws_L_low ml_L_92 rfl rfl rfl rfl ⟨Nat.le_of_ble_eq_true rfl, Nat.le_of_ble_eq_true rfl⟩ (Nat.le_of_ble_eq_true rfl) ⟨Nat.le_of_ble_eq_true rfl, Nat.le_of_ble_eq_true rfl⟩ dL_areAlike_164 ?_
  refine hq_cSLp (As := [.ref _, .int _, .int _]) (rm := rL_wayOf) C (aq_wayOf _ _ h2 l D (b0 + 237) I2 J2 1 hlt) ws_L_wayOf ml_L_142 rfl rfl rfl rfl ⟨Nat.le_of_ble_eq_true rfl, Nat.le_of_ble_eq_true rfl⟩ (Nat.le_of_ble_eq_true rfl) ⟨Nat.le_of_ble_eq_true rfl, Nat.le_of_ble_eq_true rfl⟩ dL_areAlike_167 ?_
  refine hq_lcmp C dL_areAlike_170 ?_
  refine hq_if_ne (tgt := 194) C dL_areAlike_171 (by decide) (fun c_171 => absurd ((lg_cmp_eq _ _).mpr rfl) c_171) (fun c_171 => ?_)
  refine hq_aload_n (q := 2) C dL_areAlike_174 rfl rfl ?_
  refine hq_iload (q := 0) C dL_areAlike_175 rfl ?_
  refine hq_cSLr (As := [.ref _, .int _]) (rm := rL_sum) (Cn := "") C (aq_sum _ h1 l D b0 I2 J2 0 hlt) ws_L_sum ml_L_146 rfl rfl rfl rfl ⟨Nat.le_of_ble_eq_true rfl, Nat.le_of_ble_eq_true rfl⟩ (Nat.le_of_ble_eq_true rfl) ⟨Nat.le_of_ble_eq_true rfl, Nat.le_of_ble_eq_true rfl⟩ dL_areAlike_177 ?_
  refine hq_aload_n (q := 3) C dL_areAlike_180 rfl rfl ?_
  refine hq_iload (q := 0) C dL_areAlike_181 rfl ?_
  refine hq_cSLp (As := [.ref _, .int _]) (rm := rL_sum) C (aq_sum _ h2 l D (b0 + 237) I2 J2 1 hlt) ws_L_sum ml_L_146 rfl rfl rfl rfl ⟨Nat.le_of_ble_eq_true rfl, Nat.le_of_ble_eq_true rfl⟩ (Nat.le_of_ble_eq_true rfl) ⟨Nat.le_of_ble_eq_true rfl, Nat.le_of_ble_eq_true rfl⟩ dL_areAlike_183 ?_
  refine hq_lcmp C dL_areAlike_186 ?_
  refine hq_if_ne (tgt := 194) C dL_areAlike_187 (by decide) (fun c_187 => absurd ((lg_cmp_eq _ _).mpr rfl) c_187) (fun c_187 => ?_)
  refine hq_iconst (y := 1) C dL_areAlike_190 (by decide) ?_
  refine hq_goto (tgt := 195) C dL_areAlike_191 (by decide) ?_
  refine hq_istore_n (L' := [(3, .int _), (4, .int _), (0, .ref _), (1, .ref _), (2, .int _)]) C dL_areAlike_195 rfl (by decide) rfl ?_
  refine hq_iinc (q := 1) (y := 1) (L' := [(4, .int _), (3, .int _), (0, .ref _), (1, .ref _), (2, .int _)]) C dL_areAlike_196 rfl (by decide) (by decide) rfl ?_
  refine hq_goto (tgt := 20) C dL_areAlike_199 (by decide) ?_
  refine hq_iload (q := 0) C dL_areAlike_20 rfl ?_
  refine hq_iconst (y := 5) C dL_areAlike_22 (by decide) ?_
  refine hq_icmp_ge (tgt := 202) C dL_areAlike_23 (by decide) (fun c_23 => absurd c_23 (by decide)) (fun _ => ?_)
  refine hq_iload_n (q := 1) C dL_areAlike_26 rfl rfl ?_
  refine hq_if_eq (tgt := 202) C dL_areAlike_27 (by decide) (fun c_27 => absurd c_27 (by decide)) (fun _ => ?_)
  refine hq_aload_n (q := 2) C dL_areAlike_30 rfl rfl ?_
  refine hq_iload (q := 0) C dL_areAlike_31 rfl ?_
  refine hq_iload_n (q := 4) C dL_areAlike_33 rfl rfl ?_
  refine hq_iconst (y := 4) C dL_areAlike_34 (by decide) ?_
  refine hq_cSr (As := [.int _, .int _]) (rm := rL_low) (Cn := "") C (m_L_low (by decide)) ws_L_low ml_L_92 rfl rfl rfl rfl ⟨Nat.le_of_ble_eq_true rfl, Nat.le_of_ble_eq_true rfl⟩ (Nat.le_of_ble_eq_true rfl) ⟨Nat.le_of_ble_eq_true rfl, Nat.le_of_ble_eq_true rfl⟩ dL_areAlike_35 ?_
  refine hq_cSLr (As := [.ref _, .int _, .int _]) (rm := rL_brokerOf) (Cn := "") C (aq_brokerOf _ _ h1 l D b0 I2 J2 0 hlt) ws_L_brokerOf ml_L_155 rfl rfl rfl rfl ⟨Nat.le_of_ble_eq_true rfl, Nat.le_of_ble_eq_true rfl⟩ (Nat.le_of_ble_eq_true rfl) ⟨Nat.le_of_ble_eq_true rfl, Nat.le_of_ble_eq_true rfl⟩ dL_areAlike_38 ?_
  refine hq_aload_n (q := 3) C dL_areAlike_41 rfl rfl ?_
  refine hq_iload (q := 0) C dL_areAlike_42 rfl ?_
  refine hq_iload_n (q := 4) C dL_areAlike_44 rfl rfl ?_
  refine hq_iconst (y := 4) C dL_areAlike_45 (by decide) ?_
  refine hq_cSr (As := [.int _, .int _]) (rm := rL_low) (Cn := "") C (m_L_low (by decide)) ws_L_low ml_L_92 rfl rfl rfl rfl ⟨Nat.le_of_ble_eq_true rfl, Nat.le_of_ble_eq_true rfl⟩ (Nat.le_of_ble_eq_true rfl) ⟨Nat.le_of_ble_eq_true rfl, Nat.le_of_ble_eq_true rfl⟩ dL_areAlike_46 ?_
  refine hq_cSLp (As := [.ref _, .int _, .int _]) (rm := rL_brokerOf) C (aq_brokerOf _ _ h2 l D (b0 + 237) I2 J2 1 hlt) ws_L_brokerOf ml_L_155 rfl rfl rfl rfl ⟨Nat.le_of_ble_eq_true rfl, Nat.le_of_ble_eq_true rfl⟩ (Nat.le_of_ble_eq_true rfl) ⟨Nat.le_of_ble_eq_true rfl, Nat.le_of_ble_eq_true rfl⟩ dL_areAlike_49 ?_
  refine hq_lcmp C dL_areAlike_52 ?_
  refine hq_if_ne (tgt := 194) C dL_areAlike_53 (by decide) (fun c_53 => absurd ((lg_cmp_eq _ _).mpr rfl) c_53) (fun c_53 => ?_)
  refine hq_aload_n (q := 2) C dL_areAlike_56 rfl rfl ?_
  refine hq_iload (q := 0) C dL_areAlike_57 rfl ?_
  refine hq_iload_n (q := 4) C dL_areAlike_59 rfl rfl ?_
  refine hq_iconst (y := 2) C dL_areAlike_60 (by decide) ?_
  refine hq_ishr C dL_areAlike_61 ?_
  refine hq_iconst (y := 5) C dL_areAlike_62 (by decide) ?_
  refine hq_cSr (As := [.int _, .int _]) (rm := rL_low) (Cn := "") C (m_L_low (by decide)) ws_L_low ml_L_92 rfl rfl rfl rfl ⟨Nat.le_of_ble_eq_true rfl, Nat.le_of_ble_eq_true rfl⟩ (Nat.le_of_ble_eq_true rfl) ⟨Nat.le_of_ble_eq_true rfl, Nat.le_of_ble_eq_true rfl⟩ dL_areAlike_63 ?_
  refine hq_iload_n (q := 4) C dL_areAlike_66 rfl rfl ?_
  refine hq_iconst (y := 1) C dL_areAlike_67 (by decide) ?_
  refine hq_iand C dL_areAlike_68 ?_
  refine hq_iconst (y := 1) C dL_areAlike_69 (by decide) ?_
  refine hq_icmp_ne (tgt := 77) C dL_areAlike_70 (by decide) (fun c_70 => ?_) (fun c_70 => absurd c_70 hb9)
  refine hq_iconst (y := 0) C dL_areAlike_77 (by decide) ?_
  refine hq_cSLr (As := [.ref _, .int _, .int _, .int _]) (rm := rL_debt) (Cn := "") C (aq_debt _ _ _ h1 l D b0 I2 J2 0 hlt) ws_L_debt ml_L_148 rfl rfl rfl rfl ⟨Nat.le_of_ble_eq_true rfl, Nat.le_of_ble_eq_true rfl⟩ (Nat.le_of_ble_eq_true rfl) ⟨Nat.le_of_ble_eq_true rfl, Nat.le_of_ble_eq_true rfl⟩ dL_areAlike_78 ?_
  refine hq_aload_n (q := 3) C dL_areAlike_81 rfl rfl ?_
  refine hq_iload (q := 0) C dL_areAlike_82 rfl ?_
  refine hq_iload_n (q := 4) C dL_areAlike_84 rfl rfl ?_
  refine hq_iconst (y := 2) C dL_areAlike_85 (by decide) ?_
  refine hq_ishr C dL_areAlike_86 ?_
  refine hq_iconst (y := 5) C dL_areAlike_87 (by decide) ?_
  refine hq_cSr (As := [.int _, .int _]) (rm := rL_low) (Cn := "") C (m_L_low (by decide)) ws_L_low ml_L_92 rfl rfl rfl rfl ⟨Nat.le_of_ble_eq_true rfl, Nat.le_of_ble_eq_true rfl⟩ (Nat.le_of_ble_eq_true rfl) ⟨Nat.le_of_ble_eq_true rfl, Nat.le_of_ble_eq_true rfl⟩ dL_areAlike_88 ?_
  refine hq_iload_n (q := 4) C dL_areAlike_91 rfl rfl ?_
  refine hq_iconst (y := 1) C dL_areAlike_92 (by decide) ?_
  refine hq_iand C dL_areAlike_93 ?_
  refine hq_iconst (y := 1) C dL_areAlike_94 (by decide) ?_
  refine hq_icmp_ne (tgt := 102) C dL_areAlike_95 (by decide) (fun c_95 => ?_) (fun c_95 => absurd c_95 hb9)
  refine hq_iconst (y := 0) C dL_areAlike_102 (by decide) ?_
  refine hq_cSLp (As := [.ref _, .int _, .int _, .int _]) (rm := rL_debt) C (aq_debt _ _ _ h2 l D (b0 + 237) I2 J2 1 hlt) ws_L_debt ml_L_148 rfl rfl rfl rfl ⟨Nat.le_of_ble_eq_true rfl, Nat.le_of_ble_eq_true rfl⟩ (Nat.le_of_ble_eq_true rfl) ⟨Nat.le_of_ble_eq_true rfl, Nat.le_of_ble_eq_true rfl⟩ dL_areAlike_103 ?_
  refine hq_lcmp C dL_areAlike_106 ?_
  refine hq_if_ne (tgt := 194) C dL_areAlike_107 (by decide) (fun c_107 => absurd ((lg_cmp_eq _ _).mpr rfl) c_107) (fun c_107 => ?_)
  refine hq_aload_n (q := 2) C dL_areAlike_110 rfl rfl ?_
  refine hq_iload (q := 0) C dL_areAlike_111 rfl ?_
  refine hq_iload_n (q := 4) C dL_areAlike_113 rfl rfl ?_
  refine hq_iconst (y := 4) C dL_areAlike_114 (by decide) ?_
  refine hq_ishr C dL_areAlike_115 ?_
  refine hq_bipush (y := 6) C dL_areAlike_116 (by decide) ?_
  refine hq_cSr (As := [.int _, .int _]) (rm := rL_low) (Cn := "") C (m_L_low (by decide)) ws_L_low ml_L_92 rfl rfl rfl rfl ⟨Nat.le_of_ble_eq_true rfl, Nat.le_of_ble_eq_true rfl⟩ (Nat.le_of_ble_eq_true rfl) ⟨Nat.le_of_ble_eq_true rfl, Nat.le_of_ble_eq_true rfl⟩ dL_areAlike_118 ?_
  refine hq_cSLr (As := [.ref _, .int _, .int _]) (rm := rL_orderOf) (Cn := "") C (aq_orderOf _ _ h1 l D b0 I2 J2 0 hlt) ws_L_orderOf ml_L_144 rfl rfl rfl rfl ⟨Nat.le_of_ble_eq_true rfl, Nat.le_of_ble_eq_true rfl⟩ (Nat.le_of_ble_eq_true rfl) ⟨Nat.le_of_ble_eq_true rfl, Nat.le_of_ble_eq_true rfl⟩ dL_areAlike_121 ?_
  refine hq_aload_n (q := 3) C dL_areAlike_124 rfl rfl ?_
  refine hq_iload (q := 0) C dL_areAlike_125 rfl ?_
  refine hq_iload_n (q := 4) C dL_areAlike_127 rfl rfl ?_
  refine hq_iconst (y := 4) C dL_areAlike_128 (by decide) ?_
  refine hq_ishr C dL_areAlike_129 ?_
  refine hq_bipush (y := 6) C dL_areAlike_130 (by decide) ?_
  refine hq_cSr (As := [.int _, .int _]) (rm := rL_low) (Cn := "") C (m_L_low (by decide)) ws_L_low ml_L_92 rfl rfl rfl rfl ⟨Nat.le_of_ble_eq_true rfl, Nat.le_of_ble_eq_true rfl⟩ (Nat.le_of_ble_eq_true rfl) ⟨Nat.le_of_ble_eq_true rfl, Nat.le_of_ble_eq_true rfl⟩ dL_areAlike_132 ?_
  refine hq_cSLp (As := [.ref _, .int _, .int _]) (rm := rL_orderOf) C (aq_orderOf _ _ h2 l D (b0 + 237) I2 J2 1 hlt) ws_L_orderOf ml_L_144 rfl rfl rfl rfl ⟨Nat.le_of_ble_eq_true rfl, Nat.le_of_ble_eq_true rfl⟩ (Nat.le_of_ble_eq_true rfl) ⟨Nat.le_of_ble_eq_true rfl, Nat.le_of_ble_eq_true rfl⟩ dL_areAlike_135 ?_
  refine hq_lcmp C dL_areAlike_138 ?_
  refine hq_if_ne (tgt := 194) C dL_areAlike_139 (by decide) (fun c_139 => absurd ((lg_cmp_eq _ _).mpr rfl) c_139) (fun c_139 => ?_)
  refine hq_aload_n (q := 2) C dL_areAlike_142 rfl rfl ?_
  refine hq_iload (q := 0) C dL_areAlike_143 rfl ?_
  refine hq_iload_n (q := 4) C dL_areAlike_145 rfl rfl ?_
  refine hq_bipush (y := 6) C dL_areAlike_146 (by decide) ?_
  refine hq_ishr C dL_areAlike_148 ?_
  refine hq_iconst (y := 3) C dL_areAlike_149 (by decide) ?_
  refine hq_cSr (As := [.int _, .int _]) (rm := rL_low) (Cn := "") C (m_L_low (by decide)) ws_L_low ml_L_92 rfl rfl rfl rfl ⟨Nat.le_of_ble_eq_true rfl, Nat.le_of_ble_eq_true rfl⟩ (Nat.le_of_ble_eq_true rfl) ⟨Nat.le_of_ble_eq_true rfl, Nat.le_of_ble_eq_true rfl⟩ dL_areAlike_150 ?_
  refine hq_cSLr (As := [.ref _, .int _, .int _]) (rm := rL_wayOf) (Cn := "") C (aq_wayOf _ _ h1 l D b0 I2 J2 0 hlt) ws_L_wayOf ml_L_142 rfl rfl rfl rfl ⟨Nat.le_of_ble_eq_true rfl, Nat.le_of_ble_eq_true rfl⟩ (Nat.le_of_ble_eq_true rfl) ⟨Nat.le_of_ble_eq_true rfl, Nat.le_of_ble_eq_true rfl⟩ dL_areAlike_153 ?_
  refine hq_aload_n (q := 3) C dL_areAlike_156 rfl rfl ?_
  refine hq_iload (q := 0) C dL_areAlike_157 rfl ?_
  refine hq_iload_n (q := 4) C dL_areAlike_159 rfl rfl ?_
  refine hq_bipush (y := 6) C dL_areAlike_160 (by decide) ?_
  refine hq_ishr C dL_areAlike_162 ?_
  refine hq_iconst (y := 3) C dL_areAlike_163 (by decide) ?_
  refine hq_cSr (As := [.int _, .int _]) (rm := rL_low) (Cn := "") C (m_L_low (by decide)) ws_L_low ml_L_92 rfl rfl rfl rfl ⟨Nat.le_of_ble_eq_true rfl, Nat.le_of_ble_eq_true rfl⟩ (Nat.le_of_ble_eq_true rfl) ⟨Nat.le_of_ble_eq_true rfl, Nat.le_of_ble_eq_true rfl⟩ dL_areAlike_164 ?_
  refine hq_cSLp (As := [.ref _, .int _, .int _]) (rm := rL_wayOf) C (aq_wayOf _ _ h2 l D (b0 + 237) I2 J2 1 hlt) ws_L_wayOf ml_L_142 rfl rfl rfl rfl ⟨Nat.le_of_ble_eq_true rfl, Nat.le_of_ble_eq_true rfl⟩ (Nat.le_of_ble_eq_true rfl) ⟨Nat.le_of_ble_eq_true rfl, Nat.le_of_ble_eq_true rfl⟩ dL_areAlike_167 ?_
  refine hq_lcmp C dL_areAlike_170 ?_
  refine hq_if_ne (tgt := 194) C dL_areAlike_171 (by decide) (fun c_171 => absurd ((lg_cmp_eq _ _).mpr rfl) c_171) (fun c_171 => ?_)
  refine hq_aload_n (q := 2) C dL_areAlike_174 rfl rfl ?_
  refine hq_iload (q := 0) C dL_areAlike_175 rfl ?_
  refine hq_cSLr (As := [.ref _, .int _]) (rm := rL_sum) (Cn := "") C (aq_sum _ h1 l D b0 I2 J2 0 hlt) ws_L_sum ml_L_146 rfl rfl rfl rfl ⟨Nat.le_of_ble_eq_true rfl, Nat.le_of_ble_eq_true rfl⟩ (Nat.le_of_ble_eq_true rfl) ⟨Nat.le_of_ble_eq_true rfl, Nat.le_of_ble_eq_true rfl⟩ dL_areAlike_177 ?_
  refine hq_aload_n (q := 3) C dL_areAlike_180 rfl rfl ?_
  refine hq_iload (q := 0) C dL_areAlike_181 rfl ?_
  refine hq_cSLp (As := [.ref _, .int _]) (rm := rL_sum) C (aq_sum _ h2 l D (b0 + 237) I2 J2 1 hlt) ws_L_sum ml_L_146 rfl rfl rfl rfl ⟨Nat.le_of_ble_eq_true rfl, Nat.le_of_ble_eq_true rfl⟩ (Nat.le_of_ble_eq_true rfl) ⟨Nat.le_of_ble_eq_true rfl, Nat.le_of_ble_eq_true rfl⟩ dL_areAlike_183 ?_
  refine hq_lcmp C dL_areAlike_186 ?_
  refine hq_if_ne (tgt := 194) C dL_areAlike_187 (by decide) (fun c_187 => absurd ((lg_cmp_eq _ _).mpr rfl) c_187) (fun c_187 => ?_)
  refine hq_iconst (y := 1) C dL_areAlike_190 (by decide) ?_
  refine hq_goto (tgt := 195) C dL_areAlike_191 (by decide) ?_
  refine hq_istore_n (L' := [(3, .int _), (4, .int _), (0, .ref _), (1, .ref _), (2, .int _)]) C dL_areAlike_195 rfl (by decide) rfl ?_
  refine hq_iinc (q := 1) (y := 2) (L' := [(4, .int _), (3, .int _), (0, .ref _), (1, .ref _), (2, .int _)]) C dL_areAlike_196 rfl (by decide) (by decide) rfl ?_
  refine hq_goto (tgt := 20) C dL_areAlike_199 (by decide) ?_
  refine hq_iload (q := 0) C dL_areAlike_20 rfl ?_
  refine hq_iconst (y := 5) C dL_areAlike_22 (by decide) ?_
  refine hq_icmp_ge (tgt := 202) C dL_areAlike_23 (by decide) (fun c_23 => absurd c_23 (by decide)) (fun _ => ?_)
  refine hq_iload_n (q := 1) C dL_areAlike_26 rfl rfl ?_
  refine hq_if_eq (tgt := 202) C dL_areAlike_27 (by decide) (fun c_27 => absurd c_27 (by decide)) (fun _ => ?_)
  refine hq_aload_n (q := 2) C dL_areAlike_30 rfl rfl ?_
  refine hq_iload (q := 0) C dL_areAlike_31 rfl ?_
  refine hq_iload_n (q := 4) C dL_areAlike_33 rfl rfl ?_
  refine hq_iconst (y := 4) C dL_areAlike_34 (by decide) ?_
  refine hq_cSr (As := [.int _, .int _]) (rm := rL_low) (Cn := "") C (m_L_low (by decide)) ws_L_low ml_L_92 rfl rfl rfl rfl ⟨Nat.le_of_ble_eq_true rfl, Nat.le_of_ble_eq_true rfl⟩ (Nat.le_of_ble_eq_true rfl) ⟨Nat.le_of_ble_eq_true rfl, Nat.le_of_ble_eq_true rfl⟩ dL_areAlike_35 ?_
  refine hq_cSLr (As := [.ref _, .int _, .int _]) (rm := rL_brokerOf) (Cn := "") C (aq_brokerOf _ _ h1 l D b0 I2 J2 0 hlt) ws_L_brokerOf ml_L_155 rfl rfl rfl rfl ⟨Nat.le_of_ble_eq_true rfl, Nat.le_of_ble_eq_true rfl⟩ (Nat.le_of_ble_eq_true rfl) ⟨Nat.le_of_ble_eq_true rfl, Nat.le_of_ble_eq_true rfl⟩ dL_areAlike_38 ?_
  refine hq_aload_n (q := 3) C dL_areAlike_41 rfl rfl ?_
  refine hq_iload (q := 0) C dL_areAlike_42 rfl ?_
  refine hq_iload_n (q := 4) C dL_areAlike_44 rfl rfl ?_
  refine hq_iconst (y := 4) C dL_areAlike_45 (by decide) ?_
  refine hq_cSr (As := [.int _, .int _]) (rm := rL_low) (Cn := "") C (m_L_low (by decide)) ws_L_low ml_L_92 rfl rfl rfl rfl ⟨Nat.le_of_ble_eq_true rfl, Nat.le_of_ble_eq_true rfl⟩ (Nat.le_of_ble_eq_true rfl) ⟨Nat.le_of_ble_eq_true rfl, Nat.le_of_ble_eq_true rfl⟩ dL_areAlike_46 ?_
  refine hq_cSLp (As := [.ref _, .int _, .int _]) (rm := rL_brokerOf) C (aq_brokerOf _ _ h2 l D (b0 + 237) I2 J2 1 hlt) ws_L_brokerOf ml_L_155 rfl rfl rfl rfl ⟨Nat.le_of_ble_eq_true rfl, Nat.le_of_ble_eq_true rfl⟩ (Nat.le_of_ble_eq_true rfl) ⟨Nat.le_of_ble_eq_true rfl, Nat.le_of_ble_eq_true rfl⟩ dL_areAlike_49 ?_
  refine hq_lcmp C dL_areAlike_52 ?_
  refine hq_if_ne (tgt := 194) C dL_areAlike_53 (by decide) (fun c_53 => absurd ((lg_cmp_eq _ _).mpr rfl) c_53) (fun c_53 => ?_)
  refine hq_aload_n (q := 2) C dL_areAlike_56 rfl rfl ?_
  refine hq_iload (q := 0) C dL_areAlike_57 rfl ?_
  refine hq_iload_n (q := 4) C dL_areAlike_59 rfl rfl ?_
  refine hq_iconst (y := 2) C dL_areAlike_60 (by decide) ?_
  refine hq_ishr C dL_areAlike_61 ?_
  refine hq_iconst (y := 5) C dL_areAlike_62 (by decide) ?_
  refine hq_cSr (As := [.int _, .int _]) (rm := rL_low) (Cn := "") C (m_L_low (by decide)) ws_L_low ml_L_92 rfl rfl rfl rfl ⟨Nat.le_of_ble_eq_true rfl, Nat.le_of_ble_eq_true rfl⟩ (Nat.le_of_ble_eq_true rfl) ⟨Nat.le_of_ble_eq_true rfl, Nat.le_of_ble_eq_true rfl⟩ dL_areAlike_63 ?_
  refine hq_iload_n (q := 4) C dL_areAlike_66 rfl rfl ?_
  refine hq_iconst (y := 1) C dL_areAlike_67 (by decide) ?_
  refine hq_iand C dL_areAlike_68 ?_
  refine hq_iconst (y := 1) C dL_areAlike_69 (by decide) ?_
  refine hq_icmp_ne (tgt := 77) C dL_areAlike_70 (by decide) (fun c_70 => ?_) (fun c_70 => absurd c_70 hb9)
  refine hq_iconst (y := 0) C dL_areAlike_77 (by decide) ?_
  refine hq_cSLr (As := [.ref _, .int _, .int _, .int _]) (rm := rL_debt) (Cn := "") C (aq_debt _ _ _ h1 l D b0 I2 J2 0 hlt) ws_L_debt ml_L_148 rfl rfl rfl rfl ⟨Nat.le_of_ble_eq_true rfl, Nat.le_of_ble_eq_true rfl⟩ (Nat.le_of_ble_eq_true rfl) ⟨Nat.le_of_ble_eq_true rfl, Nat.le_of_ble_eq_true rfl⟩ dL_areAlike_78 ?_
  refine hq_aload_n (q := 3) C dL_areAlike_81 rfl rfl ?_
  refine hq_iload (q := 0) C dL_areAlike_82 rfl ?_
  refine hq_iload_n (q := 4) C dL_areAlike_84 rfl rfl ?_
  refine hq_iconst (y := 2) C dL_areAlike_85 (by decide) ?_
  refine hq_ishr C dL_areAlike_86 ?_
  refine hq_iconst (y := 5) C dL_areAlike_87 (by decide) ?_
  refine hq_cSr (As := [.int _, .int _]) (rm := rL_low) (Cn := "") C (m_L_low (by decide)) ws_L_low ml_L_92 rfl rfl rfl rfl ⟨Nat.le_of_ble_eq_true rfl, Nat.le_of_ble_eq_true rfl⟩ (Nat.le_of_ble_eq_true rfl) ⟨Nat.le_of_ble_eq_true rfl, Nat.le_of_ble_eq_true rfl⟩ dL_areAlike_88 ?_
  refine hq_iload_n (q := 4) C dL_areAlike_91 rfl rfl ?_
  refine hq_iconst (y := 1) C dL_areAlike_92 (by decide) ?_
  refine hq_iand C dL_areAlike_93 ?_
  refine hq_iconst (y := 1) C dL_areAlike_94 (by decide) ?_
  refine hq_icmp_ne (tgt := 102) C dL_areAlike_95 (by decide) (fun c_95 => ?_) (fun c_95 => absurd c_95 hb9)
  refine hq_iconst (y := 0) C dL_areAlike_102 (by decide) ?_
  refine hq_cSLp (As := [.ref _, .int _, .int _, .int _]) (rm := rL_debt) C (aq_debt _ _ _ h2 l D (b0 + 237) I2 J2 1 hlt) ws_L_debt ml_L_148 rfl rfl rfl rfl ⟨Nat.le_of_ble_eq_true rfl, Nat.le_of_ble_eq_true rfl⟩ (Nat.le_of_ble_eq_true rfl) ⟨Nat.le_of_ble_eq_true rfl, Nat.le_of_ble_eq_true rfl⟩ dL_areAlike_103 ?_
  refine hq_lcmp C dL_areAlike_106 ?_
  refine hq_if_ne (tgt := 194) C dL_areAlike_107 (by decide) (fun c_107 => absurd ((lg_cmp_eq _ _).mpr rfl) c_107) (fun c_107 => ?_)
  refine hq_aload_n (q := 2) C dL_areAlike_110 rfl rfl ?_
  refine hq_iload (q := 0) C dL_areAlike_111 rfl ?_
  refine hq_iload_n (q := 4) C dL_areAlike_113 rfl rfl ?_
  refine hq_iconst (y := 4) C dL_areAlike_114 (by decide) ?_
  refine hq_ishr C dL_areAlike_115 ?_
  refine hq_bipush (y := 6) C dL_areAlike_116 (by decide) ?_
  refine hq_cSr (As := [.int _, .int _]) (rm := rL_low) (Cn := "") C (m_L_low (by decide)) ws_L_low ml_L_92 rfl rfl rfl rfl ⟨Nat.le_of_ble_eq_true rfl, Nat.le_of_ble_eq_true rfl⟩ (Nat.le_of_ble_eq_true rfl) ⟨Nat.le_of_ble_eq_true rfl, Nat.le_of_ble_eq_true rfl⟩ dL_areAlike_118 ?_
  refine hq_cSLr (As := [.ref _, .int _, .int _]) (rm := rL_orderOf) (Cn := "") C (aq_orderOf _ _ h1 l D b0 I2 J2 0 hlt) ws_L_orderOf ml_L_144 rfl rfl rfl rfl ⟨Nat.le_of_ble_eq_true rfl, Nat.le_of_ble_eq_true rfl⟩ (Nat.le_of_ble_eq_true rfl) ⟨Nat.le_of_ble_eq_true rfl, Nat.le_of_ble_eq_true rfl⟩ dL_areAlike_121 ?_
  refine hq_aload_n (q := 3) C dL_areAlike_124 rfl rfl ?_
  refine hq_iload (q := 0) C dL_areAlike_125 rfl ?_
  refine hq_iload_n (q := 4) C dL_areAlike_127 rfl rfl ?_
  refine hq_iconst (y := 4) C dL_areAlike_128 (by decide) ?_
  refine hq_ishr C dL_areAlike_129 ?_
  refine hq_bipush (y := 6) C dL_areAlike_130 (by decide) ?_
  refine hq_cSr (As := [.int _, .int _]) (rm := rL_low) (Cn := "") C (m_L_low (by decide)) ws_L_low ml_L_92 rfl rfl rfl rfl ⟨Nat.le_of_ble_eq_true rfl, Nat.le_of_ble_eq_true rfl⟩ (Nat.le_of_ble_eq_true rfl) ⟨Nat.le_of_ble_eq_true rfl, Nat.le_of_ble_eq_true rfl⟩ dL_areAlike_132 ?_
  refine hq_cSLp (As := [.ref _, .int _, .int _]) (rm := rL_orderOf) C (aq_orderOf _ _ h2 l D (b0 + 237) I2 J2 1 hlt) ws_L_orderOf ml_L_144 rfl rfl rfl rfl ⟨Nat.le_of_ble_eq_true rfl, Nat.le_of_ble_eq_true rfl⟩ (Nat.le_of_ble_eq_true rfl) ⟨Nat.le_of_ble_eq_true rfl, Nat.le_of_ble_eq_true rfl⟩ dL_areAlike_135 ?_
  refine hq_lcmp C dL_areAlike_138 ?_
  refine hq_if_ne (tgt := 194) C dL_areAlike_139 (by decide) (fun c_139 => absurd ((lg_cmp_eq _ _).mpr rfl) c_139) (fun c_139 => ?_)
  refine hq_aload_n (q := 2) C dL_areAlike_142 rfl rfl ?_
  refine hq_iload (q := 0) C dL_areAlike_143 rfl ?_
  refine hq_iload_n (q := 4) C dL_areAlike_145 rfl rfl ?_
  refine hq_bipush (y := 6) C dL_areAlike_146 (by decide) ?_
  refine hq_ishr C dL_areAlike_148 ?_
  refine hq_iconst (y := 3) C dL_areAlike_149 (by decide) ?_
  refine hq_cSr (As := [.int _, .int _]) (rm := rL_low) (Cn := "") C (m_L_low (by decide)) ws_L_low ml_L_92 rfl rfl rfl rfl ⟨Nat.le_of_ble_eq_true rfl, Nat.le_of_ble_eq_true rfl⟩ (Nat.le_of_ble_eq_true rfl) ⟨Nat.le_of_ble_eq_true rfl, Nat.le_of_ble_eq_true rfl⟩ dL_areAlike_150 ?_
  refine hq_cSLr (As := [.ref _, .int _, .int _]) (rm := rL_wayOf) (Cn := "") C (aq_wayOf _ _ h1 l D b0 I2 J2 0 hlt) ws_L_wayOf ml_L_142 rfl rfl rfl rfl ⟨Nat.le_of_ble_eq_true rfl, Nat.le_of_ble_eq_true rfl⟩ (Nat.le_of_ble_eq_true rfl) ⟨Nat.le_of_ble_eq_true rfl, Nat.le_of_ble_eq_true rfl⟩ dL_areAlike_153 ?_
  refine hq_aload_n (q := 3) C dL_areAlike_156 rfl rfl ?_
  refine hq_iload (q := 0) C dL_areAlike_157 rfl ?_
  refine hq_iload_n (q := 4) C dL_areAlike_159 rfl rfl ?_
  refine hq_bipush (y := 6) C dL_areAlike_160 (by decide) ?_
  refine hq_ishr C dL_areAlike_162 ?_
  refine hq_iconst (y := 3) C dL_areAlike_163 (by decide) ?_
  refine hq_cSr (As := [.int _, .int _]) (rm := rL_low) (Cn := "") C (m_L_low (by decide)) ws_L_low ml_L_92 rfl rfl rfl rfl ⟨Nat.le_of_ble_eq_true rfl, Nat.le_of_ble_eq_true rfl⟩ (Nat.le_of_ble_eq_true rfl) ⟨Nat.le_of_ble_eq_true rfl, Nat.le_of_ble_eq_true rfl⟩ dL_areAlike_164 ?_
  refine hq_cSLp (As := [.ref _, .int _, .int _]) (rm := rL_wayOf) C (aq_wayOf _ _ h2 l D (b0 + 237) I2 J2 1 hlt) ws_L_wayOf ml_L_142 rfl rfl rfl rfl ⟨Nat.le_of_ble_eq_true rfl, Nat.le_of_ble_eq_true rfl⟩ (Nat.le_of_ble_eq_true rfl) ⟨Nat.le_of_ble_eq_true rfl, Nat.le_of_ble_eq_true rfl⟩ dL_areAlike_167 ?_
  refine hq_lcmp C dL_areAlike_170 ?_
  refine hq_if_ne (tgt := 194) C dL_areAlike_171 (by decide) (fun c_171 => absurd ((lg_cmp_eq _ _).mpr rfl) c_171) (fun c_171 => ?_)
  refine hq_aload_n (q := 2) C dL_areAlike_174 rfl rfl ?_
  refine hq_iload (q := 0) C dL_areAlike_175 rfl ?_
  refine hq_cSLr (As := [.ref _, .int _]) (rm := rL_sum) (Cn := "") C (aq_sum _ h1 l D b0 I2 J2 0 hlt) ws_L_sum ml_L_146 rfl rfl rfl rfl ⟨Nat.le_of_ble_eq_true rfl, Nat.le_of_ble_eq_true rfl⟩ (Nat.le_of_ble_eq_true rfl) ⟨Nat.le_of_ble_eq_true rfl, Nat.le_of_ble_eq_true rfl⟩ dL_areAlike_177 ?_
  refine hq_aload_n (q := 3) C dL_areAlike_180 rfl rfl ?_
  refine hq_iload (q := 0) C dL_areAlike_181 rfl ?_
  refine hq_cSLp (As := [.ref _, .int _]) (rm := rL_sum) C (aq_sum _ h2 l D (b0 + 237) I2 J2 1 hlt) ws_L_sum ml_L_146 rfl rfl rfl rfl ⟨Nat.le_of_ble_eq_true rfl, Nat.le_of_ble_eq_true rfl⟩ (Nat.le_of_ble_eq_true rfl) ⟨Nat.le_of_ble_eq_true rfl, Nat.le_of_ble_eq_true rfl⟩ dL_areAlike_183 ?_
  refine hq_lcmp C dL_areAlike_186 ?_
  refine hq_if_ne (tgt := 194) C dL_areAlike_187 (by decide) (fun c_187 => absurd ((lg_cmp_eq _ _).mpr rfl) c_187) (fun c_187 => ?_)
  refine hq_iconst (y := 1) C dL_areAlike_190 (by decide) ?_
  refine hq_goto (tgt := 195) C dL_areAlike_191 (by decide) ?_
  refine hq_istore_n (L' := [(3, .int _), (4, .int _), (0, .ref _), (1, .ref _), (2, .int _)]) C dL_areAlike_195 rfl (by decide) rfl ?_
  refine hq_iinc (q := 1) (y := 3) (L' := [(4, .int _), (3, .int _), (0, .ref _), (1, .ref _), (2, .int _)]) C dL_areAlike_196 rfl (by decide) (by decide) rfl ?_
  refine hq_goto (tgt := 20) C dL_areAlike_199 (by decide) ?_
  refine hq_iload (q := 0) C dL_areAlike_20 rfl ?_
  refine hq_iconst (y := 5) C dL_areAlike_22 (by decide) ?_
  refine hq_icmp_ge (tgt := 202) C dL_areAlike_23 (by decide) (fun c_23 => absurd c_23 (by decide)) (fun _ => ?_)
  refine hq_iload_n (q := 1) C dL_areAlike_26 rfl rfl ?_
  refine hq_if_eq (tgt := 202) C dL_areAlike_27 (by decide) (fun c_27 => absurd c_27 (by decide)) (fun _ => ?_)
  refine hq_aload_n (q := 2) C dL_areAlike_30 rfl rfl ?_
  refine hq_iload (q := 0) C dL_areAlike_31 rfl ?_
  refine hq_iload_n (q := 4) C dL_areAlike_33 rfl rfl ?_
  refine hq_iconst (y := 4) C dL_areAlike_34 (by decide) ?_
  refine hq_cSr (As := [.int _, .int _]) (rm := rL_low) (Cn := "") C (m_L_low (by decide)) ws_L_low ml_L_92 rfl rfl rfl rfl ⟨Nat.le_of_ble_eq_true rfl, Nat.le_of_ble_eq_true rfl⟩ (Nat.le_of_ble_eq_true rfl) ⟨Nat.le_of_ble_eq_true rfl, Nat.le_of_ble_eq_true rfl⟩ dL_areAlike_35 ?_
  refine hq_cSLr (As := [.ref _, .int _, .int _]) (rm := rL_brokerOf) (Cn := "") C (aq_brokerOf _ _ h1 l D b0 I2 J2 0 hlt) ws_L_brokerOf ml_L_155 rfl rfl rfl rfl ⟨Nat.le_of_ble_eq_true rfl, Nat.le_of_ble_eq_true rfl⟩ (Nat.le_of_ble_eq_true rfl) ⟨Nat.le_of_ble_eq_true rfl, Nat.le_of_ble_eq_true rfl⟩ dL_areAlike_38 ?_
  refine hq_aload_n (q := 3) C dL_areAlike_41 rfl rfl ?_
  refine hq_iload (q := 0) C dL_areAlike_42 rfl ?_
  refine hq_iload_n (q := 4) C dL_areAlike_44 rfl rfl ?_
  refine hq_iconst (y := 4) C dL_areAlike_45 (by decide) ?_
  refine hq_cSr (As := [.int _, .int _]) (rm := rL_low) (Cn := "") C (m_L_low (by decide)) ws_L_low ml_L_92 rfl rfl rfl rfl ⟨Nat.le_of_ble_eq_true rfl, Nat.le_of_ble_eq_true rfl⟩ (Nat.le_of_ble_eq_true rfl) ⟨Nat.le_of_ble_eq_true rfl, Nat.le_of_ble_eq_true rfl⟩ dL_areAlike_46 ?_
  refine hq_cSLp (As := [.ref _, .int _, .int _]) (rm := rL_brokerOf) C (aq_brokerOf _ _ h2 l D (b0 + 237) I2 J2 1 hlt) ws_L_brokerOf ml_L_155 rfl rfl rfl rfl ⟨Nat.le_of_ble_eq_true rfl, Nat.le_of_ble_eq_true rfl⟩ (Nat.le_of_ble_eq_true rfl) ⟨Nat.le_of_ble_eq_true rfl, Nat.le_of_ble_eq_true rfl⟩ dL_areAlike_49 ?_
  refine hq_lcmp C dL_areAlike_52 ?_
  refine hq_if_ne (tgt := 194) C dL_areAlike_53 (by decide) (fun c_53 => absurd ((lg_cmp_eq _ _).mpr rfl) c_53) (fun c_53 => ?_)
  refine hq_aload_n (q := 2) C dL_areAlike_56 rfl rfl ?_
  refine hq_iload (q := 0) C dL_areAlike_57 rfl ?_
  refine hq_iload_n (q := 4) C dL_areAlike_59 rfl rfl ?_
  refine hq_iconst (y := 2) C dL_areAlike_60 (by decide) ?_
  refine hq_ishr C dL_areAlike_61 ?_
  refine hq_iconst (y := 5) C dL_areAlike_62 (by decide) ?_
  refine hq_cSr (As := [.int _, .int _]) (rm := rL_low) (Cn := "") C (m_L_low (by decide)) ws_L_low ml_L_92 rfl rfl rfl rfl ⟨Nat.le_of_ble_eq_true rfl, Nat.le_of_ble_eq_true rfl⟩ (Nat.le_of_ble_eq_true rfl) ⟨Nat.le_of_ble_eq_true rfl, Nat.le_of_ble_eq_true rfl⟩ dL_areAlike_63 ?_
  refine hq_iload_n (q := 4) C dL_areAlike_66 rfl rfl ?_
  refine hq_iconst (y := 1) C dL_areAlike_67 (by decide) ?_
  refine hq_iand C dL_areAlike_68 ?_
  refine hq_iconst (y := 1) C dL_areAlike_69 (by decide) ?_
  refine hq_icmp_ne (tgt := 77) C dL_areAlike_70 (by decide) (fun c_70 => ?_) (fun c_70 => absurd c_70 hb9)
  refine hq_iconst (y := 0) C dL_areAlike_77 (by decide) ?_
  refine hq_cSLr (As := [.ref _, .int _, .int _, .int _]) (rm := rL_debt) (Cn := "") C (aq_debt _ _ _ h1 l D b0 I2 J2 0 hlt) ws_L_debt ml_L_148 rfl rfl rfl rfl ⟨Nat.le_of_ble_eq_true rfl, Nat.le_of_ble_eq_true rfl⟩ (Nat.le_of_ble_eq_true rfl) ⟨Nat.le_of_ble_eq_true rfl, Nat.le_of_ble_eq_true rfl⟩ dL_areAlike_78 ?_
  refine hq_aload_n (q := 3) C dL_areAlike_81 rfl rfl ?_
  refine hq_iload (q := 0) C dL_areAlike_82 rfl ?_
  refine hq_iload_n (q := 4) C dL_areAlike_84 rfl rfl ?_
  refine hq_iconst (y := 2) C dL_areAlike_85 (by decide) ?_
  refine hq_ishr C dL_areAlike_86 ?_
  refine hq_iconst (y := 5) C dL_areAlike_87 (by decide) ?_
  refine hq_cSr (As := [.int _, .int _]) (rm := rL_low) (Cn := "") C (m_L_low (by decide)) ws_L_low ml_L_92 rfl rfl rfl rfl ⟨Nat.le_of_ble_eq_true rfl, Nat.le_of_ble_eq_true rfl⟩ (Nat.le_of_ble_eq_true rfl) ⟨Nat.le_of_ble_eq_true rfl, Nat.le_of_ble_eq_true rfl⟩ dL_areAlike_88 ?_
  refine hq_iload_n (q := 4) C dL_areAlike_91 rfl rfl ?_
  refine hq_iconst (y := 1) C dL_areAlike_92 (by decide) ?_
  refine hq_iand C dL_areAlike_93 ?_
  refine hq_iconst (y := 1) C dL_areAlike_94 (by decide) ?_
  refine hq_icmp_ne (tgt := 102) C dL_areAlike_95 (by decide) (fun c_95 => ?_) (fun c_95 => absurd c_95 hb9)
  refine hq_iconst (y := 0) C dL_areAlike_102 (by decide) ?_
  refine hq_cSLp (As := [.ref _, .int _, .int _, .int _]) (rm := rL_debt) C (aq_debt _ _ _ h2 l D (b0 + 237) I2 J2 1 hlt) ws_L_debt ml_L_148 rfl rfl rfl rfl ⟨Nat.le_of_ble_eq_true rfl, Nat.le_of_ble_eq_true rfl⟩ (Nat.le_of_ble_eq_true rfl) ⟨Nat.le_of_ble_eq_true rfl, Nat.le_of_ble_eq_true rfl⟩ dL_areAlike_103 ?_
  refine hq_lcmp C dL_areAlike_106 ?_
  refine hq_if_ne (tgt := 194) C dL_areAlike_107 (by decide) (fun c_107 => absurd ((lg_cmp_eq _ _).mpr rfl) c_107) (fun c_107 => ?_)
  refine hq_aload_n (q := 2) C dL_areAlike_110 rfl rfl ?_
  refine hq_iload (q := 0) C dL_areAlike_111 rfl ?_
  refine hq_iload_n (q := 4) C dL_areAlike_113 rfl rfl ?_
  refine hq_iconst (y := 4) C dL_areAlike_114 (by decide) ?_
  refine hq_ishr C dL_areAlike_115 ?_
  refine hq_bipush (y := 6) C dL_areAlike_116 (by decide) ?_
  refine hq_cSr (As := [.int _, .int _]) (rm := rL_low) (Cn := "") C (m_L_low (by decide)) ws_L_low ml_L_92 rfl rfl rfl rfl ⟨Nat.le_of_ble_eq_true rfl, Nat.le_of_ble_eq_true rfl⟩ (Nat.le_of_ble_eq_true rfl) ⟨Nat.le_of_ble_eq_true rfl, Nat.le_of_ble_eq_true rfl⟩ dL_areAlike_118 ?_
  refine hq_cSLr (As := [.ref _, .int _, .int _]) (rm := rL_orderOf) (Cn := "") C (aq_orderOf _ _ h1 l D b0 I2 J2 0 hlt) ws_L_orderOf ml_L_144 rfl rfl rfl rfl ⟨Nat.le_of_ble_eq_true rfl, Nat.le_of_ble_eq_true rfl⟩ (Nat.le_of_ble_eq_true rfl) ⟨Nat.le_of_ble_eq_true rfl, Nat.le_of_ble_eq_true rfl⟩ dL_areAlike_121 ?_
  refine hq_aload_n (q := 3) C dL_areAlike_124 rfl rfl ?_
  refine hq_iload (q := 0) C dL_areAlike_125 rfl ?_
  refine hq_iload_n (q := 4) C dL_areAlike_127 rfl rfl ?_
  refine hq_iconst (y := 4) C dL_areAlike_128 (by decide) ?_
  refine hq_ishr C dL_areAlike_129 ?_
  refine hq_bipush (y := 6) C dL_areAlike_130 (by decide) ?_
  refine hq_cSr (As := [.int _, .int _]) (rm := rL_low) (Cn := "") C (m_L_low (by decide)) ws_L_low ml_L_92 rfl rfl rfl rfl ⟨Nat.le_of_ble_eq_true rfl, Nat.le_of_ble_eq_true rfl⟩ (Nat.le_of_ble_eq_true rfl) ⟨Nat.le_of_ble_eq_true rfl, Nat.le_of_ble_eq_true rfl⟩ dL_areAlike_132 ?_
  refine hq_cSLp (As := [.ref _, .int _, .int _]) (rm := rL_orderOf) C (aq_orderOf _ _ h2 l D (b0 + 237) I2 J2 1 hlt) ws_L_orderOf ml_L_144 rfl rfl rfl rfl ⟨Nat.le_of_ble_eq_true rfl, Nat.le_of_ble_eq_true rfl⟩ (Nat.le_of_ble_eq_true rfl) ⟨Nat.le_of_ble_eq_true rfl, Nat.le_of_ble_eq_true rfl⟩ dL_areAlike_135 ?_
  refine hq_lcmp C dL_areAlike_138 ?_
  refine hq_if_ne (tgt := 194) C dL_areAlike_139 (by decide) (fun c_139 => absurd ((lg_cmp_eq _ _).mpr rfl) c_139) (fun c_139 => ?_)
  refine hq_aload_n (q := 2) C dL_areAlike_142 rfl rfl ?_
  refine hq_iload (q := 0) C dL_areAlike_143 rfl ?_
  refine hq_iload_n (q := 4) C dL_areAlike_145 rfl rfl ?_
  refine hq_bipush (y := 6) C dL_areAlike_146 (by decide) ?_
  refine hq_ishr C dL_areAlike_148 ?_
  refine hq_iconst (y := 3) C dL_areAlike_149 (by decide) ?_
  refine hq_cSr (As := [.int _, .int _]) (rm := rL_low) (Cn := "") C (m_L_low (by decide)) ws_L_low ml_L_92 rfl rfl rfl rfl ⟨Nat.le_of_ble_eq_true rfl, Nat.le_of_ble_eq_true rfl⟩ (Nat.le_of_ble_eq_true rfl) ⟨Nat.le_of_ble_eq_true rfl, Nat.le_of_ble_eq_true rfl⟩ dL_areAlike_150 ?_
  refine hq_cSLr (As := [.ref _, .int _, .int _]) (rm := rL_wayOf) (Cn := "") C (aq_wayOf _ _ h1 l D b0 I2 J2 0 hlt) ws_L_wayOf ml_L_142 rfl rfl rfl rfl ⟨Nat.le_of_ble_eq_true rfl, Nat.le_of_ble_eq_true rfl⟩ (Nat.le_of_ble_eq_true rfl) ⟨Nat.le_of_ble_eq_true rfl, Nat.le_of_ble_eq_true rfl⟩ dL_areAlike_153 ?_
  refine hq_aload_n (q := 3) C dL_areAlike_156 rfl rfl ?_
  refine hq_iload (q := 0) C dL_areAlike_157 rfl ?_
  refine hq_iload_n (q := 4) C dL_areAlike_159 rfl rfl ?_
  refine hq_bipush (y := 6) C dL_areAlike_160 (by decide) ?_
  refine hq_ishr C dL_areAlike_162 ?_
  refine hq_iconst (y := 3) C dL_areAlike_163 (by decide) ?_
  refine hq_cSr (As := [.int _, .int _]) (rm := rL_low) (Cn := "") C (m_L_low (by decide)) ws_L_low ml_L_92 rfl rfl rfl rfl ⟨Nat.le_of_ble_eq_true rfl, Nat.le_of_ble_eq_true rfl⟩ (Nat.le_of_ble_eq_true rfl) ⟨Nat.le_of_ble_eq_true rfl, Nat.le_of_ble_eq_true rfl⟩ dL_areAlike_164 ?_
  refine hq_cSLp (As := [.ref _, .int _, .int _]) (rm := rL_wayOf) C (aq_wayOf _ _ h2 l D (b0 + 237) I2 J2 1 hlt) ws_L_wayOf ml_L_142 rfl rfl rfl rfl ⟨Nat.le_of_ble_eq_true rfl, Nat.le_of_ble_eq_true rfl⟩ (Nat.le_of_ble_eq_true rfl) ⟨Nat.le_of_ble_eq_true rfl, Nat.le_of_ble_eq_true rfl⟩ dL_areAlike_167 ?_
  refine hq_lcmp C dL_areAlike_170 ?_
  refine hq_if_ne (tgt := 194) C dL_areAlike_171 (by decide) (fun c_171 => absurd ((lg_cmp_eq _ _).mpr rfl) c_171) (fun c_171 => ?_)
  refine hq_aload_n (q := 2) C dL_areAlike_174 rfl rfl ?_
  refine hq_iload (q := 0) C dL_areAlike_175 rfl ?_
  refine hq_cSLr (As := [.ref _, .int _]) (rm := rL_sum) (Cn := "") C (aq_sum _ h1 l D b0 I2 J2 0 hlt) ws_L_sum ml_L_146 rfl rfl rfl rfl ⟨Nat.le_of_ble_eq_true rfl, Nat.le_of_ble_eq_true rfl⟩ (Nat.le_of_ble_eq_true rfl) ⟨Nat.le_of_ble_eq_true rfl, Nat.le_of_ble_eq_true rfl⟩ dL_areAlike_177 ?_
  refine hq_aload_n (q := 3) C dL_areAlike_180 rfl rfl ?_
  refine hq_iload (q := 0) C dL_areAlike_181 rfl ?_
  refine hq_cSLp (As := [.ref _, .int _]) (rm := rL_sum) C (aq_sum _ h2 l D (b0 + 237) I2 J2 1 hlt) ws_L_sum ml_L_146 rfl rfl rfl rfl ⟨Nat.le_of_ble_eq_true rfl, Nat.le_of_ble_eq_true rfl⟩ (Nat.le_of_ble_eq_true rfl) ⟨Nat.le_of_ble_eq_true rfl, Nat.le_of_ble_eq_true rfl⟩ dL_areAlike_183 ?_
  refine hq_lcmp C dL_areAlike_186 ?_
  refine hq_if_ne (tgt := 194) C dL_areAlike_187 (by decide) (fun c_187 => absurd ((lg_cmp_eq _ _).mpr rfl) c_187) (fun c_187 => ?_)
  refine hq_iconst (y := 1) C dL_areAlike_190 (by decide) ?_
  refine hq_goto (tgt := 195) C dL_areAlike_191 (by decide) ?_
  refine hq_istore_n (L' := [(3, .int _), (4, .int _), (0, .ref _), (1, .ref _), (2, .int _)]) C dL_areAlike_195 rfl (by decide) rfl ?_
  refine hq_iinc (q := 1) (y := 4) (L' := [(4, .int _), (3, .int _), (0, .ref _), (1, .ref _), (2, .int _)]) C dL_areAlike_196 rfl (by decide) (by decide) rfl ?_
  refine hq_goto (tgt := 20) C dL_areAlike_199 (by decide) ?_
  refine hq_iload (q := 0) C dL_areAlike_20 rfl ?_
  refine hq_iconst (y := 5) C dL_areAlike_22 (by decide) ?_
  refine hq_icmp_ge (tgt := 202) C dL_areAlike_23 (by decide) (fun c_23 => absurd c_23 (by decide)) (fun _ => ?_)
  refine hq_iload_n (q := 1) C dL_areAlike_26 rfl rfl ?_
  refine hq_if_eq (tgt := 202) C dL_areAlike_27 (by decide) (fun c_27 => absurd c_27 (by decide)) (fun _ => ?_)
  refine hq_aload_n (q := 2) C dL_areAlike_30 rfl rfl ?_
  refine hq_iload (q := 0) C dL_areAlike_31 rfl ?_
  refine hq_iload_n (q := 4) C dL_areAlike_33 rfl rfl ?_
  refine hq_iconst (y := 4) C dL_areAlike_34 (by decide) ?_
  refine hq_cSr (As := [.int _, .int _]) (rm := rL_low) (Cn := "") C (m_L_low (by decide)) ws_L_low ml_L_92 rfl rfl rfl rfl ⟨Nat.le_of_ble_eq_true rfl, Nat.le_of_ble_eq_true rfl⟩ (Nat.le_of_ble_eq_true rfl) ⟨Nat.le_of_ble_eq_true rfl, Nat.le_of_ble_eq_true rfl⟩ dL_areAlike_35 ?_
  refine hq_cSLr (As := [.ref _, .int _, .int _]) (rm := rL_brokerOf) (Cn := "") C (aq_brokerOf _ _ h1 l D b0 I2 J2 0 hlt) ws_L_brokerOf ml_L_155 rfl rfl rfl rfl ⟨Nat.le_of_ble_eq_true rfl, Nat.le_of_ble_eq_true rfl⟩ (Nat.le_of_ble_eq_true rfl) ⟨Nat.le_of_ble_eq_true rfl, Nat.le_of_ble_eq_true rfl⟩ dL_areAlike_38 ?_
  refine hq_aload_n (q := 3) C dL_areAlike_41 rfl rfl ?_
  refine hq_iload (q := 0) C dL_areAlike_42 rfl ?_
  refine hq_iload_n (q := 4) C dL_areAlike_44 rfl rfl ?_
  refine hq_iconst (y := 4) C dL_areAlike_45 (by decide) ?_
  refine hq_cSr (As := [.int _, .int _]) (rm := rL_low) (Cn := "") C (m_L_low (by decide)) ws_L_low ml_L_92 rfl rfl rfl rfl ⟨Nat.le_of_ble_eq_true rfl, Nat.le_of_ble_eq_true rfl⟩ (Nat.le_of_ble_eq_true rfl) ⟨Nat.le_of_ble_eq_true rfl, Nat.le_of_ble_eq_true rfl⟩ dL_areAlike_46 ?_
  refine hq_cSLp (As := [.ref _, .int _, .int _]) (rm := rL_brokerOf) C (aq_brokerOf _ _ h2 l D (b0 + 237) I2 J2 1 hlt) ws_L_brokerOf ml_L_155 rfl rfl rfl rfl ⟨Nat.le_of_ble_eq_true rfl, Nat.le_of_ble_eq_true rfl⟩ (Nat.le_of_ble_eq_true rfl) ⟨Nat.le_of_ble_eq_true rfl, Nat.le_of_ble_eq_true rfl⟩ dL_areAlike_49 ?_
  refine hq_lcmp C dL_areAlike_52 ?_
  refine hq_if_ne (tgt := 194) C dL_areAlike_53 (by decide) (fun c_53 => absurd ((lg_cmp_eq _ _).mpr rfl) c_53) (fun c_53 => ?_)
  refine hq_aload_n (q := 2) C dL_areAlike_56 rfl rfl ?_
  refine hq_iload (q := 0) C dL_areAlike_57 rfl ?_
  refine hq_iload_n (q := 4) C dL_areAlike_59 rfl rfl ?_
  refine hq_iconst (y := 2) C dL_areAlike_60 (by decide) ?_
  refine hq_ishr C dL_areAlike_61 ?_
  refine hq_iconst (y := 5) C dL_areAlike_62 (by decide) ?_
  refine hq_cSr (As := [.int _, .int _]) (rm := rL_low) (Cn := "") C (m_L_low (by decide)) ws_L_low ml_L_92 rfl rfl rfl rfl ⟨Nat.le_of_ble_eq_true rfl, Nat.le_of_ble_eq_true rfl⟩ (Nat.le_of_ble_eq_true rfl) ⟨Nat.le_of_ble_eq_true rfl, Nat.le_of_ble_eq_true rfl⟩ dL_areAlike_63 ?_
  refine hq_iload_n (q := 4) C dL_areAlike_66 rfl rfl ?_
  refine hq_iconst (y := 1) C dL_areAlike_67 (by decide) ?_
  refine hq_iand C dL_areAlike_68 ?_
  refine hq_iconst (y := 1) C dL_areAlike_69 (by decide) ?_
  refine hq_icmp_ne (tgt := 77) C dL_areAlike_70 (by decide) (fun c_70 => ?_) (fun c_70 => absurd c_70 hb9)
  refine hq_iconst (y := 0) C dL_areAlike_77 (by decide) ?_
  refine hq_cSLr (As := [.ref _, .int _, .int _, .int _]) (rm := rL_debt) (Cn := "") C (aq_debt _ _ _ h1 l D b0 I2 J2 0 hlt) ws_L_debt ml_L_148 rfl rfl rfl rfl ⟨Nat.le_of_ble_eq_true rfl, Nat.le_of_ble_eq_true rfl⟩ (Nat.le_of_ble_eq_true rfl) ⟨Nat.le_of_ble_eq_true rfl, Nat.le_of_ble_eq_true rfl⟩ dL_areAlike_78 ?_
  refine hq_aload_n (q := 3) C dL_areAlike_81 rfl rfl ?_
  refine hq_iload (q := 0) C dL_areAlike_82 rfl ?_
  refine hq_iload_n (q := 4) C dL_areAlike_84 rfl rfl ?_
  refine hq_iconst (y := 2) C dL_areAlike_85 (by decide) ?_
  refine hq_ishr C dL_areAlike_86 ?_
  refine hq_iconst (y := 5) C dL_areAlike_87 (by decide) ?_
  refine hq_cSr (As := [.int _, .int _]) (rm := rL_low) (Cn := "") C (m_L_low (by decide)) ws_L_low ml_L_92 rfl rfl rfl rfl ⟨Nat.le_of_ble_eq_true rfl, Nat.le_of_ble_eq_true rfl⟩ (Nat.le_of_ble_eq_true rfl) ⟨Nat.le_of_ble_eq_true rfl, Nat.le_of_ble_eq_true rfl⟩ dL_areAlike_88 ?_
  refine hq_iload_n (q := 4) C dL_areAlike_91 rfl rfl ?_
  refine hq_iconst (y := 1) C dL_areAlike_92 (by decide) ?_
  refine hq_iand C dL_areAlike_93 ?_
  refine hq_iconst (y := 1) C dL_areAlike_94 (by decide) ?_
  refine hq_icmp_ne (tgt := 102) C dL_areAlike_95 (by decide) (fun c_95 => ?_) (fun c_95 => absurd c_95 hb9)
  refine hq_iconst (y := 0) C dL_areAlike_102 (by decide) ?_
  refine hq_cSLp (As := [.ref _, .int _, .int _, .int _]) (rm := rL_debt) C (aq_debt _ _ _ h2 l D (b0 + 237) I2 J2 1 hlt) ws_L_debt ml_L_148 rfl rfl rfl rfl ⟨Nat.le_of_ble_eq_true rfl, Nat.le_of_ble_eq_true rfl⟩ (Nat.le_of_ble_eq_true rfl) ⟨Nat.le_of_ble_eq_true rfl, Nat.le_of_ble_eq_true rfl⟩ dL_areAlike_103 ?_
  refine hq_lcmp C dL_areAlike_106 ?_
  refine hq_if_ne (tgt := 194) C dL_areAlike_107 (by decide) (fun c_107 => absurd ((lg_cmp_eq _ _).mpr rfl) c_107) (fun c_107 => ?_)
  refine hq_aload_n (q := 2) C dL_areAlike_110 rfl rfl ?_
  refine hq_iload (q := 0) C dL_areAlike_111 rfl ?_
  refine hq_iload_n (q := 4) C dL_areAlike_113 rfl rfl ?_
  refine hq_iconst (y := 4) C dL_areAlike_114 (by decide) ?_
  refine hq_ishr C dL_areAlike_115 ?_
  refine hq_bipush (y := 6) C dL_areAlike_116 (by decide) ?_
  refine hq_cSr (As := [.int _, .int _]) (rm := rL_low) (Cn := "") C (m_L_low (by decide)) ws_L_low ml_L_92 rfl rfl rfl rfl ⟨Nat.le_of_ble_eq_true rfl, Nat.le_of_ble_eq_true rfl⟩ (Nat.le_of_ble_eq_true rfl) ⟨Nat.le_of_ble_eq_true rfl, Nat.le_of_ble_eq_true rfl⟩ dL_areAlike_118 ?_
  refine hq_cSLr (As := [.ref _, .int _, .int _]) (rm := rL_orderOf) (Cn := "") C (aq_orderOf _ _ h1 l D b0 I2 J2 0 hlt) ws_L_orderOf ml_L_144 rfl rfl rfl rfl ⟨Nat.le_of_ble_eq_true rfl, Nat.le_of_ble_eq_true rfl⟩ (Nat.le_of_ble_eq_true rfl) ⟨Nat.le_of_ble_eq_true rfl, Nat.le_of_ble_eq_true rfl⟩ dL_areAlike_121 ?_
  refine hq_aload_n (q := 3) C dL_areAlike_124 rfl rfl ?_
  refine hq_iload (q := 0) C dL_areAlike_125 rfl ?_
  refine hq_iload_n (q := 4) C dL_areAlike_127 rfl rfl ?_
  refine hq_iconst (y := 4) C dL_areAlike_128 (by decide) ?_
  refine hq_ishr C dL_areAlike_129 ?_
  refine hq_bipush (y := 6) C dL_areAlike_130 (by decide) ?_
  refine hq_cSr (As := [.int _, .int _]) (rm := rL_low) (Cn := "") C (m_L_low (by decide)) ws_L_low ml_L_92 rfl rfl rfl rfl ⟨Nat.le_of_ble_eq_true rfl, Nat.le_of_ble_eq_true rfl⟩ (Nat.le_of_ble_eq_true rfl) ⟨Nat.le_of_ble_eq_true rfl, Nat.le_of_ble_eq_true rfl⟩ dL_areAlike_132 ?_
  refine hq_cSLp (As := [.ref _, .int _, .int _]) (rm := rL_orderOf) C (aq_orderOf _ _ h2 l D (b0 + 237) I2 J2 1 hlt) ws_L_orderOf ml_L_144 rfl rfl rfl rfl ⟨Nat.le_of_ble_eq_true rfl, Nat.le_of_ble_eq_true rfl⟩ (Nat.le_of_ble_eq_true rfl) ⟨Nat.le_of_ble_eq_true rfl, Nat.le_of_ble_eq_true rfl⟩ dL_areAlike_135 ?_
  refine hq_lcmp C dL_areAlike_138 ?_
  refine hq_if_ne (tgt := 194) C dL_areAlike_139 (by decide) (fun c_139 => absurd ((lg_cmp_eq _ _).mpr rfl) c_139) (fun c_139 => ?_)
  refine hq_aload_n (q := 2) C dL_areAlike_142 rfl rfl ?_
  refine hq_iload (q := 0) C dL_areAlike_143 rfl ?_
  refine hq_iload_n (q := 4) C dL_areAlike_145 rfl rfl ?_
  refine hq_bipush (y := 6) C dL_areAlike_146 (by decide) ?_
  refine hq_ishr C dL_areAlike_148 ?_
  refine hq_iconst (y := 3) C dL_areAlike_149 (by decide) ?_
  refine hq_cSr (As := [.int _, .int _]) (rm := rL_low) (Cn := "") C (m_L_low (by decide)) ws_L_low ml_L_92 rfl rfl rfl rfl ⟨Nat.le_of_ble_eq_true rfl, Nat.le_of_ble_eq_true rfl⟩ (Nat.le_of_ble_eq_true rfl) ⟨Nat.le_of_ble_eq_true rfl, Nat.le_of_ble_eq_true rfl⟩ dL_areAlike_150 ?_
  refine hq_cSLr (As := [.ref _, .int _, .int _]) (rm := rL_wayOf) (Cn := "") C (aq_wayOf _ _ h1 l D b0 I2 J2 0 hlt) ws_L_wayOf ml_L_142 rfl rfl rfl rfl ⟨Nat.le_of_ble_eq_true rfl, Nat.le_of_ble_eq_true rfl⟩ (Nat.le_of_ble_eq_true rfl) ⟨Nat.le_of_ble_eq_true rfl, Nat.le_of_ble_eq_true rfl⟩ dL_areAlike_153 ?_
  refine hq_aload_n (q := 3) C dL_areAlike_156 rfl rfl ?_
  refine hq_iload (q := 0) C dL_areAlike_157 rfl ?_
  refine hq_iload_n (q := 4) C dL_areAlike_159 rfl rfl ?_
  refine hq_bipush (y := 6) C dL_areAlike_160 (by decide) ?_
  refine hq_ishr C dL_areAlike_162 ?_
  refine hq_iconst (y := 3) C dL_areAlike_163 (by decide) ?_
  refine hq_cSr (As := [.int _, .int _]) (rm := rL_low) (Cn := "") C (m_L_low (by decide)) ws_L_low ml_L_92 rfl rfl rfl rfl ⟨Nat.le_of_ble_eq_true rfl, Nat.le_of_ble_eq_true rfl⟩ (Nat.le_of_ble_eq_true rfl) ⟨Nat.le_of_ble_eq_true rfl, Nat.le_of_ble_eq_true rfl⟩ dL_areAlike_164 ?_
  refine hq_cSLp (As := [.ref _, .int _, .int _]) (rm := rL_wayOf) C (aq_wayOf _ _ h2 l D (b0 + 237) I2 J2 1 hlt) ws_L_wayOf ml_L_142 rfl rfl rfl rfl ⟨Nat.le_of_ble_eq_true rfl, Nat.le_of_ble_eq_true rfl⟩ (Nat.le_of_ble_eq_true rfl) ⟨Nat.le_of_ble_eq_true rfl, Nat.le_of_ble_eq_true rfl⟩ dL_areAlike_167 ?_
  refine hq_lcmp C dL_areAlike_170 ?_
  refine hq_if_ne (tgt := 194) C dL_areAlike_171 (by decide) (fun c_171 => absurd ((lg_cmp_eq _ _).mpr rfl) c_171) (fun c_171 => ?_)
  refine hq_aload_n (q := 2) C dL_areAlike_174 rfl rfl ?_
  refine hq_iload (q := 0) C dL_areAlike_175 rfl ?_
  refine hq_cSLr (As := [.ref _, .int _]) (rm := rL_sum) (Cn := "") C (aq_sum _ h1 l D b0 I2 J2 0 hlt) ws_L_sum ml_L_146 rfl rfl rfl rfl ⟨Nat.le_of_ble_eq_true rfl, Nat.le_of_ble_eq_true rfl⟩ (Nat.le_of_ble_eq_true rfl) ⟨Nat.le_of_ble_eq_true rfl, Nat.le_of_ble_eq_true rfl⟩ dL_areAlike_177 ?_
  refine hq_aload_n (q := 3) C dL_areAlike_180 rfl rfl ?_
  refine hq_iload (q := 0) C dL_areAlike_181 rfl ?_
  refine hq_cSLp (As := [.ref _, .int _]) (rm := rL_sum) C (aq_sum _ h2 l D (b0 + 237) I2 J2 1 hlt) ws_L_sum ml_L_146 rfl rfl rfl rfl ⟨Nat.le_of_ble_eq_true rfl, Nat.le_of_ble_eq_true rfl⟩ (Nat.le_of_ble_eq_true rfl) ⟨Nat.le_of_ble_eq_true rfl, Nat.le_of_ble_eq_true rfl⟩ dL_areAlike_183 ?_
  refine hq_lcmp C dL_areAlike_186 ?_
  refine hq_if_ne (tgt := 194) C dL_areAlike_187 (by decide) (fun c_187 => absurd ((lg_cmp_eq _ _).mpr rfl) c_187) (fun c_187 => ?_)
  refine hq_iconst (y := 1) C dL_areAlike_190 (by decide) ?_
  refine hq_goto (tgt := 195) C dL_areAlike_191 (by decide) ?_
  refine hq_istore_n (L' := [(3, .int _), (4, .int _), (0, .ref _), (1, .ref _), (2, .int _)]) C dL_areAlike_195 rfl (by decide) rfl ?_
  refine hq_iinc (q := 1) (y := 5) (L' := [(4, .int _), (3, .int _), (0, .ref _), (1, .ref _), (2, .int _)]) C dL_areAlike_196 rfl (by decide) (by decide) rfl ?_
  refine hq_goto (tgt := 20) C dL_areAlike_199 (by decide) ?_
  refine hq_iload (q := 0) C dL_areAlike_20 rfl ?_
  refine hq_iconst (y := 5) C dL_areAlike_22 (by decide) ?_
  refine hq_icmp_ge (tgt := 202) C dL_areAlike_23 (by decide) (fun _ => ?_) (fun c_23 => absurd c_23 (by decide))
  refine hq_iload_n (q := 1) C dL_areAlike_202 rfl rfl ?_
  exact hq_zretX C hr hlk dL_areAlike_203 rfl (by decide) rfl rfl (Nat.le_of_ble_eq_true rfl) (Nat.le_of_ble_eq_true rfl)
theorem m_L_areAlike {l : Launch} {D : va_G} {b0 k nb no nc : Nat} {I1 I2 P : MI} {J1 J2 N : MJ} (hlt : l.stackTraces = false) (h1 : IV k nb no nc I1 J1 P N) (h2 : IV k nb no nc I2 J2 P N) (v : Int32) : hw_MX l yL_areAlike wL_areAlike rA D b0 (hw_n 0) [.ref (hw_ad b0 0 0), .ref (hw_ad (b0 + 237) 0 0), .int v] (hw_vl b0 I1 J1 I2 J2 0) none (some (.int 1)) (hw_vl b0 I1 J1 I2 J2 0) rA.cells rA.slots := by
  by_cases hb9 : (v &&& 1) = 1
  · exact m_L_areAlike1 hlt h1 h2 hb9
  · exact m_L_areAlike0 hlt h1 h2 hb9
