/-! a way for a new order -/
theorem fw_spec {I : MI} {J : MJ} {a b nb z : Nat} (hbc : I 0 0 = nI nb) (hnb : nb ≤ 12) (ha : a < 12) (hb9 : b < 12) (hab : a ≠ b) (hz : z ≤ 1000000) (hrt : hw_rt I) (hbd : bd J 4611686018427387904) :
    (∀ g j, ¬ (31 ≤ g ∧ g ≤ 39) → (sp_fw I J a b (nI z)).2 g j = I g j) ∧
    ((sp_fw I J a b (nI z)).1 = 0 ∨ ((sp_fw I J a b (nI z)).1 = 1 ∧ ∃ (n : Nat) (p : Nat → Nat), 1 ≤ n ∧ n < 12 ∧ (sp_fw I J a b (nI z)).2 37 0 = nI (n + 1) ∧ p 0 = a ∧ p n = b ∧ (∀ k, k ≤ n → p k < 12 ∧ (sp_fw I J a b (nI z)).2 36 k = nI (p k) ∧ (∀ j, j < k → p j ≠ p k) ∧ ∃ f : Nat, f ≤ 1300000 ∧ (sp_fw I J a b (nI z)).2 34 (p k) = nI f))) := by
  have hst : ∀ g j, g ≠ 31 → g ≠ 38 → g ≠ 39 → sp_start I (I 0 0) (nI z) (I 4 0) g j = I g j := fun g j h1 h2 h3 => sp_start_oth h1 h2 h3
  have e38 : sp_start I (I 0 0) (nI z) (I 4 0) 38 0 = nI z := sp_start_38.1
  refine ⟨fun g j hg => (sp_find_oth (by omega)).trans (hst g j (by omega) (by omega) (by omega)), ?_⟩
  obtain ⟨hd, hop, hfe, hm⟩ := dc_inst (I := sp_start I (I 0 0) (nI z) (I 4 0)) (J := J) (hrt.congr (fun i => hst 6 i (by decide) (by decide) (by decide))) ⟨z, hz, e38⟩ hbd
  have hfs := find_spec hd hop hfe hm ha hb9
  rcases hfs.2 with ⟨a1, _⟩ | ⟨a1, n, f, p, b1, b2, b3, b4, b5, b6, b7⟩
  · exact Or.inl a1
  refine Or.inr ⟨a1, n, p, ?_, b1, b5, b4.1, b4.2.1, fun k hk => ?_⟩
  · rcases Nat.eq_zero_or_pos n with y | y
    · subst y; exact absurd (b4.1.symm.trans b4.2.1) hab
    · exact y
  · obtain ⟨c1, fk, c2⟩ := b4.2.2.1 k hk
    refine ⟨c1, b6 k hk, fun j hj e => ?_, ?_⟩
    · obtain ⟨_, fj, d2⟩ := b4.2.2.1 j (by omega)
      rw [e] at d2
      have := (c2.one d2).2
      omega
    · obtain ⟨fk, _, d2, d3⟩ := b7 k hk
      exact ⟨fk, d3, d2⟩
theorem take_new {K : MI} {i n : Nat} {p : Nat → Nat} (a2 : K 37 0 = nI (n + 1)) (hn : n < 12) (h1 : 1 ≤ n) (h17 : K 17 i = 0) (hp : ∀ k, k ≤ n → p k < 12 ∧ K 36 k = nI (p k) ∧ ∀ j, j < k → p j ≠ p k) :
    hw_wy (sp_take K i 0 (n + 1)) i n ∧ sp_take K i 0 (n + 1) 17 i = nI 0 ∧ hw_or (sp_take K i 0 (n + 1)) i ∧ hw_df (sp_take K i 0 (n + 1)) i := by
  have t19 : sp_take K i 0 (n + 1) 19 i = nI (n + 1) := by rw [take_19, Nat.zero_add]
  have t17 : sp_take K i 0 (n + 1) 17 i = nI 0 := by rw [take_ne (by decide) (by decide) (by decide), h17]; rfl
  have thi : ∀ k, k ≤ n → sp_take K i 0 (n + 1) 20 (12 * i + k) = nI (p k) := fun k hk => by
    have := (take_at (i := i) (q := 0) a2 (by omega) (show k < n + 1 by omega)).1
    rw [Nat.zero_add] at this
    rw [this]; exact (hp k hk).2.1
  have eln : hw_ln (sp_take K i 0 (n + 1)) i = n := by
    unfold hw_ln; rw [t19, nI_clamp (by omega)]; omega
  have epl : hw_pl (sp_take K i 0 (n + 1)) i = 0 := by
    show (sp_take K i 0 (n + 1) 17 i).toNatClampNeg = _
    rw [t17, nI_clamp (by omega)]
  have W : hw_wy (sp_take K i 0 (n + 1)) i n := ⟨hn, t19, fun k hk => ⟨_, (hp k hk).1, thi k hk⟩⟩
  refine ⟨W, t17, ⟨by rw [eln]; exact W, by rw [eln]; exact h1, by rw [epl]; exact t17, by rw [epl, eln]; omega⟩, fun j k hj hk => ?_⟩
  rw [eln] at hk
  rw [thi j (by omega), thi k hk]
  intro e
  exact (hp k hk).2.2 j hj ((nI_eq (by have := (hp j (by omega)).1; omega) (by have := (hp k hk).1; omega)).mp e)
/-- places that no order and no courier has had yet -/
def hw_fr (I : MI) (no nc : Nat) : Prop := (∀ o, no ≤ o → o < 40 → I 17 o = 0 ∧ I 18 o = 0) ∧ ∀ c, nc ≤ c → c < 40 → I 27 c = 0 ∧ I 26 c = 0
/-! a method that may throw with the cells changed -/
def hw_MXe (l : Launch) (y : MethodName) (w : Cond) (rm : Room) (D : va_G) (b0 n : Nat) (av : List Value) (v : VF) (ex : Option String) (ve : VF) (r : Option Value) (v' : VF) (mc ms : Nat) : Prop :=
  vx_Met l y (w :: hw_TB) rm (va_Pc av (hw_PW D b0 false n v)) (hw_QX D b0 n ex r v') (hw_XC D b0 n ex ve) mc ms (fun q => b0 ≤ q)
abbrev hXe (l : Launch) (y : MethodName) (w : Cond) (rm : Room) (D : va_G) (b0 : Nat) (av : List Value) (I : MI) (J : MJ) (P : MI) (N : MJ) (o : Int64) (ex : Option String) (ve : VF) (r : Option Value) (I' : MI) (J' : MJ) (P' : MI) (N' : MJ) (o' : Int64) : Prop := hw_MXe l y w rm D b0 (hw_n o) av (hw_vl b0 I J P N o) ex ve r (hw_vl b0 I' J' P' N' o') rm.cells rm.slots
section HE
variable {p : Program} {l : Launch} {e : Env} {R : Room} {s : State} {m : MethodId} {args : Array Value} {below : List Frame} {meth : Method} {c : Code} {Q : State → Prop}
variable {D : va_G} {b0 nL : Nat} {xb xb' : Bool} {ka kb n n' : Nat} {pc : Nat} {L L' : List (Nat × Value)} {st st0 : List Value} {v v' ve : VF} {cc : ByteArray} {own : String}
variable {y : MethodName} {bytes : ByteArray} {maxL idx k mc ms : Nat} {ret : Option FieldType} {rm : Room} {As : List Value} {r : Option Value} {Cn : String} {ex : Option String}
theorem hw_afterXe {H : Heap} {locs : List Loc} {ls : Array Slot} {a : Array Value} (hr : vx_Run p l e R s m args below meth c H locs ka kb mc ms (F0 m pc ls st0) st (hw_QX D b0 n ex r v' a) (hw_XC D b0 n ex ve) (fun q => b0 ≤ q)) (hS : va_S (fun q => b0 ≤ q) s.heap H locs) (hl : lv_has ls nL L)
    (kk : ex = none → hw_V p l e R s m args below meth c Q D b0 nL false (ka + mc) (kb + ms) n (pc + 3) L (r.toList ++ st) v') (kx : ∀ E, ex = some E → hw_T p l e R s m args below meth c Q D b0 nL (ka + mc) (kb + ms) n E pc L st ve) : W p l e R s m args below meth c H locs ka kb Q (F0 m pc ls st0) := by
  have tr : ∀ (st₀ t T' : State) (L9 : List Loc), st₀.heap = H → T'.heap = t.heap → (∀ q ∈ L9, b0 ≤ q.base) → va_F (fun q => b0 ≤ q) st₀ t → va_S (fun q => b0 ≤ q) s.heap T'.heap (locs ++ L9) := by
    intro st₀ t T' L9 h0 e1 hL hF
    have hz : H.size ≤ t.heap.size := by rw [← h0]; exact hF.1
    have hk : ∀ q : Nat, q < H.size → ¬ b0 ≤ q → t.heap[q]? = H[q]? := fun q h1 h2 => by
      have := hF.2 q (by rw [h0]; exact h1) h2
      rw [this, h0]
    exact ⟨Nat.le_trans hS.1 (by rw [e1]; exact hz), fun q h1 h2 => by rw [e1, hk q (Nat.lt_of_lt_of_le h1 hS.1) h2]; exact hS.2.1 q h1 h2, fun q hq => by
      rcases List.mem_append.mp hq with h | h
      · exact hS.2.2 q h
      · exact hL q h⟩
  intro T hT X
  rcases hr T hT X with ⟨w, st₀, t, T', L9, h0, X', hL, e1, e2, ⟨hn, hv, hH1, hZ1, hF⟩, stp⟩ | ⟨q, st₀, t, T', L9, E, ce, h0, X', hL, e1, e2, ⟨hE, hH1, hZ1, hF⟩, hce, hcv, hcl, stp⟩
  · cases hv
    obtain ⟨t2, a1, b1⟩ := kk hn T'.heap (locs ++ L9) ls (by rw [e1]; exact hH1) (by rw [e1]; exact hZ1) (tr st₀ t T' L9 h0 e1 hL hF) hl T' rfl X'
    exact ⟨t2, stp t2 a1, b1⟩
  · obtain ⟨t2, a1, b1⟩ := kx E hE T'.heap (locs ++ L9) ls q ce (by rw [e1]; exact hH1) (by rw [e1]; exact hZ1) (tr st₀ t T' L9 h0 e1 hL hF) hl (by rw [e1]; exact hce) hcv hcl T' rfl X'
    exact ⟨t2, stp.trans a1, b1⟩
theorem hq_callVXe (C : hw_C p s m args c D b0 cc own nL) {f i : Nat} {T : u_T} {N : Nat} (hM : hw_MXe l y (Cond.code y bytes maxL ret) rm D b0 n (.ref (hw_ad b0 f i) :: As) v ex ve r v' mc ms) (hw : hw_WV Cn y (Cond.code y bytes maxL ret) k) (hl9 : Cond.methodLink own idx y ∈ hw_TB) (ho : hw_ob f = true) (hcl : vwCl[hw_kc f]? = some (Cn, T, N)) (hi : i < hw_cnt f) (hn : hw_pos f i < n)
    (hlen : As.length = k) (hst : st0 = As.reverse ++ .ref (hw_ad b0 f i) :: st) (hrc : rm.cells = mc) (hrs : rm.slots = ms) (hR : rm.frames + 1 ≤ R.frames ∧ 8 + (maxL + 11) + rm.locals ≤ R.locals) (hroom : (st.map fun v => v.category).sum ≤ 8) (hf : ka + mc ≤ R.cells ∧ kb + ms ≤ R.slots) (hdg : decode cc pc = .ok (.invokevirtual idx, 3))
    (kk : ex = none → hw_V p l e R s m args below meth c Q D b0 nL false (ka + mc) (kb + ms) n (pc + 3) L (r.toList ++ st) v') (kx : ∀ E, ex = some E → hw_T p l e R s m args below meth c Q D b0 nL (ka + mc) (kb + ms) n E pc L st ve) : hw_V p l e R s m args below meth c Q D b0 nL false ka kb n pc L st0 v := by
  intro H locs ls hH hZ hS hl
  refine hw_afterXe (vx_runV (Ts := hw_TB) ⟨C.1, C.2.1, C.2.2.1, C.2.2.2.1, C.2.2.2.2.1⟩ hM (cwV k C.2.2.2.2.1 (hw_goodV hw hl9) rfl hrc hrs hw.2 hR) ⟨hw_blind, hw_recv C hH ho hcl hi hn, fun U hU hW => ⟨rfl, hw_next C hU hW hH hZ hS⟩⟩ rfl hlen hl.1 hst (lv_room hroom) hdg hf) hS hl kk kx
theorem hw_MXeof {av : List Value} (hy : plainName y.cls = true) (Ls : List (Nat × Value)) (hLs : lv_args 0 av = Ls) (hml : (lg_sl av).length ≤ maxL)
    (body : ∀ (p : Program) (e : Env) (s : State) (m : MethodId) (args : Array Value) (below : List Frame) (meth : Method) (c : Code), hw_C p s m args c D b0 bytes y.cls maxL → meth.sig.returnType = ret → meth.locks = false → (∀ x ∈ c.exceptionTable.toList, False) →
      hw_V p l e rm s m args below meth c (vx_MQ below (hw_QX D b0 n ex r v') (hw_XC D b0 n ex ve) args s mc ms (fun q => b0 ≤ q)) D b0 maxL false 0 0 n 0 Ls [] v) : hw_MXe l y (Cond.code y bytes maxL ret) rm D b0 n av v ex ve r v' mc ms := by
  refine vx_ofW (cc := bytes) (maxL := maxL) (ret := ret) hy rfl ?_
  intro p e s m args below meth c s₁ B hml9 ht9 hv9
  obtain ⟨rfl, h1, h2, h3, h4, h5, h6⟩ := hv9
  have hts := atoms_spec (ws := Cond.code y bytes maxL ret :: hw_TB) B.pre
  have C : hw_C p s m av.toArray c D b0 bytes y.cls maxL := ⟨B.exec, B.bytes, hml9, findClass_of_methodNamed B.named, fun w hw => hts w (List.mem_cons_of_mem _ hw), h1, h2, h3, h4, Nat.le_trans (Nat.le_add_right _ _) h6.1⟩
  rw [lg_entry_eq]
  have hl := lv_entry av (n := maxL) hml
  rw [hLs] at hl
  exact body p e s m av.toArray below meth c C B.returns B.notSynchronized ht9 s.heap [] _ h5 h6 va_S.rf hl
end HE
