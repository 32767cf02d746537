/-! new long[12][12] -/
theorem vr_outer (c : ClassId) (N h0 : Nat) : ∀ i : Nat, Jvm.Free.Multi.outerC c N h0 i = arrV c N (fun j => va_rf (if j < i then some (h0 + 1 + j) else none))
  | 0 => by
    show ({ cls := c, slots := Array.replicate N .null, vm := .none } : Cell) = _
    rw [arrV_new]
    refine congrArg (arrV c N) (funext fun j => ?_)
    simp [va_rf]
  | i + 1 => by
    show (Jvm.Free.Multi.outerC c N h0 i).setSlot i (.ref (h0 + 1 + i)) = _
    rw [vr_outer c N h0 i, arrV_store]
    refine congrArg (arrV c N) (funext fun j => ?_)
    by_cases e : j = i
    · subst e
      simp [updV, va_rf]
    · by_cases h : j < i
      · simp [updV, e, h, Nat.lt_succ_of_lt h]
      · simp [updV, e, h, show ¬ j < i + 1 by omega]
theorem hq_mna {p : Program} {l : Launch} {e : Env} {R : Room} {s : State} {m : MethodId} {args : Array Value} {below : List Frame} {meth : Method} {c : Code} {Q : State → Prop} {D : va_G} {b0 nL : Nat} {ka kb n : Nat} {pc : Nat} {L : List (Nat × Value)} {st : List Value} {v : VF} {cc : ByteArray} {own : String} {idx : Nat}
    (C : hw_C p s m args c D b0 cc own nL) {f g : Nat} (t0 : (hw_tys D)[6]? = some (D.1 (hw_kc f), .array .long)) (t1 : (hw_tys D)[1]? = some (D.1 (hw_kc g), .long)) (hlink : Cond.classLink own idx "[[J" ∈ hw_TB) (hover : (Cond.arrayOver (.array .long)).before #[] s = true) (harr : Cond.arrayClass .long ∈ hw_TB) (ho : hw_ob f = false) (ho2 : hw_ob g = false) (hsz : hw_sz f = 12) (hsz2 : hw_sz g = 12) (hi : 0 < hw_cnt f) (hcnt : hw_cnt g = 12) (hp : hw_pos f 0 = n) (hp2 : ∀ i, i < 12 → hw_pos g i = n + 1 + i) (hdg : decode cc pc = .ok (.multianewarray idx 2, 4))
    (hv : ∀ j, j < 12 → v f 0 j = .ref (hw_ad b0 g j)) (hv2 : ∀ i j, i < hw_cnt g → j < hw_sz g → v g i j = .long 0) (hc : ka + 13 ≤ R.cells) (hs : kb + 156 ≤ R.slots) (k : hw_V p l e R s m args below meth c Q D b0 nL true (ka + 13) (kb + 156) (n + 13) (pc + 4) L (.ref (hw_ad b0 f 0) :: st) v) : hw_V p l e R s m args below meth c Q D b0 nL true ka kb n pc L (.int 12 :: .int 12 :: st) v := by
  have hN : (12 : Int32).toNatClampNeg = 12 := by decide
  have eL : "[" ++ (FieldType.array .long).toString = "[[J" := by decide +kernel
  obtain ⟨hA1, hA2⟩ := C.2.2.2.2.2.1.2 6 _ t0
  obtain ⟨hB1, hB2⟩ := C.2.2.2.2.2.1.2 1 _ t1
  have hA3 : s.vm.findClass ("[" ++ (FieldType.array .long).toString) = some (D.1 (hw_kc f)) := hA2
  have hB3 : s.vm.findClass (FieldType.array .long).toString = some (D.1 (hw_kc g)) := hB2
  have hlk : (Cond.classLink own idx ("[" ++ (FieldType.array .long).toString)).before args s = true := by rw [eL]; exact C.2.2.2.2.1 _ hlink
  have hov : (Cond.arrayOver (.array .long)).before args s = true := hover
  intro H locs ls hH hZ hS hl T hT Xs
  obtain ⟨vm₁, cA, comp, -, fA, fC, -, -, X', step⟩ := Jvm.Stand.multianewarray2F Xs C.1 (own := own) (index := idx) (ty := .long) C.2.2.2.1 hlk hov (C.2.2.2.2.1 _ harr) (g := F0 m pc ls (.int 12 :: .int 12 :: st)) rfl (by rw [C.2.1]; exact hdg) (n := 12) (k := 12) (rest := st) rfl (by decide) (by decide) (by rw [hN]; decide) (by rw [hN]; decide) (by rw [hN]; decide) rfl rfl (by rw [hN]; omega) (by rw [hN]; omega)
  rw [hN] at X' step
  cases hA3.symm.trans fA
  cases hB3.symm.trans fC
  generalize hF : Jvm.Free.Multi.fill (T.setVm vm₁) (D.1 (hw_kc f)) (D.1 (hw_kc g)) 12 12 (defaultValue .long) 12 = F at X' step
  have hTh : (T.setVm vm₁).heap = H := hT
  obtain ⟨f1, f2, -, -⟩ := Jvm.Free.Multi.fill_facts (T.setVm vm₁) (D.1 (hw_kc f)) (D.1 (hw_kc g)) 12 12 (defaultValue .long) 12
  rw [hF, hTh] at f1 f2
  have hold : ∀ x : Nat, x < H.size → F.heap[x]? = H[x]? := fun x hx => by
    have := Jvm.Free.Multi.fill_old (T.setVm vm₁) (D.1 (hw_kc f)) (D.1 (hw_kc g)) 12 12 (defaultValue .long) (a := x) (by rw [hTh]; exact hx) 12
    rw [hF, hTh] at this
    exact this
  have hrow : ∀ j : Nat, j < 12 → F.heap[H.size + 1 + j]? = some (arrV (D.1 (hw_kc g)) 12 (fun _ => .long 0)) := fun j hj => by
    have := Jvm.Free.Multi.fill_inner (T.setVm vm₁) (D.1 (hw_kc f)) (D.1 (hw_kc g)) 12 12 (defaultValue .long) 12 j hj
    rw [hF, hTh] at this
    rw [this, ← arrV_new]
    rfl
  rw [vr_outer] at f2
  have hz : H.size = b0 + n := hZ.2 rfl
  have hk : hw_V p l e R s m args below meth c Q D b0 nL true (ka + 13) (kb + 156) (n + 13) (pc + 4) L (.ref (hw_ad b0 f 0) :: st) v := k
  have hH2 : hw_HP D b0 (n + 13) v F.heap := by
    intro f' i' hi' hn'
    by_cases e1 : hw_pos f' i' < n
    · exact (hH f' i' hi' e1).kept (hold _ (by unfold hw_ad; omega))
    · by_cases e2 : hw_pos f' i' = n
      · obtain ⟨rfl, rfl⟩ := hw_inj hi' hi (e2.trans hp.symm)
        refine ⟨fun z => (by rw [ho] at z; cases z), fun _ => ?_⟩
        have ea : hw_ad b0 f' 0 = H.size := by unfold hw_ad; omega
        rw [ea, f2, hsz]
        refine congrArg some (hw_arrV fun j hj => ?_)
        rw [hv j hj, if_pos hj]
        show Value.ref (H.size + 1 + j) = Value.ref (b0 + hw_pos g j)
        rw [hp2 j hj]
        have e5 : H.size + 1 + j = b0 + (n + 1 + j) := by omega
        exact congrArg Value.ref e5
      · have e3 := hp2 (hw_pos f' i' - n - 1) (by omega)
        obtain ⟨rfl, e4⟩ := hw_inj hi' (show hw_pos f' i' - n - 1 < hw_cnt g by omega) (by omega)
        refine ⟨fun z => (by rw [ho2] at z; cases z), fun _ => ?_⟩
        have ea : hw_ad b0 f' i' = H.size + 1 + i' := by unfold hw_ad; omega
        rw [ea, hrow i' (by omega), hsz2]
        exact congrArg some (hw_arrV fun j hj => (hv2 i' j hi' (by omega)).symm)
  have hS2 : va_S (fun q => b0 ≤ q) s.heap F.heap locs := ⟨by rw [f1]; have := hS.1; omega, fun x h1 h2 => (hold x (Nat.lt_of_lt_of_le h1 hS.1)).trans (hS.2.1 x h1 h2), hS.2.2⟩
  obtain ⟨t, a1, b1⟩ := hk F.heap locs ls hH2 ⟨by rw [f1]; omega, fun _ => by rw [f1]; omega⟩ hS2 hl F rfl X'
  refine ⟨t, step t ?_, b1⟩
  have ea : T.heap.size = hw_ad b0 f 0 := by
    rw [hT]
    unfold hw_ad
    omega
  rw [ea]
  exact a1
