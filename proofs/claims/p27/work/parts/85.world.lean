/-! the world at the law's entry, out of the tables -/
theorem lw_prim {args : Array Value} {s : State} {ty : FieldType} (h : (Cond.arrayClass ty).before args s = true) : ∃ cA : ClassId, ArrOfT s cA ty ∧ s.vm.findClass ("[" ++ ty.toString) = some cA := by
  obtain ⟨cA, kA, comp, h1, h2, h3⟩ := Cond.arrayClass_spec h
  exact ⟨cA, fun n z => ⟨fun k h => (by cases h), kA, h2, comp, h3⟩, h1⟩
theorem lw_over {args : Array Value} {s : State} {Cn : String} (h : (Cond.arrayOver (.object Cn)).before args s = true) : ∃ cA : ClassId, ArrOfT s cA (.object Cn) ∧ va_RA s cA (.object Cn) := by
  obtain ⟨comp, cA, kA, h1, -, h3, h4, h5⟩ := Cond.arrayOver_spec h
  exact ⟨cA, fun n z => ⟨fun k h => (by cases h), kA, h3, comp, h4⟩, kA, comp, h3, h4, h1, h5⟩
theorem lw_overA {args : Array Value} {s : State} {ty : FieldType} (h : (Cond.arrayOver (.array ty)).before args s = true) : ∃ cA : ClassId, ArrOfT s cA (.array ty) ∧ s.vm.findClass ("[" ++ (FieldType.array ty).toString) = some cA := by
  simp only [Cond.before, Cond.holds, Cond.value, beq_iff_eq, Option.bind_eq_some_iff, Option.map_eq_some_iff] at h
  obtain ⟨comp, -, c9, -, k, hk, hb⟩ := h
  cases hkind : k.kind with
  | array x9 ty9 =>
    rw [hkind] at hb
    simp only [Bool.and_eq_true, decide_eq_true_eq] at hb
    exact ⟨c9, fun n z => ⟨fun k h => (by cases h), k, hk, x9, by rw [hkind, hb.1]⟩, hb.2⟩
  | _ =>
    rw [hkind] at hb
    simp at hb
theorem lw_str {args : Array Value} {s : State} {k : Nat} {t : String} {cur : ClassId} (hown : s.vm.findClass RX5 = some cur) (h : (Cond.stringRef RX5 k t).before args s = true) : hw_str k t s := by
  obtain ⟨_, _, _, a, -, -, -, -, -, hev⟩ := Cond.stringRef_spec hown h
  exact ⟨a, vk_R.of h hev⟩
set_option maxRecDepth 100000 in
theorem lw_K {args : Array Value} {s : State} (hts : ∀ w ∈ lw_tbl, w.before args s = true) : ∃ D : va_G, va_K D vwCl (hw_tys D) s := by
  have q : ∀ (i : Nat) (w : Cond), lw_tbl[i]? = some w → w.before args s = true := fun i w h => hts w (List.mem_of_getElem? h)
  obtain ⟨c0, i0, k0⟩ := u_known (C := RX0) (T := TX0) (N := 8) (n := 8) hts inX0 (q 58 _ (by decide +kernel))
  obtain ⟨c1, i1, k1⟩ := u_known (C := RX1) (T := TX1) (N := 6) (n := 6) hts inX1 (q 140 _ (by decide +kernel))
  obtain ⟨c2, i2, k2⟩ := u_known (C := RX2) (T := TX2) (N := 2) (n := 2) hts inX2 (q 165 _ (by decide +kernel))
  obtain ⟨c3, i3, k3⟩ := u_known (C := RX3) (T := TX3) (N := 10) (n := 10) hts inX3 (q 96 _ (by decide +kernel))
  obtain ⟨c4, i4, k4⟩ := u_known (C := RX4) (T := TX4) (N := 11) (n := 11) hts inX4 (q 184 _ (by decide +kernel))
  obtain ⟨c5, i5, k5⟩ := u_known (C := RX5) (T := TX5) (N := 14) (n := 14) hts inX5 (q 49 _ (by decide +kernel))
  obtain ⟨a0, e0, f0⟩ := lw_prim (ty := .int) (q 92 _ (by decide +kernel))
  obtain ⟨a1, e1, f1⟩ := lw_prim (ty := .long) (q 182 _ (by decide +kernel))
  obtain ⟨a2, e2, f2⟩ := lw_prim (ty := .boolean) (q 93 _ (by decide +kernel))
  obtain ⟨a3, e3, f3⟩ := lw_over (Cn := "HundiHall$Broker") (q 57 _ (by decide +kernel))
  obtain ⟨a4, e4, f4⟩ := lw_over (Cn := "HundiHall$Order") (q 95 _ (by decide +kernel))
  obtain ⟨a5, e5, f5⟩ := lw_over (Cn := "HundiHall$Courier") (q 139 _ (by decide +kernel))
  obtain ⟨a6, e6, f6⟩ := lw_overA (ty := .long) (q 171 _ (by decide +kernel))
  refine ⟨(fun k => [c0, c1, c2, c3, c4, c5, 0, 0, 0, 0, a0, a1, a2, a3, a4, a5, a6].getD k 0, fun k => [i0, i1, i2, i3, i4, i5].getD k (fun _ => 0)), fun k z hz => ?_, fun k z hz => ?_⟩
  · match k, hz with
    | 0, hz => cases hz; exact k0
    | 1, hz => cases hz; exact k1
    | 2, hz => cases hz; exact k2
    | 3, hz => cases hz; exact k3
    | 4, hz => cases hz; exact k4
    | 5, hz => cases hz; exact k5
    | k + 6, hz => exact absurd hz (by simp [vwCl])
  · match k, hz with
    | 0, hz => cases hz; exact ⟨e0, f0⟩
    | 1, hz => cases hz; exact ⟨e1, f1⟩
    | 2, hz => cases hz; exact ⟨e2, f2⟩
    | 3, hz => cases hz; exact ⟨e3, f3⟩
    | 4, hz => cases hz; exact ⟨e4, f4⟩
    | 5, hz => cases hz; exact ⟨e5, f5⟩
    | 6, hz => cases hz; exact ⟨e6, f6⟩
    | k + 7, hz => exact absurd hz (by simp [hw_tys])
set_option maxRecDepth 100000 in
theorem lw_XW {args : Array Value} {s : State} (hts : ∀ w ∈ lw_tbl, w.before args s = true) (hg : (Jvm.Cond.and given_1 narrow_1).before args s = true) : hw_XW s := by
  have q : ∀ (i : Nat) (w : Cond), lw_tbl[i]? = some w → w.before args s = true := fun i w h => hts w (List.mem_of_getElem? h)
  have hs := flat_of_before _ hg
  obtain ⟨c5, i5, k5⟩ := u_known (C := RX5) (T := TX5) (N := 14) (n := 14) hts inX5 (q 49 _ (by decide +kernel))
  have hown := k5.2.1
  refine ⟨⟨va_Nw.of rfl (q 283 _ (by decide +kernel)), va_Nw.of rfl (q 285 _ (by decide +kernel)), va_Nw.of rfl (q 287 _ (by decide +kernel))⟩, ⟨va_Nw.of rfl (q 396 _ (by decide +kernel)), va_Nw.of rfl (q 281 _ (by decide +kernel)), va_Nw.of rfl (q 415 _ (by decide +kernel))⟩, ⟨va_Nc.of (hs _ (by decide +kernel)), va_Nc.of (hs _ (by decide +kernel)), va_Nc.of (hs _ (by decide +kernel))⟩, lw_str hown (q 403 _ (by decide +kernel)), lw_str hown (q 706 _ (by decide +kernel)), lw_str hown (q 320 _ (by decide +kernel)), lw_str hown (q 422 _ (by decide +kernel)), lw_str hown (q 448 _ (by decide +kernel))⟩
set_option maxRecDepth 100000 in
theorem lw_zs {args : Array Value} {s : State} (hts : ∀ w ∈ lw_tbl, w.before args s = true) (hg : (Jvm.Cond.and given_1 narrow_1).before args s = true) : hw_zU s.heap.size s s.heap ∧ hw_zN s.heap.size s s.heap := by
  have q : ∀ (i : Nat) (w : Cond), lw_tbl[i]? = some w → w.before args s = true := fun i w h => hts w (List.mem_of_getElem? h)
  have hs := flat_of_before _ hg
  exact ⟨vx_Zqof (q 306 _ (by decide +kernel)) (q 41 _ (by decide +kernel)) (hs _ (by decide +kernel)) (fun a h1 h2 => by omega), vx_Zqof (q 308 _ (by decide +kernel)) (q 41 _ (by decide +kernel)) (hs _ (by decide +kernel)) (fun a h1 h2 => by omega)⟩
set_option maxRecDepth 100000 in
theorem lw_zH {args : Array Value} {s : State} (hts : ∀ w ∈ lw_tbl, w.before args s = true) : zH s := by
  have q : ∀ (i : Nat) (w : Cond), lw_tbl[i]? = some w → w.before args s = true := fun i w h => hts w (List.mem_of_getElem? h)
  exact ⟨⟨va_AO.of (q 57 _ (by decide +kernel)), va_AO.of (q 95 _ (by decide +kernel)), va_AO.of (q 139 _ (by decide +kernel))⟩, (show (Cond.arrayOver (.array .long)).before #[] s = true from q 171 (Cond.arrayOver (.array .long)) (by decide +kernel)), va_Nw.of rfl (q 59 _ (by decide +kernel)), va_Nw.of rfl (q 97 _ (by decide +kernel)), va_Nw.of rfl (q 141 _ (by decide +kernel)), va_Nw.of rfl (q 166 _ (by decide +kernel))⟩
