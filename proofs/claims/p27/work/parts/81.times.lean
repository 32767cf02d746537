/-! what the cells hold while the constructors work: a link is there from its own time on -/
def hs_o : List (List (Nat × Nat)) := [[(1, 0), (38, 0), (159, 0), (202, 0), (211, 0), (212, 0), (221, 0), (222, 0), (0, 0), (0, 0), (0, 0), (0, 0), (0, 0), (0, 0)], [], [(0, 0), (0, 0), (0, 0), (0, 0), (0, 0), (0, 0), (2, 3), (3, 3)], [], [], [], [(0, 0), (0, 0), (0, 0), (0, 0), (0, 0), (0, 0), (0, 0), (0, 0), (39, 3), (40, 3)], [], [], [], [(0, 0), (0, 0), (0, 0), (0, 0), (0, 0), (0, 0)], [(200, 0), (201, 0)], [], [], [], [], [(209, 0), (210, 0), (203, 0), (204, 0), (205, 0), (206, 0), (207, 0), (208, 0), (0, 0), (0, 0), (0, 0)], [], [], [], [], [], [], [], [], [], [], [], [], [], [], [], [], [], [], [], [], [], [], [], [], [], [], [], [], [], [], [], [], [], [], []]
def hs_a : List (Nat × Nat) := [(0, 0), (4, 3), (0, 0), (0, 0), (0, 0), (41, 3), (0, 0), (0, 0), (0, 0), (160, 1), (0, 0), (0, 0), (0, 0), (0, 0), (0, 0), (0, 0), (0, 0), (0, 0), (0, 0), (0, 0), (0, 0), (0, 0), (0, 0), (213, 1), (0, 0), (0, 0), (0, 0), (0, 0), (0, 0), (0, 0), (0, 0), (0, 0), (0, 0), (0, 0), (0, 0), (0, 0), (0, 0), (0, 0), (0, 0), (0, 0), (0, 0), (0, 0), (0, 0), (0, 0), (0, 0), (0, 0), (0, 0), (0, 0), (0, 0), (0, 0), (0, 0), (0, 0)]
def hs_i : List (Nat × Nat × Nat) := [(0, 0, 0), (0, 0, 0), (2, 0, 6), (2, 0, 7), (1, 0, 0), (2, 1, 6), (2, 1, 7), (1, 0, 1), (2, 2, 6), (2, 2, 7), (1, 0, 2), (2, 3, 6), (2, 3, 7), (1, 0, 3), (2, 4, 6), (2, 4, 7), (1, 0, 4), (2, 5, 6), (2, 5, 7), (1, 0, 5), (2, 6, 6), (2, 6, 7), (1, 0, 6), (2, 7, 6), (2, 7, 7), (1, 0, 7), (2, 8, 6), (2, 8, 7), (1, 0, 8), (2, 9, 6), (2, 9, 7), (1, 0, 9), (2, 10, 6), (2, 10, 7), (1, 0, 10), (2, 11, 6), (2, 11, 7), (1, 0, 11), (0, 0, 1), (6, 0, 8), (6, 0, 9), (5, 0, 0), (6, 1, 8), (6, 1, 9), (5, 0, 1), (6, 2, 8), (6, 2, 9), (5, 0, 2), (6, 3, 8), (6, 3, 9), (5, 0, 3), (6, 4, 8), (6, 4, 9), (5, 0, 4), (6, 5, 8), (6, 5, 9), (5, 0, 5), (6, 6, 8), (6, 6, 9), (5, 0, 6), (6, 7, 8), (6, 7, 9), (5, 0, 7), (6, 8, 8), (6, 8, 9), (5, 0, 8), (6, 9, 8), (6, 9, 9), (5, 0, 9), (6, 10, 8), (6, 10, 9), (5, 0, 10), (6, 11, 8), (6, 11, 9), (5, 0, 11), (6, 12, 8), (6, 12, 9), (5, 0, 12), (6, 13, 8), (6, 13, 9), (5, 0, 13), (6, 14, 8), (6, 14, 9), (5, 0, 14), (6, 15, 8), (6, 15, 9), (5, 0, 15), (6, 16, 8), (6, 16, 9), (5, 0, 16), (6, 17, 8), (6, 17, 9), (5, 0, 17), (6, 18, 8), (6, 18, 9), (5, 0, 18), (6, 19, 8), (6, 19, 9), (5, 0, 19), (6, 20, 8), (6, 20, 9), (5, 0, 20), (6, 21, 8), (6, 21, 9), (5, 0, 21), (6, 22, 8), (6, 22, 9), (5, 0, 22), (6, 23, 8), (6, 23, 9), (5, 0, 23), (6, 24, 8), (6, 24, 9), (5, 0, 24), (6, 25, 8), (6, 25, 9), (5, 0, 25), (6, 26, 8), (6, 26, 9), (5, 0, 26), (6, 27, 8), (6, 27, 9), (5, 0, 27), (6, 28, 8), (6, 28, 9), (5, 0, 28), (6, 29, 8), (6, 29, 9), (5, 0, 29), (6, 30, 8), (6, 30, 9), (5, 0, 30), (6, 31, 8), (6, 31, 9), (5, 0, 31), (6, 32, 8), (6, 32, 9), (5, 0, 32), (6, 33, 8), (6, 33, 9), (5, 0, 33), (6, 34, 8), (6, 34, 9), (5, 0, 34), (6, 35, 8), (6, 35, 9), (5, 0, 35), (6, 36, 8), (6, 36, 9), (5, 0, 36), (6, 37, 8), (6, 37, 9), (5, 0, 37), (6, 38, 8), (6, 38, 9), (5, 0, 38), (6, 39, 8), (6, 39, 9), (5, 0, 39), (0, 0, 2), (9, 0, 0), (9, 0, 1), (9, 0, 2), (9, 0, 3), (9, 0, 4), (9, 0, 5), (9, 0, 6), (9, 0, 7), (9, 0, 8), (9, 0, 9), (9, 0, 10), (9, 0, 11), (9, 0, 12), (9, 0, 13), (9, 0, 14), (9, 0, 15), (9, 0, 16), (9, 0, 17), (9, 0, 18), (9, 0, 19), (9, 0, 20), (9, 0, 21), (9, 0, 22), (9, 0, 23), (9, 0, 24), (9, 0, 25), (9, 0, 26), (9, 0, 27), (9, 0, 28), (9, 0, 29), (9, 0, 30), (9, 0, 31), (9, 0, 32), (9, 0, 33), (9, 0, 34), (9, 0, 35), (9, 0, 36), (9, 0, 37), (9, 0, 38), (9, 0, 39), (11, 0, 0), (11, 0, 1), (0, 0, 3), (16, 0, 2), (16, 0, 3), (16, 0, 4), (16, 0, 5), (16, 0, 6), (16, 0, 7), (16, 0, 0), (16, 0, 1), (0, 0, 4), (0, 0, 5), (23, 0, 0), (23, 0, 1), (23, 0, 2), (23, 0, 3), (23, 0, 4), (23, 0, 5), (23, 0, 6), (23, 0, 7), (0, 0, 6), (0, 0, 7)]
def hs_p (f j : Nat) : Nat × Nat := if hw_ob f = true then (hs_o.getD f []).getD j (0, 0) else hs_a.getD f (0, 0)
def hs (f i j : Nat) : Nat := if (hs_p f j).1 = 0 then 0 else (hs_p f j).1 + (hs_p f j).2 * (if hw_ob f = true then i else j)
set_option maxRecDepth 100000 in
theorem hs_ok : ∀ f, f < 52 → ∀ i, i < hw_cnt f → ∀ j, j < hw_sz f → (hs f i j = 0 ∨ hs_i.getD (hs f i j) (0, 0, 0) = (f, i, j)) := by decide +kernel
set_option maxRecDepth 100000 in
theorem hs_end : ∀ f, f < 26 → ∀ i, i < hw_cnt f → ∀ j, j < hw_sz f → hs f i j < 223 := by decide +kernel
set_option maxRecDepth 100000 in
theorem hs_kd : ∀ f, f < 26 → ∀ i, i < hw_cnt f → ∀ j, j < hw_sz f → (f = 12 ∨ f = 14 ∨ ¬ hs f i j = 0 ∨ ¬ (hw_ds f j).1 = 4) := by decide +kernel
set_option maxRecDepth 100000 in
theorem hs_k2 : ∀ f, f < 26 → ∀ i, i < hw_cnt f → ∀ j, j < hw_sz f → (¬ hs f i j = 0 ∨ ¬ (hw_ds f j).2 = 28 ∨ (hw_ds f j).1 = 1 ∨ (hw_ds f j).1 = 3) := by decide +kernel
def i_0 : MI := fun g _ => if g = 28 then 1000000 else 0
def j_0 : MJ := fun _ _ => 0
def cfin (b0 : Nat) : VF := hw_vl b0 i_0 j_0 i_0 j_0 0
def cdv (f j : Nat) : Value := match (hw_ds f j).1 with
  | 0 => .int 0
  | 1 => .long 0
  | 2 => .int 0
  | 3 => .long 0
  | 4 => .null
  | _ => .long 0
def cv (b0 t : Nat) : VF := fun f i j => if hs f i j < t then cfin b0 f i j else cdv f j
theorem cv_U {b0 t f i j : Nat} {x : Value} (h : i < hw_cnt f) (hj : j < hw_sz f) (ht : hs f i j = t) (h0 : t ≠ 0) (hx : cfin b0 f i j = x) : hw_U (cv b0 t) f i j x (cv b0 (t + 1)) := by
  intro f' i' j' h' hj'
  by_cases e : f' = f ∧ i' = i ∧ j' = j
  · rw [if_pos e, e.1, e.2.1, e.2.2]
    unfold cv
    rw [if_pos (by omega)]
    exact hx
  · rw [if_neg e]
    have hne : hs f' i' j' ≠ t := fun q => by
      have a := (hs_ok f (hw_lt h) i h j hj).resolve_left (by omega)
      have b := (hs_ok f' (hw_lt h') i' h' j' hj').resolve_left (by omega)
      rw [ht] at a
      rw [q, a] at b
      cases b
      exact e ⟨rfl, rfl, rfl⟩
    unfold cv
    by_cases c : hs f' i' j' < t
    · rw [if_pos c, if_pos (by omega)]
    · rw [if_neg c, if_neg (by omega)]
/-- not set yet, or a number -/
theorem cv_d {b0 t f i j : Nat} (hf : f ≠ 12 ∧ f ≠ 14 ∧ f < 26) (h : i < hw_cnt f) (hj : j < hw_sz f) (hh : hs f i j = 0 ∨ t ≤ hs f i j) : cv b0 t f i j = cdv f j := by
  unfold cv
  by_cases c : hs f i j < t
  · rw [if_pos c]
    have h0 : hs f i j = 0 := by omega
    have k1 := (((hs_kd f hf.2.2 i h j hj).resolve_left hf.1).resolve_left hf.2.1).resolve_left (fun z => z h0)
    have k2 := (hs_k2 f hf.2.2 i h j hj).resolve_left (fun z => z h0)
    unfold cfin hw_vl cdv
    have hi0 : ∀ n, (hw_ds f j).1 = 0 ∨ (hw_ds f j).1 = 2 → i_0 (hw_ds f j).2 n = 0 := fun n q => by
      unfold i_0
      rcases k2 with z | z | z
      · rw [if_neg z]
      · omega
      · omega
    generalize hd : hw_ds f j = d at k1 hi0
    obtain ⟨d1, d2⟩ := d
    rcases Nat.lt_or_ge d1 5 with z | z
    · rcases (show d1 = 0 ∨ d1 = 1 ∨ d1 = 2 ∨ d1 = 3 ∨ d1 = 4 by omega) with rfl | rfl | rfl | rfl | rfl
      · exact congrArg Value.int (hi0 _ (Or.inl rfl))
      · rfl
      · exact congrArg Value.int (hi0 _ (Or.inr rfl))
      · rfl
      · exact absurd rfl k1
    · obtain ⟨d, rfl⟩ : ∃ d, d1 = d + 5 := ⟨d1 - 5, by omega⟩
      rfl
  · rw [if_neg c]
theorem cv_at {b0 t f i j : Nat} (hh : hs f i j < t) : cv b0 t f i j = cfin b0 f i j := if_pos hh
