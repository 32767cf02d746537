/-! nothing called yet -/
theorem IV_0 : IV 0 0 0 0 i_0 j_0 i_0 j_0 := by
  have no0 : ∀ o : Nat, ¬ o < 0 := fun o => Nat.not_lt_zero o
  have z : ∀ g j, g ≠ 28 → i_0 g j = 0 := fun g j h => if_neg h
  have n0 : (0 : Int32) = nI 0 := nI_0.symm
  have hpv : pv_iv i_0 0 0 0 := ⟨⟨n0, by omega⟩, ⟨n0, by omega⟩, ⟨n0, by omega⟩, fun o h => absurd h (no0 o), fun o h => absurd h (no0 o), fun o h => absurd h (no0 o)⟩
  refine ⟨⟨⟨fun _ _ _ => rfl, fun o h => absurd h (no0 o), fun _ => ⟨rfl, rfl, rfl⟩, hpv⟩, fun o h => absurd h (no0 o), ⟨⟨0, by omega, n0, fun o h => absurd h (no0 o)⟩, fun o h => absurd h (no0 o)⟩, ⟨rfl, rfl, rfl, rfl⟩, rfl⟩, ⟨⟨⟨⟨n0, by omega⟩, ⟨n0, by omega⟩, ⟨n0, by omega⟩, Or.inl rfl, fun i _ => ⟨0, by omega, n0⟩, fun o h => absurd h (no0 o), fun o h => absurd h (no0 o)⟩, fun o h => absurd h (no0 o), fun i _ => ⟨0, by omega, n0⟩, fun j => ⟨(by decide : -(((0 : Nat) : Int) * 1000000000000000) ≤ (0 : Int64).toInt), (by decide : (0 : Int64).toInt ≤ ((0 : Nat) : Int) * 1000000000000000)⟩⟩, fun j => ⟨0, by omega, n0⟩, fun o h => absurd h (no0 o), ⟨fun o _ _ => ⟨rfl, rfl⟩, fun c _ _ => ⟨rfl, rfl⟩⟩, fun o h => absurd h (no0 o), fun o h => absurd h (no0 o), fun a b _ _ => by show (0 : Int64) = -0; decide, fun j => ⟨(by decide : (0 : Int) ≤ (0 : Int64).toInt), (by decide : (0 : Int64).toInt ≤ 3000000 * ((0 : Nat) : Int) + 1000000 * ((0 : Nat) : Int))⟩⟩, ⟨0, by omega, n0⟩, fun c _ => rfl, fun o h => absurd h (no0 o)⟩
theorem GI_0 : GI 0 0 0 i_0 := ⟨fun o h => absurd h (Nat.not_lt_zero o), fun c h => absurd h (Nat.not_lt_zero c), fun o h => absurd h (Nat.not_lt_zero o)⟩
theorem gm_0 : gm 0 0 i_0 j_0 = 0 := by decide
