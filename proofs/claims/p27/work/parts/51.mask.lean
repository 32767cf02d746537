/-! the mask of the brokers that a message has passed -/
theorem bit_sh : ∀ a : Fin 12, ((nI a.val &&& 31).toBitVec.smod 32).toNat = a.val := by decide +kernel
theorem bit_one : ∀ a b : Fin 12, ((1 : Int32) <<< (nI b.val &&& 31)).toBitVec.getLsbD a.val = decide (b.val = a.val) := by decide +kernel
theorem bit_get (x : Int32) {a : Nat} (ha : a < 12) : pf_bit x a = 0 ↔ x.toBitVec.getLsbD a = false := by
  have hs : ((nI a &&& 31).toBitVec.smod 32).toNat = a := bit_sh ⟨a, ha⟩
  have h0 : (x.toBitVec.sshiftRight a).getLsbD 0 = x.toBitVec.getLsbD a := by
    rw [BitVec.getLsbD_sshiftRight]
    simp [show a < 32 by omega]
  have e : (pf_bit x a).toBitVec = (x.toBitVec.sshiftRight a) &&& 1#32 := by
    unfold pf_bit
    rw [Int32.toBitVec_and, Int32.toBitVec_shiftRight, BitVec.sshiftRight', hs]
    rfl
  rw [← Int32.toBitVec_inj, e]
  constructor
  · intro z
    have h9 : ((x.toBitVec.sshiftRight a) &&& 1#32).getLsbD 0 = (0#32).getLsbD 0 := congrArg (fun v => BitVec.getLsbD v 0) z
    rw [BitVec.getLsbD_and, h0] at h9
    have h8 : (1#32).getLsbD 0 = true := by decide
    rw [h8, Bool.and_true] at h9
    rw [h9]
    decide
  · intro z
    apply BitVec.eq_of_getLsbD_eq
    intro i hi
    rcases Nat.eq_zero_or_pos i with q | q
    · subst q
      rw [BitVec.getLsbD_and, h0, z, Bool.false_and]
      decide
    · have : (1#32).getLsbD i = false := by
        rw [BitVec.getLsbD_one]
        simp; omega
      rw [BitVec.getLsbD_and, this, Bool.and_false]
      exact (BitVec.getLsbD_zero (w := 32) (i := i)).symm
theorem mk_step {P : MI} {i a : Nat} (ha : a < 12) (h20 : ∀ k, k ≤ hw_ln P i → hw_ok (P 20 (12 * i + k))) : ∀ n, n ≤ hw_ln P i → (pf_bit (lp (pf_mk P i) n 0 0) a = 0 ↔ ∀ k, k < n → hw_at P i k ≠ a) := by
  have bitor : ∀ (x : Int32) (b : Nat), b < 12 → (pf_bit (x ||| ((1 : Int32) <<< (nI b &&& 31))) a = 0 ↔ pf_bit x a = 0 ∧ b ≠ a) := by
    intro x b hb
    have h1 := bit_one ⟨a, ha⟩ ⟨b, hb⟩
    rw [bit_get _ ha, bit_get _ ha, Int32.toBitVec_or, BitVec.getLsbD_or, h1, Bool.or_eq_false_iff, decide_eq_false_iff_not]
  intro n
  induction n with
  | zero => intro _; exact ⟨fun _ k hk => absurd hk (Nat.not_lt_zero k), fun _ => bit_0 a⟩
  | succ n ih =>
    intro hn
    have hx := (h20 n (by omega)).x
    have hb := (h20 n (by omega)).b
    have e : lp (pf_mk P i) (n + 1) 0 0 = lp (pf_mk P i) n 0 0 ||| ((1 : Int32) <<< (nI (hw_at P i n) &&& 31)) := by
      rw [lp_last, Nat.zero_add]
      show _ ||| ((1 : Int32) <<< (P 20 (12 * i + n) &&& 31)) = _
      rw [hx]
      rfl
    rw [e, bitor _ _ (show hw_at P i n < 12 from hb), ih (by omega)]
    constructor
    · intro ⟨z1, z2⟩ k hk
      rcases Nat.lt_or_ge k n with q | q
      · exact z1 k q
      · have : k = n := by omega
        rw [this]; exact z2
    · intro z
      exact ⟨fun k hk => z k (by omega), z n (by omega)⟩
