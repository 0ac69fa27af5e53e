/-! BITS -/
theorem bt_rd : ∀ a : Fin 64, ∀ b : Fin 64, ∀ k : Fin 12, ((nI (64 * a.val + b.val) >>> (nI k.val &&& 31)) &&& 1) = (if (64 * a.val + b.val).testBit k.val = true then 1 else 0) := by decide +kernel
theorem bt_or : ∀ a : Fin 64, ∀ b : Fin 64, ∀ k : Fin 12, (nI (64 * a.val + b.val) ||| ((1 : Int32) <<< (nI k.val &&& 31))) = nI ((64 * a.val + b.val) ||| 2 ^ k.val) := by decide +kernel
theorem bt_cl : ∀ a : Fin 64, ∀ b : Fin 64, ∀ k : Fin 12, (nI (64 * a.val + b.val) &&& (((1 : Int32) <<< (nI k.val &&& 31)) ^^^ (-1))) = nI ((64 * a.val + b.val) &&& (4095 ^^^ 2 ^ k.val)) := by decide +kernel
theorem bit_rd {mk k : Nat} {w : Nat → Bool} (hm : mk < 4096) (hk : k < 12) (hw : ∀ k, k < 12 → w k = mk.testBit k) : ((nI mk >>> (nI k &&& 31)) &&& 1) = zb (w k = true) := by
  have h := bt_rd ⟨mk / 64, by omega⟩ ⟨mk % 64, by omega⟩ ⟨k, hk⟩
  rw [show 64 * (mk / 64) + mk % 64 = mk by omega] at h
  rw [h, hw k hk]
  rfl
theorem bit_or {mk k : Nat} {w : Nat → Bool} (hm : mk < 4096) (hk : k < 12) (hw : ∀ k, k < 12 → w k = mk.testBit k) : ∃ m2 : Nat, m2 < 4096 ∧ (nI mk ||| ((1 : Int32) <<< (nI k &&& 31))) = nI m2 ∧ ∀ j, j < 12 → setB w k true j = m2.testBit j := by
  have h := bt_or ⟨mk / 64, by omega⟩ ⟨mk % 64, by omega⟩ ⟨k, hk⟩
  rw [show 64 * (mk / 64) + mk % 64 = mk by omega] at h
  refine ⟨mk ||| 2 ^ k, Nat.or_lt_two_pow (n := 12) hm (Nat.pow_lt_pow_right (by decide) hk), h, fun j hj => ?_⟩
  rw [Nat.testBit_or, Nat.testBit_two_pow]
  unfold setB
  by_cases z : j = k
  · rw [if_pos z, z]; simp
  · rw [if_neg z, hw j hj]
    have : ¬ k = j := fun q => z q.symm
    simp [this]
theorem bit_cl {mk k : Nat} {w : Nat → Bool} (hm : mk < 4096) (hk : k < 12) (hw : ∀ k, k < 12 → w k = mk.testBit k) : ∃ m2 : Nat, m2 < 4096 ∧ (nI mk &&& (((1 : Int32) <<< (nI k &&& 31)) ^^^ (-1))) = nI m2 ∧ ∀ j, j < 12 → setB w k false j = m2.testBit j := by
  have h := bt_cl ⟨mk / 64, by omega⟩ ⟨mk % 64, by omega⟩ ⟨k, hk⟩
  rw [show 64 * (mk / 64) + mk % 64 = mk by omega] at h
  refine ⟨mk &&& (4095 ^^^ 2 ^ k), Nat.lt_of_le_of_lt Nat.and_le_left hm, h, fun j hj => ?_⟩
  rw [Nat.testBit_and, Nat.testBit_xor, Nat.testBit_two_pow, show (4095 : Nat) = 2 ^ 12 - 1 by decide, Nat.testBit_two_pow_sub_one]
  unfold setB
  by_cases z : j = k
  · rw [if_pos z, z]; simp [hk]
  · rw [if_neg z, hw j hj]
    have : ¬ k = j := fun q => z q.symm
    simp [this, hj]
