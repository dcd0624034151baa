/-! more numbers -/
theorem i_toInt {x : Int32} (h0 : 0 ≤ x.toInt) : x = nI x.toInt.toNat := by
  have h2 := fb_rng x
  apply Int32.toInt_inj.mp
  rw [nI_toInt (by omega)]
  omega
theorem z_wi {x : Int32} {n : Nat} (hn : n < 2 ^ 30) : (nI 0 ≤ x → x ≤ nI n - nI 1 → ∃ j, j < n ∧ x = nI j) ∧ (x < nI 0 ∨ nI n - nI 1 < x → ∀ j, j < n → x ≠ nI j) := by
  have e := pk_sub_toInt (a := n) (b := 1) hn (by decide)
  refine ⟨fun h1 h2 => ?_, fun h j hj hx => ?_⟩
  · rw [fa_le] at h1 h2
    rw [e] at h2
    have h3 : (nI 0).toInt = 0 := rfl
    rw [h3] at h1
    refine ⟨x.toInt.toNat, by omega, i_toInt h1⟩
  · subst hx
    have hj2 := nI_toInt (n := j) (by omega)
    rcases h with h | h
    · rw [fa_lt, hj2] at h
      have h3 : (nI 0).toInt = 0 := rfl
      omega
    · rw [fa_lt, hj2, e] at h
      omega
theorem z_mi {x : Int32} {n : Nat} (hn : n < 2 ^ 30) : (lN 0 ≤ x.toInt64 → x.toInt64 ≤ (nI n - nI 1).toInt64 → ∃ j, j < n ∧ x = nI j) ∧ (x.toInt64 < lN 0 ∨ (nI n - nI 1).toInt64 < x.toInt64 → ∀ j, j < n → x ≠ nI j) := by
  have e0 : lN 0 = (nI 0).toInt64 := rfl
  rw [e0, fa_wide_le, fa_wide_le, fa_wide_lt, fa_wide_lt]
  exact z_wi hn
theorem z_rm (a d : Nat) : a - a / d * d = a % d := by
  have h := Nat.div_add_mod a d
  rw [Nat.mul_comm] at h
  omega
