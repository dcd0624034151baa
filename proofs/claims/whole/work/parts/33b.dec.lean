/-! branches that are decided ahead of their arms -/
section DEC
variable {x y : Int32} {A B : Prop}
theorem ite_u {p : Prop} [h : Decidable p] : (if p then A else B) = ((p → A) ∧ (¬ p → B)) := propext (by
  cases h with
  | isTrue h => exact ⟨fun a => ⟨fun _ => a, fun q => absurd h q⟩, fun a => a.1 h⟩
  | isFalse h => exact ⟨fun a => ⟨fun q => absurd q h, fun _ => a⟩, fun a => a.2 h⟩)
theorem ite_w {p : Prop} [h : Decidable p] : (if p then A else B) = ((¬ p → B) ∧ (p → A)) := ite_u.trans (propext And.comm)
theorem iv_eq : brc .eq x y A B = if x = y then A else B := ite_u.symm
theorem iv_ne : brc .ne x y A B = if x = y then B else A := ite_w.symm
theorem iv_lt : brc .lt x y A B = if x < y then A else B := ite_u.symm
theorem iv_ge : brc .ge x y A B = if y ≤ x then A else B := ite_u.symm
theorem iv_gt : brc .gt x y A B = if y < x then A else B := ite_u.symm
theorem iv_le : brc .le x y A B = if x ≤ y then A else B := ite_u.symm
end DEC
theorem nz0 {a : Nat} (h : a ≠ 0) (h2 : a < 2147483648) : (nI a = (0 : Int32)) = False := by
  have e : (nI a = nI 0) = (a = 0) := by simp (disch := omega) only [nI_eq]
  exact (show (nI a = nI 0) = False by rw [e]; exact eq_false h)
theorem z_m9 {a : Nat} (h : a < 2147483648) : ¬ nI a = (-9 : Int32) := fun e => by
  have h1 := nI_toInt (n := a) h
  rw [e] at h1
  have h2 : (-9 : Int32).toInt = -9 := by decide
  omega
theorem qe1 {b k : Nat} : (b = b + (k + 1)) = False := eq_false (by omega)
theorem qe2 {b k : Nat} : (b + (k + 1) = b) = False := eq_false (by omega)
theorem mn9 {u m : Nat} [h : Decidable (u < m)] : (if u < m then nI u else nI m) = nI (min m u) := by
  cases h with
  | isTrue h => exact congrArg nI (show u = min m u by omega)
  | isFalse h => exact congrArg nI (show m = min m u by omega)
