/-! A STRETCH IS SOUND -/
theorem pI_of {st : List Value} {k : Int32 → List Value → Prop} (h : pI st k) : ∃ x st2, st = .int x :: st2 ∧ k x st2 := by
  unfold pI at h
  split at h
  · exact ⟨_, _, rfl, h⟩
  · exact h.elim
theorem pL_of {st : List Value} {k : Int64 → List Value → Prop} (h : pL st k) : ∃ x st2, st = .long x :: st2 ∧ k x st2 := by
  unfold pL at h
  split at h
  · exact ⟨_, _, rfl, h⟩
  · exact h.elim
theorem pII_of {st : List Value} {k : Int32 → Int32 → List Value → Prop} (h : pII st k) : ∃ x y st2, st = .int y :: .int x :: st2 ∧ k x y st2 := by
  unfold pII at h
  split at h
  · exact ⟨_, _, _, rfl, h⟩
  · exact h.elim
theorem pLL_of {st : List Value} {k : Int64 → Int64 → List Value → Prop} (h : pLL st k) : ∃ x y st2, st = .long y :: .long x :: st2 ∧ k x y st2 := by
  unfold pLL at h
  split at h
  · exact ⟨_, _, _, rfl, h⟩
  · exact h.elim
theorem pIL_of {st : List Value} {k : Int64 → Int32 → List Value → Prop} (h : pIL st k) : ∃ x y st2, st = .int y :: .long x :: st2 ∧ k x y st2 := by
  unfold pIL at h
  split at h
  · exact ⟨_, _, _, rfl, h⟩
  · exact h.elim
theorem pR_of {st : List Value} {k : Nat → List Value → Prop} (h : pR st k) : ∃ a st2, st = .ref a :: st2 ∧ k a st2 := by
  unfold pR at h
  split at h
  · exact ⟨_, _, rfl, h⟩
  · exact h.elim
theorem pIR_of {st : List Value} {k : Nat → Int32 → List Value → Prop} (h : pIR st k) : ∃ a i st2, st = .int i :: .ref a :: st2 ∧ k a i st2 := by
  unfold pIR at h
  split at h
  · exact ⟨_, _, _, rfl, h⟩
  · exact h.elim
theorem pIIR_of {st : List Value} {k : Nat → Int32 → Int32 → List Value → Prop} (h : pIIR st k) : ∃ a i x st2, st = .int x :: .int i :: .ref a :: st2 ∧ k a i x st2 := by
  unfold pIIR at h
  split at h
  · exact ⟨_, _, _, _, rfl, h⟩
  · exact h.elim
theorem pLIR_of {st : List Value} {k : Nat → Int32 → Int64 → List Value → Prop} (h : pLIR st k) : ∃ a i x st2, st = .long x :: .int i :: .ref a :: st2 ∧ k a i x st2 := by
  unfold pLIR at h
  split at h
  · exact ⟨_, _, _, _, rfl, h⟩
  · exact h.elim
theorem pRIR_of {st : List Value} {k : Nat → Int32 → Nat → List Value → Prop} (h : pRIR st k) : ∃ a i x st2, st = .ref x :: .int i :: .ref a :: st2 ∧ k a i x st2 := by
  unfold pRIR at h
  split at h
  · exact ⟨_, _, _, _, rfl, h⟩
  · exact h.elim
theorem pCp_of {st : List Value} {k : Nat → Int32 → Nat → Int32 → Int32 → List Value → Prop} (h : pCp st k) : ∃ a sp b dp n st2, st = .int n :: .int dp :: .ref b :: .int sp :: .ref a :: st2 ∧ k a sp b dp n st2 := by
  unfold pCp at h
  split at h
  · exact ⟨_, _, _, _, _, _, rfl, h⟩
  · exact h.elim
theorem ldi_of {ls : List (Option Value)} {i : Nat} {k : Int32 → Prop} (h : ldi ls i k) : ∃ x, gl ls i = some (.int x) ∧ k x := by
  unfold ldi at h
  split at h
  · exact ⟨_, by assumption, h⟩
  · exact h.elim
theorem ldl_of {ls : List (Option Value)} {i : Nat} {k : Int64 → Prop} (h : ldl ls i k) : ∃ x, gl ls i = some (.long x) ∧ k x := by
  unfold ldl at h
  split at h
  · exact ⟨_, by assumption, h⟩
  · exact h.elim
theorem lda_of {ls : List (Option Value)} {i : Nat} {k : Value → Prop} (h : lda ls i k) : (∃ x, gl ls i = some (.ref x) ∧ k (.ref x)) ∨ (gl ls i = some .null ∧ k .null) := by
  unfold lda at h
  split at h
  · exact Or.inl ⟨_, by assumption, h⟩
  · exact Or.inr ⟨by assumption, h⟩
  · exact h.elim
theorem sta_of {st : List Value} {k : Value → List Value → Prop} (h : sta st k) : (∃ x st2, st = .ref x :: st2 ∧ k (.ref x) st2) ∨ (∃ st2, st = .null :: st2 ∧ k .null st2) := by
  unfold sta at h
  split at h
  · exact Or.inl ⟨_, _, rfl, h⟩
  · exact Or.inr ⟨_, rfl, h⟩
  · exact h.elim
def retI : Instr → Option Value → Prop
  | .ireturn, some (.int _) => True
  | .lreturn, some (.long _) => True
  | .areturn, some (.ref _) => True
  | .areturn, some .null => True
  | .return_, none => True
  | _, _ => False
theorem isI_of {v : Value} (h : isI v = true) : v = .int (vI v) := by cases v <;> first | rfl | cases h
theorem isLg_of {v : Value} (h : isLg v = true) : v = .long (vL v) := by cases v <;> first | rfl | cases h
section SOUND
variable {G : GGy} {mi : Nat} {p : Program} {e : Env} {s : State} {m : MethodId} {args : Array Value} {below : List Frame} {meth : Method} {c : Code} {Qf : (State → Prop) × TTy × (Nat → Nat)}
theorem rm_zero {b : Nat} (h1 : (rmM b).cells = 0) (h2 : (rmM b).slots = 0) {cs ns : Nat} (hc : cs ≤ (rmM mi).cells) (hn : ns ≤ (rmM mi).slots) : cs + (rmM b).cells ≤ (rmM mi).cells ∧ ns + (rmM b).slots ≤ (rmM mi).slots := by
  rw [h1, h2]
  exact ⟨hc, hn⟩
theorem Wc.room {pc : Nat} {ls : List (Option Value)} {st : List Value} {cs ns : Nat} {T : TTy} {I : MIy} {J : MJy} {R : MRy} (h : cs ≤ (rmM mi).cells → ns ≤ (rmM mi).slots → Wc G mi p e s m args below meth c Qf pc ls st cs ns T I J R) : Wc G mi p e s m args below meth c Qf pc ls st cs ns T I J R :=
  fun H locs lsr ad hR hS hL hs hc hn => h hc hn H locs lsr ad hR hS hL hs hc hn
theorem inv_ok (C : Cx G mi p s m args meth c) {ins : Instr} {pc i a b d : Nat} {v : Value} {nx : KKy} (hi : (ins = .invokevirtual i ∧ okInv mi false false i a b d v = true) ∨ (ins = .invokestatic i ∧ (okInv mi true false i a b d v || okNat mi true false i a b d) = true) ∨ (ins = .invokespecial i ∧ (okInv mi false true i a b d v || okNat mi false true i a b d) = true)) (hd : decode (cM mi) pc = .ok (ins, 3)) (hnx : ∀ ls st cs ns T I J R, nx ls st cs ns T I J R → Wc G mi p e s m args below meth c Qf (pc + 3) ls st cs ns T I J R)
    {ls : List (Option Value)} {st : List Value} {cs ns : Nat} {T : TTy} {I : MIy} {J : MJy} {R : MRy} (h : inv (rmM mi).cells (rmM mi).slots (Run G) nx a b d (vNat v) ls st cs ns T I J R) : Wc G mi p e s m args below meth c Qf pc ls st cs ns T I J R := by
  refine Wc.room (fun hcs hns => ?_)
  unfold inv at h
  split at h
  · obtain ⟨xs, rest, x1, x2, x3⟩ := popN_of _ _ _ _ h
    rw [List.append_nil] at x3
    rcases hi with ⟨rfl, hi⟩ | ⟨rfl, hi⟩ | ⟨rfl, hi⟩
    · simp only [okInv, okNat, Bool.or_false, Bool.not_false, Bool.true_and, Bool.and_true, Bool.and_eq_true, decide_eq_true_eq] at hi
      obtain ⟨⟨⟨⟨⟨⟨⟨q1, q2⟩, q3⟩, q4⟩, q5⟩, q6⟩, q7⟩, q8⟩ := hi
      exact s_callV (d := d) C hd (mL0_ok _ q5) q2 q3 q4 x1 rfl (by rw [x2, q1]) x3.1 (by rw [← q6]; exact x3.2.1) (rm_zero q7 q8 hcs hns) (x3.2.2) (fun w T2 I2 J2 R2 hq => by rw [q7, q8]; exact hnx _ _ _ _ _ _ _ _ hq)
    · simp [okInv, okNat] at hi
    · simp [okInv, okNat] at hi
  · obtain ⟨xs, rest, x1, x2, x3⟩ := popN_of _ _ _ _ h
    rw [List.append_nil] at x3
    rcases hi with ⟨rfl, hi⟩ | ⟨rfl, hi⟩ | ⟨rfl, hi⟩
    · simp [okInv, okNat] at hi
    · simp only [okInv, okNat, Bool.or_false, Bool.not_false, Bool.true_and, Bool.and_true, Bool.and_eq_true, decide_eq_true_eq] at hi
      obtain ⟨⟨⟨⟨⟨⟨q1, q2⟩, q3⟩, q4⟩, q5⟩, q7⟩, q8⟩ := hi
      exact s_callS (d := d) C hd (Or.inl (mL1_ok _ q5)) q2 q3 q4 x1 rfl (by rw [x2, q1]) x3.1 (rm_zero q7 q8 hcs hns) (x3.2) (fun w T2 I2 J2 R2 hq => by rw [q7, q8]; exact hnx _ _ _ _ _ _ _ _ hq)
    · simp [okInv, okNat] at hi
  · obtain ⟨xs, rest, x1, x2, x3⟩ := popN_of _ _ _ _ h
    rw [List.append_nil] at x3
    rcases hi with ⟨rfl, hi⟩ | ⟨rfl, hi⟩ | ⟨rfl, hi⟩
    · simp [okInv, okNat] at hi
    · simp [okInv, okNat] at hi
    · simp only [okInv, okNat, Bool.or_false, Bool.not_false, Bool.true_and, Bool.and_true, Bool.and_eq_true, decide_eq_true_eq] at hi
      obtain ⟨⟨⟨⟨⟨⟨⟨q1, q2⟩, q3⟩, q4⟩, q5⟩, q6⟩, q7⟩, q8⟩ := hi
      exact s_callI (d := d) C hd (Or.inl (mL2_ok _ q5)) q2 q3 q4 x1 rfl (by rw [x2, q1]) x3.1 (by rw [← q6]; exact x3.2.1) (rm_zero q7 q8 hcs hns) (x3.2.2) (fun w T2 I2 J2 R2 hq => by rw [q7, q8]; exact hnx _ _ _ _ _ _ _ _ hq)
  · obtain ⟨xs, rest, x1, x2, x3⟩ := popN_of _ _ _ _ h
    rw [List.append_nil] at x3
    rcases hi with ⟨rfl, hi⟩ | ⟨rfl, hi⟩ | ⟨rfl, hi⟩
    · simp [okInv, okNat] at hi
    · simp only [okInv, okNat, Bool.or_false, Bool.not_false, Bool.true_and, Bool.and_true, Bool.and_eq_true, decide_eq_true_eq] at hi
      obtain ⟨⟨⟨⟨⟨⟨q1, q2⟩, q3⟩, q4⟩, q5⟩, q7⟩, q8⟩ := hi
      exact s_callS (d := d) C hd (Or.inr (mL4_ok _ q5)) q2 q3 q4 x1 rfl (by rw [x2, q1]) x3.1 (rm_zero q7 q8 hcs hns) (x3.2) (fun w T2 I2 J2 R2 hq => by rw [q7, q8]; exact hnx _ _ _ _ _ _ _ _ hq)
    · simp [okInv, okNat] at hi
  · obtain ⟨xs, rest, x1, x2, x3⟩ := popN_of _ _ _ _ h
    rw [List.append_nil] at x3
    rcases hi with ⟨rfl, hi⟩ | ⟨rfl, hi⟩ | ⟨rfl, hi⟩
    · simp [okInv, okNat] at hi
    · simp [okInv, okNat] at hi
    · simp only [okInv, okNat, Bool.or_false, Bool.not_false, Bool.true_and, Bool.and_true, Bool.and_eq_true, decide_eq_true_eq] at hi
      obtain ⟨⟨⟨⟨⟨⟨⟨q1, q2⟩, q3⟩, q4⟩, q5⟩, q6⟩, q7⟩, q8⟩ := hi
      exact s_callI (d := d) C hd (Or.inr (mL5_ok _ q5)) q2 q3 q4 x1 rfl (by rw [x2, q1]) x3.1 (by rw [← q6]; exact x3.2.1) (rm_zero q7 q8 hcs hns) (x3.2.2) (fun w T2 I2 J2 R2 hq => by rw [q7, q8]; exact hnx _ _ _ _ _ _ _ _ hq)
  · rcases hi with ⟨rfl, hi⟩ | ⟨rfl, hi⟩ | ⟨rfl, hi⟩
    · simp [okInv, okNat] at hi
    · simp only [okInv, okNat, Bool.false_or, Bool.true_and, Bool.and_eq_true, decide_eq_true_eq] at hi
      obtain ⟨⟨q1, q2⟩, q3⟩ := hi
      obtain ⟨x, y, st2, rfl, h⟩ := pII_of h
      exact s_min C hd (wAt_in q1) q2 q3 h.1 (hnx _ _ _ _ _ _ _ _ h.2)
    · simp [okInv, okNat] at hi
  · rcases hi with ⟨rfl, hi⟩ | ⟨rfl, hi⟩ | ⟨rfl, hi⟩
    · simp [okInv, okNat] at hi
    · simp only [okInv, okNat, Bool.false_or, Bool.true_and, Bool.and_eq_true, decide_eq_true_eq] at hi
      obtain ⟨⟨q1, q2⟩, q3⟩ := hi
      obtain ⟨x, y, st2, rfl, h⟩ := pII_of h
      exact s_max C hd (wAt_in q1) q2 q3 h.1 (hnx _ _ _ _ _ _ _ _ h.2)
    · simp [okInv, okNat] at hi
  · rcases hi with ⟨rfl, hi⟩ | ⟨rfl, hi⟩ | ⟨rfl, hi⟩
    · simp [okInv, okNat] at hi
    · simp only [okInv, okNat, Bool.false_or, Bool.true_and, Bool.and_eq_true, decide_eq_true_eq] at hi
      obtain ⟨⟨q1, q2⟩, q3⟩ := hi
      obtain ⟨x, st2, rfl, h⟩ := pI_of h
      exact s_abs C hd (wAt_in q1) q2 q3 h.1 (hnx _ _ _ _ _ _ _ _ h.2)
    · simp [okInv, okNat] at hi
  · rcases hi with ⟨rfl, hi⟩ | ⟨rfl, hi⟩ | ⟨rfl, hi⟩
    · simp [okInv, okNat] at hi
    · simp only [okInv, okNat, Bool.false_or, Bool.true_and, Bool.and_eq_true, decide_eq_true_eq] at hi
      obtain ⟨⟨q1, q2⟩, q3⟩ := hi
      obtain ⟨a1, sp, b1, dp, n1, st2, rfl, h⟩ := pCp_of h
      obtain ⟨z1, z2, ⟨m0, z3, z4⟩, ⟨m1, z5, z6⟩, z7, z8, z9, z10⟩ := h
      exact s_copy C hd (wAt_in q1) q2 q3 z1 z2 z3 z4 z5 z6 z7 z8 z9 (hnx _ _ _ _ _ _ _ _ z10)
    · simp [okInv, okNat] at hi
  · rcases hi with ⟨rfl, hi⟩ | ⟨rfl, hi⟩ | ⟨rfl, hi⟩
    · simp [okInv, okNat] at hi
    · simp [okInv, okNat] at hi
    · simp only [okInv, okNat, Bool.false_or, Bool.true_and, Bool.and_eq_true, decide_eq_true_eq] at hi
      obtain ⟨⟨q1, q2⟩, q3⟩ := hi
      obtain ⟨o, st2, rfl, h⟩ := pR_of h
      exact s_objInit C hd (wAt_in q1) q2 q3 h.1 (hnx _ _ _ _ _ _ _ _ h.2)
  · obtain ⟨xs, rest, x1, x2, x3⟩ := popN_of _ _ _ _ h
    rw [List.append_nil] at x3
    rcases hi with ⟨rfl, hi⟩ | ⟨rfl, hi⟩ | ⟨rfl, hi⟩
    · simp only [okInv, okNat, Bool.or_false, Bool.not_false, Bool.true_and, Bool.and_true, Bool.and_eq_true, decide_eq_true_eq] at hi
      obtain ⟨⟨⟨⟨⟨q1, q2⟩, q3⟩, q4⟩, q5⟩, q6⟩ := hi
      exact s_callV (d := d) C hd (mL0_ok _ q5) q2 q3 q4 x1 rfl (by rw [x2, q1]) x3.1 (by rw [← q6]; exact x3.2.1) ⟨x3.2.2.1, x3.2.2.2.1⟩ (x3.2.2.2.2) (fun w T2 I2 J2 R2 hq => hnx _ _ _ _ _ _ _ _ hq)
    · simp [okInv, okNat] at hi
    · simp [okInv, okNat] at hi
  · obtain ⟨xs, rest, x1, x2, x3⟩ := popN_of _ _ _ _ h
    rw [List.append_nil] at x3
    rcases hi with ⟨rfl, hi⟩ | ⟨rfl, hi⟩ | ⟨rfl, hi⟩
    · simp [okInv, okNat] at hi
    · simp [okInv, okNat] at hi
    · simp only [okInv, okNat, Bool.or_false, Bool.not_false, Bool.true_and, Bool.and_true, Bool.and_eq_true, decide_eq_true_eq] at hi
      obtain ⟨⟨⟨⟨⟨q1, q2⟩, q3⟩, q4⟩, q5⟩, q6⟩ := hi
      exact s_callI (d := d) C hd (Or.inl (mL2_ok _ q5)) q2 q3 q4 x1 rfl (by rw [x2, q1]) x3.1 (by rw [← q6]; exact x3.2.1) ⟨x3.2.2.1, x3.2.2.2.1⟩ (x3.2.2.2.2) (fun w T2 I2 J2 R2 hq => hnx _ _ _ _ _ _ _ _ hq)
  · obtain ⟨xs, rest, x1, x2, x3⟩ := popN_of _ _ _ _ h
    rw [List.append_nil] at x3
    rcases hi with ⟨rfl, hi⟩ | ⟨rfl, hi⟩ | ⟨rfl, hi⟩
    · simp [okInv, okNat] at hi
    · simp [okInv, okNat] at hi
    · simp only [okInv, okNat, Bool.or_false, Bool.not_false, Bool.true_and, Bool.and_true, Bool.and_eq_true, decide_eq_true_eq] at hi
      obtain ⟨⟨⟨⟨⟨q1, q2⟩, q3⟩, q4⟩, q5⟩, q6⟩ := hi
      exact s_callI (d := d) C hd (Or.inr (mL5_ok _ q5)) q2 q3 q4 x1 rfl (by rw [x2, q1]) x3.1 (by rw [← q6]; exact x3.2.1) ⟨x3.2.2.1, x3.2.2.2.1⟩ (x3.2.2.2.2) (fun w T2 I2 J2 R2 hq => hnx _ _ _ _ _ _ _ _ hq)
  · exact h.elim
end SOUND
