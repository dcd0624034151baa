/-! THE TAPE: how its tokens are read, and the house's tape -/
abbrev RSt : Type := Nat × (Nat → Tok) × Bool
def uK (tk : Nat → Tok) (i : Nat) (t : Tok) : Nat → Tok := fun j => if j = i then t else tk j
theorem uK_at (tk : Nat → Tok) (i : Nat) (t : Tok) : uK tk i t i = t := if_pos rfl
theorem uK_ne {tk : Nat → Tok} {i j : Nat} {t : Tok} (h : j ≠ i) : uK tk i t j = tk j := if_neg h
/-- a token begun by a byte; a token that grows by one -/
def nwT (b : Nat) : Tok := if sortN b = 1 then .inr [b - 97] else .inl (b - 48)
def grT (b : Nat) : Tok → Option Tok
  | .inr l => if sortN b = 1 ∧ l.length < 12 then some (.inr (l ++ [b - 97])) else none
  | .inl v => if sortN b = 2 ∧ sb_dg v < 9 ∧ v ≠ 0 then some (.inl (v * 10 + (b - 48))) else none
/-- one byte read -/
def rstp (b : Nat) (s : RSt) : Option RSt :=
  if sortN b = 0 then some (s.1, s.2.1, false)
  else if sortN b = 3 then none
  else if s.2.2 = true then (grT b (s.2.1 (s.1 - 1))).map fun t => (s.1, uK s.2.1 (s.1 - 1) t, true)
  else if s.1 < 20 then some (s.1 + 1, uK s.2.1 s.1 (nwT b), true) else none
/-- k bytes read from place i on: the fault's place, or what was read -/
def rdF (tb : Nat → Nat) : Nat → Nat → RSt → Nat ⊕ RSt
  | 0, _, s => .inr s
  | k + 1, i, s => match rstp (tb i) s with
    | none => .inl i
    | some s' => rdF tb k (i + 1) s'
def rd0 : RSt := (0, fun _ => .inl 0, false)
def okR (s : RSt) : Prop := s.1 ≤ 20 ∧ (∀ i, i < s.1 → okT (s.2.1 i)) ∧ (s.2.2 = true → 0 < s.1)
theorem sort_1 {b : Nat} (h : sortN b = 1) : 97 ≤ b ∧ b ≤ 122 := by
  unfold sortN at h
  repeat' split at h
  all_goals omega
theorem sort_2 {b : Nat} (h : sortN b = 2) : 48 ≤ b ∧ b ≤ 57 := by
  unfold sortN at h
  repeat' split at h
  all_goals omega
theorem sort_le (b : Nat) : sortN b ≤ 3 := by
  unfold sortN
  repeat' split
  all_goals omega
theorem nwT_ok {b : Nat} (h : sortN b = 1 ∨ sortN b = 2) : okT (nwT b) := by
  unfold nwT
  split
  · rename_i q
    have := sort_1 q
    refine ⟨fun x hx => ?_, Nat.le_refl _, by show 1 ≤ 12; decide⟩
    rw [List.mem_singleton] at hx
    omega
  · rename_i q
    have := sort_2 (h.resolve_left q)
    show b - 48 < 10 ^ 9
    omega
theorem grT_ok {b : Nat} {t u : Tok} (h : okT t) (hg : grT b t = some u) : okT u := by
  cases t with
  | inl v =>
    simp only [grT] at hg
    split at hg
    · rename_i q
      cases hg
      have h1 := dg_spec h
      have h2 := sort_2 q.1
      have h3 : 10 ^ sb_dg v ≤ 10 ^ 8 := Nat.pow_le_pow_right (by decide) (by omega)
      show v * 10 + (b - 48) < 10 ^ 9
      have h4 : (10 : Nat) ^ 8 = 100000000 := by decide
      have h5 : (10 : Nat) ^ 9 = 1000000000 := by decide
      rw [h4] at h3
      rw [h5]
      have := h1.2.2.1
      omega
    · cases hg
  | inr l =>
    simp only [grT] at hg
    split at hg
    · rename_i q
      cases hg
      have h2 := sort_1 q.1
      refine ⟨fun x hx => ?_, by rw [List.length_append]; show 1 ≤ _ + 1; omega, by rw [List.length_append]; show _ + 1 ≤ 12; omega⟩
      rcases List.mem_append.mp hx with hx | hx
      · exact h.1 x hx
      · rw [List.mem_singleton] at hx
        omega
    · cases hg
theorem rstp_ok {b : Nat} {s s' : RSt} (h : okR s) (hs : rstp b s = some s') : okR s' := by
  obtain ⟨n, tk, op⟩ := s
  unfold rstp at hs
  have h3 := sort_le b
  dsimp only at hs
  split at hs
  · cases hs
    exact ⟨h.1, h.2.1, fun e => by cases e⟩
  · rename_i q0
    split at hs
    · cases hs
    · rename_i q3
      split at hs
      · rename_i hop
        have hn := h.2.2 hop
        cases hg : grT b (tk (n - 1)) with
        | none => rw [hg] at hs; cases hs
        | some u =>
          rw [hg] at hs
          cases hs
          refine ⟨h.1, fun i hi => ?_, fun _ => hn⟩
          show okT (uK tk (n - 1) u i)
          by_cases e : i = n - 1
          · subst e
            rw [uK_at]
            exact grT_ok (h.2.1 (n - 1) hi) hg
          · rw [uK_ne e]
            exact h.2.1 i hi
      · split at hs
        · rename_i hn
          cases hs
          refine ⟨hn, fun i hi => ?_, fun _ => Nat.succ_pos _⟩
          show okT (uK tk n (nwT b) i)
          by_cases e : i = n
          · subst e
            rw [uK_at]
            exact nwT_ok (by omega)
          · rw [uK_ne e]
            have hi2 : i < n + 1 := hi
            exact h.2.1 i (show i < n by omega)
        · cases hs
theorem rdF_ok {tb : Nat → Nat} : ∀ {k i : Nat} {s s' : RSt}, okR s → rdF tb k i s = .inr s' → okR s'
  | 0, _, s, s', h, e => by cases e; exact h
  | k + 1, i, s, s', h, e => by
    unfold rdF at e
    split at e
    · cases e
    · rename_i s2 h2
      exact rdF_ok (rstp_ok h h2) e
theorem rd0_ok : okR rd0 := ⟨by decide, fun i hi => absurd hi (Nat.not_lt_zero i), fun e => by cases e⟩
/-- the house's tape shows what was read -/
def srT : Tok → Nat
  | .inl _ => 2
  | .inr _ => 1
def vlT : Tok → Nat
  | .inl v => v
  | .inr l => pk 32 l
def CRd (I : MIy) (J : MJy) (s : RSt) : Prop := I 3 3 = nI s.1 ∧ (∀ i, i < s.1 → J 5 i = cT (s.2.1 i)) ∧ (s.2.2 = false → I 3 4 = nI 0) ∧ (s.2.2 = true → I 3 4 = nI (srT (s.2.1 (s.1 - 1))) ∧ I 3 5 = nI (tL (s.2.1 (s.1 - 1))) ∧ J 3 6 = lN (vlT (s.2.1 (s.1 - 1))))
theorem dg_grow {v b : Nat} (hv : v ≠ 0) (h : v < 10 ^ 8) (hb : b ≤ 9) : sb_dg (v * 10 + b) = sb_dg v + 1 := by
  have h4 : (10 : Nat) ^ 8 = 100000000 := by decide
  rw [h4] at h
  unfold sb_dg
  repeat' split
  all_goals omega
theorem dg_one {v : Nat} (h : v ≤ 9) : sb_dg v = 1 := by
  unfold sb_dg
  repeat' split
  all_goals omega
def mayG : Tok → Prop
  | .inl v => sb_dg v < 9 ∧ v ≠ 0
  | .inr l => l.length < 12
section TAPE
variable {G : GGy} {T : TTy} {I : MIy} {J : MJy} {R : MRy} {Q : QQy}
set_option maxRecDepth 100000 in
theorem c_growL {n z w b : Nat} (S : SH T R) (h3 : I 3 3 = nI (n + 1)) (hn : n < 20) (h4 : I 3 4 = nI 1) (h5 : I 3 5 = nI z) (h6 : J 3 6 = lN w) (hb : 97 ≤ b) (hb2 : b ≤ 122)
    (h : Q (some (.int (nI 1))) T (u2 I 3 5 (nI (z + 1))) (u2 (u2 J 3 6 (lN (w * 32 + (b - 97 + 1)))) 5 n (lN (w * 32 + (b - 97 + 1)))) R) : Run G 111 [.ref 3, .int (nI b)] T I J R Q := by
  have e0 : nI b - nI 97 = nI (b - 97) := pk_sub hb
  have e1 : (nI 5).toInt64 &&& 63 = (nI 5).toInt64 &&& 63 := rfl
  have e2 : lN w <<< ((nI 5).toInt64 &&& 63) + (nI (b - 97)).toInt64 + lN 1 = lN (w * 32 + (b - 97 + 1)) := by
    rw [wb_shl w (by decide), nI_l (by omega), lN_add, lN_add, Nat.add_assoc]
  refine Run.body (by decide) 1 (Nat.le_of_ble_eq_true rfl) (AT.go okB111 1 rfl [] 90 0 ?_)
  simp only [B111, ↓ev_iconst, ↓ev_bipush, ↓ev_sipush, ↓ev_lconst, ↓ev_ldc, ↓ev_ldc_w, ↓ev_ldc2_w, ↓ev_aconst_null, ↓ev_iload, ↓ev_iload_n, ↓ev_lload, ↓ev_lload_n, ↓ev_aload, ↓ev_aload_n, ↓ev_istore, ↓ev_istore_n, ↓ev_lstore, ↓ev_lstore_n, ↓ev_astore, ↓ev_astore_n, ↓ev_iinc, ↓ev_iadd, ↓ev_isub, ↓ev_imul, ↓ev_iand, ↓ev_ixor, ↓ev_idiv, ↓ev_irem, ↓ev_ineg, ↓ev_i2l, ↓ev_i2b, ↓ev_l2i, ↓ev_ladd, ↓ev_lsub, ↓ev_lmul, ↓ev_land, ↓ev_lor, ↓ev_ldiv, ↓ev_lrem, ↓ev_lushr, ↓ev_lshl, ↓ev_lcmp, ↓ev_dup, ↓ev_pop, ↓ev_dup2, ↓ev_if_icmp, ↓ev_ifCond, ↓ev_goto, ↓ev_ifnull, ↓ev_ifnonnull, ↓ev_tableswitch, ↓ev_lookupswitch, ↓ev_getfield, ↓ev_putfield, ↓ev_getstatic, ↓ev_iaload, ↓ev_baload, ↓ev_laload, ↓ev_aaload, ↓ev_iastore, ↓ev_bastore, ↓ev_lastore, ↓ev_aastore, ↓ev_arraylength, ↓ev_new, ↓ev_newarray, ↓ev_anewarray, ↓ev_invokevirtual, ↓ev_invokestatic, ↓ev_invokespecial, ↓ev_ireturn, ↓ev_lreturn, ↓ev_areturn, ↓ev_ret, ↓ev_0, ↓ev_nil, ↓ev_cons, ↓ev_jp, ↓ev_pI, ↓ev_pII, ↓ev_pL, ↓ev_pLL, ↓ev_pIL, ↓ev_pR, ↓ev_pIR, ↓ev_pIIR, ↓ev_pLIR, ↓ev_pRIR, ↓ev_pop0, ↓ev_popS, ↓ev_eq, ↓ev_ne, ↓ev_lt, ↓ev_ge, ↓ev_gt, ↓ev_le, ↓ev_ldi0, ↓ev_ldiS, ↓ev_ldl0, ↓ev_ldlS, ↓ev_lda0, ↓ev_ldaN, ↓ev_ldaS, ↓ev_staR, ↓ev_staN, ↓ev_pfI, ↓ev_pfZ, ↓ev_pfL, ↓ev_pfR, ↓ev_kc, ↓ev_kcN, ↓inv, bk, sL, gf, tyI, tyIs, tyB, tyQ, tyN, nbk, ekd, elOk, isO, swl, vNat, vI, k1, st1, st2, ent, rtQ, va_rf, List.replicate, List.mem_cons, List.not_mem_nil, or_false, false_or, or_true, true_or, or_self, ↓reduceIte, Nat.reduceAdd, Nat.reduceEqDiff, true_and, and_true, reduceCtorEq, forall_const, false_implies, implies_true, true_implies, not_true_eq_false, not_false_eq_true, e00, e10, e01, e11, lg_eq0, lg_lt0, lg_le0, lg_gt0, lg_ge0, u2_ap, ↓reduceIte, Nat.reduceEqDiff, Nat.reduceAdd, Nat.reduceMul, S.t0, S.t2, S.t3, S.t4, S.t5, S.t6, S.t7, S.t8, S.t9, S.t10, S.t11, S.t12, S.t13, S.t14, S.t15, S.t16, S.t17, S.t18, S.t19, S.t20, S.t21, S.t22, S.t23, S.r2_0, S.r2_1, S.r2_2, S.r2_4, S.r2_6, S.r2_7, S.r2_8, S.r3_0, S.r3_2, S.r6_0, S.r10_0, S.r10_1, S.r10_2, S.r10_3, S.r16_1, S.r16_2, S.r16_4, S.r16_6, S.r16_7, S.r21_0, S.r21_1, h3, h4, h5, h6, e0]
  try simp (disch := omega) only [z_rm, Nat.add_sub_cancel, Nat.add_one_sub_one, Nat.reduceEqDiff, pk_mul, nI_add, nI_1, pk_sub, pk_div, pk_rem, nI_ltI, nI_leI, nI_eq, z_cl, z_in, z_lt0, z_0le, z_eq0, z_le0, z_0lt, z_m1, z_i2l, z_l2i, z_ult, pk_lLT, pk_lLE, pk_lEQ, lN_add, lN_mul, lN_sub, true_and, and_true, forall_const, false_implies, implies_true, true_implies, not_true_eq_false, not_false_eq_true, Nat.not_lt, Nat.not_le]
  refine c_withLetter ?_
  rw [e2]
  simp only [↓ev_iconst, ↓ev_bipush, ↓ev_sipush, ↓ev_lconst, ↓ev_ldc, ↓ev_ldc_w, ↓ev_ldc2_w, ↓ev_aconst_null, ↓ev_iload, ↓ev_iload_n, ↓ev_lload, ↓ev_lload_n, ↓ev_aload, ↓ev_aload_n, ↓ev_istore, ↓ev_istore_n, ↓ev_lstore, ↓ev_lstore_n, ↓ev_astore, ↓ev_astore_n, ↓ev_iinc, ↓ev_iadd, ↓ev_isub, ↓ev_imul, ↓ev_iand, ↓ev_ixor, ↓ev_idiv, ↓ev_irem, ↓ev_ineg, ↓ev_i2l, ↓ev_i2b, ↓ev_l2i, ↓ev_ladd, ↓ev_lsub, ↓ev_lmul, ↓ev_land, ↓ev_lor, ↓ev_ldiv, ↓ev_lrem, ↓ev_lushr, ↓ev_lshl, ↓ev_lcmp, ↓ev_dup, ↓ev_pop, ↓ev_dup2, ↓ev_if_icmp, ↓ev_ifCond, ↓ev_goto, ↓ev_ifnull, ↓ev_ifnonnull, ↓ev_tableswitch, ↓ev_lookupswitch, ↓ev_getfield, ↓ev_putfield, ↓ev_getstatic, ↓ev_iaload, ↓ev_baload, ↓ev_laload, ↓ev_aaload, ↓ev_iastore, ↓ev_bastore, ↓ev_lastore, ↓ev_aastore, ↓ev_arraylength, ↓ev_new, ↓ev_newarray, ↓ev_anewarray, ↓ev_invokevirtual, ↓ev_invokestatic, ↓ev_invokespecial, ↓ev_ireturn, ↓ev_lreturn, ↓ev_areturn, ↓ev_ret, ↓ev_0, ↓ev_nil, ↓ev_cons, ↓ev_jp, ↓ev_pI, ↓ev_pII, ↓ev_pL, ↓ev_pLL, ↓ev_pIL, ↓ev_pR, ↓ev_pIR, ↓ev_pIIR, ↓ev_pLIR, ↓ev_pRIR, ↓ev_pop0, ↓ev_popS, ↓ev_eq, ↓ev_ne, ↓ev_lt, ↓ev_ge, ↓ev_gt, ↓ev_le, ↓ev_ldi0, ↓ev_ldiS, ↓ev_ldl0, ↓ev_ldlS, ↓ev_lda0, ↓ev_ldaN, ↓ev_ldaS, ↓ev_staR, ↓ev_staN, ↓ev_pfI, ↓ev_pfZ, ↓ev_pfL, ↓ev_pfR, ↓ev_kc, ↓ev_kcN, ↓inv, bk, sL, gf, tyI, tyIs, tyB, tyQ, tyN, nbk, ekd, elOk, isO, swl, vNat, vI, k1, st1, st2, ent, rtQ, va_rf, List.replicate, List.mem_cons, List.not_mem_nil, or_false, false_or, or_true, true_or, or_self, ↓reduceIte, Nat.reduceAdd, Nat.reduceEqDiff, true_and, and_true, reduceCtorEq, forall_const, false_implies, implies_true, true_implies, not_true_eq_false, not_false_eq_true, e00, e10, e01, e11, lg_eq0, lg_lt0, lg_le0, lg_gt0, lg_ge0, u2_ap, ↓reduceIte, Nat.reduceEqDiff, Nat.reduceAdd, Nat.reduceMul, S.t0, S.t2, S.t3, S.t4, S.t5, S.t6, S.t7, S.t8, S.t9, S.t10, S.t11, S.t12, S.t13, S.t14, S.t15, S.t16, S.t17, S.t18, S.t19, S.t20, S.t21, S.t22, S.t23, S.r2_0, S.r2_1, S.r2_2, S.r2_4, S.r2_6, S.r2_7, S.r2_8, S.r3_0, S.r3_2, S.r6_0, S.r10_0, S.r10_1, S.r10_2, S.r10_3, S.r16_1, S.r16_2, S.r16_4, S.r16_6, S.r16_7, S.r21_0, S.r21_1]
  try simp (disch := omega) only [z_rm, Nat.add_sub_cancel, Nat.add_one_sub_one, Nat.reduceEqDiff, pk_mul, nI_add, nI_1, pk_sub, pk_div, pk_rem, nI_ltI, nI_leI, nI_eq, z_cl, z_in, z_lt0, z_0le, z_eq0, z_le0, z_0lt, z_m1, z_i2l, z_l2i, z_ult, pk_lLT, pk_lLE, pk_lEQ, lN_add, lN_mul, lN_sub, true_and, and_true, forall_const, false_implies, implies_true, true_implies, not_true_eq_false, not_false_eq_true, Nat.not_lt, Nat.not_le]
  exact h
set_option maxRecDepth 100000 in
theorem c_growD {n z w b : Nat} (S : SH T R) (h3 : I 3 3 = nI (n + 1)) (hn : n < 20) (h4 : I 3 4 = nI 2) (h5 : I 3 5 = nI z) (h6 : J 3 6 = lN w) (hb : 48 ≤ b) (hb2 : b ≤ 57)
    (h : Q (some (.int (nI 1))) T (u2 I 3 5 (nI (z + 1))) (u2 (u2 J 3 6 (lN (w * 10 + (b - 48)))) 5 n (-1 - lN (w * 10 + (b - 48)))) R) : Run G 111 [.ref 3, .int (nI b)] T I J R Q := by
  have e0 : nI b - nI 48 = nI (b - 48) := pk_sub hb
  have e2 : lN w * lN 10 + (nI (b - 48)).toInt64 = lN (w * 10 + (b - 48)) := by
    rw [nI_l (by omega), lN_mul, lN_add]
  have e3 : ¬ nI 2 = nI 1 := by decide
  refine Run.body (by decide) 1 (Nat.le_of_ble_eq_true rfl) (AT.go okB111 1 rfl [] 90 0 ?_)
  simp only [B111, ↓ev_iconst, ↓ev_bipush, ↓ev_sipush, ↓ev_lconst, ↓ev_ldc, ↓ev_ldc_w, ↓ev_ldc2_w, ↓ev_aconst_null, ↓ev_iload, ↓ev_iload_n, ↓ev_lload, ↓ev_lload_n, ↓ev_aload, ↓ev_aload_n, ↓ev_istore, ↓ev_istore_n, ↓ev_lstore, ↓ev_lstore_n, ↓ev_astore, ↓ev_astore_n, ↓ev_iinc, ↓ev_iadd, ↓ev_isub, ↓ev_imul, ↓ev_iand, ↓ev_ixor, ↓ev_idiv, ↓ev_irem, ↓ev_ineg, ↓ev_i2l, ↓ev_i2b, ↓ev_l2i, ↓ev_ladd, ↓ev_lsub, ↓ev_lmul, ↓ev_land, ↓ev_lor, ↓ev_ldiv, ↓ev_lrem, ↓ev_lushr, ↓ev_lshl, ↓ev_lcmp, ↓ev_dup, ↓ev_pop, ↓ev_dup2, ↓ev_if_icmp, ↓ev_ifCond, ↓ev_goto, ↓ev_ifnull, ↓ev_ifnonnull, ↓ev_tableswitch, ↓ev_lookupswitch, ↓ev_getfield, ↓ev_putfield, ↓ev_getstatic, ↓ev_iaload, ↓ev_baload, ↓ev_laload, ↓ev_aaload, ↓ev_iastore, ↓ev_bastore, ↓ev_lastore, ↓ev_aastore, ↓ev_arraylength, ↓ev_new, ↓ev_newarray, ↓ev_anewarray, ↓ev_invokevirtual, ↓ev_invokestatic, ↓ev_invokespecial, ↓ev_ireturn, ↓ev_lreturn, ↓ev_areturn, ↓ev_ret, ↓ev_0, ↓ev_nil, ↓ev_cons, ↓ev_jp, ↓ev_pI, ↓ev_pII, ↓ev_pL, ↓ev_pLL, ↓ev_pIL, ↓ev_pR, ↓ev_pIR, ↓ev_pIIR, ↓ev_pLIR, ↓ev_pRIR, ↓ev_pop0, ↓ev_popS, ↓ev_eq, ↓ev_ne, ↓ev_lt, ↓ev_ge, ↓ev_gt, ↓ev_le, ↓ev_ldi0, ↓ev_ldiS, ↓ev_ldl0, ↓ev_ldlS, ↓ev_lda0, ↓ev_ldaN, ↓ev_ldaS, ↓ev_staR, ↓ev_staN, ↓ev_pfI, ↓ev_pfZ, ↓ev_pfL, ↓ev_pfR, ↓ev_kc, ↓ev_kcN, ↓inv, bk, sL, gf, tyI, tyIs, tyB, tyQ, tyN, nbk, ekd, elOk, isO, swl, vNat, vI, k1, st1, st2, ent, rtQ, va_rf, List.replicate, List.mem_cons, List.not_mem_nil, or_false, false_or, or_true, true_or, or_self, ↓reduceIte, Nat.reduceAdd, Nat.reduceEqDiff, true_and, and_true, reduceCtorEq, forall_const, false_implies, implies_true, true_implies, not_true_eq_false, not_false_eq_true, e00, e10, e01, e11, lg_eq0, lg_lt0, lg_le0, lg_gt0, lg_ge0, u2_ap, ↓reduceIte, Nat.reduceEqDiff, Nat.reduceAdd, Nat.reduceMul, S.t0, S.t2, S.t3, S.t4, S.t5, S.t6, S.t7, S.t8, S.t9, S.t10, S.t11, S.t12, S.t13, S.t14, S.t15, S.t16, S.t17, S.t18, S.t19, S.t20, S.t21, S.t22, S.t23, S.r2_0, S.r2_1, S.r2_2, S.r2_4, S.r2_6, S.r2_7, S.r2_8, S.r3_0, S.r3_2, S.r6_0, S.r10_0, S.r10_1, S.r10_2, S.r10_3, S.r16_1, S.r16_2, S.r16_4, S.r16_6, S.r16_7, S.r21_0, S.r21_1, h3, h4, h5, h6, e0, e2, e3]
  try simp (disch := omega) only [z_rm, Nat.add_sub_cancel, Nat.add_one_sub_one, Nat.reduceEqDiff, pk_mul, nI_add, nI_1, pk_sub, pk_div, pk_rem, nI_ltI, nI_leI, nI_eq, z_cl, z_in, z_lt0, z_0le, z_eq0, z_le0, z_0lt, z_m1, z_i2l, z_l2i, z_ult, pk_lLT, pk_lLE, pk_lEQ, lN_add, lN_mul, lN_sub, true_and, and_true, forall_const, false_implies, implies_true, true_implies, not_true_eq_false, not_false_eq_true, Nat.not_lt, Nat.not_le]
  refine c_numberToken ?_
  simp only [↓ev_iconst, ↓ev_bipush, ↓ev_sipush, ↓ev_lconst, ↓ev_ldc, ↓ev_ldc_w, ↓ev_ldc2_w, ↓ev_aconst_null, ↓ev_iload, ↓ev_iload_n, ↓ev_lload, ↓ev_lload_n, ↓ev_aload, ↓ev_aload_n, ↓ev_istore, ↓ev_istore_n, ↓ev_lstore, ↓ev_lstore_n, ↓ev_astore, ↓ev_astore_n, ↓ev_iinc, ↓ev_iadd, ↓ev_isub, ↓ev_imul, ↓ev_iand, ↓ev_ixor, ↓ev_idiv, ↓ev_irem, ↓ev_ineg, ↓ev_i2l, ↓ev_i2b, ↓ev_l2i, ↓ev_ladd, ↓ev_lsub, ↓ev_lmul, ↓ev_land, ↓ev_lor, ↓ev_ldiv, ↓ev_lrem, ↓ev_lushr, ↓ev_lshl, ↓ev_lcmp, ↓ev_dup, ↓ev_pop, ↓ev_dup2, ↓ev_if_icmp, ↓ev_ifCond, ↓ev_goto, ↓ev_ifnull, ↓ev_ifnonnull, ↓ev_tableswitch, ↓ev_lookupswitch, ↓ev_getfield, ↓ev_putfield, ↓ev_getstatic, ↓ev_iaload, ↓ev_baload, ↓ev_laload, ↓ev_aaload, ↓ev_iastore, ↓ev_bastore, ↓ev_lastore, ↓ev_aastore, ↓ev_arraylength, ↓ev_new, ↓ev_newarray, ↓ev_anewarray, ↓ev_invokevirtual, ↓ev_invokestatic, ↓ev_invokespecial, ↓ev_ireturn, ↓ev_lreturn, ↓ev_areturn, ↓ev_ret, ↓ev_0, ↓ev_nil, ↓ev_cons, ↓ev_jp, ↓ev_pI, ↓ev_pII, ↓ev_pL, ↓ev_pLL, ↓ev_pIL, ↓ev_pR, ↓ev_pIR, ↓ev_pIIR, ↓ev_pLIR, ↓ev_pRIR, ↓ev_pop0, ↓ev_popS, ↓ev_eq, ↓ev_ne, ↓ev_lt, ↓ev_ge, ↓ev_gt, ↓ev_le, ↓ev_ldi0, ↓ev_ldiS, ↓ev_ldl0, ↓ev_ldlS, ↓ev_lda0, ↓ev_ldaN, ↓ev_ldaS, ↓ev_staR, ↓ev_staN, ↓ev_pfI, ↓ev_pfZ, ↓ev_pfL, ↓ev_pfR, ↓ev_kc, ↓ev_kcN, ↓inv, bk, sL, gf, tyI, tyIs, tyB, tyQ, tyN, nbk, ekd, elOk, isO, swl, vNat, vI, k1, st1, st2, ent, rtQ, va_rf, List.replicate, List.mem_cons, List.not_mem_nil, or_false, false_or, or_true, true_or, or_self, ↓reduceIte, Nat.reduceAdd, Nat.reduceEqDiff, true_and, and_true, reduceCtorEq, forall_const, false_implies, implies_true, true_implies, not_true_eq_false, not_false_eq_true, e00, e10, e01, e11, lg_eq0, lg_lt0, lg_le0, lg_gt0, lg_ge0, u2_ap, ↓reduceIte, Nat.reduceEqDiff, Nat.reduceAdd, Nat.reduceMul, S.t0, S.t2, S.t3, S.t4, S.t5, S.t6, S.t7, S.t8, S.t9, S.t10, S.t11, S.t12, S.t13, S.t14, S.t15, S.t16, S.t17, S.t18, S.t19, S.t20, S.t21, S.t22, S.t23, S.r2_0, S.r2_1, S.r2_2, S.r2_4, S.r2_6, S.r2_7, S.r2_8, S.r3_0, S.r3_2, S.r6_0, S.r10_0, S.r10_1, S.r10_2, S.r10_3, S.r16_1, S.r16_2, S.r16_4, S.r16_6, S.r16_7, S.r21_0, S.r21_1]
  try simp (disch := omega) only [z_rm, Nat.add_sub_cancel, Nat.add_one_sub_one, Nat.reduceEqDiff, pk_mul, nI_add, nI_1, pk_sub, pk_div, pk_rem, nI_ltI, nI_leI, nI_eq, z_cl, z_in, z_lt0, z_0le, z_eq0, z_le0, z_0lt, z_m1, z_i2l, z_l2i, z_ult, pk_lLT, pk_lLE, pk_lEQ, lN_add, lN_mul, lN_sub, true_and, and_true, forall_const, false_implies, implies_true, true_implies, not_true_eq_false, not_false_eq_true, Nat.not_lt, Nat.not_le]
  exact h
set_option maxRecDepth 100000 in
theorem c_mayGrow {t : Tok} (S : SH T R) (ht : okT t) (h4 : I 3 4 = nI (srT t)) (h5 : I 3 5 = nI (tL t)) (h6 : J 3 6 = lN (vlT t)) (h1 : mayG t → Q (some (.int (nI 1))) T I J R) (h0 : ¬ mayG t → Q (some (.int (nI 0))) T I J R) : Run G 110 [.ref 3] T I J R Q := by
  cases t with
  | inl v =>
    have hv : v < 1000000000 := ht
    have hd := dg_spec ht
    have a4 : I 3 4 = nI 2 := h4
    have a5 : I 3 5 = nI (sb_dg v) := h5
    have a6 : J 3 6 = lN v := h6
    have e3 : ¬ nI 2 = nI 1 := by decide
    refine Run.body (by decide) 0 (Nat.le_of_ble_eq_true rfl) (AT.go okB110 1 rfl [] 90 0 ?_)
    simp only [B110, ↓ev_iconst, ↓ev_bipush, ↓ev_sipush, ↓ev_lconst, ↓ev_ldc, ↓ev_ldc_w, ↓ev_ldc2_w, ↓ev_aconst_null, ↓ev_iload, ↓ev_iload_n, ↓ev_lload, ↓ev_lload_n, ↓ev_aload, ↓ev_aload_n, ↓ev_istore, ↓ev_istore_n, ↓ev_lstore, ↓ev_lstore_n, ↓ev_astore, ↓ev_astore_n, ↓ev_iinc, ↓ev_iadd, ↓ev_isub, ↓ev_imul, ↓ev_iand, ↓ev_ixor, ↓ev_idiv, ↓ev_irem, ↓ev_ineg, ↓ev_i2l, ↓ev_i2b, ↓ev_l2i, ↓ev_ladd, ↓ev_lsub, ↓ev_lmul, ↓ev_land, ↓ev_lor, ↓ev_ldiv, ↓ev_lrem, ↓ev_lushr, ↓ev_lshl, ↓ev_lcmp, ↓ev_dup, ↓ev_pop, ↓ev_dup2, ↓ev_if_icmp, ↓ev_ifCond, ↓ev_goto, ↓ev_ifnull, ↓ev_ifnonnull, ↓ev_tableswitch, ↓ev_lookupswitch, ↓ev_getfield, ↓ev_putfield, ↓ev_getstatic, ↓ev_iaload, ↓ev_baload, ↓ev_laload, ↓ev_aaload, ↓ev_iastore, ↓ev_bastore, ↓ev_lastore, ↓ev_aastore, ↓ev_arraylength, ↓ev_new, ↓ev_newarray, ↓ev_anewarray, ↓ev_invokevirtual, ↓ev_invokestatic, ↓ev_invokespecial, ↓ev_ireturn, ↓ev_lreturn, ↓ev_areturn, ↓ev_ret, ↓ev_0, ↓ev_nil, ↓ev_cons, ↓ev_jp, ↓ev_pI, ↓ev_pII, ↓ev_pL, ↓ev_pLL, ↓ev_pIL, ↓ev_pR, ↓ev_pIR, ↓ev_pIIR, ↓ev_pLIR, ↓ev_pRIR, ↓ev_pop0, ↓ev_popS, ↓ev_eq, ↓ev_ne, ↓ev_lt, ↓ev_ge, ↓ev_gt, ↓ev_le, ↓ev_ldi0, ↓ev_ldiS, ↓ev_ldl0, ↓ev_ldlS, ↓ev_lda0, ↓ev_ldaN, ↓ev_ldaS, ↓ev_staR, ↓ev_staN, ↓ev_pfI, ↓ev_pfZ, ↓ev_pfL, ↓ev_pfR, ↓ev_kc, ↓ev_kcN, ↓inv, bk, sL, gf, tyI, tyIs, tyB, tyQ, tyN, nbk, ekd, elOk, isO, swl, vNat, vI, k1, st1, st2, ent, rtQ, va_rf, List.replicate, List.mem_cons, List.not_mem_nil, or_false, false_or, or_true, true_or, or_self, ↓reduceIte, Nat.reduceAdd, Nat.reduceEqDiff, true_and, and_true, reduceCtorEq, forall_const, false_implies, implies_true, true_implies, not_true_eq_false, not_false_eq_true, e00, e10, e01, e11, lg_eq0, lg_lt0, lg_le0, lg_gt0, lg_ge0, u2_ap, ↓reduceIte, Nat.reduceEqDiff, Nat.reduceAdd, Nat.reduceMul, S.t0, S.t2, S.t3, S.t4, S.t5, S.t6, S.t7, S.t8, S.t9, S.t10, S.t11, S.t12, S.t13, S.t14, S.t15, S.t16, S.t17, S.t18, S.t19, S.t20, S.t21, S.t22, S.t23, S.r2_0, S.r2_1, S.r2_2, S.r2_4, S.r2_6, S.r2_7, S.r2_8, S.r3_0, S.r3_2, S.r6_0, S.r10_0, S.r10_1, S.r10_2, S.r10_3, S.r16_1, S.r16_2, S.r16_4, S.r16_6, S.r16_7, S.r21_0, S.r21_1, a4, a5, a6, e3]
    try simp (disch := omega) only [z_rm, Nat.add_sub_cancel, Nat.add_one_sub_one, Nat.reduceEqDiff, pk_mul, nI_add, nI_1, pk_sub, pk_div, pk_rem, nI_ltI, nI_leI, nI_eq, z_cl, z_in, z_lt0, z_0le, z_eq0, z_le0, z_0lt, z_m1, z_i2l, z_l2i, z_ult, pk_lLT, pk_lLE, pk_lEQ, lN_add, lN_mul, lN_sub, true_and, and_true, forall_const, false_implies, implies_true, true_implies, not_true_eq_false, not_false_eq_true, Nat.not_lt, Nat.not_le]
    exact ⟨fun q => h0 (fun z => absurd z.1 (by omega)), fun q => ⟨fun q2 => h0 (fun z => z.2 q2), fun q2 => h1 ⟨by omega, q2⟩⟩⟩
  | inr l =>
    have hl := ht.2.2
    have a4 : I 3 4 = nI 1 := h4
    have a5 : I 3 5 = nI l.length := h5
    refine Run.body (by decide) 0 (Nat.le_of_ble_eq_true rfl) (AT.go okB110 1 rfl [] 90 0 ?_)
    simp only [B110, ↓ev_iconst, ↓ev_bipush, ↓ev_sipush, ↓ev_lconst, ↓ev_ldc, ↓ev_ldc_w, ↓ev_ldc2_w, ↓ev_aconst_null, ↓ev_iload, ↓ev_iload_n, ↓ev_lload, ↓ev_lload_n, ↓ev_aload, ↓ev_aload_n, ↓ev_istore, ↓ev_istore_n, ↓ev_lstore, ↓ev_lstore_n, ↓ev_astore, ↓ev_astore_n, ↓ev_iinc, ↓ev_iadd, ↓ev_isub, ↓ev_imul, ↓ev_iand, ↓ev_ixor, ↓ev_idiv, ↓ev_irem, ↓ev_ineg, ↓ev_i2l, ↓ev_i2b, ↓ev_l2i, ↓ev_ladd, ↓ev_lsub, ↓ev_lmul, ↓ev_land, ↓ev_lor, ↓ev_ldiv, ↓ev_lrem, ↓ev_lushr, ↓ev_lshl, ↓ev_lcmp, ↓ev_dup, ↓ev_pop, ↓ev_dup2, ↓ev_if_icmp, ↓ev_ifCond, ↓ev_goto, ↓ev_ifnull, ↓ev_ifnonnull, ↓ev_tableswitch, ↓ev_lookupswitch, ↓ev_getfield, ↓ev_putfield, ↓ev_getstatic, ↓ev_iaload, ↓ev_baload, ↓ev_laload, ↓ev_aaload, ↓ev_iastore, ↓ev_bastore, ↓ev_lastore, ↓ev_aastore, ↓ev_arraylength, ↓ev_new, ↓ev_newarray, ↓ev_anewarray, ↓ev_invokevirtual, ↓ev_invokestatic, ↓ev_invokespecial, ↓ev_ireturn, ↓ev_lreturn, ↓ev_areturn, ↓ev_ret, ↓ev_0, ↓ev_nil, ↓ev_cons, ↓ev_jp, ↓ev_pI, ↓ev_pII, ↓ev_pL, ↓ev_pLL, ↓ev_pIL, ↓ev_pR, ↓ev_pIR, ↓ev_pIIR, ↓ev_pLIR, ↓ev_pRIR, ↓ev_pop0, ↓ev_popS, ↓ev_eq, ↓ev_ne, ↓ev_lt, ↓ev_ge, ↓ev_gt, ↓ev_le, ↓ev_ldi0, ↓ev_ldiS, ↓ev_ldl0, ↓ev_ldlS, ↓ev_lda0, ↓ev_ldaN, ↓ev_ldaS, ↓ev_staR, ↓ev_staN, ↓ev_pfI, ↓ev_pfZ, ↓ev_pfL, ↓ev_pfR, ↓ev_kc, ↓ev_kcN, ↓inv, bk, sL, gf, tyI, tyIs, tyB, tyQ, tyN, nbk, ekd, elOk, isO, swl, vNat, vI, k1, st1, st2, ent, rtQ, va_rf, List.replicate, List.mem_cons, List.not_mem_nil, or_false, false_or, or_true, true_or, or_self, ↓reduceIte, Nat.reduceAdd, Nat.reduceEqDiff, true_and, and_true, reduceCtorEq, forall_const, false_implies, implies_true, true_implies, not_true_eq_false, not_false_eq_true, e00, e10, e01, e11, lg_eq0, lg_lt0, lg_le0, lg_gt0, lg_ge0, u2_ap, ↓reduceIte, Nat.reduceEqDiff, Nat.reduceAdd, Nat.reduceMul, S.t0, S.t2, S.t3, S.t4, S.t5, S.t6, S.t7, S.t8, S.t9, S.t10, S.t11, S.t12, S.t13, S.t14, S.t15, S.t16, S.t17, S.t18, S.t19, S.t20, S.t21, S.t22, S.t23, S.r2_0, S.r2_1, S.r2_2, S.r2_4, S.r2_6, S.r2_7, S.r2_8, S.r3_0, S.r3_2, S.r6_0, S.r10_0, S.r10_1, S.r10_2, S.r10_3, S.r16_1, S.r16_2, S.r16_4, S.r16_6, S.r16_7, S.r21_0, S.r21_1, a4, a5]
    try simp (disch := omega) only [z_rm, Nat.add_sub_cancel, Nat.add_one_sub_one, Nat.reduceEqDiff, pk_mul, nI_add, nI_1, pk_sub, pk_div, pk_rem, nI_ltI, nI_leI, nI_eq, z_cl, z_in, z_lt0, z_0le, z_eq0, z_le0, z_0lt, z_m1, z_i2l, z_l2i, z_ult, pk_lLT, pk_lLE, pk_lEQ, lN_add, lN_mul, lN_sub, true_and, and_true, forall_const, false_implies, implies_true, true_implies, not_true_eq_false, not_false_eq_true, Nat.not_lt, Nat.not_le]
    exact ⟨fun q => h0 (fun z => absurd (show l.length < 12 from z) (by omega)), fun q => h1 (show l.length < 12 by omega)⟩
/-- what reading leaves as it was -/
def rdK (I I' : MIy) (J J' : MJy) : Prop := (∀ y, y ≠ 3 → I' y = I y) ∧ I' 3 1 = I 3 1 ∧ ∀ y, y ≠ 3 → y ≠ 5 → J' y = J y
theorem rdK.rf (I : MIy) (J : MJy) : rdK I I J J := ⟨fun _ _ => rfl, rfl, fun _ _ _ => rfl⟩
theorem rdK.tr {I1 I2 I3 : MIy} {J1 J2 J3 : MJy} (h : rdK I1 I2 J1 J2) (g : rdK I2 I3 J2 J3) : rdK I1 I3 J1 J3 := ⟨fun y hy => (g.1 y hy).trans (h.1 y hy), g.2.1.trans h.2.1, fun y h1 h2 => (g.2.2 y h1 h2).trans (h.2.2 y h1 h2)⟩
set_option maxRecDepth 100000 in
theorem c_takes {s : RSt} {b : Nat} (S : SH T R) (ok : okR s) (C : CRd I J s) (hb : b < 256) (hs0 : sortN b ≠ 0) (h1 : ∀ s' I' J', rstp b s = some s' → CRd I' J' s' → rdK I I' J J' → Q (some (.int (nI 1))) T I' J' R) (h0 : ∀ I' J', rstp b s = none → rdK I I' J J' → Q (some (.int (nI 0))) T I' J' R) : Run G 109 [.ref 3, .int (nI (sortN b)), .int (nI b)] T I J R Q := by
  obtain ⟨n, tk, op⟩ := s
  obtain ⟨c1, c2, c3, c4⟩ := C
  obtain ⟨o1, o2, o3⟩ := ok
  dsimp only at c1 c2 c3 c4 o1 o2 o3
  have hsl := sort_le b
  by_cases q3 : sortN b = 3
  · refine Run.body (by decide) 0 (Nat.le_of_ble_eq_true rfl) (AT.go okB109 1 rfl [] 90 0 ?_)
    simp only [B109, ↓ev_iconst, ↓ev_bipush, ↓ev_sipush, ↓ev_lconst, ↓ev_ldc, ↓ev_ldc_w, ↓ev_ldc2_w, ↓ev_aconst_null, ↓ev_iload, ↓ev_iload_n, ↓ev_lload, ↓ev_lload_n, ↓ev_aload, ↓ev_aload_n, ↓ev_istore, ↓ev_istore_n, ↓ev_lstore, ↓ev_lstore_n, ↓ev_astore, ↓ev_astore_n, ↓ev_iinc, ↓ev_iadd, ↓ev_isub, ↓ev_imul, ↓ev_iand, ↓ev_ixor, ↓ev_idiv, ↓ev_irem, ↓ev_ineg, ↓ev_i2l, ↓ev_i2b, ↓ev_l2i, ↓ev_ladd, ↓ev_lsub, ↓ev_lmul, ↓ev_land, ↓ev_lor, ↓ev_ldiv, ↓ev_lrem, ↓ev_lushr, ↓ev_lshl, ↓ev_lcmp, ↓ev_dup, ↓ev_pop, ↓ev_dup2, ↓ev_if_icmp, ↓ev_ifCond, ↓ev_goto, ↓ev_ifnull, ↓ev_ifnonnull, ↓ev_tableswitch, ↓ev_lookupswitch, ↓ev_getfield, ↓ev_putfield, ↓ev_getstatic, ↓ev_iaload, ↓ev_baload, ↓ev_laload, ↓ev_aaload, ↓ev_iastore, ↓ev_bastore, ↓ev_lastore, ↓ev_aastore, ↓ev_arraylength, ↓ev_new, ↓ev_newarray, ↓ev_anewarray, ↓ev_invokevirtual, ↓ev_invokestatic, ↓ev_invokespecial, ↓ev_ireturn, ↓ev_lreturn, ↓ev_areturn, ↓ev_ret, ↓ev_0, ↓ev_nil, ↓ev_cons, ↓ev_jp, ↓ev_pI, ↓ev_pII, ↓ev_pL, ↓ev_pLL, ↓ev_pIL, ↓ev_pR, ↓ev_pIR, ↓ev_pIIR, ↓ev_pLIR, ↓ev_pRIR, ↓ev_pop0, ↓ev_popS, ↓ev_eq, ↓ev_ne, ↓ev_lt, ↓ev_ge, ↓ev_gt, ↓ev_le, ↓ev_ldi0, ↓ev_ldiS, ↓ev_ldl0, ↓ev_ldlS, ↓ev_lda0, ↓ev_ldaN, ↓ev_ldaS, ↓ev_staR, ↓ev_staN, ↓ev_pfI, ↓ev_pfZ, ↓ev_pfL, ↓ev_pfR, ↓ev_kc, ↓ev_kcN, ↓inv, bk, sL, gf, tyI, tyIs, tyB, tyQ, tyN, nbk, ekd, elOk, isO, swl, vNat, vI, k1, st1, st2, ent, rtQ, va_rf, List.replicate, List.mem_cons, List.not_mem_nil, or_false, false_or, or_true, true_or, or_self, ↓reduceIte, Nat.reduceAdd, Nat.reduceEqDiff, true_and, and_true, reduceCtorEq, forall_const, false_implies, implies_true, true_implies, not_true_eq_false, not_false_eq_true, e00, e10, e01, e11, lg_eq0, lg_lt0, lg_le0, lg_gt0, lg_ge0, u2_ap, ↓reduceIte, Nat.reduceEqDiff, Nat.reduceAdd, Nat.reduceMul, S.t0, S.t2, S.t3, S.t4, S.t5, S.t6, S.t7, S.t8, S.t9, S.t10, S.t11, S.t12, S.t13, S.t14, S.t15, S.t16, S.t17, S.t18, S.t19, S.t20, S.t21, S.t22, S.t23, S.r2_0, S.r2_1, S.r2_2, S.r2_4, S.r2_6, S.r2_7, S.r2_8, S.r3_0, S.r3_2, S.r6_0, S.r10_0, S.r10_1, S.r10_2, S.r10_3, S.r16_1, S.r16_2, S.r16_4, S.r16_6, S.r16_7, S.r21_0, S.r21_1, q3]
    try simp (disch := omega) only [z_rm, Nat.add_sub_cancel, Nat.add_one_sub_one, Nat.reduceEqDiff, pk_mul, nI_add, nI_1, pk_sub, pk_div, pk_rem, nI_ltI, nI_leI, nI_eq, z_cl, z_in, z_lt0, z_0le, z_eq0, z_le0, z_0lt, z_m1, z_i2l, z_l2i, z_ult, pk_lLT, pk_lLE, pk_lEQ, lN_add, lN_mul, lN_sub, true_and, and_true, forall_const, false_implies, implies_true, true_implies, not_true_eq_false, not_false_eq_true, Nat.not_lt, Nat.not_le]
    exact h0 I J (by unfold rstp; rw [if_neg hs0, if_pos q3]) (rdK.rf I J)
  · have hs12 : sortN b = 1 ∨ sortN b = 2 := by omega
    cases op with
    | true =>
      obtain ⟨d1, d2, d3⟩ := c4 rfl
      have hn0 := o3 rfl
      have er : rstp b (n, tk, true) = (grT b (tk (n - 1))).map fun t => (n, uK tk (n - 1) t, true) := by
        unfold rstp
        rw [if_neg hs0, if_neg q3, if_pos rfl]
      have hsr : srT (tk (n - 1)) = 1 ∨ srT (tk (n - 1)) = 2 := by
        cases tk (n - 1)
        · exact Or.inr rfl
        · exact Or.inl rfl
      have htk := o2 (n - 1) (by omega)
      have cr : ∀ u I' J', I' 3 3 = I 3 3 → I' 3 4 = I 3 4 → I' 3 5 = nI (tL u) → J' 3 6 = lN (vlT u) → J' 5 (n - 1) = cT u → (∀ i, i < n - 1 → J' 5 i = J 5 i) → srT u = srT (tk (n - 1)) → CRd I' J' (n, uK tk (n - 1) u, true) := by
        intro u I' J' a1 a2 a3 a4 a5 a6 a7
        refine ⟨a1.trans c1, fun i hi => ?_, fun e => by (cases e), fun _ => ?_⟩
        · have hi2 : i < n := hi
          show J' 5 i = cT (uK tk (n - 1) u i)
          by_cases e : i = n - 1
          · subst e
            rw [uK_at]
            exact a5
          · rw [uK_ne e, a6 i (by omega)]
            exact c2 i hi
        · show I' 3 4 = nI (srT (uK tk (n - 1) u (n - 1))) ∧ I' 3 5 = nI (tL (uK tk (n - 1) u (n - 1))) ∧ J' 3 6 = lN (vlT (uK tk (n - 1) u (n - 1)))
          rw [uK_at, a7]
          exact ⟨a2.trans d1, a3, a4⟩
      have hne0 : ¬ nI (srT (tk (n - 1))) = 0 := by
        rw [z_eq0 (by omega)]
        omega
      refine Run.body (by decide) 0 (Nat.le_of_ble_eq_true rfl) (AT.go okB109 1 rfl [] 90 0 ?_)
      simp only [B109, ↓ev_iconst, ↓ev_bipush, ↓ev_sipush, ↓ev_lconst, ↓ev_ldc, ↓ev_ldc_w, ↓ev_ldc2_w, ↓ev_aconst_null, ↓ev_iload, ↓ev_iload_n, ↓ev_lload, ↓ev_lload_n, ↓ev_aload, ↓ev_aload_n, ↓ev_istore, ↓ev_istore_n, ↓ev_lstore, ↓ev_lstore_n, ↓ev_astore, ↓ev_astore_n, ↓ev_iinc, ↓ev_iadd, ↓ev_isub, ↓ev_imul, ↓ev_iand, ↓ev_ixor, ↓ev_idiv, ↓ev_irem, ↓ev_ineg, ↓ev_i2l, ↓ev_i2b, ↓ev_l2i, ↓ev_ladd, ↓ev_lsub, ↓ev_lmul, ↓ev_land, ↓ev_lor, ↓ev_ldiv, ↓ev_lrem, ↓ev_lushr, ↓ev_lshl, ↓ev_lcmp, ↓ev_dup, ↓ev_pop, ↓ev_dup2, ↓ev_if_icmp, ↓ev_ifCond, ↓ev_goto, ↓ev_ifnull, ↓ev_ifnonnull, ↓ev_tableswitch, ↓ev_lookupswitch, ↓ev_getfield, ↓ev_putfield, ↓ev_getstatic, ↓ev_iaload, ↓ev_baload, ↓ev_laload, ↓ev_aaload, ↓ev_iastore, ↓ev_bastore, ↓ev_lastore, ↓ev_aastore, ↓ev_arraylength, ↓ev_new, ↓ev_newarray, ↓ev_anewarray, ↓ev_invokevirtual, ↓ev_invokestatic, ↓ev_invokespecial, ↓ev_ireturn, ↓ev_lreturn, ↓ev_areturn, ↓ev_ret, ↓ev_0, ↓ev_nil, ↓ev_cons, ↓ev_jp, ↓ev_pI, ↓ev_pII, ↓ev_pL, ↓ev_pLL, ↓ev_pIL, ↓ev_pR, ↓ev_pIR, ↓ev_pIIR, ↓ev_pLIR, ↓ev_pRIR, ↓ev_pop0, ↓ev_popS, ↓ev_eq, ↓ev_ne, ↓ev_lt, ↓ev_ge, ↓ev_gt, ↓ev_le, ↓ev_ldi0, ↓ev_ldiS, ↓ev_ldl0, ↓ev_ldlS, ↓ev_lda0, ↓ev_ldaN, ↓ev_ldaS, ↓ev_staR, ↓ev_staN, ↓ev_pfI, ↓ev_pfZ, ↓ev_pfL, ↓ev_pfR, ↓ev_kc, ↓ev_kcN, ↓inv, bk, sL, gf, tyI, tyIs, tyB, tyQ, tyN, nbk, ekd, elOk, isO, swl, vNat, vI, k1, st1, st2, ent, rtQ, va_rf, List.replicate, List.mem_cons, List.not_mem_nil, or_false, false_or, or_true, true_or, or_self, ↓reduceIte, Nat.reduceAdd, Nat.reduceEqDiff, true_and, and_true, reduceCtorEq, forall_const, false_implies, implies_true, true_implies, not_true_eq_false, not_false_eq_true, e00, e10, e01, e11, lg_eq0, lg_lt0, lg_le0, lg_gt0, lg_ge0, u2_ap, ↓reduceIte, Nat.reduceEqDiff, Nat.reduceAdd, Nat.reduceMul, S.t0, S.t2, S.t3, S.t4, S.t5, S.t6, S.t7, S.t8, S.t9, S.t10, S.t11, S.t12, S.t13, S.t14, S.t15, S.t16, S.t17, S.t18, S.t19, S.t20, S.t21, S.t22, S.t23, S.r2_0, S.r2_1, S.r2_2, S.r2_4, S.r2_6, S.r2_7, S.r2_8, S.r3_0, S.r3_2, S.r6_0, S.r10_0, S.r10_1, S.r10_2, S.r10_3, S.r16_1, S.r16_2, S.r16_4, S.r16_6, S.r16_7, S.r21_0, S.r21_1, d1]
      try simp (disch := omega) only [z_rm, Nat.add_sub_cancel, Nat.add_one_sub_one, Nat.reduceEqDiff, pk_mul, nI_add, nI_1, pk_sub, pk_div, pk_rem, nI_ltI, nI_leI, nI_eq, z_cl, z_in, z_lt0, z_0le, z_eq0, z_le0, z_0lt, z_m1, z_i2l, z_l2i, z_ult, pk_lLT, pk_lLE, pk_lEQ, lN_add, lN_mul, lN_sub, true_and, and_true, forall_const, false_implies, implies_true, true_implies, not_true_eq_false, not_false_eq_true, Nat.not_lt, Nat.not_le]
      refine ⟨fun _ => ⟨fun z => absurd z (by omega), fun _ => ⟨fun q => ?_, fun q => ?_⟩⟩, fun z => absurd z q3⟩
      · refine h0 I J ?_ (rdK.rf I J)
        rw [er]
        cases htt : tk (n - 1) with
        | inl v =>
          rw [htt] at q
          have q' : sortN b ≠ 2 := q
          simp only [grT]
          rw [if_neg (fun z => q' z.1)]
          rfl
        | inr l =>
          rw [htt] at q
          have q' : sortN b ≠ 1 := q
          simp only [grT]
          rw [if_neg (fun z => q' z.1)]
          rfl
      · refine c_mayGrow S htk d1 d2 d3 (fun g => ?_) (fun g => ?_)
        · simp only [↓ev_iconst, ↓ev_bipush, ↓ev_sipush, ↓ev_lconst, ↓ev_ldc, ↓ev_ldc_w, ↓ev_ldc2_w, ↓ev_aconst_null, ↓ev_iload, ↓ev_iload_n, ↓ev_lload, ↓ev_lload_n, ↓ev_aload, ↓ev_aload_n, ↓ev_istore, ↓ev_istore_n, ↓ev_lstore, ↓ev_lstore_n, ↓ev_astore, ↓ev_astore_n, ↓ev_iinc, ↓ev_iadd, ↓ev_isub, ↓ev_imul, ↓ev_iand, ↓ev_ixor, ↓ev_idiv, ↓ev_irem, ↓ev_ineg, ↓ev_i2l, ↓ev_i2b, ↓ev_l2i, ↓ev_ladd, ↓ev_lsub, ↓ev_lmul, ↓ev_land, ↓ev_lor, ↓ev_ldiv, ↓ev_lrem, ↓ev_lushr, ↓ev_lshl, ↓ev_lcmp, ↓ev_dup, ↓ev_pop, ↓ev_dup2, ↓ev_if_icmp, ↓ev_ifCond, ↓ev_goto, ↓ev_ifnull, ↓ev_ifnonnull, ↓ev_tableswitch, ↓ev_lookupswitch, ↓ev_getfield, ↓ev_putfield, ↓ev_getstatic, ↓ev_iaload, ↓ev_baload, ↓ev_laload, ↓ev_aaload, ↓ev_iastore, ↓ev_bastore, ↓ev_lastore, ↓ev_aastore, ↓ev_arraylength, ↓ev_new, ↓ev_newarray, ↓ev_anewarray, ↓ev_invokevirtual, ↓ev_invokestatic, ↓ev_invokespecial, ↓ev_ireturn, ↓ev_lreturn, ↓ev_areturn, ↓ev_ret, ↓ev_0, ↓ev_nil, ↓ev_cons, ↓ev_jp, ↓ev_pI, ↓ev_pII, ↓ev_pL, ↓ev_pLL, ↓ev_pIL, ↓ev_pR, ↓ev_pIR, ↓ev_pIIR, ↓ev_pLIR, ↓ev_pRIR, ↓ev_pop0, ↓ev_popS, ↓ev_eq, ↓ev_ne, ↓ev_lt, ↓ev_ge, ↓ev_gt, ↓ev_le, ↓ev_ldi0, ↓ev_ldiS, ↓ev_ldl0, ↓ev_ldlS, ↓ev_lda0, ↓ev_ldaN, ↓ev_ldaS, ↓ev_staR, ↓ev_staN, ↓ev_pfI, ↓ev_pfZ, ↓ev_pfL, ↓ev_pfR, ↓ev_kc, ↓ev_kcN, ↓inv, bk, sL, gf, tyI, tyIs, tyB, tyQ, tyN, nbk, ekd, elOk, isO, swl, vNat, vI, k1, st1, st2, ent, rtQ, va_rf, List.replicate, List.mem_cons, List.not_mem_nil, or_false, false_or, or_true, true_or, or_self, ↓reduceIte, Nat.reduceAdd, Nat.reduceEqDiff, true_and, and_true, reduceCtorEq, forall_const, false_implies, implies_true, true_implies, not_true_eq_false, not_false_eq_true, e00, e10, e01, e11, lg_eq0, lg_lt0, lg_le0, lg_gt0, lg_ge0, u2_ap, ↓reduceIte, Nat.reduceEqDiff, Nat.reduceAdd, Nat.reduceMul, S.t0, S.t2, S.t3, S.t4, S.t5, S.t6, S.t7, S.t8, S.t9, S.t10, S.t11, S.t12, S.t13, S.t14, S.t15, S.t16, S.t17, S.t18, S.t19, S.t20, S.t21, S.t22, S.t23, S.r2_0, S.r2_1, S.r2_2, S.r2_4, S.r2_6, S.r2_7, S.r2_8, S.r3_0, S.r3_2, S.r6_0, S.r10_0, S.r10_1, S.r10_2, S.r10_3, S.r16_1, S.r16_2, S.r16_4, S.r16_6, S.r16_7, S.r21_0, S.r21_1]
          try simp (disch := omega) only [z_rm, Nat.add_sub_cancel, Nat.add_one_sub_one, Nat.reduceEqDiff, pk_mul, nI_add, nI_1, pk_sub, pk_div, pk_rem, nI_ltI, nI_leI, nI_eq, z_cl, z_in, z_lt0, z_0le, z_eq0, z_le0, z_0lt, z_m1, z_i2l, z_l2i, z_ult, pk_lLT, pk_lLE, pk_lEQ, lN_add, lN_mul, lN_sub, true_and, and_true, forall_const, false_implies, implies_true, true_implies, not_true_eq_false, not_false_eq_true, Nat.not_lt, Nat.not_le]
          cases htt : tk (n - 1) with
          | inl v =>
            rw [htt] at q g d1 d2 d3 htk
            have q' : sortN b = 2 := q
            have hb2 := sort_2 q'
            have hv : v < 1000000000 := htk
            have hdg := dg_spec htk
            have hv8 : v < 10 ^ 8 := Nat.lt_of_lt_of_le hdg.2.2.1 (Nat.pow_le_pow_right (by decide) (by have := g.1; omega))
            have eg : grT b (.inl v) = some (.inl (v * 10 + (b - 48))) := by
              simp only [grT]
              rw [if_pos ⟨q', g⟩]
            refine c_growD (n := n - 1) (z := sb_dg v) (w := v) S (by rw [c1]; congr 1; omega) (by omega) d1 d2 d3 hb2.1 hb2.2 ?_
            simp only [↓ev_iconst, ↓ev_bipush, ↓ev_sipush, ↓ev_lconst, ↓ev_ldc, ↓ev_ldc_w, ↓ev_ldc2_w, ↓ev_aconst_null, ↓ev_iload, ↓ev_iload_n, ↓ev_lload, ↓ev_lload_n, ↓ev_aload, ↓ev_aload_n, ↓ev_istore, ↓ev_istore_n, ↓ev_lstore, ↓ev_lstore_n, ↓ev_astore, ↓ev_astore_n, ↓ev_iinc, ↓ev_iadd, ↓ev_isub, ↓ev_imul, ↓ev_iand, ↓ev_ixor, ↓ev_idiv, ↓ev_irem, ↓ev_ineg, ↓ev_i2l, ↓ev_i2b, ↓ev_l2i, ↓ev_ladd, ↓ev_lsub, ↓ev_lmul, ↓ev_land, ↓ev_lor, ↓ev_ldiv, ↓ev_lrem, ↓ev_lushr, ↓ev_lshl, ↓ev_lcmp, ↓ev_dup, ↓ev_pop, ↓ev_dup2, ↓ev_if_icmp, ↓ev_ifCond, ↓ev_goto, ↓ev_ifnull, ↓ev_ifnonnull, ↓ev_tableswitch, ↓ev_lookupswitch, ↓ev_getfield, ↓ev_putfield, ↓ev_getstatic, ↓ev_iaload, ↓ev_baload, ↓ev_laload, ↓ev_aaload, ↓ev_iastore, ↓ev_bastore, ↓ev_lastore, ↓ev_aastore, ↓ev_arraylength, ↓ev_new, ↓ev_newarray, ↓ev_anewarray, ↓ev_invokevirtual, ↓ev_invokestatic, ↓ev_invokespecial, ↓ev_ireturn, ↓ev_lreturn, ↓ev_areturn, ↓ev_ret, ↓ev_0, ↓ev_nil, ↓ev_cons, ↓ev_jp, ↓ev_pI, ↓ev_pII, ↓ev_pL, ↓ev_pLL, ↓ev_pIL, ↓ev_pR, ↓ev_pIR, ↓ev_pIIR, ↓ev_pLIR, ↓ev_pRIR, ↓ev_pop0, ↓ev_popS, ↓ev_eq, ↓ev_ne, ↓ev_lt, ↓ev_ge, ↓ev_gt, ↓ev_le, ↓ev_ldi0, ↓ev_ldiS, ↓ev_ldl0, ↓ev_ldlS, ↓ev_lda0, ↓ev_ldaN, ↓ev_ldaS, ↓ev_staR, ↓ev_staN, ↓ev_pfI, ↓ev_pfZ, ↓ev_pfL, ↓ev_pfR, ↓ev_kc, ↓ev_kcN, ↓inv, bk, sL, gf, tyI, tyIs, tyB, tyQ, tyN, nbk, ekd, elOk, isO, swl, vNat, vI, k1, st1, st2, ent, rtQ, va_rf, List.replicate, List.mem_cons, List.not_mem_nil, or_false, false_or, or_true, true_or, or_self, ↓reduceIte, Nat.reduceAdd, Nat.reduceEqDiff, true_and, and_true, reduceCtorEq, forall_const, false_implies, implies_true, true_implies, not_true_eq_false, not_false_eq_true, e00, e10, e01, e11, lg_eq0, lg_lt0, lg_le0, lg_gt0, lg_ge0, u2_ap, ↓reduceIte, Nat.reduceEqDiff, Nat.reduceAdd, Nat.reduceMul]
            try simp (disch := omega) only [z_rm, Nat.add_sub_cancel, Nat.add_one_sub_one, Nat.reduceEqDiff, pk_mul, nI_add, nI_1, pk_sub, pk_div, pk_rem, nI_ltI, nI_leI, nI_eq, z_cl, z_in, z_lt0, z_0le, z_eq0, z_le0, z_0lt, z_m1, z_i2l, z_l2i, z_ult, pk_lLT, pk_lLE, pk_lEQ, lN_add, lN_mul, lN_sub, true_and, and_true, forall_const, false_implies, implies_true, true_implies, not_true_eq_false, not_false_eq_true, Nat.not_lt, Nat.not_le]
            refine h1 (n, uK tk (n - 1) (.inl (v * 10 + (b - 48))), true) _ _ (by rw [er, htt, eg]; rfl) (cr _ _ _ (by simp [u2]) (by simp [u2]) ?_ (by simp [u2]; rfl) (by simp [u2]; rfl) (fun i hi => ?_) (by rw [htt]; rfl)) ⟨fun y hy => u2_row hy, by simp [u2], fun y y1 y2 => by rw [u2_row y2, u2_row y1]⟩
            · rw [u2_at]
              congr 1
              exact (dg_grow g.2 hv8 (by omega)).symm
            · rw [u2_ne (by omega), u2_row (by decide)]
          | inr l =>
            rw [htt] at q g d1 d2 d3 htk
            have q' : sortN b = 1 := q
            have hb2 := sort_1 q'
            have hl := htk.2.2
            have eg : grT b (.inr l) = some (.inr (l ++ [b - 97])) := by
              simp only [grT]
              rw [if_pos ⟨q', g⟩]
            refine c_growL (n := n - 1) (z := l.length) (w := pk 32 l) S (by rw [c1]; congr 1; omega) (by omega) d1 d2 d3 hb2.1 hb2.2 ?_
            simp only [↓ev_iconst, ↓ev_bipush, ↓ev_sipush, ↓ev_lconst, ↓ev_ldc, ↓ev_ldc_w, ↓ev_ldc2_w, ↓ev_aconst_null, ↓ev_iload, ↓ev_iload_n, ↓ev_lload, ↓ev_lload_n, ↓ev_aload, ↓ev_aload_n, ↓ev_istore, ↓ev_istore_n, ↓ev_lstore, ↓ev_lstore_n, ↓ev_astore, ↓ev_astore_n, ↓ev_iinc, ↓ev_iadd, ↓ev_isub, ↓ev_imul, ↓ev_iand, ↓ev_ixor, ↓ev_idiv, ↓ev_irem, ↓ev_ineg, ↓ev_i2l, ↓ev_i2b, ↓ev_l2i, ↓ev_ladd, ↓ev_lsub, ↓ev_lmul, ↓ev_land, ↓ev_lor, ↓ev_ldiv, ↓ev_lrem, ↓ev_lushr, ↓ev_lshl, ↓ev_lcmp, ↓ev_dup, ↓ev_pop, ↓ev_dup2, ↓ev_if_icmp, ↓ev_ifCond, ↓ev_goto, ↓ev_ifnull, ↓ev_ifnonnull, ↓ev_tableswitch, ↓ev_lookupswitch, ↓ev_getfield, ↓ev_putfield, ↓ev_getstatic, ↓ev_iaload, ↓ev_baload, ↓ev_laload, ↓ev_aaload, ↓ev_iastore, ↓ev_bastore, ↓ev_lastore, ↓ev_aastore, ↓ev_arraylength, ↓ev_new, ↓ev_newarray, ↓ev_anewarray, ↓ev_invokevirtual, ↓ev_invokestatic, ↓ev_invokespecial, ↓ev_ireturn, ↓ev_lreturn, ↓ev_areturn, ↓ev_ret, ↓ev_0, ↓ev_nil, ↓ev_cons, ↓ev_jp, ↓ev_pI, ↓ev_pII, ↓ev_pL, ↓ev_pLL, ↓ev_pIL, ↓ev_pR, ↓ev_pIR, ↓ev_pIIR, ↓ev_pLIR, ↓ev_pRIR, ↓ev_pop0, ↓ev_popS, ↓ev_eq, ↓ev_ne, ↓ev_lt, ↓ev_ge, ↓ev_gt, ↓ev_le, ↓ev_ldi0, ↓ev_ldiS, ↓ev_ldl0, ↓ev_ldlS, ↓ev_lda0, ↓ev_ldaN, ↓ev_ldaS, ↓ev_staR, ↓ev_staN, ↓ev_pfI, ↓ev_pfZ, ↓ev_pfL, ↓ev_pfR, ↓ev_kc, ↓ev_kcN, ↓inv, bk, sL, gf, tyI, tyIs, tyB, tyQ, tyN, nbk, ekd, elOk, isO, swl, vNat, vI, k1, st1, st2, ent, rtQ, va_rf, List.replicate, List.mem_cons, List.not_mem_nil, or_false, false_or, or_true, true_or, or_self, ↓reduceIte, Nat.reduceAdd, Nat.reduceEqDiff, true_and, and_true, reduceCtorEq, forall_const, false_implies, implies_true, true_implies, not_true_eq_false, not_false_eq_true, e00, e10, e01, e11, lg_eq0, lg_lt0, lg_le0, lg_gt0, lg_ge0, u2_ap, ↓reduceIte, Nat.reduceEqDiff, Nat.reduceAdd, Nat.reduceMul]
            try simp (disch := omega) only [z_rm, Nat.add_sub_cancel, Nat.add_one_sub_one, Nat.reduceEqDiff, pk_mul, nI_add, nI_1, pk_sub, pk_div, pk_rem, nI_ltI, nI_leI, nI_eq, z_cl, z_in, z_lt0, z_0le, z_eq0, z_le0, z_0lt, z_m1, z_i2l, z_l2i, z_ult, pk_lLT, pk_lLE, pk_lEQ, lN_add, lN_mul, lN_sub, true_and, and_true, forall_const, false_implies, implies_true, true_implies, not_true_eq_false, not_false_eq_true, Nat.not_lt, Nat.not_le]
            refine h1 (n, uK tk (n - 1) (.inr (l ++ [b - 97])), true) _ _ (by rw [er, htt, eg]; rfl) (cr _ _ _ (by simp [u2]) (by simp [u2]) ?_ ?_ ?_ (fun i hi => ?_) (by rw [htt]; rfl)) ⟨fun y hy => u2_row hy, by simp [u2], fun y y1 y2 => by rw [u2_row y2, u2_row y1]⟩
            · rw [u2_at]
              show _ = nI (l ++ [b - 97]).length
              rw [List.length_append]
              rfl
            · rw [u2_row (by decide), u2_at]
              show _ = lN (pk 32 (l ++ [b - 97]))
              rw [pk_snoc]
            · rw [u2_at]
              show _ = lN (pk 32 (l ++ [b - 97]))
              rw [pk_snoc]
            · rw [u2_ne (by omega), u2_row (by decide)]
        · simp only [↓ev_iconst, ↓ev_bipush, ↓ev_sipush, ↓ev_lconst, ↓ev_ldc, ↓ev_ldc_w, ↓ev_ldc2_w, ↓ev_aconst_null, ↓ev_iload, ↓ev_iload_n, ↓ev_lload, ↓ev_lload_n, ↓ev_aload, ↓ev_aload_n, ↓ev_istore, ↓ev_istore_n, ↓ev_lstore, ↓ev_lstore_n, ↓ev_astore, ↓ev_astore_n, ↓ev_iinc, ↓ev_iadd, ↓ev_isub, ↓ev_imul, ↓ev_iand, ↓ev_ixor, ↓ev_idiv, ↓ev_irem, ↓ev_ineg, ↓ev_i2l, ↓ev_i2b, ↓ev_l2i, ↓ev_ladd, ↓ev_lsub, ↓ev_lmul, ↓ev_land, ↓ev_lor, ↓ev_ldiv, ↓ev_lrem, ↓ev_lushr, ↓ev_lshl, ↓ev_lcmp, ↓ev_dup, ↓ev_pop, ↓ev_dup2, ↓ev_if_icmp, ↓ev_ifCond, ↓ev_goto, ↓ev_ifnull, ↓ev_ifnonnull, ↓ev_tableswitch, ↓ev_lookupswitch, ↓ev_getfield, ↓ev_putfield, ↓ev_getstatic, ↓ev_iaload, ↓ev_baload, ↓ev_laload, ↓ev_aaload, ↓ev_iastore, ↓ev_bastore, ↓ev_lastore, ↓ev_aastore, ↓ev_arraylength, ↓ev_new, ↓ev_newarray, ↓ev_anewarray, ↓ev_invokevirtual, ↓ev_invokestatic, ↓ev_invokespecial, ↓ev_ireturn, ↓ev_lreturn, ↓ev_areturn, ↓ev_ret, ↓ev_0, ↓ev_nil, ↓ev_cons, ↓ev_jp, ↓ev_pI, ↓ev_pII, ↓ev_pL, ↓ev_pLL, ↓ev_pIL, ↓ev_pR, ↓ev_pIR, ↓ev_pIIR, ↓ev_pLIR, ↓ev_pRIR, ↓ev_pop0, ↓ev_popS, ↓ev_eq, ↓ev_ne, ↓ev_lt, ↓ev_ge, ↓ev_gt, ↓ev_le, ↓ev_ldi0, ↓ev_ldiS, ↓ev_ldl0, ↓ev_ldlS, ↓ev_lda0, ↓ev_ldaN, ↓ev_ldaS, ↓ev_staR, ↓ev_staN, ↓ev_pfI, ↓ev_pfZ, ↓ev_pfL, ↓ev_pfR, ↓ev_kc, ↓ev_kcN, ↓inv, bk, sL, gf, tyI, tyIs, tyB, tyQ, tyN, nbk, ekd, elOk, isO, swl, vNat, vI, k1, st1, st2, ent, rtQ, va_rf, List.replicate, List.mem_cons, List.not_mem_nil, or_false, false_or, or_true, true_or, or_self, ↓reduceIte, Nat.reduceAdd, Nat.reduceEqDiff, true_and, and_true, reduceCtorEq, forall_const, false_implies, implies_true, true_implies, not_true_eq_false, not_false_eq_true, e00, e10, e01, e11, lg_eq0, lg_lt0, lg_le0, lg_gt0, lg_ge0, u2_ap, ↓reduceIte, Nat.reduceEqDiff, Nat.reduceAdd, Nat.reduceMul]
          try simp (disch := omega) only [z_rm, Nat.add_sub_cancel, Nat.add_one_sub_one, Nat.reduceEqDiff, pk_mul, nI_add, nI_1, pk_sub, pk_div, pk_rem, nI_ltI, nI_leI, nI_eq, z_cl, z_in, z_lt0, z_0le, z_eq0, z_le0, z_0lt, z_m1, z_i2l, z_l2i, z_ult, pk_lLT, pk_lLE, pk_lEQ, lN_add, lN_mul, lN_sub, true_and, and_true, forall_const, false_implies, implies_true, true_implies, not_true_eq_false, not_false_eq_true, Nat.not_lt, Nat.not_le]
          refine h0 I J ?_ (rdK.rf I J)
          rw [er]
          cases htt : tk (n - 1) with
          | inl v =>
            rw [htt] at g
            simp only [grT]
            rw [if_neg (fun z => g z.2)]
            rfl
          | inr l =>
            rw [htt] at g
            simp only [grT]
            rw [if_neg (fun z => g z.2)]
            rfl
    | false =>
      have d1 := c3 rfl
      have er : rstp b (n, tk, false) = if n < 20 then some (n + 1, uK tk n (nwT b), true) else none := by
        unfold rstp
        rw [if_neg hs0, if_neg q3, if_neg (show ¬ false = true by decide)]
      have cr : ∀ I' J', I' 3 3 = nI (n + 1) → I' 3 4 = nI (sortN b) → I' 3 5 = nI (0 + 1) → J' 3 6 = lN (vlT (nwT b)) → J' 5 n = cT (nwT b) → (∀ i, i < n → J' 5 i = J 5 i) → CRd I' J' (n + 1, uK tk n (nwT b), true) := by
        intro I' J' a1 a2 a3 a4 a5 a6
        refine ⟨a1, fun i hi => ?_, fun e => by (cases e), fun _ => ?_⟩
        · have hi2 : i < n + 1 := hi
          show J' 5 i = cT (uK tk n (nwT b) i)
          by_cases e : i = n
          · subst e
            rw [uK_at]
            exact a5
          · rw [uK_ne e, a6 i (by omega)]
            exact c2 i (show i < n by omega)
        · show I' 3 4 = nI (srT (uK tk n (nwT b) (n + 1 - 1))) ∧ I' 3 5 = nI (tL (uK tk n (nwT b) (n + 1 - 1))) ∧ J' 3 6 = lN (vlT (uK tk n (nwT b) (n + 1 - 1)))
          rw [Nat.add_sub_cancel, uK_at]
          refine ⟨a2.trans ?_, a3.trans ?_, a4⟩
          · congr 1
            unfold nwT
            split
            · assumption
            · show _ = 2
              omega
          · congr 1
            unfold nwT
            split
            · rfl
            · have := sort_2 (b := b) (by omega)
              exact (dg_one (by omega)).symm
      refine Run.body (by decide) 0 (Nat.le_of_ble_eq_true rfl) (AT.go okB109 1 rfl [] 90 0 ?_)
      simp only [B109, ↓ev_iconst, ↓ev_bipush, ↓ev_sipush, ↓ev_lconst, ↓ev_ldc, ↓ev_ldc_w, ↓ev_ldc2_w, ↓ev_aconst_null, ↓ev_iload, ↓ev_iload_n, ↓ev_lload, ↓ev_lload_n, ↓ev_aload, ↓ev_aload_n, ↓ev_istore, ↓ev_istore_n, ↓ev_lstore, ↓ev_lstore_n, ↓ev_astore, ↓ev_astore_n, ↓ev_iinc, ↓ev_iadd, ↓ev_isub, ↓ev_imul, ↓ev_iand, ↓ev_ixor, ↓ev_idiv, ↓ev_irem, ↓ev_ineg, ↓ev_i2l, ↓ev_i2b, ↓ev_l2i, ↓ev_ladd, ↓ev_lsub, ↓ev_lmul, ↓ev_land, ↓ev_lor, ↓ev_ldiv, ↓ev_lrem, ↓ev_lushr, ↓ev_lshl, ↓ev_lcmp, ↓ev_dup, ↓ev_pop, ↓ev_dup2, ↓ev_if_icmp, ↓ev_ifCond, ↓ev_goto, ↓ev_ifnull, ↓ev_ifnonnull, ↓ev_tableswitch, ↓ev_lookupswitch, ↓ev_getfield, ↓ev_putfield, ↓ev_getstatic, ↓ev_iaload, ↓ev_baload, ↓ev_laload, ↓ev_aaload, ↓ev_iastore, ↓ev_bastore, ↓ev_lastore, ↓ev_aastore, ↓ev_arraylength, ↓ev_new, ↓ev_newarray, ↓ev_anewarray, ↓ev_invokevirtual, ↓ev_invokestatic, ↓ev_invokespecial, ↓ev_ireturn, ↓ev_lreturn, ↓ev_areturn, ↓ev_ret, ↓ev_0, ↓ev_nil, ↓ev_cons, ↓ev_jp, ↓ev_pI, ↓ev_pII, ↓ev_pL, ↓ev_pLL, ↓ev_pIL, ↓ev_pR, ↓ev_pIR, ↓ev_pIIR, ↓ev_pLIR, ↓ev_pRIR, ↓ev_pop0, ↓ev_popS, ↓ev_eq, ↓ev_ne, ↓ev_lt, ↓ev_ge, ↓ev_gt, ↓ev_le, ↓ev_ldi0, ↓ev_ldiS, ↓ev_ldl0, ↓ev_ldlS, ↓ev_lda0, ↓ev_ldaN, ↓ev_ldaS, ↓ev_staR, ↓ev_staN, ↓ev_pfI, ↓ev_pfZ, ↓ev_pfL, ↓ev_pfR, ↓ev_kc, ↓ev_kcN, ↓inv, bk, sL, gf, tyI, tyIs, tyB, tyQ, tyN, nbk, ekd, elOk, isO, swl, vNat, vI, k1, st1, st2, ent, rtQ, va_rf, List.replicate, List.mem_cons, List.not_mem_nil, or_false, false_or, or_true, true_or, or_self, ↓reduceIte, Nat.reduceAdd, Nat.reduceEqDiff, true_and, and_true, reduceCtorEq, forall_const, false_implies, implies_true, true_implies, not_true_eq_false, not_false_eq_true, e00, e10, e01, e11, lg_eq0, lg_lt0, lg_le0, lg_gt0, lg_ge0, u2_ap, ↓reduceIte, Nat.reduceEqDiff, Nat.reduceAdd, Nat.reduceMul, S.t0, S.t2, S.t3, S.t4, S.t5, S.t6, S.t7, S.t8, S.t9, S.t10, S.t11, S.t12, S.t13, S.t14, S.t15, S.t16, S.t17, S.t18, S.t19, S.t20, S.t21, S.t22, S.t23, S.r2_0, S.r2_1, S.r2_2, S.r2_4, S.r2_6, S.r2_7, S.r2_8, S.r3_0, S.r3_2, S.r6_0, S.r10_0, S.r10_1, S.r10_2, S.r10_3, S.r16_1, S.r16_2, S.r16_4, S.r16_6, S.r16_7, S.r21_0, S.r21_1, d1, c1]
      try simp (disch := omega) only [z_rm, Nat.add_sub_cancel, Nat.add_one_sub_one, Nat.reduceEqDiff, pk_mul, nI_add, nI_1, pk_sub, pk_div, pk_rem, nI_ltI, nI_leI, nI_eq, z_cl, z_in, z_lt0, z_0le, z_eq0, z_le0, z_0lt, z_m1, z_i2l, z_l2i, z_ult, pk_lLT, pk_lLE, pk_lEQ, lN_add, lN_mul, lN_sub, true_and, and_true, forall_const, false_implies, implies_true, true_implies, not_true_eq_false, not_false_eq_true, Nat.not_lt, Nat.not_le]
      refine ⟨fun _ => ⟨fun hn => ?_, fun hn => ?_⟩, fun z => absurd z q3⟩
      · rcases hs12 with q | q
        · have hb2 := sort_1 q
          refine c_growL (n := n) (z := 0) (w := 0) S (by simp [u2]) (by omega) (by simp [u2, q]) (by simp [u2]) (by simp [u2]) hb2.1 hb2.2 ?_
          simp only [↓ev_iconst, ↓ev_bipush, ↓ev_sipush, ↓ev_lconst, ↓ev_ldc, ↓ev_ldc_w, ↓ev_ldc2_w, ↓ev_aconst_null, ↓ev_iload, ↓ev_iload_n, ↓ev_lload, ↓ev_lload_n, ↓ev_aload, ↓ev_aload_n, ↓ev_istore, ↓ev_istore_n, ↓ev_lstore, ↓ev_lstore_n, ↓ev_astore, ↓ev_astore_n, ↓ev_iinc, ↓ev_iadd, ↓ev_isub, ↓ev_imul, ↓ev_iand, ↓ev_ixor, ↓ev_idiv, ↓ev_irem, ↓ev_ineg, ↓ev_i2l, ↓ev_i2b, ↓ev_l2i, ↓ev_ladd, ↓ev_lsub, ↓ev_lmul, ↓ev_land, ↓ev_lor, ↓ev_ldiv, ↓ev_lrem, ↓ev_lushr, ↓ev_lshl, ↓ev_lcmp, ↓ev_dup, ↓ev_pop, ↓ev_dup2, ↓ev_if_icmp, ↓ev_ifCond, ↓ev_goto, ↓ev_ifnull, ↓ev_ifnonnull, ↓ev_tableswitch, ↓ev_lookupswitch, ↓ev_getfield, ↓ev_putfield, ↓ev_getstatic, ↓ev_iaload, ↓ev_baload, ↓ev_laload, ↓ev_aaload, ↓ev_iastore, ↓ev_bastore, ↓ev_lastore, ↓ev_aastore, ↓ev_arraylength, ↓ev_new, ↓ev_newarray, ↓ev_anewarray, ↓ev_invokevirtual, ↓ev_invokestatic, ↓ev_invokespecial, ↓ev_ireturn, ↓ev_lreturn, ↓ev_areturn, ↓ev_ret, ↓ev_0, ↓ev_nil, ↓ev_cons, ↓ev_jp, ↓ev_pI, ↓ev_pII, ↓ev_pL, ↓ev_pLL, ↓ev_pIL, ↓ev_pR, ↓ev_pIR, ↓ev_pIIR, ↓ev_pLIR, ↓ev_pRIR, ↓ev_pop0, ↓ev_popS, ↓ev_eq, ↓ev_ne, ↓ev_lt, ↓ev_ge, ↓ev_gt, ↓ev_le, ↓ev_ldi0, ↓ev_ldiS, ↓ev_ldl0, ↓ev_ldlS, ↓ev_lda0, ↓ev_ldaN, ↓ev_ldaS, ↓ev_staR, ↓ev_staN, ↓ev_pfI, ↓ev_pfZ, ↓ev_pfL, ↓ev_pfR, ↓ev_kc, ↓ev_kcN, ↓inv, bk, sL, gf, tyI, tyIs, tyB, tyQ, tyN, nbk, ekd, elOk, isO, swl, vNat, vI, k1, st1, st2, ent, rtQ, va_rf, List.replicate, List.mem_cons, List.not_mem_nil, or_false, false_or, or_true, true_or, or_self, ↓reduceIte, Nat.reduceAdd, Nat.reduceEqDiff, true_and, and_true, reduceCtorEq, forall_const, false_implies, implies_true, true_implies, not_true_eq_false, not_false_eq_true, e00, e10, e01, e11, lg_eq0, lg_lt0, lg_le0, lg_gt0, lg_ge0, u2_ap, ↓reduceIte, Nat.reduceEqDiff, Nat.reduceAdd, Nat.reduceMul]
          try simp (disch := omega) only [z_rm, Nat.add_sub_cancel, Nat.add_one_sub_one, Nat.reduceEqDiff, pk_mul, nI_add, nI_1, pk_sub, pk_div, pk_rem, nI_ltI, nI_leI, nI_eq, z_cl, z_in, z_lt0, z_0le, z_eq0, z_le0, z_0lt, z_m1, z_i2l, z_l2i, z_ult, pk_lLT, pk_lLE, pk_lEQ, lN_add, lN_mul, lN_sub, true_and, and_true, forall_const, false_implies, implies_true, true_implies, not_true_eq_false, not_false_eq_true, Nat.not_lt, Nat.not_le]
          have en : nwT b = .inr [b - 97] := by unfold nwT; rw [if_pos q]
          refine h1 (n + 1, uK tk n (nwT b), true) _ _ (by rw [er, if_pos (by omega)]) (cr _ _ (by simp [u2]) (by simp [u2]) (by simp [u2]) (by rw [en, u2_row (by decide), u2_at]; rfl) (by rw [en, u2_at]; rfl) (fun i hi => ?_)) ⟨fun y hy => by rw [u2_row hy, u2_row hy, u2_row hy, u2_row hy], by simp [u2], fun y y1 y2 => by rw [u2_row y2, u2_row y1, u2_row y1]⟩
          rw [u2_ne (by omega), u2_row (by decide), u2_row (by decide)]
        · have hb2 := sort_2 q
          refine c_growD (n := n) (z := 0) (w := 0) S (by simp [u2]) (by omega) (by simp [u2, q]) (by simp [u2]) (by simp [u2]) hb2.1 hb2.2 ?_
          simp only [↓ev_iconst, ↓ev_bipush, ↓ev_sipush, ↓ev_lconst, ↓ev_ldc, ↓ev_ldc_w, ↓ev_ldc2_w, ↓ev_aconst_null, ↓ev_iload, ↓ev_iload_n, ↓ev_lload, ↓ev_lload_n, ↓ev_aload, ↓ev_aload_n, ↓ev_istore, ↓ev_istore_n, ↓ev_lstore, ↓ev_lstore_n, ↓ev_astore, ↓ev_astore_n, ↓ev_iinc, ↓ev_iadd, ↓ev_isub, ↓ev_imul, ↓ev_iand, ↓ev_ixor, ↓ev_idiv, ↓ev_irem, ↓ev_ineg, ↓ev_i2l, ↓ev_i2b, ↓ev_l2i, ↓ev_ladd, ↓ev_lsub, ↓ev_lmul, ↓ev_land, ↓ev_lor, ↓ev_ldiv, ↓ev_lrem, ↓ev_lushr, ↓ev_lshl, ↓ev_lcmp, ↓ev_dup, ↓ev_pop, ↓ev_dup2, ↓ev_if_icmp, ↓ev_ifCond, ↓ev_goto, ↓ev_ifnull, ↓ev_ifnonnull, ↓ev_tableswitch, ↓ev_lookupswitch, ↓ev_getfield, ↓ev_putfield, ↓ev_getstatic, ↓ev_iaload, ↓ev_baload, ↓ev_laload, ↓ev_aaload, ↓ev_iastore, ↓ev_bastore, ↓ev_lastore, ↓ev_aastore, ↓ev_arraylength, ↓ev_new, ↓ev_newarray, ↓ev_anewarray, ↓ev_invokevirtual, ↓ev_invokestatic, ↓ev_invokespecial, ↓ev_ireturn, ↓ev_lreturn, ↓ev_areturn, ↓ev_ret, ↓ev_0, ↓ev_nil, ↓ev_cons, ↓ev_jp, ↓ev_pI, ↓ev_pII, ↓ev_pL, ↓ev_pLL, ↓ev_pIL, ↓ev_pR, ↓ev_pIR, ↓ev_pIIR, ↓ev_pLIR, ↓ev_pRIR, ↓ev_pop0, ↓ev_popS, ↓ev_eq, ↓ev_ne, ↓ev_lt, ↓ev_ge, ↓ev_gt, ↓ev_le, ↓ev_ldi0, ↓ev_ldiS, ↓ev_ldl0, ↓ev_ldlS, ↓ev_lda0, ↓ev_ldaN, ↓ev_ldaS, ↓ev_staR, ↓ev_staN, ↓ev_pfI, ↓ev_pfZ, ↓ev_pfL, ↓ev_pfR, ↓ev_kc, ↓ev_kcN, ↓inv, bk, sL, gf, tyI, tyIs, tyB, tyQ, tyN, nbk, ekd, elOk, isO, swl, vNat, vI, k1, st1, st2, ent, rtQ, va_rf, List.replicate, List.mem_cons, List.not_mem_nil, or_false, false_or, or_true, true_or, or_self, ↓reduceIte, Nat.reduceAdd, Nat.reduceEqDiff, true_and, and_true, reduceCtorEq, forall_const, false_implies, implies_true, true_implies, not_true_eq_false, not_false_eq_true, e00, e10, e01, e11, lg_eq0, lg_lt0, lg_le0, lg_gt0, lg_ge0, u2_ap, ↓reduceIte, Nat.reduceEqDiff, Nat.reduceAdd, Nat.reduceMul]
          try simp (disch := omega) only [z_rm, Nat.add_sub_cancel, Nat.add_one_sub_one, Nat.reduceEqDiff, pk_mul, nI_add, nI_1, pk_sub, pk_div, pk_rem, nI_ltI, nI_leI, nI_eq, z_cl, z_in, z_lt0, z_0le, z_eq0, z_le0, z_0lt, z_m1, z_i2l, z_l2i, z_ult, pk_lLT, pk_lLE, pk_lEQ, lN_add, lN_mul, lN_sub, true_and, and_true, forall_const, false_implies, implies_true, true_implies, not_true_eq_false, not_false_eq_true, Nat.not_lt, Nat.not_le]
          have en : nwT b = .inl (b - 48) := by unfold nwT; rw [if_neg (by omega)]
          refine h1 (n + 1, uK tk n (nwT b), true) _ _ (by rw [er, if_pos (by omega)]) (cr _ _ (by simp [u2]) (by simp [u2]) (by simp [u2]) (by rw [en, u2_row (by decide), u2_at, Nat.zero_add]; rfl) (by rw [en, u2_at, Nat.zero_add]; rfl) (fun i hi => ?_)) ⟨fun y hy => by rw [u2_row hy, u2_row hy, u2_row hy, u2_row hy], by simp [u2], fun y y1 y2 => by rw [u2_row y2, u2_row y1, u2_row y1]⟩
          rw [u2_ne (by omega), u2_row (by decide), u2_row (by decide)]
      · exact h0 I J (by rw [er, if_neg (by omega)]) (rdK.rf I J)
end TAPE
