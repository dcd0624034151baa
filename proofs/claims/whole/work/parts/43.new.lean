/-! NEW OBJECTS: a form, a message, a journey -/
def FmZ (I : MIy) (f : Nat) : Prop := I f 2 = (-9) ∧ (∀ k, k ≠ 2 → I f k = nI 0) ∧ ∀ j k, 1 ≤ j → j < 8 → I (f + j) k = nI 0
def fmN0 : FmS := (-9, 0, fun _ => 0, 0, fun _ => nI 0, fun _ => nI 0, fun _ => nI 0, 0, fun _ => 0, fun _ => 0, fun _ => nI 0)
def jsN0 : JnS := (0, -9, -9, nI 0, 0, 0, 0, 0, fun _ => 0, fun _ => 0, false, nI 0)
section NEWS
variable {G : GGy} {T : TTy} {I : MIy} {J : MJy} {R : MRy} {Q : QQy} {s : AlS}
theorem FmZ.cf {f : Nat} (F : FO T R f) (h : FmZ I f) : CFm T I R f fmN0 := by
  obtain ⟨a, b, c⟩ := h
  refine ⟨F, a, b 1 (by decide), fun j hj => c 1 j (by decide) (by decide), b 6 (by decide), fun i hi => absurd hi (Nat.not_lt_zero i), b 10 (by decide), fun i hi => absurd hi (Nat.not_lt_zero i), Nat.zero_le _, fun j => (by decide : (0 : Nat) < 26), Nat.zero_le _, Or.inl rfl, fun i hi => absurd hi (Nat.not_lt_zero i)⟩
set_option maxRecDepth 100000 in
theorem c_formNew {f : Nat} (h0 : T f = some (3, 0)) (h1 : T (f + 1) = none) (h2 : T (f + 2) = none) (h3 : T (f + 3) = none) (h4 : T (f + 4) = none) (h5 : T (f + 5) = none) (h6 : T (f + 6) = none) (h7 : T (f + 7) = none) (hz : ∀ k, I f k = nI 0)
    (h : ∀ T' I' J' R', (∀ y, y < f ∨ f + 7 < y → T' y = T y ∧ I' y = I y ∧ J' y = J y ∧ R' y = R y) → (∀ y, T y ≠ none → T' y = T y) → FO T' R' f → FmZ I' f → Q none T' I' J' R') : Run G 27 [.ref f] T I J R Q := by
  refine Run.body (by decide) 0 (Nat.le_of_ble_eq_true rfl) (AT.go okB27 4 rfl [] 90 0 ?_)
  simp (disch := omega) only [B27, ↓ev_iconst, ↓ev_bipush, ↓ev_sipush, ↓ev_lconst, ↓ev_ldc, ↓ev_ldc_w, ↓ev_ldc2_w, ↓ev_aconst_null, ↓ev_iload, ↓ev_iload_n, ↓ev_lload, ↓ev_lload_n, ↓ev_aload, ↓ev_aload_n, ↓ev_istore, ↓ev_istore_n, ↓ev_lstore, ↓ev_lstore_n, ↓ev_astore, ↓ev_astore_n, ↓ev_iinc, ↓ev_iadd, ↓ev_isub, ↓ev_imul, ↓ev_iand, ↓ev_ixor, ↓ev_idiv, ↓ev_irem, ↓ev_ineg, ↓ev_i2l, ↓ev_i2b, ↓ev_l2i, ↓ev_ladd, ↓ev_lsub, ↓ev_lmul, ↓ev_land, ↓ev_lor, ↓ev_ldiv, ↓ev_lrem, ↓ev_lushr, ↓ev_lshl, ↓ev_lcmp, ↓ev_dup, ↓ev_pop, ↓ev_dup2, ↓ev_if_icmp, ↓ev_ifCond, ↓ev_goto, ↓ev_ifnull, ↓ev_ifnonnull, ↓ev_tableswitch, ↓ev_lookupswitch, ↓ev_getfield, ↓ev_putfield, ↓ev_getstatic, ↓ev_iaload, ↓ev_baload, ↓ev_laload, ↓ev_aaload, ↓ev_iastore, ↓ev_bastore, ↓ev_lastore, ↓ev_aastore, ↓ev_arraylength, ↓ev_new, ↓ev_newarray, ↓ev_anewarray, ↓ev_invokevirtual, ↓ev_invokestatic, ↓ev_invokespecial, ↓ev_ireturn, ↓ev_lreturn, ↓ev_areturn, ↓ev_ret, ↓ev_0, ↓ev_nil, ↓ev_cons, ↓ev_jp, ↓ev_pI, ↓ev_pII, ↓ev_pL, ↓ev_pLL, ↓ev_pIL, ↓ev_pR, ↓ev_pIR, ↓ev_pIIR, ↓ev_pLIR, ↓ev_pRIR, ↓ev_pop0, ↓ev_popS, ↓iv_eq, ↓iv_ne, ↓iv_lt, ↓iv_ge, ↓iv_gt, ↓iv_le, ↓ev_ldi0, ↓ev_ldiS, ↓ev_ldl0, ↓ev_ldlS, ↓ev_lda0, ↓ev_ldaN, ↓ev_ldaS, ↓ev_staR, ↓ev_staN, ↓ev_pfI, ↓ev_pfZ, ↓ev_pfL, ↓ev_pfR, ↓ev_kc, ↓ev_kcN, ↓inv, bk, sL, gf, tyI, tyIs, tyB, tyQ, tyN, nbk, ekd, elOk, isO, swl, vNat, vI, k1, st1, st2, ent, rtQ, va_rf, List.replicate, List.mem_cons, List.not_mem_nil, or_false, false_or, or_true, true_or, or_self, ↓reduceIte, Nat.reduceAdd, Nat.reduceEqDiff, true_and, and_true, reduceCtorEq, forall_const, false_implies, implies_true, true_implies, not_true_eq_false, not_false_eq_true, e00, e10, e01, e11, lg_eq0, lg_lt0, lg_le0, lg_gt0, lg_ge0, ite_u, Nat.reduceLeDiff, u2_ap, qe1, qe2, ↓reduceIte, Nat.reduceEqDiff, Nat.reduceAdd, Nat.reduceMul, z_cl, z_in, an0, an1, qn1, qn2, h0]
  try simp (disch := omega) only [z_rm, Nat.add_sub_cancel, Nat.add_one_sub_one, Nat.reduceEqDiff, pk_mul, nI_add, nI_1, pk_sub, pk_div, pk_rem, nI_ltI, nI_leI, nI_eq, z_cl, z_in, z_lt0, z_0le, z_eq0, z_le0, z_0lt, z_m1, z_i2l, z_l2i, z_ult, pk_lLT, pk_lLE, pk_lEQ, lN_add, lN_mul, lN_sub, true_and, and_true, forall_const, false_implies, implies_true, true_implies, not_true_eq_false, not_false_eq_true, Nat.not_lt, Nat.not_le]
  refine ⟨f + 1, h1, by decide, by decide, (by first | exact h0 | (simp (disch := omega) only [uT_ne]; exact h0)), (by first | exact h0 | (simp (disch := omega) only [uT_ne]; exact h0)), f + 2, (by first | exact h2 | (simp (disch := omega) only [uT_ne]; exact h2)), by decide, by decide, (by first | exact h0 | (simp (disch := omega) only [uT_ne]; exact h0)), f + 3, (by first | exact h3 | (simp (disch := omega) only [uT_ne]; exact h3)), by decide, by decide, (by first | exact h0 | (simp (disch := omega) only [uT_ne]; exact h0)), f + 4, (by first | exact h4 | (simp (disch := omega) only [uT_ne]; exact h4)), by decide, by decide, (by first | exact h0 | (simp (disch := omega) only [uT_ne]; exact h0)), f + 5, (by first | exact h5 | (simp (disch := omega) only [uT_ne]; exact h5)), by decide, by decide, (by first | exact h0 | (simp (disch := omega) only [uT_ne]; exact h0)), f + 6, (by first | exact h6 | (simp (disch := omega) only [uT_ne]; exact h6)), by decide, by decide, (by first | exact h0 | (simp (disch := omega) only [uT_ne]; exact h0)), f + 7, (by first | exact h7 | (simp (disch := omega) only [uT_ne]; exact h7)), by decide, by decide, (by first | exact h0 | (simp (disch := omega) only [uT_ne]; exact h0)), ?_⟩
  refine h _ _ _ _ (fun y hy => ⟨?_, ?_, ?_, ?_⟩) (fun y hy => ?_) ⟨?_, ?_, ?_, ?_, ?_, ?_, ?_, ?_, ?_, ?_, ?_, ?_, ?_, ?_, ?_⟩ ⟨?_, fun k hk => ?_, fun j k j1 j2 => ?_⟩
  · simp (disch := omega) only [uT_ne, u2_row, r0_row]
  · simp (disch := omega) only [uT_ne, u2_row, r0_row]
  · simp (disch := omega) only [uT_ne, u2_row, r0_row]
  · simp (disch := omega) only [uT_ne, u2_row, r0_row]
  · have e1 : y ≠ f + 1 := fun e => hy (by rw [e]; exact h1)
    have e2 : y ≠ f + 2 := fun e => hy (by rw [e]; exact h2)
    have e3 : y ≠ f + 3 := fun e => hy (by rw [e]; exact h3)
    have e4 : y ≠ f + 4 := fun e => hy (by rw [e]; exact h4)
    have e5 : y ≠ f + 5 := fun e => hy (by rw [e]; exact h5)
    have e6 : y ≠ f + 6 := fun e => hy (by rw [e]; exact h6)
    have e7 : y ≠ f + 7 := fun e => hy (by rw [e]; exact h7)
    simp (disch := omega) only [uT_ne]
  rotate_right 3
  · simp only [u2_ap, qe1, qe2, ↓reduceIte, Nat.reduceEqDiff, Nat.reduceAdd, Nat.reduceMul, r0]
  · simp (disch := omega) only [u2_ne, u2_row, r0_row]
    exact hz k
  · have q : j = 1 ∨ j = 2 ∨ j = 3 ∨ j = 4 ∨ j = 5 ∨ j = 6 ∨ j = 7 := by omega
    rcases q with rfl | rfl | rfl | rfl | rfl | rfl | rfl <;> (simp only [u2_ap, qe1, qe2, ↓reduceIte, Nat.reduceEqDiff, Nat.reduceAdd, Nat.reduceMul, r0]; try rfl)
  all_goals (simp only [u2_ap, qe1, qe2, ↓reduceIte, Nat.reduceEqDiff, Nat.reduceAdd, Nat.reduceMul, uT_at, r0, uT, h0])
set_option maxRecDepth 100000 in
theorem l_msgNew {q t n : Nat} {tk : Nat → Tok} {J0 : MJy} (hT : T t = some (15, 20)) (h0 : T q = some (6, 0)) (h1 : R q 0 = some (q + 1)) (h2 : T (q + 1) = some (15, 20)) (ht : t ≠ q + 1) (hn : n ≤ 20) (i1 : I q 1 = nI n) (K : TR J0 t n tk) {x2 : Option Value} {cc nn : Nat} {T00 : TTy}
    (h : ∀ J', (∀ i, i < n → J' (q + 1) i = cT (tk i)) → (∀ y, y ≠ q + 1 → J' y = J0 y) → Q none T I J' R) :
    ∀ k i J, i + k = n → (∀ j, j < i → J (q + 1) j = cT (tk j)) → (∀ y, y ≠ q + 1 → J y = J0 y) → AT G 59 T00 Q 40 [some (.ref q), some (.ref t), x2, some (.int (nI i))] [] cc nn T I J R
  | k, i, J, hi, g1, g2 => by
    match k, hi with
    | 0, hi =>
      obtain rfl : i = n := by omega
      refine AT.go okB59 4 rfl [40] 90 40 ?_
      simp (disch := omega) only [B59, ↓ev_iconst, ↓ev_bipush, ↓ev_sipush, ↓ev_lconst, ↓ev_ldc, ↓ev_ldc_w, ↓ev_ldc2_w, ↓ev_aconst_null, ↓ev_iload, ↓ev_iload_n, ↓ev_lload, ↓ev_lload_n, ↓ev_aload, ↓ev_aload_n, ↓ev_istore, ↓ev_istore_n, ↓ev_lstore, ↓ev_lstore_n, ↓ev_astore, ↓ev_astore_n, ↓ev_iinc, ↓ev_iadd, ↓ev_isub, ↓ev_imul, ↓ev_iand, ↓ev_ixor, ↓ev_idiv, ↓ev_irem, ↓ev_ineg, ↓ev_i2l, ↓ev_i2b, ↓ev_l2i, ↓ev_ladd, ↓ev_lsub, ↓ev_lmul, ↓ev_land, ↓ev_lor, ↓ev_ldiv, ↓ev_lrem, ↓ev_lushr, ↓ev_lshl, ↓ev_lcmp, ↓ev_dup, ↓ev_pop, ↓ev_dup2, ↓ev_if_icmp, ↓ev_ifCond, ↓ev_goto, ↓ev_ifnull, ↓ev_ifnonnull, ↓ev_tableswitch, ↓ev_lookupswitch, ↓ev_getfield, ↓ev_putfield, ↓ev_getstatic, ↓ev_iaload, ↓ev_baload, ↓ev_laload, ↓ev_aaload, ↓ev_iastore, ↓ev_bastore, ↓ev_lastore, ↓ev_aastore, ↓ev_arraylength, ↓ev_new, ↓ev_newarray, ↓ev_anewarray, ↓ev_invokevirtual, ↓ev_invokestatic, ↓ev_invokespecial, ↓ev_ireturn, ↓ev_lreturn, ↓ev_areturn, ↓ev_ret, ↓ev_0, ↓ev_nil, ↓ev_cons, ↓ev_jp, ↓ev_pI, ↓ev_pII, ↓ev_pL, ↓ev_pLL, ↓ev_pIL, ↓ev_pR, ↓ev_pIR, ↓ev_pIIR, ↓ev_pLIR, ↓ev_pRIR, ↓ev_pop0, ↓ev_popS, ↓iv_eq, ↓iv_ne, ↓iv_lt, ↓iv_ge, ↓iv_gt, ↓iv_le, ↓ev_ldi0, ↓ev_ldiS, ↓ev_ldl0, ↓ev_ldlS, ↓ev_lda0, ↓ev_ldaN, ↓ev_ldaS, ↓ev_staR, ↓ev_staN, ↓ev_pfI, ↓ev_pfZ, ↓ev_pfL, ↓ev_pfR, ↓ev_kc, ↓ev_kcN, ↓inv, bk, sL, gf, tyI, tyIs, tyB, tyQ, tyN, nbk, ekd, elOk, isO, swl, vNat, vI, k1, st1, st2, ent, rtQ, va_rf, List.replicate, List.mem_cons, List.not_mem_nil, or_false, false_or, or_true, true_or, or_self, ↓reduceIte, Nat.reduceAdd, Nat.reduceEqDiff, true_and, and_true, reduceCtorEq, forall_const, false_implies, implies_true, true_implies, not_true_eq_false, not_false_eq_true, e00, e10, e01, e11, lg_eq0, lg_lt0, lg_le0, lg_gt0, lg_ge0, ite_u, Nat.reduceLeDiff, u2_ap, qe1, qe2, ↓reduceIte, Nat.reduceEqDiff, Nat.reduceAdd, Nat.reduceMul, z_cl, z_in, an0, an1, qn1, qn2, h0, h1, h2, i1]
      try simp (disch := omega) only [z_rm, Nat.add_sub_cancel, Nat.add_one_sub_one, Nat.reduceEqDiff, pk_mul, nI_add, nI_1, pk_sub, pk_div, pk_rem, nI_ltI, nI_leI, nI_eq, z_cl, z_in, z_lt0, z_0le, z_eq0, z_le0, z_0lt, z_m1, z_i2l, z_l2i, z_ult, pk_lLT, pk_lLE, pk_lEQ, lN_add, lN_mul, lN_sub, true_and, and_true, forall_const, false_implies, implies_true, true_implies, not_true_eq_false, not_false_eq_true, Nat.not_lt, Nat.not_le]
      exact ⟨fun _ => h J g1 g2, fun z => absurd z (by omega)⟩
    | k + 1, hi =>
      have e1 : J t i = cT (tk i) := by rw [g2 t ht]; exact (K i (by omega)).1
      refine AT.go okB59 4 rfl [40] 90 40 ?_
      simp (disch := omega) only [B59, ↓ev_iconst, ↓ev_bipush, ↓ev_sipush, ↓ev_lconst, ↓ev_ldc, ↓ev_ldc_w, ↓ev_ldc2_w, ↓ev_aconst_null, ↓ev_iload, ↓ev_iload_n, ↓ev_lload, ↓ev_lload_n, ↓ev_aload, ↓ev_aload_n, ↓ev_istore, ↓ev_istore_n, ↓ev_lstore, ↓ev_lstore_n, ↓ev_astore, ↓ev_astore_n, ↓ev_iinc, ↓ev_iadd, ↓ev_isub, ↓ev_imul, ↓ev_iand, ↓ev_ixor, ↓ev_idiv, ↓ev_irem, ↓ev_ineg, ↓ev_i2l, ↓ev_i2b, ↓ev_l2i, ↓ev_ladd, ↓ev_lsub, ↓ev_lmul, ↓ev_land, ↓ev_lor, ↓ev_ldiv, ↓ev_lrem, ↓ev_lushr, ↓ev_lshl, ↓ev_lcmp, ↓ev_dup, ↓ev_pop, ↓ev_dup2, ↓ev_if_icmp, ↓ev_ifCond, ↓ev_goto, ↓ev_ifnull, ↓ev_ifnonnull, ↓ev_tableswitch, ↓ev_lookupswitch, ↓ev_getfield, ↓ev_putfield, ↓ev_getstatic, ↓ev_iaload, ↓ev_baload, ↓ev_laload, ↓ev_aaload, ↓ev_iastore, ↓ev_bastore, ↓ev_lastore, ↓ev_aastore, ↓ev_arraylength, ↓ev_new, ↓ev_newarray, ↓ev_anewarray, ↓ev_invokevirtual, ↓ev_invokestatic, ↓ev_invokespecial, ↓ev_ireturn, ↓ev_lreturn, ↓ev_areturn, ↓ev_ret, ↓ev_0, ↓ev_nil, ↓ev_cons, ↓ev_jp, ↓ev_pI, ↓ev_pII, ↓ev_pL, ↓ev_pLL, ↓ev_pIL, ↓ev_pR, ↓ev_pIR, ↓ev_pIIR, ↓ev_pLIR, ↓ev_pRIR, ↓ev_pop0, ↓ev_popS, ↓iv_eq, ↓iv_ne, ↓iv_lt, ↓iv_ge, ↓iv_gt, ↓iv_le, ↓ev_ldi0, ↓ev_ldiS, ↓ev_ldl0, ↓ev_ldlS, ↓ev_lda0, ↓ev_ldaN, ↓ev_ldaS, ↓ev_staR, ↓ev_staN, ↓ev_pfI, ↓ev_pfZ, ↓ev_pfL, ↓ev_pfR, ↓ev_kc, ↓ev_kcN, ↓inv, bk, sL, gf, tyI, tyIs, tyB, tyQ, tyN, nbk, ekd, elOk, isO, swl, vNat, vI, k1, st1, st2, ent, rtQ, va_rf, List.replicate, List.mem_cons, List.not_mem_nil, or_false, false_or, or_true, true_or, or_self, ↓reduceIte, Nat.reduceAdd, Nat.reduceEqDiff, true_and, and_true, reduceCtorEq, forall_const, false_implies, implies_true, true_implies, not_true_eq_false, not_false_eq_true, e00, e10, e01, e11, lg_eq0, lg_lt0, lg_le0, lg_gt0, lg_ge0, ite_u, Nat.reduceLeDiff, u2_ap, qe1, qe2, ↓reduceIte, Nat.reduceEqDiff, Nat.reduceAdd, Nat.reduceMul, z_cl, z_in, an0, an1, qn1, qn2, h0, h1, h2, i1, hT, e1]
      try simp (disch := omega) only [z_rm, Nat.add_sub_cancel, Nat.add_one_sub_one, Nat.reduceEqDiff, pk_mul, nI_add, nI_1, pk_sub, pk_div, pk_rem, nI_ltI, nI_leI, nI_eq, z_cl, z_in, z_lt0, z_0le, z_eq0, z_le0, z_0lt, z_m1, z_i2l, z_l2i, z_ult, pk_lLT, pk_lLE, pk_lEQ, lN_add, lN_mul, lN_sub, true_and, and_true, forall_const, false_implies, implies_true, true_implies, not_true_eq_false, not_false_eq_true, Nat.not_lt, Nat.not_le]
      refine ⟨fun z => absurd z (by omega), fun _ => ?_⟩
      refine l_msgNew hT h0 h1 h2 ht hn i1 K h k (i + 1) _ (by omega) (fun j hj => ?_) (fun y hy => by rw [u2_row hy]; exact g2 y hy)
      by_cases z : j = i
      · subst z
        rw [u2_at]
      · rw [u2_ne (by omega)]
        exact g1 j (by omega)
set_option maxRecDepth 100000 in
theorem c_msgNew {q t n : Nat} {tk : Nat → Tok} (h0 : T q = some (6, 0)) (hf : ∀ j, 1 ≤ j → j < 10 → T (q + j) = none) (hT : T t = some (15, 20)) (ht : t < q) (hn : n ≤ 20) (K : TR J t n tk)
    (h : ∀ T' I' J' R', (∀ y, y < q ∨ q + 9 < y → T' y = T y ∧ I' y = I y ∧ J' y = J y ∧ R' y = R y) → (∀ y, T y ≠ none → T' y = T y) → MO T' R' q → I' q 1 = nI n → (∀ i, i < n → J' (q + 1) i = cT (tk i)) → FmZ I' (q + 2) → Q none T' I' J' R') : Run G 59 [.ref q, .ref t, .int (nI n)] T I J R Q := by
  have h1 := hf 1 (by decide) (by decide)
  have h2 := hf 2 (by decide) (by decide)
  have h3 := hf 3 (by decide) (by decide)
  have h4 := hf 4 (by decide) (by decide)
  have h5 := hf 5 (by decide) (by decide)
  have h6 := hf 6 (by decide) (by decide)
  have h7 := hf 7 (by decide) (by decide)
  have h8 := hf 8 (by decide) (by decide)
  have h9 := hf 9 (by decide) (by decide)
  refine Run.body (by decide) 1 (Nat.le_of_ble_eq_true rfl) (AT.go okB59 4 rfl [40] 90 0 ?_)
  simp (disch := omega) only [B59, ↓ev_iconst, ↓ev_bipush, ↓ev_sipush, ↓ev_lconst, ↓ev_ldc, ↓ev_ldc_w, ↓ev_ldc2_w, ↓ev_aconst_null, ↓ev_iload, ↓ev_iload_n, ↓ev_lload, ↓ev_lload_n, ↓ev_aload, ↓ev_aload_n, ↓ev_istore, ↓ev_istore_n, ↓ev_lstore, ↓ev_lstore_n, ↓ev_astore, ↓ev_astore_n, ↓ev_iinc, ↓ev_iadd, ↓ev_isub, ↓ev_imul, ↓ev_iand, ↓ev_ixor, ↓ev_idiv, ↓ev_irem, ↓ev_ineg, ↓ev_i2l, ↓ev_i2b, ↓ev_l2i, ↓ev_ladd, ↓ev_lsub, ↓ev_lmul, ↓ev_land, ↓ev_lor, ↓ev_ldiv, ↓ev_lrem, ↓ev_lushr, ↓ev_lshl, ↓ev_lcmp, ↓ev_dup, ↓ev_pop, ↓ev_dup2, ↓ev_if_icmp, ↓ev_ifCond, ↓ev_goto, ↓ev_ifnull, ↓ev_ifnonnull, ↓ev_tableswitch, ↓ev_lookupswitch, ↓ev_getfield, ↓ev_putfield, ↓ev_getstatic, ↓ev_iaload, ↓ev_baload, ↓ev_laload, ↓ev_aaload, ↓ev_iastore, ↓ev_bastore, ↓ev_lastore, ↓ev_aastore, ↓ev_arraylength, ↓ev_new, ↓ev_newarray, ↓ev_anewarray, ↓ev_invokevirtual, ↓ev_invokestatic, ↓ev_invokespecial, ↓ev_ireturn, ↓ev_lreturn, ↓ev_areturn, ↓ev_ret, ↓ev_0, ↓ev_nil, ↓ev_cons, ↓ev_jp, ↓ev_pI, ↓ev_pII, ↓ev_pL, ↓ev_pLL, ↓ev_pIL, ↓ev_pR, ↓ev_pIR, ↓ev_pIIR, ↓ev_pLIR, ↓ev_pRIR, ↓ev_pop0, ↓ev_popS, ↓iv_eq, ↓iv_ne, ↓iv_lt, ↓iv_ge, ↓iv_gt, ↓iv_le, ↓ev_ldi0, ↓ev_ldiS, ↓ev_ldl0, ↓ev_ldlS, ↓ev_lda0, ↓ev_ldaN, ↓ev_ldaS, ↓ev_staR, ↓ev_staN, ↓ev_pfI, ↓ev_pfZ, ↓ev_pfL, ↓ev_pfR, ↓ev_kc, ↓ev_kcN, ↓inv, bk, sL, gf, tyI, tyIs, tyB, tyQ, tyN, nbk, ekd, elOk, isO, swl, vNat, vI, k1, st1, st2, ent, rtQ, va_rf, List.replicate, List.mem_cons, List.not_mem_nil, or_false, false_or, or_true, true_or, or_self, ↓reduceIte, Nat.reduceAdd, Nat.reduceEqDiff, true_and, and_true, reduceCtorEq, forall_const, false_implies, implies_true, true_implies, not_true_eq_false, not_false_eq_true, e00, e10, e01, e11, lg_eq0, lg_lt0, lg_le0, lg_gt0, lg_ge0, ite_u, Nat.reduceLeDiff, u2_ap, qe1, qe2, ↓reduceIte, Nat.reduceEqDiff, Nat.reduceAdd, Nat.reduceMul, z_cl, z_in, an0, an1, qn1, qn2, h0]
  try simp (disch := omega) only [z_rm, Nat.add_sub_cancel, Nat.add_one_sub_one, Nat.reduceEqDiff, pk_mul, nI_add, nI_1, pk_sub, pk_div, pk_rem, nI_ltI, nI_leI, nI_eq, z_cl, z_in, z_lt0, z_0le, z_eq0, z_le0, z_0lt, z_m1, z_i2l, z_l2i, z_ult, pk_lLT, pk_lLE, pk_lEQ, lN_add, lN_mul, lN_sub, true_and, and_true, forall_const, false_implies, implies_true, true_implies, not_true_eq_false, not_false_eq_true, Nat.not_lt, Nat.not_le]
  refine ⟨q + 1, h1, by decide, by decide, (by first | exact h0 | (simp (disch := omega) only [uT_ne]; exact h0)), q + 2, (by first | exact h2 | (simp (disch := omega) only [uT_ne]; exact h2)), by decide, by decide, uT_at _ _ _, by decide, by decide, ?_⟩
  refine c_formNew (f := q + 2) (uT_at _ _ _) (by first | exact h3 | (simp (disch := omega) only [uT_ne]; exact h3)) (by first | exact h4 | (simp (disch := omega) only [uT_ne]; exact h4)) (by first | exact h5 | (simp (disch := omega) only [uT_ne]; exact h5)) (by first | exact h6 | (simp (disch := omega) only [uT_ne]; exact h6)) (by first | exact h7 | (simp (disch := omega) only [uT_ne]; exact h7)) (by first | exact h8 | (simp (disch := omega) only [uT_ne]; exact h8)) (by first | exact h9 | (simp (disch := omega) only [uT_ne]; exact h9)) (fun k => r0_at _ _ _ _) (fun T' I' J' R' fr mono F Z => ?_)
  have t0 : T' q = some (6, 0) := by
    rw [(fr q (by omega)).1]
    exact (by first | exact h0 | (simp (disch := omega) only [uT_ne]; exact h0))
  have t1 : T' (q + 1) = some (15, 20) := by
    rw [(fr (q + 1) (by omega)).1, uT_ne (by omega), uT_at]
  have tt : T' t = some (15, 20) := by
    rw [(fr t (by omega)).1]
    exact (by first | exact hT | (simp (disch := omega) only [uT_ne]; exact hT))
  try simp (disch := omega) only [↓ev_iconst, ↓ev_bipush, ↓ev_sipush, ↓ev_lconst, ↓ev_ldc, ↓ev_ldc_w, ↓ev_ldc2_w, ↓ev_aconst_null, ↓ev_iload, ↓ev_iload_n, ↓ev_lload, ↓ev_lload_n, ↓ev_aload, ↓ev_aload_n, ↓ev_istore, ↓ev_istore_n, ↓ev_lstore, ↓ev_lstore_n, ↓ev_astore, ↓ev_astore_n, ↓ev_iinc, ↓ev_iadd, ↓ev_isub, ↓ev_imul, ↓ev_iand, ↓ev_ixor, ↓ev_idiv, ↓ev_irem, ↓ev_ineg, ↓ev_i2l, ↓ev_i2b, ↓ev_l2i, ↓ev_ladd, ↓ev_lsub, ↓ev_lmul, ↓ev_land, ↓ev_lor, ↓ev_ldiv, ↓ev_lrem, ↓ev_lushr, ↓ev_lshl, ↓ev_lcmp, ↓ev_dup, ↓ev_pop, ↓ev_dup2, ↓ev_if_icmp, ↓ev_ifCond, ↓ev_goto, ↓ev_ifnull, ↓ev_ifnonnull, ↓ev_tableswitch, ↓ev_lookupswitch, ↓ev_getfield, ↓ev_putfield, ↓ev_getstatic, ↓ev_iaload, ↓ev_baload, ↓ev_laload, ↓ev_aaload, ↓ev_iastore, ↓ev_bastore, ↓ev_lastore, ↓ev_aastore, ↓ev_arraylength, ↓ev_new, ↓ev_newarray, ↓ev_anewarray, ↓ev_invokevirtual, ↓ev_invokestatic, ↓ev_invokespecial, ↓ev_ireturn, ↓ev_lreturn, ↓ev_areturn, ↓ev_ret, ↓ev_0, ↓ev_nil, ↓ev_cons, ↓ev_jp, ↓ev_pI, ↓ev_pII, ↓ev_pL, ↓ev_pLL, ↓ev_pIL, ↓ev_pR, ↓ev_pIR, ↓ev_pIIR, ↓ev_pLIR, ↓ev_pRIR, ↓ev_pop0, ↓ev_popS, ↓iv_eq, ↓iv_ne, ↓iv_lt, ↓iv_ge, ↓iv_gt, ↓iv_le, ↓ev_ldi0, ↓ev_ldiS, ↓ev_ldl0, ↓ev_ldlS, ↓ev_lda0, ↓ev_ldaN, ↓ev_ldaS, ↓ev_staR, ↓ev_staN, ↓ev_pfI, ↓ev_pfZ, ↓ev_pfL, ↓ev_pfR, ↓ev_kc, ↓ev_kcN, ↓inv, bk, sL, gf, tyI, tyIs, tyB, tyQ, tyN, nbk, ekd, elOk, isO, swl, vNat, vI, k1, st1, st2, ent, rtQ, va_rf, List.replicate, List.mem_cons, List.not_mem_nil, or_false, false_or, or_true, true_or, or_self, ↓reduceIte, Nat.reduceAdd, Nat.reduceEqDiff, true_and, and_true, reduceCtorEq, forall_const, false_implies, implies_true, true_implies, not_true_eq_false, not_false_eq_true, e00, e10, e01, e11, lg_eq0, lg_lt0, lg_le0, lg_gt0, lg_ge0, ite_u, Nat.reduceLeDiff, u2_ap, qe1, qe2, ↓reduceIte, Nat.reduceEqDiff, Nat.reduceAdd, Nat.reduceMul, z_cl, z_in, an0, an1, qn1, qn2, t0, tt]
  try simp (disch := omega) only [z_rm, Nat.add_sub_cancel, Nat.add_one_sub_one, Nat.reduceEqDiff, pk_mul, nI_add, nI_1, pk_sub, pk_div, pk_rem, nI_ltI, nI_leI, nI_eq, z_cl, z_in, z_lt0, z_0le, z_eq0, z_le0, z_0lt, z_m1, z_i2l, z_l2i, z_ult, pk_lLT, pk_lLE, pk_lEQ, lN_add, lN_mul, lN_sub, true_and, and_true, forall_const, false_implies, implies_true, true_implies, not_true_eq_false, not_false_eq_true, Nat.not_lt, Nat.not_le]
  simp (disch := omega) only [ite_self, nI_ltI]
  rw [if_neg (by omega)]
  refine l_msgNew (n := n) (tk := tk) (J0 := J') tt t0 (by rw [u2_ne (by omega), (fr q (by omega)).2.2.2, r0_row (by omega), u2_at]) t1 (by omega) hn (u2_at _ _ _ _) (fun i hi => ⟨?_, (K i hi).2⟩) (fun J2 g1 g2 => ?_) n 0 J' (by omega) (fun j hj => absurd hj (Nat.not_lt_zero j)) (fun _ _ => rfl)
  · rw [(fr t (by omega)).2.2.1, r0_row (by omega), r0_row (by omega)]
    exact (K i hi).1
  refine h T' _ J2 _ (fun y hy => ⟨?_, ?_, ?_, ?_⟩) (fun y hy => ?_) ⟨t0, ?_, t1, u2_at _ _ _ _, F.fr (fun _ _ => rfl) (u2_row (by omega))⟩ (u2_at _ _ _ _) g1 ⟨?_, fun k hk => ?_, fun j k j1 j2 => ?_⟩
  · rw [(fr y (by omega)).1]
    simp (disch := omega) only [uT_ne]
  · rw [u2_row (by omega), (fr y (by omega)).2.1]
    simp (disch := omega) only [r0_row]
  · rw [g2 y (by omega), (fr y (by omega)).2.2.1]
    simp (disch := omega) only [r0_row]
  · rw [u2_row (by omega), (fr y (by omega)).2.2.2]
    simp (disch := omega) only [r0_row, u2_row]
  · have e1 : y ≠ q + 1 := fun e => hy (by rw [e]; exact h1)
    have e2 : y ≠ q + 2 := fun e => hy (by rw [e]; exact h2)
    rw [mono y (by rw [uT_ne e2, uT_ne e1]; exact hy), uT_ne e2, uT_ne e1]
  · rw [u2_ne (by omega), (fr q (by omega)).2.2.2, r0_row (by omega), u2_at]
  · rw [u2_row (by omega)]
    exact Z.1
  · rw [u2_row (by omega)]
    exact Z.2.1 k hk
  · rw [u2_row (by omega)]
    exact Z.2.2 j k j1 j2
set_option maxRecDepth 100000 in
theorem c_routeNew {o : Nat} (h0 : T o = some (8, 0)) (h1 : T (o + 1) = none) (h2 : T (o + 2) = none)
    (h : ∀ T' I' J' R', (∀ y, y < o ∨ o + 2 < y → T' y = T y ∧ I' y = I y ∧ J' y = J y ∧ R' y = R y) → (∀ y, T y ≠ none → T' y = T y) → I' o = I o → T' o = some (8, 0) → R' o 0 = some (o + 1) → T' (o + 1) = some (14, 8) → R' o 1 = some (o + 2) → T' (o + 2) = some (14, 8) → Q none T' I' J' R') : Run G 93 [.ref o] T I J R Q := by
  refine Run.body (by decide) 0 (Nat.le_of_ble_eq_true rfl) (AT.go okB93 4 rfl [] 90 0 ?_)
  simp (disch := omega) only [B93, ↓ev_iconst, ↓ev_bipush, ↓ev_sipush, ↓ev_lconst, ↓ev_ldc, ↓ev_ldc_w, ↓ev_ldc2_w, ↓ev_aconst_null, ↓ev_iload, ↓ev_iload_n, ↓ev_lload, ↓ev_lload_n, ↓ev_aload, ↓ev_aload_n, ↓ev_istore, ↓ev_istore_n, ↓ev_lstore, ↓ev_lstore_n, ↓ev_astore, ↓ev_astore_n, ↓ev_iinc, ↓ev_iadd, ↓ev_isub, ↓ev_imul, ↓ev_iand, ↓ev_ixor, ↓ev_idiv, ↓ev_irem, ↓ev_ineg, ↓ev_i2l, ↓ev_i2b, ↓ev_l2i, ↓ev_ladd, ↓ev_lsub, ↓ev_lmul, ↓ev_land, ↓ev_lor, ↓ev_ldiv, ↓ev_lrem, ↓ev_lushr, ↓ev_lshl, ↓ev_lcmp, ↓ev_dup, ↓ev_pop, ↓ev_dup2, ↓ev_if_icmp, ↓ev_ifCond, ↓ev_goto, ↓ev_ifnull, ↓ev_ifnonnull, ↓ev_tableswitch, ↓ev_lookupswitch, ↓ev_getfield, ↓ev_putfield, ↓ev_getstatic, ↓ev_iaload, ↓ev_baload, ↓ev_laload, ↓ev_aaload, ↓ev_iastore, ↓ev_bastore, ↓ev_lastore, ↓ev_aastore, ↓ev_arraylength, ↓ev_new, ↓ev_newarray, ↓ev_anewarray, ↓ev_invokevirtual, ↓ev_invokestatic, ↓ev_invokespecial, ↓ev_ireturn, ↓ev_lreturn, ↓ev_areturn, ↓ev_ret, ↓ev_0, ↓ev_nil, ↓ev_cons, ↓ev_jp, ↓ev_pI, ↓ev_pII, ↓ev_pL, ↓ev_pLL, ↓ev_pIL, ↓ev_pR, ↓ev_pIR, ↓ev_pIIR, ↓ev_pLIR, ↓ev_pRIR, ↓ev_pop0, ↓ev_popS, ↓iv_eq, ↓iv_ne, ↓iv_lt, ↓iv_ge, ↓iv_gt, ↓iv_le, ↓ev_ldi0, ↓ev_ldiS, ↓ev_ldl0, ↓ev_ldlS, ↓ev_lda0, ↓ev_ldaN, ↓ev_ldaS, ↓ev_staR, ↓ev_staN, ↓ev_pfI, ↓ev_pfZ, ↓ev_pfL, ↓ev_pfR, ↓ev_kc, ↓ev_kcN, ↓inv, bk, sL, gf, tyI, tyIs, tyB, tyQ, tyN, nbk, ekd, elOk, isO, swl, vNat, vI, k1, st1, st2, ent, rtQ, va_rf, List.replicate, List.mem_cons, List.not_mem_nil, or_false, false_or, or_true, true_or, or_self, ↓reduceIte, Nat.reduceAdd, Nat.reduceEqDiff, true_and, and_true, reduceCtorEq, forall_const, false_implies, implies_true, true_implies, not_true_eq_false, not_false_eq_true, e00, e10, e01, e11, lg_eq0, lg_lt0, lg_le0, lg_gt0, lg_ge0, ite_u, Nat.reduceLeDiff, u2_ap, qe1, qe2, ↓reduceIte, Nat.reduceEqDiff, Nat.reduceAdd, Nat.reduceMul, z_cl, z_in, an0, an1, qn1, qn2, h0]
  try simp (disch := omega) only [z_rm, Nat.add_sub_cancel, Nat.add_one_sub_one, Nat.reduceEqDiff, pk_mul, nI_add, nI_1, pk_sub, pk_div, pk_rem, nI_ltI, nI_leI, nI_eq, z_cl, z_in, z_lt0, z_0le, z_eq0, z_le0, z_0lt, z_m1, z_i2l, z_l2i, z_ult, pk_lLT, pk_lLE, pk_lEQ, lN_add, lN_mul, lN_sub, true_and, and_true, forall_const, false_implies, implies_true, true_implies, not_true_eq_false, not_false_eq_true, Nat.not_lt, Nat.not_le]
  refine ⟨o + 1, h1, by decide, by decide, (by first | exact h0 | (simp (disch := omega) only [uT_ne]; exact h0)), o + 2, (by first | exact h2 | (simp (disch := omega) only [uT_ne]; exact h2)), by decide, by decide, (by first | exact h0 | (simp (disch := omega) only [uT_ne]; exact h0)), ?_⟩
  refine h _ _ _ _ (fun y hy => ⟨?_, ?_, ?_, ?_⟩) (fun y hy => ?_) ?_ ?_ ?_ ?_ ?_ ?_
  · simp (disch := omega) only [uT_ne, u2_row, r0_row]
  · simp (disch := omega) only [uT_ne, u2_row, r0_row]
  · simp (disch := omega) only [uT_ne, u2_row, r0_row]
  · simp (disch := omega) only [uT_ne, u2_row, r0_row]
  · have e1 : y ≠ o + 1 := fun e => hy (by rw [e]; exact h1)
    have e2 : y ≠ o + 2 := fun e => hy (by rw [e]; exact h2)
    simp (disch := omega) only [uT_ne]
  · simp (disch := omega) only [uT_ne, u2_row, r0_row]
  all_goals (simp only [u2_ap, qe1, qe2, ↓reduceIte, Nat.reduceEqDiff, Nat.reduceAdd, Nat.reduceMul, uT_at, r0, uT, h0])
set_option maxRecDepth 100000 in
theorem c_journeyNew {o : Nat} (h0 : T o = some (4, 0)) (h1 : T (o + 1) = none) (h2 : T (o + 2) = none) (h3 : T (o + 3) = none) (hz : ∀ k, I o k = nI 0)
    (h : ∀ T' I' J' R', (∀ y, y < o ∨ o + 3 < y → T' y = T y ∧ I' y = I y ∧ J' y = J y ∧ R' y = R y) → (∀ y, T y ≠ none → T' y = T y) → CJn T' I' R' o jsN0 → Q none T' I' J' R') : Run G 51 [.ref o] T I J R Q := by
  refine Run.body (by decide) 0 (Nat.le_of_ble_eq_true rfl) (AT.go okB51 4 rfl [] 90 0 ?_)
  simp (disch := omega) only [B51, ↓ev_iconst, ↓ev_bipush, ↓ev_sipush, ↓ev_lconst, ↓ev_ldc, ↓ev_ldc_w, ↓ev_ldc2_w, ↓ev_aconst_null, ↓ev_iload, ↓ev_iload_n, ↓ev_lload, ↓ev_lload_n, ↓ev_aload, ↓ev_aload_n, ↓ev_istore, ↓ev_istore_n, ↓ev_lstore, ↓ev_lstore_n, ↓ev_astore, ↓ev_astore_n, ↓ev_iinc, ↓ev_iadd, ↓ev_isub, ↓ev_imul, ↓ev_iand, ↓ev_ixor, ↓ev_idiv, ↓ev_irem, ↓ev_ineg, ↓ev_i2l, ↓ev_i2b, ↓ev_l2i, ↓ev_ladd, ↓ev_lsub, ↓ev_lmul, ↓ev_land, ↓ev_lor, ↓ev_ldiv, ↓ev_lrem, ↓ev_lushr, ↓ev_lshl, ↓ev_lcmp, ↓ev_dup, ↓ev_pop, ↓ev_dup2, ↓ev_if_icmp, ↓ev_ifCond, ↓ev_goto, ↓ev_ifnull, ↓ev_ifnonnull, ↓ev_tableswitch, ↓ev_lookupswitch, ↓ev_getfield, ↓ev_putfield, ↓ev_getstatic, ↓ev_iaload, ↓ev_baload, ↓ev_laload, ↓ev_aaload, ↓ev_iastore, ↓ev_bastore, ↓ev_lastore, ↓ev_aastore, ↓ev_arraylength, ↓ev_new, ↓ev_newarray, ↓ev_anewarray, ↓ev_invokevirtual, ↓ev_invokestatic, ↓ev_invokespecial, ↓ev_ireturn, ↓ev_lreturn, ↓ev_areturn, ↓ev_ret, ↓ev_0, ↓ev_nil, ↓ev_cons, ↓ev_jp, ↓ev_pI, ↓ev_pII, ↓ev_pL, ↓ev_pLL, ↓ev_pIL, ↓ev_pR, ↓ev_pIR, ↓ev_pIIR, ↓ev_pLIR, ↓ev_pRIR, ↓ev_pop0, ↓ev_popS, ↓iv_eq, ↓iv_ne, ↓iv_lt, ↓iv_ge, ↓iv_gt, ↓iv_le, ↓ev_ldi0, ↓ev_ldiS, ↓ev_ldl0, ↓ev_ldlS, ↓ev_lda0, ↓ev_ldaN, ↓ev_ldaS, ↓ev_staR, ↓ev_staN, ↓ev_pfI, ↓ev_pfZ, ↓ev_pfL, ↓ev_pfR, ↓ev_kc, ↓ev_kcN, ↓inv, bk, sL, gf, tyI, tyIs, tyB, tyQ, tyN, nbk, ekd, elOk, isO, swl, vNat, vI, k1, st1, st2, ent, rtQ, va_rf, List.replicate, List.mem_cons, List.not_mem_nil, or_false, false_or, or_true, true_or, or_self, ↓reduceIte, Nat.reduceAdd, Nat.reduceEqDiff, true_and, and_true, reduceCtorEq, forall_const, false_implies, implies_true, true_implies, not_true_eq_false, not_false_eq_true, e00, e10, e01, e11, lg_eq0, lg_lt0, lg_le0, lg_gt0, lg_ge0, ite_u, Nat.reduceLeDiff, u2_ap, qe1, qe2, ↓reduceIte, Nat.reduceEqDiff, Nat.reduceAdd, Nat.reduceMul, z_cl, z_in, an0, an1, qn1, qn2, h0]
  try simp (disch := omega) only [z_rm, Nat.add_sub_cancel, Nat.add_one_sub_one, Nat.reduceEqDiff, pk_mul, nI_add, nI_1, pk_sub, pk_div, pk_rem, nI_ltI, nI_leI, nI_eq, z_cl, z_in, z_lt0, z_0le, z_eq0, z_le0, z_0lt, z_m1, z_i2l, z_l2i, z_ult, pk_lLT, pk_lLE, pk_lEQ, lN_add, lN_mul, lN_sub, true_and, and_true, forall_const, false_implies, implies_true, true_implies, not_true_eq_false, not_false_eq_true, Nat.not_lt, Nat.not_le]
  refine ⟨o + 1, h1, by decide, by decide, uT_at _ _ _, by decide, by decide, ?_⟩
  refine c_routeNew (o := o + 1) (uT_at _ _ _) (by first | exact h2 | (simp (disch := omega) only [uT_ne]; exact h2)) (by first | exact h3 | (simp (disch := omega) only [uT_ne]; exact h3)) (fun T' I' J' R' fr mono i1 t1 r0' t2 r1 t3 => ?_)
  have t0 : T' o = some (4, 0) := by
    rw [(fr o (by omega)).1]
    exact (by first | exact h0 | (simp (disch := omega) only [uT_ne]; exact h0))
  try simp (disch := omega) only [↓ev_iconst, ↓ev_bipush, ↓ev_sipush, ↓ev_lconst, ↓ev_ldc, ↓ev_ldc_w, ↓ev_ldc2_w, ↓ev_aconst_null, ↓ev_iload, ↓ev_iload_n, ↓ev_lload, ↓ev_lload_n, ↓ev_aload, ↓ev_aload_n, ↓ev_istore, ↓ev_istore_n, ↓ev_lstore, ↓ev_lstore_n, ↓ev_astore, ↓ev_astore_n, ↓ev_iinc, ↓ev_iadd, ↓ev_isub, ↓ev_imul, ↓ev_iand, ↓ev_ixor, ↓ev_idiv, ↓ev_irem, ↓ev_ineg, ↓ev_i2l, ↓ev_i2b, ↓ev_l2i, ↓ev_ladd, ↓ev_lsub, ↓ev_lmul, ↓ev_land, ↓ev_lor, ↓ev_ldiv, ↓ev_lrem, ↓ev_lushr, ↓ev_lshl, ↓ev_lcmp, ↓ev_dup, ↓ev_pop, ↓ev_dup2, ↓ev_if_icmp, ↓ev_ifCond, ↓ev_goto, ↓ev_ifnull, ↓ev_ifnonnull, ↓ev_tableswitch, ↓ev_lookupswitch, ↓ev_getfield, ↓ev_putfield, ↓ev_getstatic, ↓ev_iaload, ↓ev_baload, ↓ev_laload, ↓ev_aaload, ↓ev_iastore, ↓ev_bastore, ↓ev_lastore, ↓ev_aastore, ↓ev_arraylength, ↓ev_new, ↓ev_newarray, ↓ev_anewarray, ↓ev_invokevirtual, ↓ev_invokestatic, ↓ev_invokespecial, ↓ev_ireturn, ↓ev_lreturn, ↓ev_areturn, ↓ev_ret, ↓ev_0, ↓ev_nil, ↓ev_cons, ↓ev_jp, ↓ev_pI, ↓ev_pII, ↓ev_pL, ↓ev_pLL, ↓ev_pIL, ↓ev_pR, ↓ev_pIR, ↓ev_pIIR, ↓ev_pLIR, ↓ev_pRIR, ↓ev_pop0, ↓ev_popS, ↓iv_eq, ↓iv_ne, ↓iv_lt, ↓iv_ge, ↓iv_gt, ↓iv_le, ↓ev_ldi0, ↓ev_ldiS, ↓ev_ldl0, ↓ev_ldlS, ↓ev_lda0, ↓ev_ldaN, ↓ev_ldaS, ↓ev_staR, ↓ev_staN, ↓ev_pfI, ↓ev_pfZ, ↓ev_pfL, ↓ev_pfR, ↓ev_kc, ↓ev_kcN, ↓inv, bk, sL, gf, tyI, tyIs, tyB, tyQ, tyN, nbk, ekd, elOk, isO, swl, vNat, vI, k1, st1, st2, ent, rtQ, va_rf, List.replicate, List.mem_cons, List.not_mem_nil, or_false, false_or, or_true, true_or, or_self, ↓reduceIte, Nat.reduceAdd, Nat.reduceEqDiff, true_and, and_true, reduceCtorEq, forall_const, false_implies, implies_true, true_implies, not_true_eq_false, not_false_eq_true, e00, e10, e01, e11, lg_eq0, lg_lt0, lg_le0, lg_gt0, lg_ge0, ite_u, Nat.reduceLeDiff, u2_ap, qe1, qe2, ↓reduceIte, Nat.reduceEqDiff, Nat.reduceAdd, Nat.reduceMul, z_cl, z_in, an0, an1, qn1, qn2, t0]
  try simp (disch := omega) only [z_rm, Nat.add_sub_cancel, Nat.add_one_sub_one, Nat.reduceEqDiff, pk_mul, nI_add, nI_1, pk_sub, pk_div, pk_rem, nI_ltI, nI_leI, nI_eq, z_cl, z_in, z_lt0, z_0le, z_eq0, z_le0, z_0lt, z_m1, z_i2l, z_l2i, z_ult, pk_lLT, pk_lLE, pk_lEQ, lN_add, lN_mul, lN_sub, true_and, and_true, forall_const, false_implies, implies_true, true_implies, not_true_eq_false, not_false_eq_true, Nat.not_lt, Nat.not_le]
  have eI : I' o = I o := by rw [(fr o (by omega)).2.1, r0_row (by omega)]
  refine h _ _ _ _ (fun y hy => ⟨?_, ?_, ?_, ?_⟩) (fun y hy => ?_) ⟨t0, ?_, t1, ?_, t2, ?_, t3, ?_, ?_, ?_, ?_, ?_, fun z => absurd rfl z⟩
  · rw [(fr y (by omega)).1, uT_ne (by omega)]
  · simp (disch := omega) only [u2_row]
    rw [(fr y (by omega)).2.1, r0_row (by omega)]
  · rw [(fr y (by omega)).2.2.1, r0_row (by omega)]
  · simp (disch := omega) only [u2_row]
    rw [(fr y (by omega)).2.2.2, r0_row (by omega)]
  · have e1 : y ≠ o + 1 := fun e => hy (by rw [e]; exact h1)
    rw [mono y (by rw [uT_ne e1]; exact hy), uT_ne e1]
  · rw [u2_at]
  · rw [u2_row (by omega)]
    exact r0'
  · rw [u2_row (by omega)]
    exact r1
  · simp only [u2_ap, qe1, qe2, ↓reduceIte, Nat.reduceEqDiff, Nat.reduceAdd, Nat.reduceMul]
    rfl
  · simp only [u2_ap, qe1, qe2, ↓reduceIte, Nat.reduceEqDiff, Nat.reduceAdd, Nat.reduceMul]
    rfl
  · simp only [u2_ap, qe1, qe2, ↓reduceIte, Nat.reduceEqDiff, Nat.reduceAdd, Nat.reduceMul]
    rfl
  · simp only [u2_ap, qe1, qe2, ↓reduceIte, Nat.reduceEqDiff, Nat.reduceAdd, Nat.reduceMul]
    rw [eI, hz]
    rfl
  · simp only [u2_ap, qe1, qe2, ↓reduceIte, Nat.reduceEqDiff, Nat.reduceAdd, Nat.reduceMul]
    rw [eI, hz]
    rfl
end NEWS
