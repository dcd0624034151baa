/-! THE MODEL READS ITS TAPE -/
section CUTUP
variable {G : GGy} {T : TTy} {I : MIy} {J : MJy} {R : MRy} {Q : QQy}
/-! the flags of a byte -/
set_option maxRecDepth 100000 in
theorem l_cu1 {tl i b : Nat} {x1 x2 x3 x4 x6 x7 x8 x9 : Option Value} (S : SH T R) (e1 : I 24 1 = nI tl) (hi : i < tl) (htl : tl ≤ 300) (eb : I 25 i = bS b) (hb : b < 256) {T00 : TTy}
    (h0 : sortN b = 0 → AT G 167 T00 Q 94 [some (.ref 24), x1, x2, x3, x4, some (.int (nI i)), some (.int (nI 32)), some (.int (nI 0)), some (.int (nI 0)), x9] [] 0 0 T I J R)
    (h1 : sortN b = 1 → AT G 167 T00 Q 94 [some (.ref 24), x1, x2, x3, x4, some (.int (nI i)), some (.int (nI b)), some (.int (nI 1)), some (.int (nI 0)), x9] [] 0 0 T I J R)
    (h2 : sortN b = 2 → AT G 167 T00 Q 94 [some (.ref 24), x1, x2, x3, x4, some (.int (nI i)), some (.int (nI b)), some (.int (nI 0)), some (.int (nI 1)), x9] [] 0 0 T I J R)
    (h3 : sortN b = 3 → Q (some (.int (nI i))) T I J R) : AT G 167 T00 Q 14 [some (.ref 24), x1, x2, x3, x4, some (.int (nI i)), x6, x7, x8, x9] [] 0 0 T I J R := by
  have es : sortN b = if b = 32 then 0 else if 97 ≤ b ∧ b ≤ 122 then 1 else if 48 ≤ b ∧ b ≤ 57 then 2 else 3 := rfl
  have f1 := bS_lt (b := b) (k := 97) hb (by decide)
  have f2 := bS_gt (b := b) (k := 122) hb (by decide)
  have f3 := bS_lt (b := b) (k := 48) hb (by decide)
  have f4 := bS_gt (b := b) (k := 57) hb (by decide)
  have f5 := bS_eq (b := b) (k := 32) hb (by decide)
  have k2 : ∀ fl : Nat, (fl = if 97 ≤ b ∧ b ≤ 122 then 1 else 0) → AT G 167 T00 Q 51 [some (.ref 24), x1, x2, x3, x4, some (.int (nI i)), some (.int (bS b)), x7, x8, x9] [.int (nI fl)] 0 0 T I J R := by
    intro fl hfl
    have k3 : ∀ f8 : Nat, (f8 = if 48 ≤ b ∧ b ≤ 57 then 1 else 0) → AT G 167 T00 Q 72 [some (.ref 24), x1, x2, x3, x4, some (.int (nI i)), some (.int (bS b)), some (.int (nI fl)), x8, x9] [.int (nI f8)] 0 0 T I J R := by
      intro f8 hf8
      have hfl2 : fl ≤ 1 := by rw [hfl]; split <;> omega
      have hf82 : f8 ≤ 1 := by rw [hf8]; split <;> omega
      refine AT.go okB167 0 rfl [94] 90 72 ?_
      simp only [B167, ↓ev_iconst, ↓ev_bipush, ↓ev_sipush, ↓ev_lconst, ↓ev_ldc, ↓ev_ldc_w, ↓ev_ldc2_w, ↓ev_aconst_null, ↓ev_iload, ↓ev_iload_n, ↓ev_lload, ↓ev_lload_n, ↓ev_aload, ↓ev_aload_n, ↓ev_istore, ↓ev_istore_n, ↓ev_lstore, ↓ev_lstore_n, ↓ev_astore, ↓ev_astore_n, ↓ev_iinc, ↓ev_iadd, ↓ev_isub, ↓ev_imul, ↓ev_iand, ↓ev_ixor, ↓ev_idiv, ↓ev_irem, ↓ev_ineg, ↓ev_i2l, ↓ev_i2b, ↓ev_l2i, ↓ev_ladd, ↓ev_lsub, ↓ev_lmul, ↓ev_land, ↓ev_lor, ↓ev_ldiv, ↓ev_lrem, ↓ev_lushr, ↓ev_lshl, ↓ev_lcmp, ↓ev_dup, ↓ev_pop, ↓ev_dup2, ↓ev_if_icmp, ↓ev_ifCond, ↓ev_goto, ↓ev_ifnull, ↓ev_ifnonnull, ↓ev_tableswitch, ↓ev_lookupswitch, ↓ev_getfield, ↓ev_putfield, ↓ev_getstatic, ↓ev_iaload, ↓ev_baload, ↓ev_laload, ↓ev_aaload, ↓ev_iastore, ↓ev_bastore, ↓ev_lastore, ↓ev_aastore, ↓ev_arraylength, ↓ev_new, ↓ev_newarray, ↓ev_anewarray, ↓ev_invokevirtual, ↓ev_invokestatic, ↓ev_invokespecial, ↓ev_ireturn, ↓ev_lreturn, ↓ev_areturn, ↓ev_ret, ↓ev_0, ↓ev_nil, ↓ev_cons, ↓ev_jp, ↓ev_pI, ↓ev_pII, ↓ev_pL, ↓ev_pLL, ↓ev_pIL, ↓ev_pR, ↓ev_pIR, ↓ev_pIIR, ↓ev_pLIR, ↓ev_pRIR, ↓ev_pop0, ↓ev_popS, ↓iv_eq, ↓iv_ne, ↓iv_lt, ↓iv_ge, ↓iv_gt, ↓iv_le, ↓ev_ldi0, ↓ev_ldiS, ↓ev_ldl0, ↓ev_ldlS, ↓ev_lda0, ↓ev_ldaN, ↓ev_ldaS, ↓ev_staR, ↓ev_staN, ↓ev_pfI, ↓ev_pfZ, ↓ev_pfL, ↓ev_pfR, ↓ev_kc, ↓ev_kcN, ↓inv, bk, sL, gf, tyI, tyIs, tyB, tyQ, tyN, nbk, ekd, elOk, isO, swl, vNat, vI, k1, st1, st2, ent, rtQ, va_rf, List.replicate, List.mem_cons, List.not_mem_nil, or_false, false_or, or_true, true_or, or_self, ↓reduceIte, Nat.reduceAdd, Nat.reduceEqDiff, true_and, and_true, reduceCtorEq, forall_const, false_implies, implies_true, true_implies, not_true_eq_false, not_false_eq_true, e00, e10, e01, e11, lg_eq0, lg_lt0, lg_le0, lg_gt0, lg_ge0, ite_u, Nat.reduceLeDiff, u2_ap, qe1, qe2, ↓reduceIte, Nat.reduceEqDiff, Nat.reduceAdd, Nat.reduceMul, f5]
      try simp (disch := omega) only [z_rm, Nat.add_sub_cancel, Nat.add_one_sub_one, Nat.reduceEqDiff, pk_mul, nI_add, nI_1, pk_sub, pk_div, pk_rem, nI_ltI, nI_leI, nI_eq, z_cl, z_in, z_lt0, z_0le, z_eq0, z_le0, z_0lt, z_m1, z_i2l, z_l2i, z_ult, pk_lLT, pk_lLE, pk_lEQ, lN_add, lN_mul, lN_sub, true_and, and_true, forall_const, false_implies, implies_true, true_implies, not_true_eq_false, not_false_eq_true, Nat.not_lt, Nat.not_le]
      by_cases q1 : 97 ≤ b ∧ b ≤ 122
      · rw [if_pos q1] at hfl
        rw [if_neg (by omega)] at hf8
        subst hfl hf8
        have g := h1 (by rw [es, if_neg (by omega), if_pos q1])
        rw [bS_small (by omega)]
        exact ⟨fun q => absurd q (by decide), fun _ => g⟩
      · rw [if_neg q1] at hfl
        subst hfl
        refine ⟨fun _ => ?_, fun q => absurd rfl q⟩
        by_cases q2 : 48 ≤ b ∧ b ≤ 57
        · rw [if_pos q2] at hf8
          subst hf8
          have g := h2 (by rw [es, if_neg (by omega), if_neg q1, if_pos q2])
          rw [bS_small (by omega)]
          exact ⟨fun q => absurd q (by decide), fun _ => g⟩
        · rw [if_neg q2] at hf8
          subst hf8
          refine ⟨fun _ => ⟨fun q => ?_, fun q => ?_⟩, fun q => absurd rfl q⟩
          · subst q
            rw [bS_small (by omega)]
            exact h0 rfl
          · exact h3 (by rw [es, if_neg q, if_neg q1, if_neg q2])
    refine AT.go okB167 0 rfl [72] 90 51 ?_
    simp only [B167, ↓ev_iconst, ↓ev_bipush, ↓ev_sipush, ↓ev_lconst, ↓ev_ldc, ↓ev_ldc_w, ↓ev_ldc2_w, ↓ev_aconst_null, ↓ev_iload, ↓ev_iload_n, ↓ev_lload, ↓ev_lload_n, ↓ev_aload, ↓ev_aload_n, ↓ev_istore, ↓ev_istore_n, ↓ev_lstore, ↓ev_lstore_n, ↓ev_astore, ↓ev_astore_n, ↓ev_iinc, ↓ev_iadd, ↓ev_isub, ↓ev_imul, ↓ev_iand, ↓ev_ixor, ↓ev_idiv, ↓ev_irem, ↓ev_ineg, ↓ev_i2l, ↓ev_i2b, ↓ev_l2i, ↓ev_ladd, ↓ev_lsub, ↓ev_lmul, ↓ev_land, ↓ev_lor, ↓ev_ldiv, ↓ev_lrem, ↓ev_lushr, ↓ev_lshl, ↓ev_lcmp, ↓ev_dup, ↓ev_pop, ↓ev_dup2, ↓ev_if_icmp, ↓ev_ifCond, ↓ev_goto, ↓ev_ifnull, ↓ev_ifnonnull, ↓ev_tableswitch, ↓ev_lookupswitch, ↓ev_getfield, ↓ev_putfield, ↓ev_getstatic, ↓ev_iaload, ↓ev_baload, ↓ev_laload, ↓ev_aaload, ↓ev_iastore, ↓ev_bastore, ↓ev_lastore, ↓ev_aastore, ↓ev_arraylength, ↓ev_new, ↓ev_newarray, ↓ev_anewarray, ↓ev_invokevirtual, ↓ev_invokestatic, ↓ev_invokespecial, ↓ev_ireturn, ↓ev_lreturn, ↓ev_areturn, ↓ev_ret, ↓ev_0, ↓ev_nil, ↓ev_cons, ↓ev_jp, ↓ev_pI, ↓ev_pII, ↓ev_pL, ↓ev_pLL, ↓ev_pIL, ↓ev_pR, ↓ev_pIR, ↓ev_pIIR, ↓ev_pLIR, ↓ev_pRIR, ↓ev_pop0, ↓ev_popS, ↓iv_eq, ↓iv_ne, ↓iv_lt, ↓iv_ge, ↓iv_gt, ↓iv_le, ↓ev_ldi0, ↓ev_ldiS, ↓ev_ldl0, ↓ev_ldlS, ↓ev_lda0, ↓ev_ldaN, ↓ev_ldaS, ↓ev_staR, ↓ev_staN, ↓ev_pfI, ↓ev_pfZ, ↓ev_pfL, ↓ev_pfR, ↓ev_kc, ↓ev_kcN, ↓inv, bk, sL, gf, tyI, tyIs, tyB, tyQ, tyN, nbk, ekd, elOk, isO, swl, vNat, vI, k1, st1, st2, ent, rtQ, va_rf, List.replicate, List.mem_cons, List.not_mem_nil, or_false, false_or, or_true, true_or, or_self, ↓reduceIte, Nat.reduceAdd, Nat.reduceEqDiff, true_and, and_true, reduceCtorEq, forall_const, false_implies, implies_true, true_implies, not_true_eq_false, not_false_eq_true, e00, e10, e01, e11, lg_eq0, lg_lt0, lg_le0, lg_gt0, lg_ge0, ite_u, Nat.reduceLeDiff, u2_ap, qe1, qe2, ↓reduceIte, Nat.reduceEqDiff, Nat.reduceAdd, Nat.reduceMul, f3, f4]
    try simp (disch := omega) only [z_rm, Nat.add_sub_cancel, Nat.add_one_sub_one, Nat.reduceEqDiff, pk_mul, nI_add, nI_1, pk_sub, pk_div, pk_rem, nI_ltI, nI_leI, nI_eq, z_cl, z_in, z_lt0, z_0le, z_eq0, z_le0, z_0lt, z_m1, z_i2l, z_l2i, z_ult, pk_lLT, pk_lLE, pk_lEQ, lN_add, lN_mul, lN_sub, true_and, and_true, forall_const, false_implies, implies_true, true_implies, not_true_eq_false, not_false_eq_true, Nat.not_lt, Nat.not_le]
    exact ⟨fun q => k3 0 (by rw [if_neg (by omega)]), fun q => ⟨fun q2 => k3 0 (by rw [if_neg (by omega)]), fun q2 => k3 1 (by rw [if_pos (by omega)])⟩⟩
  refine AT.go okB167 0 rfl [51] 90 14 ?_
  simp only [B167, ↓ev_iconst, ↓ev_bipush, ↓ev_sipush, ↓ev_lconst, ↓ev_ldc, ↓ev_ldc_w, ↓ev_ldc2_w, ↓ev_aconst_null, ↓ev_iload, ↓ev_iload_n, ↓ev_lload, ↓ev_lload_n, ↓ev_aload, ↓ev_aload_n, ↓ev_istore, ↓ev_istore_n, ↓ev_lstore, ↓ev_lstore_n, ↓ev_astore, ↓ev_astore_n, ↓ev_iinc, ↓ev_iadd, ↓ev_isub, ↓ev_imul, ↓ev_iand, ↓ev_ixor, ↓ev_idiv, ↓ev_irem, ↓ev_ineg, ↓ev_i2l, ↓ev_i2b, ↓ev_l2i, ↓ev_ladd, ↓ev_lsub, ↓ev_lmul, ↓ev_land, ↓ev_lor, ↓ev_ldiv, ↓ev_lrem, ↓ev_lushr, ↓ev_lshl, ↓ev_lcmp, ↓ev_dup, ↓ev_pop, ↓ev_dup2, ↓ev_if_icmp, ↓ev_ifCond, ↓ev_goto, ↓ev_ifnull, ↓ev_ifnonnull, ↓ev_tableswitch, ↓ev_lookupswitch, ↓ev_getfield, ↓ev_putfield, ↓ev_getstatic, ↓ev_iaload, ↓ev_baload, ↓ev_laload, ↓ev_aaload, ↓ev_iastore, ↓ev_bastore, ↓ev_lastore, ↓ev_aastore, ↓ev_arraylength, ↓ev_new, ↓ev_newarray, ↓ev_anewarray, ↓ev_invokevirtual, ↓ev_invokestatic, ↓ev_invokespecial, ↓ev_ireturn, ↓ev_lreturn, ↓ev_areturn, ↓ev_ret, ↓ev_0, ↓ev_nil, ↓ev_cons, ↓ev_jp, ↓ev_pI, ↓ev_pII, ↓ev_pL, ↓ev_pLL, ↓ev_pIL, ↓ev_pR, ↓ev_pIR, ↓ev_pIIR, ↓ev_pLIR, ↓ev_pRIR, ↓ev_pop0, ↓ev_popS, ↓iv_eq, ↓iv_ne, ↓iv_lt, ↓iv_ge, ↓iv_gt, ↓iv_le, ↓ev_ldi0, ↓ev_ldiS, ↓ev_ldl0, ↓ev_ldlS, ↓ev_lda0, ↓ev_ldaN, ↓ev_ldaS, ↓ev_staR, ↓ev_staN, ↓ev_pfI, ↓ev_pfZ, ↓ev_pfL, ↓ev_pfR, ↓ev_kc, ↓ev_kcN, ↓inv, bk, sL, gf, tyI, tyIs, tyB, tyQ, tyN, nbk, ekd, elOk, isO, swl, vNat, vI, k1, st1, st2, ent, rtQ, va_rf, List.replicate, List.mem_cons, List.not_mem_nil, or_false, false_or, or_true, true_or, or_self, ↓reduceIte, Nat.reduceAdd, Nat.reduceEqDiff, true_and, and_true, reduceCtorEq, forall_const, false_implies, implies_true, true_implies, not_true_eq_false, not_false_eq_true, e00, e10, e01, e11, lg_eq0, lg_lt0, lg_le0, lg_gt0, lg_ge0, ite_u, Nat.reduceLeDiff, u2_ap, qe1, qe2, ↓reduceIte, Nat.reduceEqDiff, Nat.reduceAdd, Nat.reduceMul, S.t24, S.t25, S.t28, S.t29, S.t31, S.t32, S.t33, S.t34, S.t35, S.t36, S.t37, S.t38, S.t39, S.t40, S.t41, S.t42, S.t43, S.t44, S.t46, S.t47, S.t48, S.t49, S.t50, S.t51, S.t52, S.t53, S.t55, S.t56, S.t57, S.t58, S.t64, S.t65, S.t66, S.t67, S.t68, S.t69, S.t70, S.t71, S.t72, S.t74, S.t75, S.t76, S.t77, S.t78, S.t79, S.t80, S.t81, S.t82, S.t83, S.t84, S.t85, S.t88, S.t89, S.t90, S.t91, S.t92, S.t93, S.r24_0, S.r24_3, S.r24_4, S.r24_6, S.r24_7, S.r24_8, S.r24_9, S.r24_10, S.r24_11, S.r24_12, S.r24_13, S.r24_14, S.r24_15, S.r24_16, S.r24_17, S.r24_18, S.r24_19, S.r24_21, S.r24_22, S.r24_23, S.r24_24, S.r24_25, S.r24_26, S.r24_27, S.r24_28, S.r24_30, S.r24_31, S.r24_32, S.r24_33, S.r24_39, S.r24_40, S.r24_41, S.r24_42, S.r24_43, S.r24_44, S.r24_45, S.r24_46, S.r24_47, S.r24_49, S.r24_50, S.r24_51, S.r24_52, S.r24_53, S.r24_54, S.r24_55, S.r24_56, S.r24_57, S.r24_58, S.r24_59, S.r24_60, S.r24_63, S.r24_64, S.r24_65, S.r24_66, S.r24_67, S.r24_68, e1, eb, f1, f2]
  try simp (disch := omega) only [z_rm, Nat.add_sub_cancel, Nat.add_one_sub_one, Nat.reduceEqDiff, pk_mul, nI_add, nI_1, pk_sub, pk_div, pk_rem, nI_ltI, nI_leI, nI_eq, z_cl, z_in, z_lt0, z_0le, z_eq0, z_le0, z_0lt, z_m1, z_i2l, z_l2i, z_ult, pk_lLT, pk_lLE, pk_lEQ, lN_add, lN_mul, lN_sub, true_and, and_true, forall_const, false_implies, implies_true, true_implies, not_true_eq_false, not_false_eq_true, Nat.not_lt, Nat.not_le]
  refine ⟨fun q => absurd q (by omega), fun _ => ?_⟩
  rw [eb, f1, f2]
  exact ⟨fun q => k2 0 (by rw [if_neg (by omega)]), fun q => ⟨fun q2 => k2 0 (by rw [if_neg (by omega)]), fun q2 => k2 1 (by rw [if_pos (by omega)])⟩⟩
/-! what reading leaves in the model behind one token -/
set_option maxRecDepth 100000 in
theorem l_cuPut {n : Nat} {tk : Nat → Tok} {u : Tok} {m : Nat} (hm : m + 1 = n) (I : MIy) (J : MJy) (mny ltr : Int32) (wrt : Int64) (a1 : I 24 2 = nI n) (a2 : ∀ i, i < m → J 28 i = mT9 (tk i) ∧ I 29 i = nI (tL (tk i))) (a3 : J 28 m = mT9 u) (a4 : I 29 m = nI (tL u)) (a5 : mny = nI (tL u)) (a6 : ltr = nI (2 - srT u)) (a7 : wrt = lN (vmT u)) : MRd I J (n, uK tk m u, true) mny ltr wrt := by
  subst hm
  refine ⟨a1, fun i hi => ?_, fun e => by (cases e), fun _ => ?_⟩
  · have hi2 : i < m + 1 := hi
    show J 28 i = mT9 (uK tk m u i) ∧ I 29 i = nI (tL (uK tk m u i))
    by_cases e : i = m
    · subst e
      rw [uK_at]
      exact ⟨a3, a4⟩
    · rw [uK_ne e]
      exact a2 i (by omega)
  · show mny = nI (tL (uK tk m u (m + 1 - 1))) ∧ ltr = nI (2 - srT (uK tk m u (m + 1 - 1))) ∧ wrt = lN (vmT (uK tk m u (m + 1 - 1)))
    rw [Nat.add_sub_cancel, uK_at]
    exact ⟨a5, a6, a7⟩
set_option maxRecDepth 100000 in
theorem l_cutUp {tl : Nat} {tb : Nat → Nat} {I0 : MIy} {J0 : MJy} {r : Nat ⊕ RSt} (S : SH T R) (C : MTp I0 tl tb) {T00 : TTy}
    (h1 : ∀ i I' J', r = .inl i → i < tl → rmK I0 I' J0 J' → Q (some (.int (nI i))) T I' J' R)
    (h2 : ∀ s I' J', r = .inr s → s.1 = 0 → rmK I0 I' J0 J' → Q (some (.int (nI tl))) T I' J' R)
    (h3 : ∀ s I' J' m l w, r = .inr s → s.1 ≠ 0 → okR s → MRd I' J' s m l w → rmK I0 I' J0 J' → Q (some (.int (-9))) T I' J' R) :
    ∀ k i s I J mny ltr wrt x6 x7 x8 x9, i + k = tl → rdF tb k i s = r → okR s → MRd I J s mny ltr wrt → rmK I0 I J0 J → AT G 167 T00 Q 14 [some (.ref 24), some (.int mny), some (.int ltr), some (.long wrt), none, some (.int (nI i)), x6, x7, x8, x9] [] 0 0 T I J R
  | k, i, s, I, J, mny, ltr, wrt, x6, x7, x8, x9, hi, hr, ok, cr, fr => by
    have C0 := C
    obtain ⟨c1, c2, c3⟩ := C
    have e1 : I 24 1 = nI tl := by rw [fr.2.1 1 (by decide)]; exact c1
    have e3 := cr.1
    have e4 := ok.1
    match k, hi, hr with
    | 0, hi, hr =>
      obtain rfl : i = tl := by omega
      refine AT.go okB167 0 rfl [14, 51] 90 14 ?_
      simp only [B167, ↓ev_iconst, ↓ev_bipush, ↓ev_sipush, ↓ev_lconst, ↓ev_ldc, ↓ev_ldc_w, ↓ev_ldc2_w, ↓ev_aconst_null, ↓ev_iload, ↓ev_iload_n, ↓ev_lload, ↓ev_lload_n, ↓ev_aload, ↓ev_aload_n, ↓ev_istore, ↓ev_istore_n, ↓ev_lstore, ↓ev_lstore_n, ↓ev_astore, ↓ev_astore_n, ↓ev_iinc, ↓ev_iadd, ↓ev_isub, ↓ev_imul, ↓ev_iand, ↓ev_ixor, ↓ev_idiv, ↓ev_irem, ↓ev_ineg, ↓ev_i2l, ↓ev_i2b, ↓ev_l2i, ↓ev_ladd, ↓ev_lsub, ↓ev_lmul, ↓ev_land, ↓ev_lor, ↓ev_ldiv, ↓ev_lrem, ↓ev_lushr, ↓ev_lshl, ↓ev_lcmp, ↓ev_dup, ↓ev_pop, ↓ev_dup2, ↓ev_if_icmp, ↓ev_ifCond, ↓ev_goto, ↓ev_ifnull, ↓ev_ifnonnull, ↓ev_tableswitch, ↓ev_lookupswitch, ↓ev_getfield, ↓ev_putfield, ↓ev_getstatic, ↓ev_iaload, ↓ev_baload, ↓ev_laload, ↓ev_aaload, ↓ev_iastore, ↓ev_bastore, ↓ev_lastore, ↓ev_aastore, ↓ev_arraylength, ↓ev_new, ↓ev_newarray, ↓ev_anewarray, ↓ev_invokevirtual, ↓ev_invokestatic, ↓ev_invokespecial, ↓ev_ireturn, ↓ev_lreturn, ↓ev_areturn, ↓ev_ret, ↓ev_0, ↓ev_nil, ↓ev_cons, ↓ev_jp, ↓ev_pI, ↓ev_pII, ↓ev_pL, ↓ev_pLL, ↓ev_pIL, ↓ev_pR, ↓ev_pIR, ↓ev_pIIR, ↓ev_pLIR, ↓ev_pRIR, ↓ev_pop0, ↓ev_popS, ↓iv_eq, ↓iv_ne, ↓iv_lt, ↓iv_ge, ↓iv_gt, ↓iv_le, ↓ev_ldi0, ↓ev_ldiS, ↓ev_ldl0, ↓ev_ldlS, ↓ev_lda0, ↓ev_ldaN, ↓ev_ldaS, ↓ev_staR, ↓ev_staN, ↓ev_pfI, ↓ev_pfZ, ↓ev_pfL, ↓ev_pfR, ↓ev_kc, ↓ev_kcN, ↓inv, bk, sL, gf, tyI, tyIs, tyB, tyQ, tyN, nbk, ekd, elOk, isO, swl, vNat, vI, k1, st1, st2, ent, rtQ, va_rf, List.replicate, List.mem_cons, List.not_mem_nil, or_false, false_or, or_true, true_or, or_self, ↓reduceIte, Nat.reduceAdd, Nat.reduceEqDiff, true_and, and_true, reduceCtorEq, forall_const, false_implies, implies_true, true_implies, not_true_eq_false, not_false_eq_true, e00, e10, e01, e11, lg_eq0, lg_lt0, lg_le0, lg_gt0, lg_ge0, ite_u, Nat.reduceLeDiff, u2_ap, qe1, qe2, ↓reduceIte, Nat.reduceEqDiff, Nat.reduceAdd, Nat.reduceMul, S.t24, S.t25, S.t28, S.t29, S.t31, S.t32, S.t33, S.t34, S.t35, S.t36, S.t37, S.t38, S.t39, S.t40, S.t41, S.t42, S.t43, S.t44, S.t46, S.t47, S.t48, S.t49, S.t50, S.t51, S.t52, S.t53, S.t55, S.t56, S.t57, S.t58, S.t64, S.t65, S.t66, S.t67, S.t68, S.t69, S.t70, S.t71, S.t72, S.t74, S.t75, S.t76, S.t77, S.t78, S.t79, S.t80, S.t81, S.t82, S.t83, S.t84, S.t85, S.t88, S.t89, S.t90, S.t91, S.t92, S.t93, S.r24_0, S.r24_3, S.r24_4, S.r24_6, S.r24_7, S.r24_8, S.r24_9, S.r24_10, S.r24_11, S.r24_12, S.r24_13, S.r24_14, S.r24_15, S.r24_16, S.r24_17, S.r24_18, S.r24_19, S.r24_21, S.r24_22, S.r24_23, S.r24_24, S.r24_25, S.r24_26, S.r24_27, S.r24_28, S.r24_30, S.r24_31, S.r24_32, S.r24_33, S.r24_39, S.r24_40, S.r24_41, S.r24_42, S.r24_43, S.r24_44, S.r24_45, S.r24_46, S.r24_47, S.r24_49, S.r24_50, S.r24_51, S.r24_52, S.r24_53, S.r24_54, S.r24_55, S.r24_56, S.r24_57, S.r24_58, S.r24_59, S.r24_60, S.r24_63, S.r24_64, S.r24_65, S.r24_66, S.r24_67, S.r24_68, e1, e3]
      try simp (disch := omega) only [z_rm, Nat.add_sub_cancel, Nat.add_one_sub_one, Nat.reduceEqDiff, pk_mul, nI_add, nI_1, pk_sub, pk_div, pk_rem, nI_ltI, nI_leI, nI_eq, z_cl, z_in, z_lt0, z_0le, z_eq0, z_le0, z_0lt, z_m1, z_i2l, z_l2i, z_ult, pk_lLT, pk_lLE, pk_lEQ, lN_add, lN_mul, lN_sub, true_and, and_true, forall_const, false_implies, implies_true, true_implies, not_true_eq_false, not_false_eq_true, Nat.not_lt, Nat.not_le]
      refine ⟨fun _ => ⟨fun q => ?_, fun q => ?_⟩, fun q => absurd q (by omega)⟩
      · exact h2 s I J hr.symm q fr
      · exact h3 s I J _ _ _ hr.symm q ok cr fr
    | k + 1, hi, hr =>
      have e5 : I 25 i = bS (tb i) := by rw [fr.1 25 (by decide) (by decide)]; exact (c3 i (by omega)).1
      have e6 := (c3 i (by omega)).2
      unfold rdF at hr
      generalize tb i = b at e5 e6 hr
      obtain ⟨n, tk, op⟩ := s
      obtain ⟨o1, o2, o3⟩ := id ok
      obtain ⟨-, m2, m3, m4⟩ := cr
      dsimp only at e3 e4 o1 o2 o3 m2 m3 m4
      have nx : ∀ s' I' J' m' l' w' y6 y7 y8 y9, rstp b (n, tk, op) = some s' → MRd I' J' s' m' l' w' → rmK I I' J J' → AT G 167 T00 Q 14 [some (.ref 24), some (.int m'), some (.int l'), some (.long w'), none, some (.int (nI (i + 1))), y6, y7, y8, y9] [] 0 0 T I' J' R := by
        intro s' I' J' m' l' w' y6 y7 y8 y9 a c d
        rw [a] at hr
        exact l_cutUp S C0 h1 h2 h3 k (i + 1) s' I' J' m' l' w' _ _ _ _ (by omega) hr (rstp_ok ok a) c (fr.tr d)
      have ft : rstp b (n, tk, op) = none → Q (some (.int (nI i))) T I J R := by
        intro a
        rw [a] at hr
        exact h1 i I J hr.symm (by omega) fr
      refine l_cu1 S e1 (by omega) (by omega) e5 e6 (fun q => ?_) (fun q => ?_) (fun q => ?_) (fun q => ft (by unfold rstp; rw [if_neg (by omega), if_pos q]))
      · refine AT.go okB167 0 rfl [14, 106] 90 94 ?_
        simp only [B167, ↓ev_iconst, ↓ev_bipush, ↓ev_sipush, ↓ev_lconst, ↓ev_ldc, ↓ev_ldc_w, ↓ev_ldc2_w, ↓ev_aconst_null, ↓ev_iload, ↓ev_iload_n, ↓ev_lload, ↓ev_lload_n, ↓ev_aload, ↓ev_aload_n, ↓ev_istore, ↓ev_istore_n, ↓ev_lstore, ↓ev_lstore_n, ↓ev_astore, ↓ev_astore_n, ↓ev_iinc, ↓ev_iadd, ↓ev_isub, ↓ev_imul, ↓ev_iand, ↓ev_ixor, ↓ev_idiv, ↓ev_irem, ↓ev_ineg, ↓ev_i2l, ↓ev_i2b, ↓ev_l2i, ↓ev_ladd, ↓ev_lsub, ↓ev_lmul, ↓ev_land, ↓ev_lor, ↓ev_ldiv, ↓ev_lrem, ↓ev_lushr, ↓ev_lshl, ↓ev_lcmp, ↓ev_dup, ↓ev_pop, ↓ev_dup2, ↓ev_if_icmp, ↓ev_ifCond, ↓ev_goto, ↓ev_ifnull, ↓ev_ifnonnull, ↓ev_tableswitch, ↓ev_lookupswitch, ↓ev_getfield, ↓ev_putfield, ↓ev_getstatic, ↓ev_iaload, ↓ev_baload, ↓ev_laload, ↓ev_aaload, ↓ev_iastore, ↓ev_bastore, ↓ev_lastore, ↓ev_aastore, ↓ev_arraylength, ↓ev_new, ↓ev_newarray, ↓ev_anewarray, ↓ev_invokevirtual, ↓ev_invokestatic, ↓ev_invokespecial, ↓ev_ireturn, ↓ev_lreturn, ↓ev_areturn, ↓ev_ret, ↓ev_0, ↓ev_nil, ↓ev_cons, ↓ev_jp, ↓ev_pI, ↓ev_pII, ↓ev_pL, ↓ev_pLL, ↓ev_pIL, ↓ev_pR, ↓ev_pIR, ↓ev_pIIR, ↓ev_pLIR, ↓ev_pRIR, ↓ev_pop0, ↓ev_popS, ↓iv_eq, ↓iv_ne, ↓iv_lt, ↓iv_ge, ↓iv_gt, ↓iv_le, ↓ev_ldi0, ↓ev_ldiS, ↓ev_ldl0, ↓ev_ldlS, ↓ev_lda0, ↓ev_ldaN, ↓ev_ldaS, ↓ev_staR, ↓ev_staN, ↓ev_pfI, ↓ev_pfZ, ↓ev_pfL, ↓ev_pfR, ↓ev_kc, ↓ev_kcN, ↓inv, bk, sL, gf, tyI, tyIs, tyB, tyQ, tyN, nbk, ekd, elOk, isO, swl, vNat, vI, k1, st1, st2, ent, rtQ, va_rf, List.replicate, List.mem_cons, List.not_mem_nil, or_false, false_or, or_true, true_or, or_self, ↓reduceIte, Nat.reduceAdd, Nat.reduceEqDiff, true_and, and_true, reduceCtorEq, forall_const, false_implies, implies_true, true_implies, not_true_eq_false, not_false_eq_true, e00, e10, e01, e11, lg_eq0, lg_lt0, lg_le0, lg_gt0, lg_ge0, ite_u, Nat.reduceLeDiff, u2_ap, qe1, qe2, ↓reduceIte, Nat.reduceEqDiff, Nat.reduceAdd, Nat.reduceMul]
        try simp (disch := omega) only [z_rm, Nat.add_sub_cancel, Nat.add_one_sub_one, Nat.reduceEqDiff, pk_mul, nI_add, nI_1, pk_sub, pk_div, pk_rem, nI_ltI, nI_leI, nI_eq, z_cl, z_in, z_lt0, z_0le, z_eq0, z_le0, z_0lt, z_m1, z_i2l, z_l2i, z_ult, pk_lLT, pk_lLE, pk_lEQ, lN_add, lN_mul, lN_sub, true_and, and_true, forall_const, false_implies, implies_true, true_implies, not_true_eq_false, not_false_eq_true, Nat.not_lt, Nat.not_le]
        exact nx (n, tk, false) _ _ _ _ _ _ _ _ _ (by unfold rstp; rw [if_pos q]) ⟨e3, m2, fun _ => rfl, fun z => by (cases z)⟩ (rmK.rf I J)
      · have hb := sort_1 q
        refine AT.go okB167 0 rfl [14, 106] 90 94 ?_
        simp only [B167, ↓ev_iconst, ↓ev_bipush, ↓ev_sipush, ↓ev_lconst, ↓ev_ldc, ↓ev_ldc_w, ↓ev_ldc2_w, ↓ev_aconst_null, ↓ev_iload, ↓ev_iload_n, ↓ev_lload, ↓ev_lload_n, ↓ev_aload, ↓ev_aload_n, ↓ev_istore, ↓ev_istore_n, ↓ev_lstore, ↓ev_lstore_n, ↓ev_astore, ↓ev_astore_n, ↓ev_iinc, ↓ev_iadd, ↓ev_isub, ↓ev_imul, ↓ev_iand, ↓ev_ixor, ↓ev_idiv, ↓ev_irem, ↓ev_ineg, ↓ev_i2l, ↓ev_i2b, ↓ev_l2i, ↓ev_ladd, ↓ev_lsub, ↓ev_lmul, ↓ev_land, ↓ev_lor, ↓ev_ldiv, ↓ev_lrem, ↓ev_lushr, ↓ev_lshl, ↓ev_lcmp, ↓ev_dup, ↓ev_pop, ↓ev_dup2, ↓ev_if_icmp, ↓ev_ifCond, ↓ev_goto, ↓ev_ifnull, ↓ev_ifnonnull, ↓ev_tableswitch, ↓ev_lookupswitch, ↓ev_getfield, ↓ev_putfield, ↓ev_getstatic, ↓ev_iaload, ↓ev_baload, ↓ev_laload, ↓ev_aaload, ↓ev_iastore, ↓ev_bastore, ↓ev_lastore, ↓ev_aastore, ↓ev_arraylength, ↓ev_new, ↓ev_newarray, ↓ev_anewarray, ↓ev_invokevirtual, ↓ev_invokestatic, ↓ev_invokespecial, ↓ev_ireturn, ↓ev_lreturn, ↓ev_areturn, ↓ev_ret, ↓ev_0, ↓ev_nil, ↓ev_cons, ↓ev_jp, ↓ev_pI, ↓ev_pII, ↓ev_pL, ↓ev_pLL, ↓ev_pIL, ↓ev_pR, ↓ev_pIR, ↓ev_pIIR, ↓ev_pLIR, ↓ev_pRIR, ↓ev_pop0, ↓ev_popS, ↓iv_eq, ↓iv_ne, ↓iv_lt, ↓iv_ge, ↓iv_gt, ↓iv_le, ↓ev_ldi0, ↓ev_ldiS, ↓ev_ldl0, ↓ev_ldlS, ↓ev_lda0, ↓ev_ldaN, ↓ev_ldaS, ↓ev_staR, ↓ev_staN, ↓ev_pfI, ↓ev_pfZ, ↓ev_pfL, ↓ev_pfR, ↓ev_kc, ↓ev_kcN, ↓inv, bk, sL, gf, tyI, tyIs, tyB, tyQ, tyN, nbk, ekd, elOk, isO, swl, vNat, vI, k1, st1, st2, ent, rtQ, va_rf, List.replicate, List.mem_cons, List.not_mem_nil, or_false, false_or, or_true, true_or, or_self, ↓reduceIte, Nat.reduceAdd, Nat.reduceEqDiff, true_and, and_true, reduceCtorEq, forall_const, false_implies, implies_true, true_implies, not_true_eq_false, not_false_eq_true, e00, e10, e01, e11, lg_eq0, lg_lt0, lg_le0, lg_gt0, lg_ge0, ite_u, Nat.reduceLeDiff, u2_ap, qe1, qe2, ↓reduceIte, Nat.reduceEqDiff, Nat.reduceAdd, Nat.reduceMul]
        try simp (disch := omega) only [z_rm, Nat.add_sub_cancel, Nat.add_one_sub_one, Nat.reduceEqDiff, pk_mul, nI_add, nI_1, pk_sub, pk_div, pk_rem, nI_ltI, nI_leI, nI_eq, z_cl, z_in, z_lt0, z_0le, z_eq0, z_le0, z_0lt, z_m1, z_i2l, z_l2i, z_ult, pk_lLT, pk_lLE, pk_lEQ, lN_add, lN_mul, lN_sub, true_and, and_true, forall_const, false_implies, implies_true, true_implies, not_true_eq_false, not_false_eq_true, Nat.not_lt, Nat.not_le]
        refine ⟨fun z => absurd z (by omega), fun _ => ?_⟩
        cases op with
        | false =>
          have er : rstp b (n, tk, false) = if n < 20 then some (n + 1, uK tk n (.inr [b - 97]), true) else none := by
            unfold rstp nwT
            rw [if_neg (by omega), if_neg (by omega), if_neg (show ¬ false = true by decide), if_pos q]
          rw [m3 rfl]
          refine AT.go okB167 0 rfl [14] 90 106 ?_
          simp only [B167, ↓ev_iconst, ↓ev_bipush, ↓ev_sipush, ↓ev_lconst, ↓ev_ldc, ↓ev_ldc_w, ↓ev_ldc2_w, ↓ev_aconst_null, ↓ev_iload, ↓ev_iload_n, ↓ev_lload, ↓ev_lload_n, ↓ev_aload, ↓ev_aload_n, ↓ev_istore, ↓ev_istore_n, ↓ev_lstore, ↓ev_lstore_n, ↓ev_astore, ↓ev_astore_n, ↓ev_iinc, ↓ev_iadd, ↓ev_isub, ↓ev_imul, ↓ev_iand, ↓ev_ixor, ↓ev_idiv, ↓ev_irem, ↓ev_ineg, ↓ev_i2l, ↓ev_i2b, ↓ev_l2i, ↓ev_ladd, ↓ev_lsub, ↓ev_lmul, ↓ev_land, ↓ev_lor, ↓ev_ldiv, ↓ev_lrem, ↓ev_lushr, ↓ev_lshl, ↓ev_lcmp, ↓ev_dup, ↓ev_pop, ↓ev_dup2, ↓ev_if_icmp, ↓ev_ifCond, ↓ev_goto, ↓ev_ifnull, ↓ev_ifnonnull, ↓ev_tableswitch, ↓ev_lookupswitch, ↓ev_getfield, ↓ev_putfield, ↓ev_getstatic, ↓ev_iaload, ↓ev_baload, ↓ev_laload, ↓ev_aaload, ↓ev_iastore, ↓ev_bastore, ↓ev_lastore, ↓ev_aastore, ↓ev_arraylength, ↓ev_new, ↓ev_newarray, ↓ev_anewarray, ↓ev_invokevirtual, ↓ev_invokestatic, ↓ev_invokespecial, ↓ev_ireturn, ↓ev_lreturn, ↓ev_areturn, ↓ev_ret, ↓ev_0, ↓ev_nil, ↓ev_cons, ↓ev_jp, ↓ev_pI, ↓ev_pII, ↓ev_pL, ↓ev_pLL, ↓ev_pIL, ↓ev_pR, ↓ev_pIR, ↓ev_pIIR, ↓ev_pLIR, ↓ev_pRIR, ↓ev_pop0, ↓ev_popS, ↓iv_eq, ↓iv_ne, ↓iv_lt, ↓iv_ge, ↓iv_gt, ↓iv_le, ↓ev_ldi0, ↓ev_ldiS, ↓ev_ldl0, ↓ev_ldlS, ↓ev_lda0, ↓ev_ldaN, ↓ev_ldaS, ↓ev_staR, ↓ev_staN, ↓ev_pfI, ↓ev_pfZ, ↓ev_pfL, ↓ev_pfR, ↓ev_kc, ↓ev_kcN, ↓inv, bk, sL, gf, tyI, tyIs, tyB, tyQ, tyN, nbk, ekd, elOk, isO, swl, vNat, vI, k1, st1, st2, ent, rtQ, va_rf, List.replicate, List.mem_cons, List.not_mem_nil, or_false, false_or, or_true, true_or, or_self, ↓reduceIte, Nat.reduceAdd, Nat.reduceEqDiff, true_and, and_true, reduceCtorEq, forall_const, false_implies, implies_true, true_implies, not_true_eq_false, not_false_eq_true, e00, e10, e01, e11, lg_eq0, lg_lt0, lg_le0, lg_gt0, lg_ge0, ite_u, Nat.reduceLeDiff, u2_ap, qe1, qe2, ↓reduceIte, Nat.reduceEqDiff, Nat.reduceAdd, Nat.reduceMul, S.t24, S.t25, S.t28, S.t29, S.t31, S.t32, S.t33, S.t34, S.t35, S.t36, S.t37, S.t38, S.t39, S.t40, S.t41, S.t42, S.t43, S.t44, S.t46, S.t47, S.t48, S.t49, S.t50, S.t51, S.t52, S.t53, S.t55, S.t56, S.t57, S.t58, S.t64, S.t65, S.t66, S.t67, S.t68, S.t69, S.t70, S.t71, S.t72, S.t74, S.t75, S.t76, S.t77, S.t78, S.t79, S.t80, S.t81, S.t82, S.t83, S.t84, S.t85, S.t88, S.t89, S.t90, S.t91, S.t92, S.t93, S.r24_0, S.r24_3, S.r24_4, S.r24_6, S.r24_7, S.r24_8, S.r24_9, S.r24_10, S.r24_11, S.r24_12, S.r24_13, S.r24_14, S.r24_15, S.r24_16, S.r24_17, S.r24_18, S.r24_19, S.r24_21, S.r24_22, S.r24_23, S.r24_24, S.r24_25, S.r24_26, S.r24_27, S.r24_28, S.r24_30, S.r24_31, S.r24_32, S.r24_33, S.r24_39, S.r24_40, S.r24_41, S.r24_42, S.r24_43, S.r24_44, S.r24_45, S.r24_46, S.r24_47, S.r24_49, S.r24_50, S.r24_51, S.r24_52, S.r24_53, S.r24_54, S.r24_55, S.r24_56, S.r24_57, S.r24_58, S.r24_59, S.r24_60, S.r24_63, S.r24_64, S.r24_65, S.r24_66, S.r24_67, S.r24_68, e3]
          try simp (disch := omega) only [z_rm, Nat.add_sub_cancel, Nat.add_one_sub_one, Nat.reduceEqDiff, pk_mul, nI_add, nI_1, pk_sub, pk_div, pk_rem, nI_ltI, nI_leI, nI_eq, z_cl, z_in, z_lt0, z_0le, z_eq0, z_le0, z_0lt, z_m1, z_i2l, z_l2i, z_ult, pk_lLT, pk_lLE, pk_lEQ, lN_add, lN_mul, lN_sub, true_and, and_true, forall_const, false_implies, implies_true, true_implies, not_true_eq_false, not_false_eq_true, Nat.not_lt, Nat.not_le]
          refine ⟨fun hn => ft (by rw [er, if_neg (by omega)]), fun hn => ?_⟩
          · refine nx (n + 1, uK tk n (.inr [b - 97]), true) _ _ _ _ _ _ _ _ _ (by rw [er, if_pos (by omega)]) (l_cuPut (m := n) rfl _ _ _ _ _ ?_ (fun j hj => ?_) ?_ ?_ rfl rfl ?_) ⟨fun y y1 y2 => by rw [u2_row y2, u2_row y1], fun k hk => by rw [u2_row (by decide), u2_ne (by omega)], fun y y1 => u2_row y1⟩
            · rw [u2_row (by decide), u2_at]
            · rw [u2_ne (by omega), u2_ne (by omega), u2_row (by decide)]
              exact m2 j hj
            · rw [u2_at]
              show lN (b - 96) = lN (0 * 27 + (b - 97 + 1))
              congr 1
              omega
            · rw [u2_at]
              rfl
            · show lN (b - 96) = lN (0 * 27 + (b - 97 + 1))
              congr 1
              omega
        | true =>
          have hn0 := o3 rfl
          obtain ⟨d1, d2, d3⟩ := m4 rfl
          have htk := o2 (n - 1) (by omega)
          have er : rstp b (n, tk, true) = (grT b (tk (n - 1))).map fun t => (n, uK tk (n - 1) t, true) := by
            unfold rstp
            rw [if_neg (by omega), if_neg (by omega), if_pos rfl]
          cases htt : tk (n - 1) with
          | inl v =>
            rw [htt] at d1 d2 d3 htk er
            have hv : v < 1000000000 := htk
            have hdg := dg_spec htk
            have a1 : mny = nI (sb_dg v) := d1
            have a2 : ltr = nI 0 := d2
            subst a1 a2
            simp only [grT] at er
            rw [if_neg (by omega)] at er
            have e10' : ¬ nI 1 = nI 0 := by decide
            have hz := nz0 (a := sb_dg v) (by omega) (by omega)
            refine AT.go okB167 0 rfl [14] 90 106 ?_
            simp only [B167, ↓ev_iconst, ↓ev_bipush, ↓ev_sipush, ↓ev_lconst, ↓ev_ldc, ↓ev_ldc_w, ↓ev_ldc2_w, ↓ev_aconst_null, ↓ev_iload, ↓ev_iload_n, ↓ev_lload, ↓ev_lload_n, ↓ev_aload, ↓ev_aload_n, ↓ev_istore, ↓ev_istore_n, ↓ev_lstore, ↓ev_lstore_n, ↓ev_astore, ↓ev_astore_n, ↓ev_iinc, ↓ev_iadd, ↓ev_isub, ↓ev_imul, ↓ev_iand, ↓ev_ixor, ↓ev_idiv, ↓ev_irem, ↓ev_ineg, ↓ev_i2l, ↓ev_i2b, ↓ev_l2i, ↓ev_ladd, ↓ev_lsub, ↓ev_lmul, ↓ev_land, ↓ev_lor, ↓ev_ldiv, ↓ev_lrem, ↓ev_lushr, ↓ev_lshl, ↓ev_lcmp, ↓ev_dup, ↓ev_pop, ↓ev_dup2, ↓ev_if_icmp, ↓ev_ifCond, ↓ev_goto, ↓ev_ifnull, ↓ev_ifnonnull, ↓ev_tableswitch, ↓ev_lookupswitch, ↓ev_getfield, ↓ev_putfield, ↓ev_getstatic, ↓ev_iaload, ↓ev_baload, ↓ev_laload, ↓ev_aaload, ↓ev_iastore, ↓ev_bastore, ↓ev_lastore, ↓ev_aastore, ↓ev_arraylength, ↓ev_new, ↓ev_newarray, ↓ev_anewarray, ↓ev_invokevirtual, ↓ev_invokestatic, ↓ev_invokespecial, ↓ev_ireturn, ↓ev_lreturn, ↓ev_areturn, ↓ev_ret, ↓ev_0, ↓ev_nil, ↓ev_cons, ↓ev_jp, ↓ev_pI, ↓ev_pII, ↓ev_pL, ↓ev_pLL, ↓ev_pIL, ↓ev_pR, ↓ev_pIR, ↓ev_pIIR, ↓ev_pLIR, ↓ev_pRIR, ↓ev_pop0, ↓ev_popS, ↓iv_eq, ↓iv_ne, ↓iv_lt, ↓iv_ge, ↓iv_gt, ↓iv_le, ↓ev_ldi0, ↓ev_ldiS, ↓ev_ldl0, ↓ev_ldlS, ↓ev_lda0, ↓ev_ldaN, ↓ev_ldaS, ↓ev_staR, ↓ev_staN, ↓ev_pfI, ↓ev_pfZ, ↓ev_pfL, ↓ev_pfR, ↓ev_kc, ↓ev_kcN, ↓inv, bk, sL, gf, tyI, tyIs, tyB, tyQ, tyN, nbk, ekd, elOk, isO, swl, vNat, vI, k1, st1, st2, ent, rtQ, va_rf, List.replicate, List.mem_cons, List.not_mem_nil, or_false, false_or, or_true, true_or, or_self, ↓reduceIte, Nat.reduceAdd, Nat.reduceEqDiff, true_and, and_true, reduceCtorEq, forall_const, false_implies, implies_true, true_implies, not_true_eq_false, not_false_eq_true, e00, e10, e01, e11, lg_eq0, lg_lt0, lg_le0, lg_gt0, lg_ge0, ite_u, Nat.reduceLeDiff, u2_ap, qe1, qe2, ↓reduceIte, Nat.reduceEqDiff, Nat.reduceAdd, Nat.reduceMul, S.t24, S.t25, S.t28, S.t29, S.t31, S.t32, S.t33, S.t34, S.t35, S.t36, S.t37, S.t38, S.t39, S.t40, S.t41, S.t42, S.t43, S.t44, S.t46, S.t47, S.t48, S.t49, S.t50, S.t51, S.t52, S.t53, S.t55, S.t56, S.t57, S.t58, S.t64, S.t65, S.t66, S.t67, S.t68, S.t69, S.t70, S.t71, S.t72, S.t74, S.t75, S.t76, S.t77, S.t78, S.t79, S.t80, S.t81, S.t82, S.t83, S.t84, S.t85, S.t88, S.t89, S.t90, S.t91, S.t92, S.t93, S.r24_0, S.r24_3, S.r24_4, S.r24_6, S.r24_7, S.r24_8, S.r24_9, S.r24_10, S.r24_11, S.r24_12, S.r24_13, S.r24_14, S.r24_15, S.r24_16, S.r24_17, S.r24_18, S.r24_19, S.r24_21, S.r24_22, S.r24_23, S.r24_24, S.r24_25, S.r24_26, S.r24_27, S.r24_28, S.r24_30, S.r24_31, S.r24_32, S.r24_33, S.r24_39, S.r24_40, S.r24_41, S.r24_42, S.r24_43, S.r24_44, S.r24_45, S.r24_46, S.r24_47, S.r24_49, S.r24_50, S.r24_51, S.r24_52, S.r24_53, S.r24_54, S.r24_55, S.r24_56, S.r24_57, S.r24_58, S.r24_59, S.r24_60, S.r24_63, S.r24_64, S.r24_65, S.r24_66, S.r24_67, S.r24_68, e3, e10', hz]
            try simp (disch := omega) only [z_rm, Nat.add_sub_cancel, Nat.add_one_sub_one, Nat.reduceEqDiff, pk_mul, nI_add, nI_1, pk_sub, pk_div, pk_rem, nI_ltI, nI_leI, nI_eq, z_cl, z_in, z_lt0, z_0le, z_eq0, z_le0, z_0lt, z_m1, z_i2l, z_l2i, z_ult, pk_lLT, pk_lLE, pk_lEQ, lN_add, lN_mul, lN_sub, true_and, and_true, forall_const, false_implies, implies_true, true_implies, not_true_eq_false, not_false_eq_true, Nat.not_lt, Nat.not_le]
            exact ft er
          | inr l =>
            rw [htt] at d1 d2 d3 htk er
            have hl := htk.2.2
            have hl1 := htk.2.1
            have hp := pk_small htk (b := 27) (by decide) (by decide)
            have a1 : mny = nI l.length := d1
            have a2 : ltr = nI 1 := d2
            have a3 : wrt = lN (pk 27 l) := d3
            subst a1 a2 a3
            simp only [grT] at er
            have hz := nz0 (a := l.length) (by omega) (by omega)
            refine AT.go okB167 0 rfl [14] 90 106 ?_
            simp only [B167, ↓ev_iconst, ↓ev_bipush, ↓ev_sipush, ↓ev_lconst, ↓ev_ldc, ↓ev_ldc_w, ↓ev_ldc2_w, ↓ev_aconst_null, ↓ev_iload, ↓ev_iload_n, ↓ev_lload, ↓ev_lload_n, ↓ev_aload, ↓ev_aload_n, ↓ev_istore, ↓ev_istore_n, ↓ev_lstore, ↓ev_lstore_n, ↓ev_astore, ↓ev_astore_n, ↓ev_iinc, ↓ev_iadd, ↓ev_isub, ↓ev_imul, ↓ev_iand, ↓ev_ixor, ↓ev_idiv, ↓ev_irem, ↓ev_ineg, ↓ev_i2l, ↓ev_i2b, ↓ev_l2i, ↓ev_ladd, ↓ev_lsub, ↓ev_lmul, ↓ev_land, ↓ev_lor, ↓ev_ldiv, ↓ev_lrem, ↓ev_lushr, ↓ev_lshl, ↓ev_lcmp, ↓ev_dup, ↓ev_pop, ↓ev_dup2, ↓ev_if_icmp, ↓ev_ifCond, ↓ev_goto, ↓ev_ifnull, ↓ev_ifnonnull, ↓ev_tableswitch, ↓ev_lookupswitch, ↓ev_getfield, ↓ev_putfield, ↓ev_getstatic, ↓ev_iaload, ↓ev_baload, ↓ev_laload, ↓ev_aaload, ↓ev_iastore, ↓ev_bastore, ↓ev_lastore, ↓ev_aastore, ↓ev_arraylength, ↓ev_new, ↓ev_newarray, ↓ev_anewarray, ↓ev_invokevirtual, ↓ev_invokestatic, ↓ev_invokespecial, ↓ev_ireturn, ↓ev_lreturn, ↓ev_areturn, ↓ev_ret, ↓ev_0, ↓ev_nil, ↓ev_cons, ↓ev_jp, ↓ev_pI, ↓ev_pII, ↓ev_pL, ↓ev_pLL, ↓ev_pIL, ↓ev_pR, ↓ev_pIR, ↓ev_pIIR, ↓ev_pLIR, ↓ev_pRIR, ↓ev_pop0, ↓ev_popS, ↓iv_eq, ↓iv_ne, ↓iv_lt, ↓iv_ge, ↓iv_gt, ↓iv_le, ↓ev_ldi0, ↓ev_ldiS, ↓ev_ldl0, ↓ev_ldlS, ↓ev_lda0, ↓ev_ldaN, ↓ev_ldaS, ↓ev_staR, ↓ev_staN, ↓ev_pfI, ↓ev_pfZ, ↓ev_pfL, ↓ev_pfR, ↓ev_kc, ↓ev_kcN, ↓inv, bk, sL, gf, tyI, tyIs, tyB, tyQ, tyN, nbk, ekd, elOk, isO, swl, vNat, vI, k1, st1, st2, ent, rtQ, va_rf, List.replicate, List.mem_cons, List.not_mem_nil, or_false, false_or, or_true, true_or, or_self, ↓reduceIte, Nat.reduceAdd, Nat.reduceEqDiff, true_and, and_true, reduceCtorEq, forall_const, false_implies, implies_true, true_implies, not_true_eq_false, not_false_eq_true, e00, e10, e01, e11, lg_eq0, lg_lt0, lg_le0, lg_gt0, lg_ge0, ite_u, Nat.reduceLeDiff, u2_ap, qe1, qe2, ↓reduceIte, Nat.reduceEqDiff, Nat.reduceAdd, Nat.reduceMul, S.t24, S.t25, S.t28, S.t29, S.t31, S.t32, S.t33, S.t34, S.t35, S.t36, S.t37, S.t38, S.t39, S.t40, S.t41, S.t42, S.t43, S.t44, S.t46, S.t47, S.t48, S.t49, S.t50, S.t51, S.t52, S.t53, S.t55, S.t56, S.t57, S.t58, S.t64, S.t65, S.t66, S.t67, S.t68, S.t69, S.t70, S.t71, S.t72, S.t74, S.t75, S.t76, S.t77, S.t78, S.t79, S.t80, S.t81, S.t82, S.t83, S.t84, S.t85, S.t88, S.t89, S.t90, S.t91, S.t92, S.t93, S.r24_0, S.r24_3, S.r24_4, S.r24_6, S.r24_7, S.r24_8, S.r24_9, S.r24_10, S.r24_11, S.r24_12, S.r24_13, S.r24_14, S.r24_15, S.r24_16, S.r24_17, S.r24_18, S.r24_19, S.r24_21, S.r24_22, S.r24_23, S.r24_24, S.r24_25, S.r24_26, S.r24_27, S.r24_28, S.r24_30, S.r24_31, S.r24_32, S.r24_33, S.r24_39, S.r24_40, S.r24_41, S.r24_42, S.r24_43, S.r24_44, S.r24_45, S.r24_46, S.r24_47, S.r24_49, S.r24_50, S.r24_51, S.r24_52, S.r24_53, S.r24_54, S.r24_55, S.r24_56, S.r24_57, S.r24_58, S.r24_59, S.r24_60, S.r24_63, S.r24_64, S.r24_65, S.r24_66, S.r24_67, S.r24_68, e3, hz]
            try simp (disch := omega) only [z_rm, Nat.add_sub_cancel, Nat.add_one_sub_one, Nat.reduceEqDiff, pk_mul, nI_add, nI_1, pk_sub, pk_div, pk_rem, nI_ltI, nI_leI, nI_eq, z_cl, z_in, z_lt0, z_0le, z_eq0, z_le0, z_0lt, z_m1, z_i2l, z_l2i, z_ult, pk_lLT, pk_lLE, pk_lEQ, lN_add, lN_mul, lN_sub, true_and, and_true, forall_const, false_implies, implies_true, true_implies, not_true_eq_false, not_false_eq_true, Nat.not_lt, Nat.not_le]
            refine ⟨fun z => ft ?_, fun z => ?_⟩
            · rw [er, if_neg (by omega)]
              rfl
            · rw [if_pos (by omega)] at er
              refine nx (n, uK tk (n - 1) (.inr (l ++ [b - 97])), true) _ _ _ _ _ _ _ _ _ er (l_cuPut (m := n - 1) (by omega) _ _ _ _ _ ?_ (fun j hj => ?_) ?_ ?_ ?_ rfl ?_) ⟨fun y y1 y2 => u2_row y2, fun k hk => by rw [u2_row (by decide)], fun y y1 => u2_row y1⟩
              · rw [u2_row (by decide)]
                exact e3
              · rw [u2_ne (by omega), u2_ne (by omega)]
                exact m2 j (by omega)
              · rw [u2_at]
                show lN (27 * pk 27 l + b - 96) = lN (pk 27 (l ++ [b - 97]))
                rw [pk_snoc]
                congr 1
                omega
              · rw [u2_at]
                show _ = nI (l ++ [b - 97]).length
                rw [List.length_append]
                rfl
              · show _ = nI (l ++ [b - 97]).length
                rw [List.length_append]
                rfl
              · show lN (27 * pk 27 l + b - 96) = lN (pk 27 (l ++ [b - 97]))
                rw [pk_snoc]
                congr 1
                omega
      · have hb := sort_2 q
        refine AT.go okB167 0 rfl [14, 106] 90 94 ?_
        simp only [B167, ↓ev_iconst, ↓ev_bipush, ↓ev_sipush, ↓ev_lconst, ↓ev_ldc, ↓ev_ldc_w, ↓ev_ldc2_w, ↓ev_aconst_null, ↓ev_iload, ↓ev_iload_n, ↓ev_lload, ↓ev_lload_n, ↓ev_aload, ↓ev_aload_n, ↓ev_istore, ↓ev_istore_n, ↓ev_lstore, ↓ev_lstore_n, ↓ev_astore, ↓ev_astore_n, ↓ev_iinc, ↓ev_iadd, ↓ev_isub, ↓ev_imul, ↓ev_iand, ↓ev_ixor, ↓ev_idiv, ↓ev_irem, ↓ev_ineg, ↓ev_i2l, ↓ev_i2b, ↓ev_l2i, ↓ev_ladd, ↓ev_lsub, ↓ev_lmul, ↓ev_land, ↓ev_lor, ↓ev_ldiv, ↓ev_lrem, ↓ev_lushr, ↓ev_lshl, ↓ev_lcmp, ↓ev_dup, ↓ev_pop, ↓ev_dup2, ↓ev_if_icmp, ↓ev_ifCond, ↓ev_goto, ↓ev_ifnull, ↓ev_ifnonnull, ↓ev_tableswitch, ↓ev_lookupswitch, ↓ev_getfield, ↓ev_putfield, ↓ev_getstatic, ↓ev_iaload, ↓ev_baload, ↓ev_laload, ↓ev_aaload, ↓ev_iastore, ↓ev_bastore, ↓ev_lastore, ↓ev_aastore, ↓ev_arraylength, ↓ev_new, ↓ev_newarray, ↓ev_anewarray, ↓ev_invokevirtual, ↓ev_invokestatic, ↓ev_invokespecial, ↓ev_ireturn, ↓ev_lreturn, ↓ev_areturn, ↓ev_ret, ↓ev_0, ↓ev_nil, ↓ev_cons, ↓ev_jp, ↓ev_pI, ↓ev_pII, ↓ev_pL, ↓ev_pLL, ↓ev_pIL, ↓ev_pR, ↓ev_pIR, ↓ev_pIIR, ↓ev_pLIR, ↓ev_pRIR, ↓ev_pop0, ↓ev_popS, ↓iv_eq, ↓iv_ne, ↓iv_lt, ↓iv_ge, ↓iv_gt, ↓iv_le, ↓ev_ldi0, ↓ev_ldiS, ↓ev_ldl0, ↓ev_ldlS, ↓ev_lda0, ↓ev_ldaN, ↓ev_ldaS, ↓ev_staR, ↓ev_staN, ↓ev_pfI, ↓ev_pfZ, ↓ev_pfL, ↓ev_pfR, ↓ev_kc, ↓ev_kcN, ↓inv, bk, sL, gf, tyI, tyIs, tyB, tyQ, tyN, nbk, ekd, elOk, isO, swl, vNat, vI, k1, st1, st2, ent, rtQ, va_rf, List.replicate, List.mem_cons, List.not_mem_nil, or_false, false_or, or_true, true_or, or_self, ↓reduceIte, Nat.reduceAdd, Nat.reduceEqDiff, true_and, and_true, reduceCtorEq, forall_const, false_implies, implies_true, true_implies, not_true_eq_false, not_false_eq_true, e00, e10, e01, e11, lg_eq0, lg_lt0, lg_le0, lg_gt0, lg_ge0, ite_u, Nat.reduceLeDiff, u2_ap, qe1, qe2, ↓reduceIte, Nat.reduceEqDiff, Nat.reduceAdd, Nat.reduceMul]
        try simp (disch := omega) only [z_rm, Nat.add_sub_cancel, Nat.add_one_sub_one, Nat.reduceEqDiff, pk_mul, nI_add, nI_1, pk_sub, pk_div, pk_rem, nI_ltI, nI_leI, nI_eq, z_cl, z_in, z_lt0, z_0le, z_eq0, z_le0, z_0lt, z_m1, z_i2l, z_l2i, z_ult, pk_lLT, pk_lLE, pk_lEQ, lN_add, lN_mul, lN_sub, true_and, and_true, forall_const, false_implies, implies_true, true_implies, not_true_eq_false, not_false_eq_true, Nat.not_lt, Nat.not_le]
        refine ⟨fun z => absurd z (by omega), fun _ => ?_⟩
        cases op with
        | false =>
          have er : rstp b (n, tk, false) = if n < 20 then some (n + 1, uK tk n (.inl (b - 48)), true) else none := by
            unfold rstp nwT
            rw [if_neg (by omega), if_neg (by omega), if_neg (show ¬ false = true by decide), if_neg (show ¬ sortN b = 1 by omega)]
          rw [m3 rfl]
          refine AT.go okB167 0 rfl [14] 90 106 ?_
          simp only [B167, ↓ev_iconst, ↓ev_bipush, ↓ev_sipush, ↓ev_lconst, ↓ev_ldc, ↓ev_ldc_w, ↓ev_ldc2_w, ↓ev_aconst_null, ↓ev_iload, ↓ev_iload_n, ↓ev_lload, ↓ev_lload_n, ↓ev_aload, ↓ev_aload_n, ↓ev_istore, ↓ev_istore_n, ↓ev_lstore, ↓ev_lstore_n, ↓ev_astore, ↓ev_astore_n, ↓ev_iinc, ↓ev_iadd, ↓ev_isub, ↓ev_imul, ↓ev_iand, ↓ev_ixor, ↓ev_idiv, ↓ev_irem, ↓ev_ineg, ↓ev_i2l, ↓ev_i2b, ↓ev_l2i, ↓ev_ladd, ↓ev_lsub, ↓ev_lmul, ↓ev_land, ↓ev_lor, ↓ev_ldiv, ↓ev_lrem, ↓ev_lushr, ↓ev_lshl, ↓ev_lcmp, ↓ev_dup, ↓ev_pop, ↓ev_dup2, ↓ev_if_icmp, ↓ev_ifCond, ↓ev_goto, ↓ev_ifnull, ↓ev_ifnonnull, ↓ev_tableswitch, ↓ev_lookupswitch, ↓ev_getfield, ↓ev_putfield, ↓ev_getstatic, ↓ev_iaload, ↓ev_baload, ↓ev_laload, ↓ev_aaload, ↓ev_iastore, ↓ev_bastore, ↓ev_lastore, ↓ev_aastore, ↓ev_arraylength, ↓ev_new, ↓ev_newarray, ↓ev_anewarray, ↓ev_invokevirtual, ↓ev_invokestatic, ↓ev_invokespecial, ↓ev_ireturn, ↓ev_lreturn, ↓ev_areturn, ↓ev_ret, ↓ev_0, ↓ev_nil, ↓ev_cons, ↓ev_jp, ↓ev_pI, ↓ev_pII, ↓ev_pL, ↓ev_pLL, ↓ev_pIL, ↓ev_pR, ↓ev_pIR, ↓ev_pIIR, ↓ev_pLIR, ↓ev_pRIR, ↓ev_pop0, ↓ev_popS, ↓iv_eq, ↓iv_ne, ↓iv_lt, ↓iv_ge, ↓iv_gt, ↓iv_le, ↓ev_ldi0, ↓ev_ldiS, ↓ev_ldl0, ↓ev_ldlS, ↓ev_lda0, ↓ev_ldaN, ↓ev_ldaS, ↓ev_staR, ↓ev_staN, ↓ev_pfI, ↓ev_pfZ, ↓ev_pfL, ↓ev_pfR, ↓ev_kc, ↓ev_kcN, ↓inv, bk, sL, gf, tyI, tyIs, tyB, tyQ, tyN, nbk, ekd, elOk, isO, swl, vNat, vI, k1, st1, st2, ent, rtQ, va_rf, List.replicate, List.mem_cons, List.not_mem_nil, or_false, false_or, or_true, true_or, or_self, ↓reduceIte, Nat.reduceAdd, Nat.reduceEqDiff, true_and, and_true, reduceCtorEq, forall_const, false_implies, implies_true, true_implies, not_true_eq_false, not_false_eq_true, e00, e10, e01, e11, lg_eq0, lg_lt0, lg_le0, lg_gt0, lg_ge0, ite_u, Nat.reduceLeDiff, u2_ap, qe1, qe2, ↓reduceIte, Nat.reduceEqDiff, Nat.reduceAdd, Nat.reduceMul, S.t24, S.t25, S.t28, S.t29, S.t31, S.t32, S.t33, S.t34, S.t35, S.t36, S.t37, S.t38, S.t39, S.t40, S.t41, S.t42, S.t43, S.t44, S.t46, S.t47, S.t48, S.t49, S.t50, S.t51, S.t52, S.t53, S.t55, S.t56, S.t57, S.t58, S.t64, S.t65, S.t66, S.t67, S.t68, S.t69, S.t70, S.t71, S.t72, S.t74, S.t75, S.t76, S.t77, S.t78, S.t79, S.t80, S.t81, S.t82, S.t83, S.t84, S.t85, S.t88, S.t89, S.t90, S.t91, S.t92, S.t93, S.r24_0, S.r24_3, S.r24_4, S.r24_6, S.r24_7, S.r24_8, S.r24_9, S.r24_10, S.r24_11, S.r24_12, S.r24_13, S.r24_14, S.r24_15, S.r24_16, S.r24_17, S.r24_18, S.r24_19, S.r24_21, S.r24_22, S.r24_23, S.r24_24, S.r24_25, S.r24_26, S.r24_27, S.r24_28, S.r24_30, S.r24_31, S.r24_32, S.r24_33, S.r24_39, S.r24_40, S.r24_41, S.r24_42, S.r24_43, S.r24_44, S.r24_45, S.r24_46, S.r24_47, S.r24_49, S.r24_50, S.r24_51, S.r24_52, S.r24_53, S.r24_54, S.r24_55, S.r24_56, S.r24_57, S.r24_58, S.r24_59, S.r24_60, S.r24_63, S.r24_64, S.r24_65, S.r24_66, S.r24_67, S.r24_68, e3]
          try simp (disch := omega) only [z_rm, Nat.add_sub_cancel, Nat.add_one_sub_one, Nat.reduceEqDiff, pk_mul, nI_add, nI_1, pk_sub, pk_div, pk_rem, nI_ltI, nI_leI, nI_eq, z_cl, z_in, z_lt0, z_0le, z_eq0, z_le0, z_0lt, z_m1, z_i2l, z_l2i, z_ult, pk_lLT, pk_lLE, pk_lEQ, lN_add, lN_mul, lN_sub, true_and, and_true, forall_const, false_implies, implies_true, true_implies, not_true_eq_false, not_false_eq_true, Nat.not_lt, Nat.not_le]
          refine ⟨fun hn => ft (by rw [er, if_neg (by omega)]), fun hn => ?_⟩
          · refine nx (n + 1, uK tk n (.inl (b - 48)), true) _ _ _ _ _ _ _ _ _ (by rw [er, if_pos (by omega)]) (l_cuPut (m := n) rfl _ _ _ _ _ ?_ (fun j hj => ?_) ?_ ?_ ?_ rfl rfl) ⟨fun y y1 y2 => by rw [u2_row y2, u2_row y1], fun k hk => by rw [u2_row (by decide), u2_ne (by omega)], fun y y1 => u2_row y1⟩
            · rw [u2_row (by decide), u2_at]
            · rw [u2_ne (by omega), u2_ne (by omega), u2_row (by decide)]
              exact m2 j hj
            · rw [u2_at]
              rfl
            · rw [u2_at]
              show _ = nI (sb_dg (b - 48))
              rw [dg_one (by omega)]
            · show _ = nI (sb_dg (b - 48))
              rw [dg_one (by omega)]
        | true =>
          have hn0 := o3 rfl
          obtain ⟨d1, d2, d3⟩ := m4 rfl
          have htk := o2 (n - 1) (by omega)
          have er : rstp b (n, tk, true) = (grT b (tk (n - 1))).map fun t => (n, uK tk (n - 1) t, true) := by
            unfold rstp
            rw [if_neg (by omega), if_neg (by omega), if_pos rfl]
          cases htt : tk (n - 1) with
          | inl v =>
            rw [htt] at d1 d2 d3 htk er
            have hv : v < 1000000000 := htk
            have hdg := dg_spec htk
            have a1 : mny = nI (sb_dg v) := d1
            have a2 : ltr = nI 0 := d2
            have a3 : wrt = lN v := d3
            subst a1 a2 a3
            simp only [grT] at er
            have go : sb_dg v < 9 → v ≠ 0 → AT G 167 T00 Q 238 [some (.ref 24), some (.int (nI (sb_dg v))), some (.int (nI 0)), some (.long (lN v)), none, some (.int (nI i)), some (.int (nI b)), some (.int (nI 0)), some (.int (nI 1)), x9] [] 0 0 T I J R := by
              intro g1 g2
              have hv8 : v < 10 ^ 8 := Nat.lt_of_lt_of_le hdg.2.2.1 (Nat.pow_le_pow_right (by decide) (by omega))
              rw [if_pos ⟨q, g1, g2⟩] at er
              refine AT.go okB167 0 rfl [14] 90 238 ?_
              simp only [B167, ↓ev_iconst, ↓ev_bipush, ↓ev_sipush, ↓ev_lconst, ↓ev_ldc, ↓ev_ldc_w, ↓ev_ldc2_w, ↓ev_aconst_null, ↓ev_iload, ↓ev_iload_n, ↓ev_lload, ↓ev_lload_n, ↓ev_aload, ↓ev_aload_n, ↓ev_istore, ↓ev_istore_n, ↓ev_lstore, ↓ev_lstore_n, ↓ev_astore, ↓ev_astore_n, ↓ev_iinc, ↓ev_iadd, ↓ev_isub, ↓ev_imul, ↓ev_iand, ↓ev_ixor, ↓ev_idiv, ↓ev_irem, ↓ev_ineg, ↓ev_i2l, ↓ev_i2b, ↓ev_l2i, ↓ev_ladd, ↓ev_lsub, ↓ev_lmul, ↓ev_land, ↓ev_lor, ↓ev_ldiv, ↓ev_lrem, ↓ev_lushr, ↓ev_lshl, ↓ev_lcmp, ↓ev_dup, ↓ev_pop, ↓ev_dup2, ↓ev_if_icmp, ↓ev_ifCond, ↓ev_goto, ↓ev_ifnull, ↓ev_ifnonnull, ↓ev_tableswitch, ↓ev_lookupswitch, ↓ev_getfield, ↓ev_putfield, ↓ev_getstatic, ↓ev_iaload, ↓ev_baload, ↓ev_laload, ↓ev_aaload, ↓ev_iastore, ↓ev_bastore, ↓ev_lastore, ↓ev_aastore, ↓ev_arraylength, ↓ev_new, ↓ev_newarray, ↓ev_anewarray, ↓ev_invokevirtual, ↓ev_invokestatic, ↓ev_invokespecial, ↓ev_ireturn, ↓ev_lreturn, ↓ev_areturn, ↓ev_ret, ↓ev_0, ↓ev_nil, ↓ev_cons, ↓ev_jp, ↓ev_pI, ↓ev_pII, ↓ev_pL, ↓ev_pLL, ↓ev_pIL, ↓ev_pR, ↓ev_pIR, ↓ev_pIIR, ↓ev_pLIR, ↓ev_pRIR, ↓ev_pop0, ↓ev_popS, ↓iv_eq, ↓iv_ne, ↓iv_lt, ↓iv_ge, ↓iv_gt, ↓iv_le, ↓ev_ldi0, ↓ev_ldiS, ↓ev_ldl0, ↓ev_ldlS, ↓ev_lda0, ↓ev_ldaN, ↓ev_ldaS, ↓ev_staR, ↓ev_staN, ↓ev_pfI, ↓ev_pfZ, ↓ev_pfL, ↓ev_pfR, ↓ev_kc, ↓ev_kcN, ↓inv, bk, sL, gf, tyI, tyIs, tyB, tyQ, tyN, nbk, ekd, elOk, isO, swl, vNat, vI, k1, st1, st2, ent, rtQ, va_rf, List.replicate, List.mem_cons, List.not_mem_nil, or_false, false_or, or_true, true_or, or_self, ↓reduceIte, Nat.reduceAdd, Nat.reduceEqDiff, true_and, and_true, reduceCtorEq, forall_const, false_implies, implies_true, true_implies, not_true_eq_false, not_false_eq_true, e00, e10, e01, e11, lg_eq0, lg_lt0, lg_le0, lg_gt0, lg_ge0, ite_u, Nat.reduceLeDiff, u2_ap, qe1, qe2, ↓reduceIte, Nat.reduceEqDiff, Nat.reduceAdd, Nat.reduceMul, S.t24, S.t25, S.t28, S.t29, S.t31, S.t32, S.t33, S.t34, S.t35, S.t36, S.t37, S.t38, S.t39, S.t40, S.t41, S.t42, S.t43, S.t44, S.t46, S.t47, S.t48, S.t49, S.t50, S.t51, S.t52, S.t53, S.t55, S.t56, S.t57, S.t58, S.t64, S.t65, S.t66, S.t67, S.t68, S.t69, S.t70, S.t71, S.t72, S.t74, S.t75, S.t76, S.t77, S.t78, S.t79, S.t80, S.t81, S.t82, S.t83, S.t84, S.t85, S.t88, S.t89, S.t90, S.t91, S.t92, S.t93, S.r24_0, S.r24_3, S.r24_4, S.r24_6, S.r24_7, S.r24_8, S.r24_9, S.r24_10, S.r24_11, S.r24_12, S.r24_13, S.r24_14, S.r24_15, S.r24_16, S.r24_17, S.r24_18, S.r24_19, S.r24_21, S.r24_22, S.r24_23, S.r24_24, S.r24_25, S.r24_26, S.r24_27, S.r24_28, S.r24_30, S.r24_31, S.r24_32, S.r24_33, S.r24_39, S.r24_40, S.r24_41, S.r24_42, S.r24_43, S.r24_44, S.r24_45, S.r24_46, S.r24_47, S.r24_49, S.r24_50, S.r24_51, S.r24_52, S.r24_53, S.r24_54, S.r24_55, S.r24_56, S.r24_57, S.r24_58, S.r24_59, S.r24_60, S.r24_63, S.r24_64, S.r24_65, S.r24_66, S.r24_67, S.r24_68, e3]
              try simp (disch := omega) only [z_rm, Nat.add_sub_cancel, Nat.add_one_sub_one, Nat.reduceEqDiff, pk_mul, nI_add, nI_1, pk_sub, pk_div, pk_rem, nI_ltI, nI_leI, nI_eq, z_cl, z_in, z_lt0, z_0le, z_eq0, z_le0, z_0lt, z_m1, z_i2l, z_l2i, z_ult, pk_lLT, pk_lLE, pk_lEQ, lN_add, lN_mul, lN_sub, true_and, and_true, forall_const, false_implies, implies_true, true_implies, not_true_eq_false, not_false_eq_true, Nat.not_lt, Nat.not_le]
              have ev : 10 * v + b - 48 = v * 10 + (b - 48) := by omega
              refine nx (n, uK tk (n - 1) (.inl (v * 10 + (b - 48))), true) _ _ _ _ _ _ _ _ _ er (l_cuPut (m := n - 1) (by omega) _ _ _ _ _ ?_ (fun j hj => ?_) ?_ ?_ ?_ rfl ?_) ⟨fun y y1 y2 => u2_row y2, fun k hk => by rw [u2_row (by decide)], fun y y1 => u2_row y1⟩
              · rw [u2_row (by decide)]
                exact e3
              · rw [u2_ne (by omega), u2_ne (by omega)]
                exact m2 j (by omega)
              · rw [u2_at]
                show -1 - lN (10 * v + b - 48) = -1 - lN (v * 10 + (b - 48))
                rw [ev]
              · rw [u2_at]
                show _ = nI (sb_dg (v * 10 + (b - 48)))
                rw [dg_grow g2 hv8 (by omega)]
              · show _ = nI (sb_dg (v * 10 + (b - 48)))
                rw [dg_grow g2 hv8 (by omega)]
              · show lN (10 * v + b - 48) = lN (v * 10 + (b - 48))
                rw [ev]
            have no : ¬ (sb_dg v < 9 ∧ v ≠ 0) → AT G 167 T00 Q 234 [some (.ref 24), some (.int (nI (sb_dg v))), some (.int (nI 0)), some (.long (lN v)), none, some (.int (nI i)), some (.int (nI b)), some (.int (nI 0)), some (.int (nI 1)), x9] [] 0 0 T I J R := by
              intro g1
              rw [if_neg (fun z => g1 z.2)] at er
              refine AT.go okB167 0 rfl [14] 90 234 ?_
              simp only [B167, ↓ev_iconst, ↓ev_bipush, ↓ev_sipush, ↓ev_lconst, ↓ev_ldc, ↓ev_ldc_w, ↓ev_ldc2_w, ↓ev_aconst_null, ↓ev_iload, ↓ev_iload_n, ↓ev_lload, ↓ev_lload_n, ↓ev_aload, ↓ev_aload_n, ↓ev_istore, ↓ev_istore_n, ↓ev_lstore, ↓ev_lstore_n, ↓ev_astore, ↓ev_astore_n, ↓ev_iinc, ↓ev_iadd, ↓ev_isub, ↓ev_imul, ↓ev_iand, ↓ev_ixor, ↓ev_idiv, ↓ev_irem, ↓ev_ineg, ↓ev_i2l, ↓ev_i2b, ↓ev_l2i, ↓ev_ladd, ↓ev_lsub, ↓ev_lmul, ↓ev_land, ↓ev_lor, ↓ev_ldiv, ↓ev_lrem, ↓ev_lushr, ↓ev_lshl, ↓ev_lcmp, ↓ev_dup, ↓ev_pop, ↓ev_dup2, ↓ev_if_icmp, ↓ev_ifCond, ↓ev_goto, ↓ev_ifnull, ↓ev_ifnonnull, ↓ev_tableswitch, ↓ev_lookupswitch, ↓ev_getfield, ↓ev_putfield, ↓ev_getstatic, ↓ev_iaload, ↓ev_baload, ↓ev_laload, ↓ev_aaload, ↓ev_iastore, ↓ev_bastore, ↓ev_lastore, ↓ev_aastore, ↓ev_arraylength, ↓ev_new, ↓ev_newarray, ↓ev_anewarray, ↓ev_invokevirtual, ↓ev_invokestatic, ↓ev_invokespecial, ↓ev_ireturn, ↓ev_lreturn, ↓ev_areturn, ↓ev_ret, ↓ev_0, ↓ev_nil, ↓ev_cons, ↓ev_jp, ↓ev_pI, ↓ev_pII, ↓ev_pL, ↓ev_pLL, ↓ev_pIL, ↓ev_pR, ↓ev_pIR, ↓ev_pIIR, ↓ev_pLIR, ↓ev_pRIR, ↓ev_pop0, ↓ev_popS, ↓iv_eq, ↓iv_ne, ↓iv_lt, ↓iv_ge, ↓iv_gt, ↓iv_le, ↓ev_ldi0, ↓ev_ldiS, ↓ev_ldl0, ↓ev_ldlS, ↓ev_lda0, ↓ev_ldaN, ↓ev_ldaS, ↓ev_staR, ↓ev_staN, ↓ev_pfI, ↓ev_pfZ, ↓ev_pfL, ↓ev_pfR, ↓ev_kc, ↓ev_kcN, ↓inv, bk, sL, gf, tyI, tyIs, tyB, tyQ, tyN, nbk, ekd, elOk, isO, swl, vNat, vI, k1, st1, st2, ent, rtQ, va_rf, List.replicate, List.mem_cons, List.not_mem_nil, or_false, false_or, or_true, true_or, or_self, ↓reduceIte, Nat.reduceAdd, Nat.reduceEqDiff, true_and, and_true, reduceCtorEq, forall_const, false_implies, implies_true, true_implies, not_true_eq_false, not_false_eq_true, e00, e10, e01, e11, lg_eq0, lg_lt0, lg_le0, lg_gt0, lg_ge0, ite_u, Nat.reduceLeDiff, u2_ap, qe1, qe2, ↓reduceIte, Nat.reduceEqDiff, Nat.reduceAdd, Nat.reduceMul]
              try simp (disch := omega) only [z_rm, Nat.add_sub_cancel, Nat.add_one_sub_one, Nat.reduceEqDiff, pk_mul, nI_add, nI_1, pk_sub, pk_div, pk_rem, nI_ltI, nI_leI, nI_eq, z_cl, z_in, z_lt0, z_0le, z_eq0, z_le0, z_0lt, z_m1, z_i2l, z_l2i, z_ult, pk_lLT, pk_lLE, pk_lEQ, lN_add, lN_mul, lN_sub, true_and, and_true, forall_const, false_implies, implies_true, true_implies, not_true_eq_false, not_false_eq_true, Nat.not_lt, Nat.not_le]
              exact ft er
            have hz := nz0 (a := sb_dg v) (by omega) (by omega)
            refine AT.go okB167 0 rfl [14, 234, 238] 90 106 ?_
            simp only [B167, ↓ev_iconst, ↓ev_bipush, ↓ev_sipush, ↓ev_lconst, ↓ev_ldc, ↓ev_ldc_w, ↓ev_ldc2_w, ↓ev_aconst_null, ↓ev_iload, ↓ev_iload_n, ↓ev_lload, ↓ev_lload_n, ↓ev_aload, ↓ev_aload_n, ↓ev_istore, ↓ev_istore_n, ↓ev_lstore, ↓ev_lstore_n, ↓ev_astore, ↓ev_astore_n, ↓ev_iinc, ↓ev_iadd, ↓ev_isub, ↓ev_imul, ↓ev_iand, ↓ev_ixor, ↓ev_idiv, ↓ev_irem, ↓ev_ineg, ↓ev_i2l, ↓ev_i2b, ↓ev_l2i, ↓ev_ladd, ↓ev_lsub, ↓ev_lmul, ↓ev_land, ↓ev_lor, ↓ev_ldiv, ↓ev_lrem, ↓ev_lushr, ↓ev_lshl, ↓ev_lcmp, ↓ev_dup, ↓ev_pop, ↓ev_dup2, ↓ev_if_icmp, ↓ev_ifCond, ↓ev_goto, ↓ev_ifnull, ↓ev_ifnonnull, ↓ev_tableswitch, ↓ev_lookupswitch, ↓ev_getfield, ↓ev_putfield, ↓ev_getstatic, ↓ev_iaload, ↓ev_baload, ↓ev_laload, ↓ev_aaload, ↓ev_iastore, ↓ev_bastore, ↓ev_lastore, ↓ev_aastore, ↓ev_arraylength, ↓ev_new, ↓ev_newarray, ↓ev_anewarray, ↓ev_invokevirtual, ↓ev_invokestatic, ↓ev_invokespecial, ↓ev_ireturn, ↓ev_lreturn, ↓ev_areturn, ↓ev_ret, ↓ev_0, ↓ev_nil, ↓ev_cons, ↓ev_jp, ↓ev_pI, ↓ev_pII, ↓ev_pL, ↓ev_pLL, ↓ev_pIL, ↓ev_pR, ↓ev_pIR, ↓ev_pIIR, ↓ev_pLIR, ↓ev_pRIR, ↓ev_pop0, ↓ev_popS, ↓iv_eq, ↓iv_ne, ↓iv_lt, ↓iv_ge, ↓iv_gt, ↓iv_le, ↓ev_ldi0, ↓ev_ldiS, ↓ev_ldl0, ↓ev_ldlS, ↓ev_lda0, ↓ev_ldaN, ↓ev_ldaS, ↓ev_staR, ↓ev_staN, ↓ev_pfI, ↓ev_pfZ, ↓ev_pfL, ↓ev_pfR, ↓ev_kc, ↓ev_kcN, ↓inv, bk, sL, gf, tyI, tyIs, tyB, tyQ, tyN, nbk, ekd, elOk, isO, swl, vNat, vI, k1, st1, st2, ent, rtQ, va_rf, List.replicate, List.mem_cons, List.not_mem_nil, or_false, false_or, or_true, true_or, or_self, ↓reduceIte, Nat.reduceAdd, Nat.reduceEqDiff, true_and, and_true, reduceCtorEq, forall_const, false_implies, implies_true, true_implies, not_true_eq_false, not_false_eq_true, e00, e10, e01, e11, lg_eq0, lg_lt0, lg_le0, lg_gt0, lg_ge0, ite_u, Nat.reduceLeDiff, u2_ap, qe1, qe2, ↓reduceIte, Nat.reduceEqDiff, Nat.reduceAdd, Nat.reduceMul, S.t24, S.t25, S.t28, S.t29, S.t31, S.t32, S.t33, S.t34, S.t35, S.t36, S.t37, S.t38, S.t39, S.t40, S.t41, S.t42, S.t43, S.t44, S.t46, S.t47, S.t48, S.t49, S.t50, S.t51, S.t52, S.t53, S.t55, S.t56, S.t57, S.t58, S.t64, S.t65, S.t66, S.t67, S.t68, S.t69, S.t70, S.t71, S.t72, S.t74, S.t75, S.t76, S.t77, S.t78, S.t79, S.t80, S.t81, S.t82, S.t83, S.t84, S.t85, S.t88, S.t89, S.t90, S.t91, S.t92, S.t93, S.r24_0, S.r24_3, S.r24_4, S.r24_6, S.r24_7, S.r24_8, S.r24_9, S.r24_10, S.r24_11, S.r24_12, S.r24_13, S.r24_14, S.r24_15, S.r24_16, S.r24_17, S.r24_18, S.r24_19, S.r24_21, S.r24_22, S.r24_23, S.r24_24, S.r24_25, S.r24_26, S.r24_27, S.r24_28, S.r24_30, S.r24_31, S.r24_32, S.r24_33, S.r24_39, S.r24_40, S.r24_41, S.r24_42, S.r24_43, S.r24_44, S.r24_45, S.r24_46, S.r24_47, S.r24_49, S.r24_50, S.r24_51, S.r24_52, S.r24_53, S.r24_54, S.r24_55, S.r24_56, S.r24_57, S.r24_58, S.r24_59, S.r24_60, S.r24_63, S.r24_64, S.r24_65, S.r24_66, S.r24_67, S.r24_68, e3, hz]
            try simp (disch := omega) only [z_rm, Nat.add_sub_cancel, Nat.add_one_sub_one, Nat.reduceEqDiff, pk_mul, nI_add, nI_1, pk_sub, pk_div, pk_rem, nI_ltI, nI_leI, nI_eq, z_cl, z_in, z_lt0, z_0le, z_eq0, z_le0, z_0lt, z_m1, z_i2l, z_l2i, z_ult, pk_lLT, pk_lLE, pk_lEQ, lN_add, lN_mul, lN_sub, true_and, and_true, forall_const, false_implies, implies_true, true_implies, not_true_eq_false, not_false_eq_true, Nat.not_lt, Nat.not_le]
            have k1 : v ≠ 0 ∨ sb_dg v = 1 := by
              by_cases z : v = 0
              · subst z
                exact Or.inr rfl
              · exact Or.inl z
            refine ⟨fun z => no (by omega), fun z => ⟨fun z2 => ⟨fun z3 => no (by omega), fun z3 => go (by omega) z3⟩, fun z2 => go (by omega) (by omega)⟩⟩
          | inr l =>
            rw [htt] at d1 d2 d3 htk er
            have hl := htk.2.2
            have hl1 := htk.2.1
            have a1 : mny = nI l.length := d1
            have a2 : ltr = nI 1 := d2
            subst a1 a2
            simp only [grT] at er
            rw [if_neg (by omega)] at er
            have e10' : ¬ nI 0 = nI 1 := by decide
            have hz := nz0 (a := l.length) (by omega) (by omega)
            refine AT.go okB167 0 rfl [14] 90 106 ?_
            simp only [B167, ↓ev_iconst, ↓ev_bipush, ↓ev_sipush, ↓ev_lconst, ↓ev_ldc, ↓ev_ldc_w, ↓ev_ldc2_w, ↓ev_aconst_null, ↓ev_iload, ↓ev_iload_n, ↓ev_lload, ↓ev_lload_n, ↓ev_aload, ↓ev_aload_n, ↓ev_istore, ↓ev_istore_n, ↓ev_lstore, ↓ev_lstore_n, ↓ev_astore, ↓ev_astore_n, ↓ev_iinc, ↓ev_iadd, ↓ev_isub, ↓ev_imul, ↓ev_iand, ↓ev_ixor, ↓ev_idiv, ↓ev_irem, ↓ev_ineg, ↓ev_i2l, ↓ev_i2b, ↓ev_l2i, ↓ev_ladd, ↓ev_lsub, ↓ev_lmul, ↓ev_land, ↓ev_lor, ↓ev_ldiv, ↓ev_lrem, ↓ev_lushr, ↓ev_lshl, ↓ev_lcmp, ↓ev_dup, ↓ev_pop, ↓ev_dup2, ↓ev_if_icmp, ↓ev_ifCond, ↓ev_goto, ↓ev_ifnull, ↓ev_ifnonnull, ↓ev_tableswitch, ↓ev_lookupswitch, ↓ev_getfield, ↓ev_putfield, ↓ev_getstatic, ↓ev_iaload, ↓ev_baload, ↓ev_laload, ↓ev_aaload, ↓ev_iastore, ↓ev_bastore, ↓ev_lastore, ↓ev_aastore, ↓ev_arraylength, ↓ev_new, ↓ev_newarray, ↓ev_anewarray, ↓ev_invokevirtual, ↓ev_invokestatic, ↓ev_invokespecial, ↓ev_ireturn, ↓ev_lreturn, ↓ev_areturn, ↓ev_ret, ↓ev_0, ↓ev_nil, ↓ev_cons, ↓ev_jp, ↓ev_pI, ↓ev_pII, ↓ev_pL, ↓ev_pLL, ↓ev_pIL, ↓ev_pR, ↓ev_pIR, ↓ev_pIIR, ↓ev_pLIR, ↓ev_pRIR, ↓ev_pop0, ↓ev_popS, ↓iv_eq, ↓iv_ne, ↓iv_lt, ↓iv_ge, ↓iv_gt, ↓iv_le, ↓ev_ldi0, ↓ev_ldiS, ↓ev_ldl0, ↓ev_ldlS, ↓ev_lda0, ↓ev_ldaN, ↓ev_ldaS, ↓ev_staR, ↓ev_staN, ↓ev_pfI, ↓ev_pfZ, ↓ev_pfL, ↓ev_pfR, ↓ev_kc, ↓ev_kcN, ↓inv, bk, sL, gf, tyI, tyIs, tyB, tyQ, tyN, nbk, ekd, elOk, isO, swl, vNat, vI, k1, st1, st2, ent, rtQ, va_rf, List.replicate, List.mem_cons, List.not_mem_nil, or_false, false_or, or_true, true_or, or_self, ↓reduceIte, Nat.reduceAdd, Nat.reduceEqDiff, true_and, and_true, reduceCtorEq, forall_const, false_implies, implies_true, true_implies, not_true_eq_false, not_false_eq_true, e00, e10, e01, e11, lg_eq0, lg_lt0, lg_le0, lg_gt0, lg_ge0, ite_u, Nat.reduceLeDiff, u2_ap, qe1, qe2, ↓reduceIte, Nat.reduceEqDiff, Nat.reduceAdd, Nat.reduceMul, S.t24, S.t25, S.t28, S.t29, S.t31, S.t32, S.t33, S.t34, S.t35, S.t36, S.t37, S.t38, S.t39, S.t40, S.t41, S.t42, S.t43, S.t44, S.t46, S.t47, S.t48, S.t49, S.t50, S.t51, S.t52, S.t53, S.t55, S.t56, S.t57, S.t58, S.t64, S.t65, S.t66, S.t67, S.t68, S.t69, S.t70, S.t71, S.t72, S.t74, S.t75, S.t76, S.t77, S.t78, S.t79, S.t80, S.t81, S.t82, S.t83, S.t84, S.t85, S.t88, S.t89, S.t90, S.t91, S.t92, S.t93, S.r24_0, S.r24_3, S.r24_4, S.r24_6, S.r24_7, S.r24_8, S.r24_9, S.r24_10, S.r24_11, S.r24_12, S.r24_13, S.r24_14, S.r24_15, S.r24_16, S.r24_17, S.r24_18, S.r24_19, S.r24_21, S.r24_22, S.r24_23, S.r24_24, S.r24_25, S.r24_26, S.r24_27, S.r24_28, S.r24_30, S.r24_31, S.r24_32, S.r24_33, S.r24_39, S.r24_40, S.r24_41, S.r24_42, S.r24_43, S.r24_44, S.r24_45, S.r24_46, S.r24_47, S.r24_49, S.r24_50, S.r24_51, S.r24_52, S.r24_53, S.r24_54, S.r24_55, S.r24_56, S.r24_57, S.r24_58, S.r24_59, S.r24_60, S.r24_63, S.r24_64, S.r24_65, S.r24_66, S.r24_67, S.r24_68, e3, e10', hz]
            try simp (disch := omega) only [z_rm, Nat.add_sub_cancel, Nat.add_one_sub_one, Nat.reduceEqDiff, pk_mul, nI_add, nI_1, pk_sub, pk_div, pk_rem, nI_ltI, nI_leI, nI_eq, z_cl, z_in, z_lt0, z_0le, z_eq0, z_le0, z_0lt, z_m1, z_i2l, z_l2i, z_ult, pk_lLT, pk_lLE, pk_lEQ, lN_add, lN_mul, lN_sub, true_and, and_true, forall_const, false_implies, implies_true, true_implies, not_true_eq_false, not_false_eq_true, Nat.not_lt, Nat.not_le]
            exact ft er
set_option maxRecDepth 100000 in
theorem c_cutUp {tl : Nat} {tb : Nat → Nat} (S : SH T R) (C : MTp I tl tb)
    (h1 : ∀ i I' J', rdF tb tl 0 rd0 = .inl i → i < tl → rmK I I' J J' → Q (some (.int (nI i))) T I' J' R)
    (h2 : ∀ s I' J', rdF tb tl 0 rd0 = .inr s → s.1 = 0 → rmK I I' J J' → Q (some (.int (nI tl))) T I' J' R)
    (h3 : ∀ s I' J', rdF tb tl 0 rd0 = .inr s → s.1 ≠ 0 → okR s → I' 24 2 = nI s.1 → (∀ i, i < s.1 → J' 28 i = mT9 (s.2.1 i) ∧ I' 29 i = nI (tL (s.2.1 i))) → rmK I I' J J' → Q (some (.int (-9))) T I' J' R) : Run G 167 [.ref 24] T I J R Q := by
  refine Run.body (by decide) 9 (Nat.le_of_ble_eq_true rfl) (AT.go okB167 0 rfl [14] 90 0 ?_)
  simp only [B167, ↓ev_iconst, ↓ev_bipush, ↓ev_sipush, ↓ev_lconst, ↓ev_ldc, ↓ev_ldc_w, ↓ev_ldc2_w, ↓ev_aconst_null, ↓ev_iload, ↓ev_iload_n, ↓ev_lload, ↓ev_lload_n, ↓ev_aload, ↓ev_aload_n, ↓ev_istore, ↓ev_istore_n, ↓ev_lstore, ↓ev_lstore_n, ↓ev_astore, ↓ev_astore_n, ↓ev_iinc, ↓ev_iadd, ↓ev_isub, ↓ev_imul, ↓ev_iand, ↓ev_ixor, ↓ev_idiv, ↓ev_irem, ↓ev_ineg, ↓ev_i2l, ↓ev_i2b, ↓ev_l2i, ↓ev_ladd, ↓ev_lsub, ↓ev_lmul, ↓ev_land, ↓ev_lor, ↓ev_ldiv, ↓ev_lrem, ↓ev_lushr, ↓ev_lshl, ↓ev_lcmp, ↓ev_dup, ↓ev_pop, ↓ev_dup2, ↓ev_if_icmp, ↓ev_ifCond, ↓ev_goto, ↓ev_ifnull, ↓ev_ifnonnull, ↓ev_tableswitch, ↓ev_lookupswitch, ↓ev_getfield, ↓ev_putfield, ↓ev_getstatic, ↓ev_iaload, ↓ev_baload, ↓ev_laload, ↓ev_aaload, ↓ev_iastore, ↓ev_bastore, ↓ev_lastore, ↓ev_aastore, ↓ev_arraylength, ↓ev_new, ↓ev_newarray, ↓ev_anewarray, ↓ev_invokevirtual, ↓ev_invokestatic, ↓ev_invokespecial, ↓ev_ireturn, ↓ev_lreturn, ↓ev_areturn, ↓ev_ret, ↓ev_0, ↓ev_nil, ↓ev_cons, ↓ev_jp, ↓ev_pI, ↓ev_pII, ↓ev_pL, ↓ev_pLL, ↓ev_pIL, ↓ev_pR, ↓ev_pIR, ↓ev_pIIR, ↓ev_pLIR, ↓ev_pRIR, ↓ev_pop0, ↓ev_popS, ↓iv_eq, ↓iv_ne, ↓iv_lt, ↓iv_ge, ↓iv_gt, ↓iv_le, ↓ev_ldi0, ↓ev_ldiS, ↓ev_ldl0, ↓ev_ldlS, ↓ev_lda0, ↓ev_ldaN, ↓ev_ldaS, ↓ev_staR, ↓ev_staN, ↓ev_pfI, ↓ev_pfZ, ↓ev_pfL, ↓ev_pfR, ↓ev_kc, ↓ev_kcN, ↓inv, bk, sL, gf, tyI, tyIs, tyB, tyQ, tyN, nbk, ekd, elOk, isO, swl, vNat, vI, k1, st1, st2, ent, rtQ, va_rf, List.replicate, List.mem_cons, List.not_mem_nil, or_false, false_or, or_true, true_or, or_self, ↓reduceIte, Nat.reduceAdd, Nat.reduceEqDiff, true_and, and_true, reduceCtorEq, forall_const, false_implies, implies_true, true_implies, not_true_eq_false, not_false_eq_true, e00, e10, e01, e11, lg_eq0, lg_lt0, lg_le0, lg_gt0, lg_ge0, ite_u, Nat.reduceLeDiff, u2_ap, qe1, qe2, ↓reduceIte, Nat.reduceEqDiff, Nat.reduceAdd, Nat.reduceMul, S.t24, S.t25, S.t28, S.t29, S.t31, S.t32, S.t33, S.t34, S.t35, S.t36, S.t37, S.t38, S.t39, S.t40, S.t41, S.t42, S.t43, S.t44, S.t46, S.t47, S.t48, S.t49, S.t50, S.t51, S.t52, S.t53, S.t55, S.t56, S.t57, S.t58, S.t64, S.t65, S.t66, S.t67, S.t68, S.t69, S.t70, S.t71, S.t72, S.t74, S.t75, S.t76, S.t77, S.t78, S.t79, S.t80, S.t81, S.t82, S.t83, S.t84, S.t85, S.t88, S.t89, S.t90, S.t91, S.t92, S.t93, S.r24_0, S.r24_3, S.r24_4, S.r24_6, S.r24_7, S.r24_8, S.r24_9, S.r24_10, S.r24_11, S.r24_12, S.r24_13, S.r24_14, S.r24_15, S.r24_16, S.r24_17, S.r24_18, S.r24_19, S.r24_21, S.r24_22, S.r24_23, S.r24_24, S.r24_25, S.r24_26, S.r24_27, S.r24_28, S.r24_30, S.r24_31, S.r24_32, S.r24_33, S.r24_39, S.r24_40, S.r24_41, S.r24_42, S.r24_43, S.r24_44, S.r24_45, S.r24_46, S.r24_47, S.r24_49, S.r24_50, S.r24_51, S.r24_52, S.r24_53, S.r24_54, S.r24_55, S.r24_56, S.r24_57, S.r24_58, S.r24_59, S.r24_60, S.r24_63, S.r24_64, S.r24_65, S.r24_66, S.r24_67, S.r24_68]
  try simp (disch := omega) only [z_rm, Nat.add_sub_cancel, Nat.add_one_sub_one, Nat.reduceEqDiff, pk_mul, nI_add, nI_1, pk_sub, pk_div, pk_rem, nI_ltI, nI_leI, nI_eq, z_cl, z_in, z_lt0, z_0le, z_eq0, z_le0, z_0lt, z_m1, z_i2l, z_l2i, z_ult, pk_lLT, pk_lLE, pk_lEQ, lN_add, lN_mul, lN_sub, true_and, and_true, forall_const, false_implies, implies_true, true_implies, not_true_eq_false, not_false_eq_true, Nat.not_lt, Nat.not_le]
  exact l_cutUp (I0 := I) (J0 := J) S C h1 h2 (fun s I' J' m l w a b c d e => h3 s I' J' a b c d.1 d.2.1 e) tl 0 rd0 _ _ _ _ _ _ _ _ _ (by omega) rfl rd0_ok ⟨by rw [u2_at]; rfl, fun i hi => absurd hi (Nat.not_lt_zero i), fun _ => rfl, fun z => by (cases z)⟩ ⟨fun y y1 y2 => u2_row y1, fun k hk => u2_ne (by omega), fun _ _ => rfl⟩
end CUTUP
