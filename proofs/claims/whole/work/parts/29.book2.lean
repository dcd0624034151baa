/-! A CODE BOOK, in the house: phrases looked for and added, groups, distances -/
/-- a book has the words of the tokens as a phrase -/
def hasP (tk : Nat → Tok) (n pn : Nat) (ph : Nat → List (List Nat)) : Prop := ∃ p, p < pn ∧ (ph p).length = n ∧ stA tk n 0 (ph p)
section BOOK2
variable {G : GGy} {T : TTy} {I : MIy} {J : MJy} {R : MRy} {Q : QQy}
set_option maxRecDepth 100000 in
theorem l_bholds {b t n pn : Nat} {tk : Nat → Tok} {ph : Nat → List (List Nat)} (B9 : BO T R b) (P : PH I J b pn ph) (hT : T t = some (15, 20)) (hn : n ≤ 20) (K : TR J t n tk) {T00 : TTy} (h1 : hasP tk n pn ph → Q (some (.int (nI 1))) T I J R) (h0 : ¬ hasP tk n pn ph → Q (some (.int (nI 0))) T I J R) :
    ∀ k i, i + k = pn → (∀ p, p < i → ¬ ((ph p).length = n ∧ stA tk n 0 (ph p))) → AT G 4 T00 Q 2 [some (.ref b), some (.ref t), some (.int (nI n)), some (.int (nI i))] [] 0 0 T I J R
  | k, i, hi, hq => by
    obtain ⟨t0, r2, t1, r3, t2, -⟩ := id B9
    have hp1 := P.1
    have hpn := P.2.1
    refine AT.go okB4 1 rfl [2] 40 2 ?_
    simp only [B4, ↓ev_iconst, ↓ev_bipush, ↓ev_sipush, ↓ev_lconst, ↓ev_ldc, ↓ev_ldc_w, ↓ev_ldc2_w, ↓ev_aconst_null, ↓ev_iload, ↓ev_iload_n, ↓ev_lload, ↓ev_lload_n, ↓ev_aload, ↓ev_aload_n, ↓ev_istore, ↓ev_istore_n, ↓ev_lstore, ↓ev_lstore_n, ↓ev_astore, ↓ev_astore_n, ↓ev_iinc, ↓ev_iadd, ↓ev_isub, ↓ev_imul, ↓ev_iand, ↓ev_ixor, ↓ev_idiv, ↓ev_irem, ↓ev_ineg, ↓ev_i2l, ↓ev_i2b, ↓ev_l2i, ↓ev_ladd, ↓ev_lsub, ↓ev_lmul, ↓ev_land, ↓ev_lor, ↓ev_ldiv, ↓ev_lrem, ↓ev_lushr, ↓ev_lshl, ↓ev_lcmp, ↓ev_dup, ↓ev_pop, ↓ev_dup2, ↓ev_if_icmp, ↓ev_ifCond, ↓ev_goto, ↓ev_ifnull, ↓ev_ifnonnull, ↓ev_tableswitch, ↓ev_lookupswitch, ↓ev_getfield, ↓ev_putfield, ↓ev_getstatic, ↓ev_iaload, ↓ev_baload, ↓ev_laload, ↓ev_aaload, ↓ev_iastore, ↓ev_bastore, ↓ev_lastore, ↓ev_aastore, ↓ev_arraylength, ↓ev_new, ↓ev_newarray, ↓ev_anewarray, ↓ev_invokevirtual, ↓ev_invokestatic, ↓ev_invokespecial, ↓ev_ireturn, ↓ev_lreturn, ↓ev_areturn, ↓ev_ret, ↓ev_0, ↓ev_nil, ↓ev_cons, ↓ev_jp, ↓ev_pI, ↓ev_pII, ↓ev_pL, ↓ev_pLL, ↓ev_pIL, ↓ev_pR, ↓ev_pIR, ↓ev_pIIR, ↓ev_pLIR, ↓ev_pRIR, ↓ev_pop0, ↓ev_popS, ↓ev_eq, ↓ev_ne, ↓ev_lt, ↓ev_ge, ↓ev_gt, ↓ev_le, ↓ev_ldi0, ↓ev_ldiS, ↓ev_ldl0, ↓ev_ldlS, ↓ev_lda0, ↓ev_ldaN, ↓ev_ldaS, ↓ev_staR, ↓ev_staN, ↓ev_pfI, ↓ev_pfZ, ↓ev_pfL, ↓ev_pfR, ↓ev_kc, ↓ev_kcN, ↓inv, bk, sL, gf, tyI, tyIs, tyB, tyQ, tyN, nbk, ekd, elOk, isO, swl, vNat, vI, k1, st1, st2, ent, rtQ, va_rf, List.replicate, List.mem_cons, List.not_mem_nil, or_false, false_or, or_true, true_or, or_self, ↓reduceIte, Nat.reduceAdd, Nat.reduceEqDiff, true_and, and_true, reduceCtorEq, forall_const, false_implies, implies_true, true_implies, not_true_eq_false, not_false_eq_true, e00, e10, e01, e11, lg_eq0, lg_lt0, lg_le0, lg_gt0, lg_ge0, t0, r3, t2, hp1]
    try simp (disch := omega) only [z_rm, Nat.add_sub_cancel, Nat.add_one_sub_one, Nat.reduceEqDiff, pk_mul, nI_add, nI_1, pk_sub, pk_div, pk_rem, nI_ltI, nI_leI, nI_eq, z_cl, z_in, z_lt0, z_0le, z_eq0, z_le0, z_0lt, z_m1, z_i2l, z_l2i, z_ult, pk_lLT, pk_lLE, pk_lEQ, lN_add, lN_mul, lN_sub, true_and, and_true, forall_const, false_implies, implies_true, true_implies, not_true_eq_false, not_false_eq_true, Nat.not_lt, Nat.not_le]
    match k, hi with
    | 0, hi =>
      obtain rfl : i = pn := by omega
      exact ⟨fun _ => h0 (fun ⟨p, a, c⟩ => hq p a c), fun q => absurd q (by omega)⟩
    | k + 1, hi =>
      obtain ⟨e1, e2, e3, e4⟩ := P.2.2 i (by omega)
      refine ⟨fun q => absurd q (by omega), fun _ => ?_⟩
      rw [e1]
      have nx : ¬ ((ph i).length = n ∧ stA tk n 0 (ph i)) → AT G 4 T00 Q 2 [some (.ref b), some (.ref t), some (.int (nI n)), some (.int (nI (i + 1)))] [] 0 0 T I J R := fun z =>
        l_bholds B9 P hT hn K h1 h0 k (i + 1) (by omega) (fun p hp => by
          rcases Nat.lt_or_ge p i with y | y
          · exact hq p y
          · obtain rfl : p = i := by omega
            exact z)
      try simp (disch := omega) only [z_rm, Nat.add_sub_cancel, Nat.add_one_sub_one, Nat.reduceEqDiff, pk_mul, nI_add, nI_1, pk_sub, pk_div, pk_rem, nI_ltI, nI_leI, nI_eq, z_cl, z_in, z_lt0, z_0le, z_eq0, z_le0, z_0lt, z_m1, z_i2l, z_l2i, z_ult, pk_lLT, pk_lLE, pk_lEQ, lN_add, lN_mul, lN_sub, true_and, and_true, forall_const, false_implies, implies_true, true_implies, not_true_eq_false, not_false_eq_true, Nat.not_lt, Nat.not_le]
      refine ⟨fun q => nx (fun z => q z.1), fun q => ?_⟩
      refine c_standsAt B9 P (by omega) hT hn (by omega) K (fun z => ?_) (fun z => ?_)
      · simp only [↓ev_iconst, ↓ev_bipush, ↓ev_sipush, ↓ev_lconst, ↓ev_ldc, ↓ev_ldc_w, ↓ev_ldc2_w, ↓ev_aconst_null, ↓ev_iload, ↓ev_iload_n, ↓ev_lload, ↓ev_lload_n, ↓ev_aload, ↓ev_aload_n, ↓ev_istore, ↓ev_istore_n, ↓ev_lstore, ↓ev_lstore_n, ↓ev_astore, ↓ev_astore_n, ↓ev_iinc, ↓ev_iadd, ↓ev_isub, ↓ev_imul, ↓ev_iand, ↓ev_ixor, ↓ev_idiv, ↓ev_irem, ↓ev_ineg, ↓ev_i2l, ↓ev_i2b, ↓ev_l2i, ↓ev_ladd, ↓ev_lsub, ↓ev_lmul, ↓ev_land, ↓ev_lor, ↓ev_ldiv, ↓ev_lrem, ↓ev_lushr, ↓ev_lshl, ↓ev_lcmp, ↓ev_dup, ↓ev_pop, ↓ev_dup2, ↓ev_if_icmp, ↓ev_ifCond, ↓ev_goto, ↓ev_ifnull, ↓ev_ifnonnull, ↓ev_tableswitch, ↓ev_lookupswitch, ↓ev_getfield, ↓ev_putfield, ↓ev_getstatic, ↓ev_iaload, ↓ev_baload, ↓ev_laload, ↓ev_aaload, ↓ev_iastore, ↓ev_bastore, ↓ev_lastore, ↓ev_aastore, ↓ev_arraylength, ↓ev_new, ↓ev_newarray, ↓ev_anewarray, ↓ev_invokevirtual, ↓ev_invokestatic, ↓ev_invokespecial, ↓ev_ireturn, ↓ev_lreturn, ↓ev_areturn, ↓ev_ret, ↓ev_0, ↓ev_nil, ↓ev_cons, ↓ev_jp, ↓ev_pI, ↓ev_pII, ↓ev_pL, ↓ev_pLL, ↓ev_pIL, ↓ev_pR, ↓ev_pIR, ↓ev_pIIR, ↓ev_pLIR, ↓ev_pRIR, ↓ev_pop0, ↓ev_popS, ↓ev_eq, ↓ev_ne, ↓ev_lt, ↓ev_ge, ↓ev_gt, ↓ev_le, ↓ev_ldi0, ↓ev_ldiS, ↓ev_ldl0, ↓ev_ldlS, ↓ev_lda0, ↓ev_ldaN, ↓ev_ldaS, ↓ev_staR, ↓ev_staN, ↓ev_pfI, ↓ev_pfZ, ↓ev_pfL, ↓ev_pfR, ↓ev_kc, ↓ev_kcN, ↓inv, bk, sL, gf, tyI, tyIs, tyB, tyQ, tyN, nbk, ekd, elOk, isO, swl, vNat, vI, k1, st1, st2, ent, rtQ, va_rf, List.replicate, List.mem_cons, List.not_mem_nil, or_false, false_or, or_true, true_or, or_self, ↓reduceIte, Nat.reduceAdd, Nat.reduceEqDiff, true_and, and_true, reduceCtorEq, forall_const, false_implies, implies_true, true_implies, not_true_eq_false, not_false_eq_true, e00, e10, e01, e11, lg_eq0, lg_lt0, lg_le0, lg_gt0, lg_ge0]
        exact h1 ⟨i, by omega, q, z⟩
      · simp only [↓ev_iconst, ↓ev_bipush, ↓ev_sipush, ↓ev_lconst, ↓ev_ldc, ↓ev_ldc_w, ↓ev_ldc2_w, ↓ev_aconst_null, ↓ev_iload, ↓ev_iload_n, ↓ev_lload, ↓ev_lload_n, ↓ev_aload, ↓ev_aload_n, ↓ev_istore, ↓ev_istore_n, ↓ev_lstore, ↓ev_lstore_n, ↓ev_astore, ↓ev_astore_n, ↓ev_iinc, ↓ev_iadd, ↓ev_isub, ↓ev_imul, ↓ev_iand, ↓ev_ixor, ↓ev_idiv, ↓ev_irem, ↓ev_ineg, ↓ev_i2l, ↓ev_i2b, ↓ev_l2i, ↓ev_ladd, ↓ev_lsub, ↓ev_lmul, ↓ev_land, ↓ev_lor, ↓ev_ldiv, ↓ev_lrem, ↓ev_lushr, ↓ev_lshl, ↓ev_lcmp, ↓ev_dup, ↓ev_pop, ↓ev_dup2, ↓ev_if_icmp, ↓ev_ifCond, ↓ev_goto, ↓ev_ifnull, ↓ev_ifnonnull, ↓ev_tableswitch, ↓ev_lookupswitch, ↓ev_getfield, ↓ev_putfield, ↓ev_getstatic, ↓ev_iaload, ↓ev_baload, ↓ev_laload, ↓ev_aaload, ↓ev_iastore, ↓ev_bastore, ↓ev_lastore, ↓ev_aastore, ↓ev_arraylength, ↓ev_new, ↓ev_newarray, ↓ev_anewarray, ↓ev_invokevirtual, ↓ev_invokestatic, ↓ev_invokespecial, ↓ev_ireturn, ↓ev_lreturn, ↓ev_areturn, ↓ev_ret, ↓ev_0, ↓ev_nil, ↓ev_cons, ↓ev_jp, ↓ev_pI, ↓ev_pII, ↓ev_pL, ↓ev_pLL, ↓ev_pIL, ↓ev_pR, ↓ev_pIR, ↓ev_pIIR, ↓ev_pLIR, ↓ev_pRIR, ↓ev_pop0, ↓ev_popS, ↓ev_eq, ↓ev_ne, ↓ev_lt, ↓ev_ge, ↓ev_gt, ↓ev_le, ↓ev_ldi0, ↓ev_ldiS, ↓ev_ldl0, ↓ev_ldlS, ↓ev_lda0, ↓ev_ldaN, ↓ev_ldaS, ↓ev_staR, ↓ev_staN, ↓ev_pfI, ↓ev_pfZ, ↓ev_pfL, ↓ev_pfR, ↓ev_kc, ↓ev_kcN, ↓inv, bk, sL, gf, tyI, tyIs, tyB, tyQ, tyN, nbk, ekd, elOk, isO, swl, vNat, vI, k1, st1, st2, ent, rtQ, va_rf, List.replicate, List.mem_cons, List.not_mem_nil, or_false, false_or, or_true, true_or, or_self, ↓reduceIte, Nat.reduceAdd, Nat.reduceEqDiff, true_and, and_true, reduceCtorEq, forall_const, false_implies, implies_true, true_implies, not_true_eq_false, not_false_eq_true, e00, e10, e01, e11, lg_eq0, lg_lt0, lg_le0, lg_gt0, lg_ge0]
        try simp (disch := omega) only [z_rm, Nat.add_sub_cancel, Nat.add_one_sub_one, Nat.reduceEqDiff, pk_mul, nI_add, nI_1, pk_sub, pk_div, pk_rem, nI_ltI, nI_leI, nI_eq, z_cl, z_in, z_lt0, z_0le, z_eq0, z_le0, z_0lt, z_m1, z_i2l, z_l2i, z_ult, pk_lLT, pk_lLE, pk_lEQ, lN_add, lN_mul, lN_sub, true_and, and_true, forall_const, false_implies, implies_true, true_implies, not_true_eq_false, not_false_eq_true, Nat.not_lt, Nat.not_le]
        exact nx (fun y => z y.2)
set_option maxRecDepth 100000 in
theorem c_holds {b t n pn : Nat} {tk : Nat → Tok} {ph : Nat → List (List Nat)} (B9 : BO T R b) (P : PH I J b pn ph) (hT : T t = some (15, 20)) (hn : n ≤ 20) (K : TR J t n tk) (h1 : hasP tk n pn ph → Q (some (.int (nI 1))) T I J R) (h0 : ¬ hasP tk n pn ph → Q (some (.int (nI 0))) T I J R) : Run G 4 [.ref b, .ref t, .int (nI n)] T I J R Q := by
  refine Run.body (by decide) 1 (Nat.le_of_ble_eq_true rfl) (AT.go okB4 1 rfl [2] 40 0 ?_)
  simp only [B4, ↓ev_iconst, ↓ev_bipush, ↓ev_sipush, ↓ev_lconst, ↓ev_ldc, ↓ev_ldc_w, ↓ev_ldc2_w, ↓ev_aconst_null, ↓ev_iload, ↓ev_iload_n, ↓ev_lload, ↓ev_lload_n, ↓ev_aload, ↓ev_aload_n, ↓ev_istore, ↓ev_istore_n, ↓ev_lstore, ↓ev_lstore_n, ↓ev_astore, ↓ev_astore_n, ↓ev_iinc, ↓ev_iadd, ↓ev_isub, ↓ev_imul, ↓ev_iand, ↓ev_ixor, ↓ev_idiv, ↓ev_irem, ↓ev_ineg, ↓ev_i2l, ↓ev_i2b, ↓ev_l2i, ↓ev_ladd, ↓ev_lsub, ↓ev_lmul, ↓ev_land, ↓ev_lor, ↓ev_ldiv, ↓ev_lrem, ↓ev_lushr, ↓ev_lshl, ↓ev_lcmp, ↓ev_dup, ↓ev_pop, ↓ev_dup2, ↓ev_if_icmp, ↓ev_ifCond, ↓ev_goto, ↓ev_ifnull, ↓ev_ifnonnull, ↓ev_tableswitch, ↓ev_lookupswitch, ↓ev_getfield, ↓ev_putfield, ↓ev_getstatic, ↓ev_iaload, ↓ev_baload, ↓ev_laload, ↓ev_aaload, ↓ev_iastore, ↓ev_bastore, ↓ev_lastore, ↓ev_aastore, ↓ev_arraylength, ↓ev_new, ↓ev_newarray, ↓ev_anewarray, ↓ev_invokevirtual, ↓ev_invokestatic, ↓ev_invokespecial, ↓ev_ireturn, ↓ev_lreturn, ↓ev_areturn, ↓ev_ret, ↓ev_0, ↓ev_nil, ↓ev_cons, ↓ev_jp, ↓ev_pI, ↓ev_pII, ↓ev_pL, ↓ev_pLL, ↓ev_pIL, ↓ev_pR, ↓ev_pIR, ↓ev_pIIR, ↓ev_pLIR, ↓ev_pRIR, ↓ev_pop0, ↓ev_popS, ↓ev_eq, ↓ev_ne, ↓ev_lt, ↓ev_ge, ↓ev_gt, ↓ev_le, ↓ev_ldi0, ↓ev_ldiS, ↓ev_ldl0, ↓ev_ldlS, ↓ev_lda0, ↓ev_ldaN, ↓ev_ldaS, ↓ev_staR, ↓ev_staN, ↓ev_pfI, ↓ev_pfZ, ↓ev_pfL, ↓ev_pfR, ↓ev_kc, ↓ev_kcN, ↓inv, bk, sL, gf, tyI, tyIs, tyB, tyQ, tyN, nbk, ekd, elOk, isO, swl, vNat, vI, k1, st1, st2, ent, rtQ, va_rf, List.replicate, List.mem_cons, List.not_mem_nil, or_false, false_or, or_true, true_or, or_self, ↓reduceIte, Nat.reduceAdd, Nat.reduceEqDiff, true_and, and_true, reduceCtorEq, forall_const, false_implies, implies_true, true_implies, not_true_eq_false, not_false_eq_true, e00, e10, e01, e11, lg_eq0, lg_lt0, lg_le0, lg_gt0, lg_ge0]
  exact l_bholds B9 P hT hn K h1 h0 pn 0 (by omega) (fun p hp => by omega)
set_option maxRecDepth 100000 in
theorem l_phraseWith {b pn : Nat} {x : Int32} (B9 : BO T R b) (hp1 : I b 5 = nI pn) (hpn : pn ≤ 30) {T00 : TTy} (h1 : ∀ p, p < pn → I (b + 3) p = x → (∀ q, q < p → I (b + 3) q ≠ x) → Q (some (.int (nI p))) T I J R) (h0 : (∀ p, p < pn → I (b + 3) p ≠ x) → Q (some (.int (-9))) T I J R) :
    ∀ k i, i + k = pn → (∀ p, p < i → I (b + 3) p ≠ x) → AT G 7 T00 Q 2 [some (.ref b), some (.int x), some (.int (nI i))] [] 0 0 T I J R
  | k, i, hi, hq => by
    obtain ⟨t0, r2, t1, r3, t2, r4, t3⟩ := id B9
    refine AT.go okB7 0 rfl [2] 40 2 ?_
    simp only [B7, ↓ev_iconst, ↓ev_bipush, ↓ev_sipush, ↓ev_lconst, ↓ev_ldc, ↓ev_ldc_w, ↓ev_ldc2_w, ↓ev_aconst_null, ↓ev_iload, ↓ev_iload_n, ↓ev_lload, ↓ev_lload_n, ↓ev_aload, ↓ev_aload_n, ↓ev_istore, ↓ev_istore_n, ↓ev_lstore, ↓ev_lstore_n, ↓ev_astore, ↓ev_astore_n, ↓ev_iinc, ↓ev_iadd, ↓ev_isub, ↓ev_imul, ↓ev_iand, ↓ev_ixor, ↓ev_idiv, ↓ev_irem, ↓ev_ineg, ↓ev_i2l, ↓ev_i2b, ↓ev_l2i, ↓ev_ladd, ↓ev_lsub, ↓ev_lmul, ↓ev_land, ↓ev_lor, ↓ev_ldiv, ↓ev_lrem, ↓ev_lushr, ↓ev_lshl, ↓ev_lcmp, ↓ev_dup, ↓ev_pop, ↓ev_dup2, ↓ev_if_icmp, ↓ev_ifCond, ↓ev_goto, ↓ev_ifnull, ↓ev_ifnonnull, ↓ev_tableswitch, ↓ev_lookupswitch, ↓ev_getfield, ↓ev_putfield, ↓ev_getstatic, ↓ev_iaload, ↓ev_baload, ↓ev_laload, ↓ev_aaload, ↓ev_iastore, ↓ev_bastore, ↓ev_lastore, ↓ev_aastore, ↓ev_arraylength, ↓ev_new, ↓ev_newarray, ↓ev_anewarray, ↓ev_invokevirtual, ↓ev_invokestatic, ↓ev_invokespecial, ↓ev_ireturn, ↓ev_lreturn, ↓ev_areturn, ↓ev_ret, ↓ev_0, ↓ev_nil, ↓ev_cons, ↓ev_jp, ↓ev_pI, ↓ev_pII, ↓ev_pL, ↓ev_pLL, ↓ev_pIL, ↓ev_pR, ↓ev_pIR, ↓ev_pIIR, ↓ev_pLIR, ↓ev_pRIR, ↓ev_pop0, ↓ev_popS, ↓ev_eq, ↓ev_ne, ↓ev_lt, ↓ev_ge, ↓ev_gt, ↓ev_le, ↓ev_ldi0, ↓ev_ldiS, ↓ev_ldl0, ↓ev_ldlS, ↓ev_lda0, ↓ev_ldaN, ↓ev_ldaS, ↓ev_staR, ↓ev_staN, ↓ev_pfI, ↓ev_pfZ, ↓ev_pfL, ↓ev_pfR, ↓ev_kc, ↓ev_kcN, ↓inv, bk, sL, gf, tyI, tyIs, tyB, tyQ, tyN, nbk, ekd, elOk, isO, swl, vNat, vI, k1, st1, st2, ent, rtQ, va_rf, List.replicate, List.mem_cons, List.not_mem_nil, or_false, false_or, or_true, true_or, or_self, ↓reduceIte, Nat.reduceAdd, Nat.reduceEqDiff, true_and, and_true, reduceCtorEq, forall_const, false_implies, implies_true, true_implies, not_true_eq_false, not_false_eq_true, e00, e10, e01, e11, lg_eq0, lg_lt0, lg_le0, lg_gt0, lg_ge0, t0, r4, t3, hp1]
    try simp (disch := omega) only [z_rm, Nat.add_sub_cancel, Nat.add_one_sub_one, Nat.reduceEqDiff, pk_mul, nI_add, nI_1, pk_sub, pk_div, pk_rem, nI_ltI, nI_leI, nI_eq, z_cl, z_in, z_lt0, z_0le, z_eq0, z_le0, z_0lt, z_m1, z_i2l, z_l2i, z_ult, pk_lLT, pk_lLE, pk_lEQ, lN_add, lN_mul, lN_sub, true_and, and_true, forall_const, false_implies, implies_true, true_implies, not_true_eq_false, not_false_eq_true, Nat.not_lt, Nat.not_le]
    match k, hi with
    | 0, hi =>
      obtain rfl : i = pn := by omega
      exact ⟨fun _ => h0 hq, fun q => absurd q (by omega)⟩
    | k + 1, hi =>
      refine ⟨fun q => absurd q (by omega), fun _ => ?_⟩
      try simp (disch := omega) only [z_rm, Nat.add_sub_cancel, Nat.add_one_sub_one, Nat.reduceEqDiff, pk_mul, nI_add, nI_1, pk_sub, pk_div, pk_rem, nI_ltI, nI_leI, nI_eq, z_cl, z_in, z_lt0, z_0le, z_eq0, z_le0, z_0lt, z_m1, z_i2l, z_l2i, z_ult, pk_lLT, pk_lLE, pk_lEQ, lN_add, lN_mul, lN_sub, true_and, and_true, forall_const, false_implies, implies_true, true_implies, not_true_eq_false, not_false_eq_true, Nat.not_lt, Nat.not_le]
      refine ⟨fun q => ?_, fun q => h1 i (by omega) q hq⟩
      exact l_phraseWith B9 hp1 hpn h1 h0 k (i + 1) (by omega) (fun p hp => by
        rcases Nat.lt_or_ge p i with y | y
        · exact hq p y
        · obtain rfl : p = i := by omega
          exact q)
set_option maxRecDepth 100000 in
theorem c_phraseWith {b pn : Nat} {x : Int32} (B9 : BO T R b) (hp1 : I b 5 = nI pn) (hpn : pn ≤ 30) (h1 : ∀ p, p < pn → I (b + 3) p = x → (∀ q, q < p → I (b + 3) q ≠ x) → Q (some (.int (nI p))) T I J R) (h0 : (∀ p, p < pn → I (b + 3) p ≠ x) → Q (some (.int (-9))) T I J R) : Run G 7 [.ref b, .int x] T I J R Q := by
  refine Run.body (by decide) 1 (Nat.le_of_ble_eq_true rfl) (AT.go okB7 0 rfl [2] 40 0 ?_)
  simp only [B7, ↓ev_iconst, ↓ev_bipush, ↓ev_sipush, ↓ev_lconst, ↓ev_ldc, ↓ev_ldc_w, ↓ev_ldc2_w, ↓ev_aconst_null, ↓ev_iload, ↓ev_iload_n, ↓ev_lload, ↓ev_lload_n, ↓ev_aload, ↓ev_aload_n, ↓ev_istore, ↓ev_istore_n, ↓ev_lstore, ↓ev_lstore_n, ↓ev_astore, ↓ev_astore_n, ↓ev_iinc, ↓ev_iadd, ↓ev_isub, ↓ev_imul, ↓ev_iand, ↓ev_ixor, ↓ev_idiv, ↓ev_irem, ↓ev_ineg, ↓ev_i2l, ↓ev_i2b, ↓ev_l2i, ↓ev_ladd, ↓ev_lsub, ↓ev_lmul, ↓ev_land, ↓ev_lor, ↓ev_ldiv, ↓ev_lrem, ↓ev_lushr, ↓ev_lshl, ↓ev_lcmp, ↓ev_dup, ↓ev_pop, ↓ev_dup2, ↓ev_if_icmp, ↓ev_ifCond, ↓ev_goto, ↓ev_ifnull, ↓ev_ifnonnull, ↓ev_tableswitch, ↓ev_lookupswitch, ↓ev_getfield, ↓ev_putfield, ↓ev_getstatic, ↓ev_iaload, ↓ev_baload, ↓ev_laload, ↓ev_aaload, ↓ev_iastore, ↓ev_bastore, ↓ev_lastore, ↓ev_aastore, ↓ev_arraylength, ↓ev_new, ↓ev_newarray, ↓ev_anewarray, ↓ev_invokevirtual, ↓ev_invokestatic, ↓ev_invokespecial, ↓ev_ireturn, ↓ev_lreturn, ↓ev_areturn, ↓ev_ret, ↓ev_0, ↓ev_nil, ↓ev_cons, ↓ev_jp, ↓ev_pI, ↓ev_pII, ↓ev_pL, ↓ev_pLL, ↓ev_pIL, ↓ev_pR, ↓ev_pIR, ↓ev_pIIR, ↓ev_pLIR, ↓ev_pRIR, ↓ev_pop0, ↓ev_popS, ↓ev_eq, ↓ev_ne, ↓ev_lt, ↓ev_ge, ↓ev_gt, ↓ev_le, ↓ev_ldi0, ↓ev_ldiS, ↓ev_ldl0, ↓ev_ldlS, ↓ev_lda0, ↓ev_ldaN, ↓ev_ldaS, ↓ev_staR, ↓ev_staN, ↓ev_pfI, ↓ev_pfZ, ↓ev_pfL, ↓ev_pfR, ↓ev_kc, ↓ev_kcN, ↓inv, bk, sL, gf, tyI, tyIs, tyB, tyQ, tyN, nbk, ekd, elOk, isO, swl, vNat, vI, k1, st1, st2, ent, rtQ, va_rf, List.replicate, List.mem_cons, List.not_mem_nil, or_false, false_or, or_true, true_or, or_self, ↓reduceIte, Nat.reduceAdd, Nat.reduceEqDiff, true_and, and_true, reduceCtorEq, forall_const, false_implies, implies_true, true_implies, not_true_eq_false, not_false_eq_true, e00, e10, e01, e11, lg_eq0, lg_lt0, lg_le0, lg_gt0, lg_ge0]
  exact l_phraseWith B9 hp1 hpn h1 h0 pn 0 (by omega) (fun p hp => by omega)
/-- places of two groups that are unlike, the last n of them -/
def unl (x y : Nat) : Nat → Nat
  | 0 => 0
  | n + 1 => unl x y n + (if x / 26 ^ n % 26 = y / 26 ^ n % 26 then 0 else 1)
theorem unl_le (x y : Nat) : ∀ n, unl x y n ≤ n
  | 0 => Nat.le_refl _
  | n + 1 => by
    have := unl_le x y n
    unfold unl
    split <;> omega
set_option maxRecDepth 100000 in
theorem l_unlike {x y : Nat} {p q : Int32} (hx : x < 2 ^ 30) (hy : y < 2 ^ 30) {T00 : TTy} (h : Q (some (.int (nI (unl x y 5)))) T I J R) :
    ∀ n i, i + n = 5 → AT G 9 T00 Q 10 [some (.int p), some (.int q), some (.int (nI (unl x y i))), some (.int (nI (x / 26 ^ i))), some (.int (nI (y / 26 ^ i))), some (.int (nI i))] [] 0 0 T I J R
  | n, i, hi => by
    have h1 : x / 26 ^ i ≤ x := Nat.div_le_self _ _
    have h2 : y / 26 ^ i ≤ y := Nat.div_le_self _ _
    have h3 := unl_le x y i
    have e1 : x / 26 ^ i / 26 = x / 26 ^ (i + 1) := by rw [Nat.div_div_eq_div_mul, ← Nat.pow_succ]
    have e2 : y / 26 ^ i / 26 = y / 26 ^ (i + 1) := by rw [Nat.div_div_eq_div_mul, ← Nat.pow_succ]
    refine AT.go okB9 0 rfl [10] 50 10 ?_
    simp only [B9, ↓ev_iconst, ↓ev_bipush, ↓ev_sipush, ↓ev_lconst, ↓ev_ldc, ↓ev_ldc_w, ↓ev_ldc2_w, ↓ev_aconst_null, ↓ev_iload, ↓ev_iload_n, ↓ev_lload, ↓ev_lload_n, ↓ev_aload, ↓ev_aload_n, ↓ev_istore, ↓ev_istore_n, ↓ev_lstore, ↓ev_lstore_n, ↓ev_astore, ↓ev_astore_n, ↓ev_iinc, ↓ev_iadd, ↓ev_isub, ↓ev_imul, ↓ev_iand, ↓ev_ixor, ↓ev_idiv, ↓ev_irem, ↓ev_ineg, ↓ev_i2l, ↓ev_i2b, ↓ev_l2i, ↓ev_ladd, ↓ev_lsub, ↓ev_lmul, ↓ev_land, ↓ev_lor, ↓ev_ldiv, ↓ev_lrem, ↓ev_lushr, ↓ev_lshl, ↓ev_lcmp, ↓ev_dup, ↓ev_pop, ↓ev_dup2, ↓ev_if_icmp, ↓ev_ifCond, ↓ev_goto, ↓ev_ifnull, ↓ev_ifnonnull, ↓ev_tableswitch, ↓ev_lookupswitch, ↓ev_getfield, ↓ev_putfield, ↓ev_getstatic, ↓ev_iaload, ↓ev_baload, ↓ev_laload, ↓ev_aaload, ↓ev_iastore, ↓ev_bastore, ↓ev_lastore, ↓ev_aastore, ↓ev_arraylength, ↓ev_new, ↓ev_newarray, ↓ev_anewarray, ↓ev_invokevirtual, ↓ev_invokestatic, ↓ev_invokespecial, ↓ev_ireturn, ↓ev_lreturn, ↓ev_areturn, ↓ev_ret, ↓ev_0, ↓ev_nil, ↓ev_cons, ↓ev_jp, ↓ev_pI, ↓ev_pII, ↓ev_pL, ↓ev_pLL, ↓ev_pIL, ↓ev_pR, ↓ev_pIR, ↓ev_pIIR, ↓ev_pLIR, ↓ev_pRIR, ↓ev_pop0, ↓ev_popS, ↓ev_eq, ↓ev_ne, ↓ev_lt, ↓ev_ge, ↓ev_gt, ↓ev_le, ↓ev_ldi0, ↓ev_ldiS, ↓ev_ldl0, ↓ev_ldlS, ↓ev_lda0, ↓ev_ldaN, ↓ev_ldaS, ↓ev_staR, ↓ev_staN, ↓ev_pfI, ↓ev_pfZ, ↓ev_pfL, ↓ev_pfR, ↓ev_kc, ↓ev_kcN, ↓inv, bk, sL, gf, tyI, tyIs, tyB, tyQ, tyN, nbk, ekd, elOk, isO, swl, vNat, vI, k1, st1, st2, ent, rtQ, va_rf, List.replicate, List.mem_cons, List.not_mem_nil, or_false, false_or, or_true, true_or, or_self, ↓reduceIte, Nat.reduceAdd, Nat.reduceEqDiff, true_and, and_true, reduceCtorEq, forall_const, false_implies, implies_true, true_implies, not_true_eq_false, not_false_eq_true, e00, e10, e01, e11, lg_eq0, lg_lt0, lg_le0, lg_gt0, lg_ge0]
    try simp (disch := omega) only [z_rm, Nat.add_sub_cancel, Nat.add_one_sub_one, Nat.reduceEqDiff, pk_mul, nI_add, nI_1, pk_sub, pk_div, pk_rem, nI_ltI, nI_leI, nI_eq, z_cl, z_in, z_lt0, z_0le, z_eq0, z_le0, z_0lt, z_m1, z_i2l, z_l2i, z_ult, pk_lLT, pk_lLE, pk_lEQ, lN_add, lN_mul, lN_sub, true_and, and_true, forall_const, false_implies, implies_true, true_implies, not_true_eq_false, not_false_eq_true, Nat.not_lt, Nat.not_le]
    match n, hi with
    | 0, hi =>
      obtain rfl : i = 5 := by omega
      exact ⟨fun _ => h, fun z => absurd z (by omega)⟩
    | n + 1, hi =>
      have ih := l_unlike (p := p) (q := q) hx hy h n (i + 1) (by omega) (T00 := T00)
      unfold unl at ih
      rw [e1, e2]
      refine ⟨fun z => absurd z (by omega), fun _ => ⟨fun z => ?_, fun z => ?_⟩⟩
      · rw [if_pos z] at ih
        exact ih
      · rw [if_neg z] at ih
        exact ih
set_option maxRecDepth 100000 in
theorem c_unlike {x y : Nat} (hx : x < 2 ^ 30) (hy : y < 2 ^ 30) (h : Q (some (.int (nI (unl x y 5)))) T I J R) : Run G 9 [.int (nI x), .int (nI y)] T I J R Q := by
  refine Run.body (by decide) 4 (Nat.le_of_ble_eq_true rfl) (AT.go okB9 0 rfl [10] 40 0 ?_)
  simp only [B9, ↓ev_iconst, ↓ev_bipush, ↓ev_sipush, ↓ev_lconst, ↓ev_ldc, ↓ev_ldc_w, ↓ev_ldc2_w, ↓ev_aconst_null, ↓ev_iload, ↓ev_iload_n, ↓ev_lload, ↓ev_lload_n, ↓ev_aload, ↓ev_aload_n, ↓ev_istore, ↓ev_istore_n, ↓ev_lstore, ↓ev_lstore_n, ↓ev_astore, ↓ev_astore_n, ↓ev_iinc, ↓ev_iadd, ↓ev_isub, ↓ev_imul, ↓ev_iand, ↓ev_ixor, ↓ev_idiv, ↓ev_irem, ↓ev_ineg, ↓ev_i2l, ↓ev_i2b, ↓ev_l2i, ↓ev_ladd, ↓ev_lsub, ↓ev_lmul, ↓ev_land, ↓ev_lor, ↓ev_ldiv, ↓ev_lrem, ↓ev_lushr, ↓ev_lshl, ↓ev_lcmp, ↓ev_dup, ↓ev_pop, ↓ev_dup2, ↓ev_if_icmp, ↓ev_ifCond, ↓ev_goto, ↓ev_ifnull, ↓ev_ifnonnull, ↓ev_tableswitch, ↓ev_lookupswitch, ↓ev_getfield, ↓ev_putfield, ↓ev_getstatic, ↓ev_iaload, ↓ev_baload, ↓ev_laload, ↓ev_aaload, ↓ev_iastore, ↓ev_bastore, ↓ev_lastore, ↓ev_aastore, ↓ev_arraylength, ↓ev_new, ↓ev_newarray, ↓ev_anewarray, ↓ev_invokevirtual, ↓ev_invokestatic, ↓ev_invokespecial, ↓ev_ireturn, ↓ev_lreturn, ↓ev_areturn, ↓ev_ret, ↓ev_0, ↓ev_nil, ↓ev_cons, ↓ev_jp, ↓ev_pI, ↓ev_pII, ↓ev_pL, ↓ev_pLL, ↓ev_pIL, ↓ev_pR, ↓ev_pIR, ↓ev_pIIR, ↓ev_pLIR, ↓ev_pRIR, ↓ev_pop0, ↓ev_popS, ↓ev_eq, ↓ev_ne, ↓ev_lt, ↓ev_ge, ↓ev_gt, ↓ev_le, ↓ev_ldi0, ↓ev_ldiS, ↓ev_ldl0, ↓ev_ldlS, ↓ev_lda0, ↓ev_ldaN, ↓ev_ldaS, ↓ev_staR, ↓ev_staN, ↓ev_pfI, ↓ev_pfZ, ↓ev_pfL, ↓ev_pfR, ↓ev_kc, ↓ev_kcN, ↓inv, bk, sL, gf, tyI, tyIs, tyB, tyQ, tyN, nbk, ekd, elOk, isO, swl, vNat, vI, k1, st1, st2, ent, rtQ, va_rf, List.replicate, List.mem_cons, List.not_mem_nil, or_false, false_or, or_true, true_or, or_self, ↓reduceIte, Nat.reduceAdd, Nat.reduceEqDiff, true_and, and_true, reduceCtorEq, forall_const, false_implies, implies_true, true_implies, not_true_eq_false, not_false_eq_true, e00, e10, e01, e11, lg_eq0, lg_lt0, lg_le0, lg_gt0, lg_ge0]
  have := l_unlike (G := G) (p := nI x) (q := nI y) hx hy h 5 0 (by omega) (T00 := T)
  simp only [Nat.pow_zero, Nat.div_one] at this
  exact this
end BOOK2
