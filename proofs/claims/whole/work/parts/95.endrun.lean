/-! a run ends, in the house -/
section ENDRUN
variable {G : GGy} {T : TTy} {I : MIy} {J : MJy} {R : MRy} {Q : QQy} {s : AlS}
theorem CNt.gen {N N' : NtS} {m l0 : Nat} {I' : MIy} (Cn : CNt T I R N) (sm : smN N N') (hLo : ∀ l, l ≠ l0 → N'.L l = N.L l) (hjy : ∀ k, k ≠ m → N'.jy k = N.jy k) (hrn : ∀ l w, l ≠ l0 → w < 2 → N'.rn (2 * l + w) = N.rn (2 * l + w) ∧ N'.en (2 * l + w) = N.en (2 * l + w))
    (k16 : ∀ k, k = 0 ∨ k = 3 ∨ k = 5 → I' 16 k = I 16 k) (k8 : I' 16 8 = nI N'.ck) (k9 : I' 16 9 = N'.sn) (k10 : I' 16 10 = nI N'.tu) (k17 : ∀ s k, s < 8 → k < 4 → I' 17 (s * 4 + k) = N'.lg s k)
    (kL : ∀ l j, l < N.nl → l ≠ l0 → j < 4 → j ≠ 1 → I' (200 + 4 * l + j) = I (200 + 4 * l + j)) (kW : ∀ l w, l < N.nl → l ≠ l0 → w < 2 → I' (200 + 4 * l + 1) w = nI (wcn N' l (lnSt (N'.L l) w) N.jn)) (cl : CLn T I' R l0 N')
    (kJ : ∀ k j, k < N.jn → k ≠ m → j < 4 → I' (1010 + 16 * k + j) = I (1010 + 16 * k + j)) (kM : CJn T I' R (1010 + 16 * m) (N'.jy m)) (v' : vNt N') : CNt T I' R N' := by
  obtain ⟨a0, a1, a2, a3, a4, a5, a6, a7, a8, v⟩ := Cn
  obtain ⟨s1, s2, s3, s4, s5, s6⟩ := sm
  refine ⟨by rw [k16 0 (by omega), s1]; exact a0, k17, by rw [k16 3 (by omega), s2]; exact a2, fun l hl => ⟨(a3 l (by omega)).1, ?_⟩, by rw [k16 5 (by omega), s3]; exact a4, fun k hk => ⟨(a5 k (by omega)).1, ?_⟩, k8, k9, k10, v'⟩
  · by_cases q : l = l0
    · subst q
      exact cl
    · obtain ⟨z0, z1, z2, z3, z4, z5, z6, z7, z8, z9, z10, z11, z12, z13⟩ := (a3 l (by omega)).2
      have e0 : I' (200 + 4 * l) = I (200 + 4 * l) := kL l 0 (by omega) q (by decide) (by decide)
      have e2 : I' (200 + 4 * l + 2) = I (200 + 4 * l + 2) := kL l 2 (by omega) q (by decide) (by decide)
      have e3 : I' (200 + 4 * l + 3) = I (200 + 4 * l + 3) := kL l 3 (by omega) q (by decide) (by decide)
      have eL := hLo l q
      refine ⟨z0, z1, z2, z3, z4, z5, z6, by rw [e0, eL]; exact z7, by rw [e0, eL]; exact z8, by rw [e0, eL]; exact z9, by rw [e0, eL]; exact z10, by rw [e0, eL]; exact z11, by rw [e0, eL]; exact z12, fun w w2 => ⟨by rw [s3]; exact kW l w (by omega) q w2, ?_⟩⟩
      rw [e2, e3, (hrn l w q w2).1, (hrn l w q w2).2]
      exact (z13 w w2).2
  · by_cases q : k = m
    · subst q
      exact kM
    · rw [hjy k q]
      exact (a5 k (by omega)).2.fr (fun _ _ => rfl) (fun j hj => kJ k j (by omega) q hj) rfl rfl
/-- frame of what happens in a minute -/
def mfr (I I' : MIy) : Prop := (∀ y, y < 16 ∨ (24 ≤ y ∧ y < 200) → I' y = I y) ∧ ∀ k j, k < 30 → j < 10 → I' (1000 + 16 * k + j) = I (1000 + 16 * k + j)
theorem mfr.rf (I : MIy) : mfr I I := ⟨fun _ _ => rfl, fun _ _ _ _ => rfl⟩
theorem mfr.tr {A B C : MIy} (h : mfr A B) (g : mfr B C) : mfr A C := ⟨fun y hy => (g.1 y hy).trans (h.1 y hy), fun k j a b => (g.2 k j a b).trans (h.2 k j a b)⟩
set_option maxRecDepth 100000 in
theorem c_beLost {o : Nat} {ls : Int32} (S : SH T R) (t0 : T o = some (4, 0)) (e5 : I o 5 = ls) (h : Q none T (u2 (u2 (u2 I o 6 (nI 0)) o 2 (nI 4)) o 5 (ls + nI 1)) J R) : Run G 86 [.ref 16, .ref o] T I J R Q := by
  refine Run.body (by decide) 0 (Nat.le_of_ble_eq_true rfl) (AT.go okB86 4 rfl [] 90 0 ?_)
  simp (disch := omega) only [B86, ↓ev_iconst, ↓ev_bipush, ↓ev_sipush, ↓ev_lconst, ↓ev_ldc, ↓ev_ldc_w, ↓ev_ldc2_w, ↓ev_aconst_null, ↓ev_iload, ↓ev_iload_n, ↓ev_lload, ↓ev_lload_n, ↓ev_aload, ↓ev_aload_n, ↓ev_istore, ↓ev_istore_n, ↓ev_lstore, ↓ev_lstore_n, ↓ev_astore, ↓ev_astore_n, ↓ev_iinc, ↓ev_iadd, ↓ev_isub, ↓ev_imul, ↓ev_iand, ↓ev_ixor, ↓ev_idiv, ↓ev_irem, ↓ev_ineg, ↓ev_i2l, ↓ev_i2b, ↓ev_l2i, ↓ev_ladd, ↓ev_lsub, ↓ev_lmul, ↓ev_land, ↓ev_lor, ↓ev_ldiv, ↓ev_lrem, ↓ev_lushr, ↓ev_lshl, ↓ev_lcmp, ↓ev_dup, ↓ev_pop, ↓ev_dup2, ↓ev_if_icmp, ↓ev_ifCond, ↓ev_goto, ↓ev_ifnull, ↓ev_ifnonnull, ↓ev_tableswitch, ↓ev_lookupswitch, ↓ev_getfield, ↓ev_putfield, ↓ev_getstatic, ↓ev_iaload, ↓ev_baload, ↓ev_laload, ↓ev_aaload, ↓ev_iastore, ↓ev_bastore, ↓ev_lastore, ↓ev_aastore, ↓ev_arraylength, ↓ev_new, ↓ev_newarray, ↓ev_anewarray, ↓ev_invokevirtual, ↓ev_invokestatic, ↓ev_invokespecial, ↓ev_ireturn, ↓ev_lreturn, ↓ev_areturn, ↓ev_ret, ↓ev_0, ↓ev_nil, ↓ev_cons, ↓ev_jp, ↓ev_pI, ↓ev_pII, ↓ev_pL, ↓ev_pLL, ↓ev_pIL, ↓ev_pR, ↓ev_pIR, ↓ev_pIIR, ↓ev_pLIR, ↓ev_pRIR, ↓ev_pop0, ↓ev_popS, ↓iv_eq, ↓iv_ne, ↓iv_lt, ↓iv_ge, ↓iv_gt, ↓iv_le, ↓ev_ldi0, ↓ev_ldiS, ↓ev_ldl0, ↓ev_ldlS, ↓ev_lda0, ↓ev_ldaN, ↓ev_ldaS, ↓ev_staR, ↓ev_staN, ↓ev_pfI, ↓ev_pfZ, ↓ev_pfL, ↓ev_pfR, ↓ev_kc, ↓ev_kcN, ↓inv, bk, sL, gf, tyI, tyIs, tyB, tyQ, tyN, nbk, ekd, elOk, isO, swl, vNat, vI, k1, st1, st2, ent, rtQ, va_rf, List.replicate, List.mem_cons, List.not_mem_nil, or_false, false_or, or_true, true_or, or_self, ↓reduceIte, Nat.reduceAdd, Nat.reduceEqDiff, true_and, and_true, reduceCtorEq, forall_const, false_implies, implies_true, true_implies, not_true_eq_false, not_false_eq_true, e00, e10, e01, e11, lg_eq0, lg_lt0, lg_le0, lg_gt0, lg_ge0, ite_u, Nat.reduceLeDiff, u2_ap, qe1, qe2, ↓reduceIte, Nat.reduceEqDiff, Nat.reduceAdd, Nat.reduceMul, z_cl, z_in, an0, an1, qn1, qn2, Int.cast_ofNat_Int, Int.reduceAdd, Int.reduceToNat, Int.reduceLT, Int.reduceLE, Int.reduceEq, Int.reduceSub, Int.zero_le_ofNat, Int.zero_add, List.length_cons, List.length_nil, Nat.zero_add, Op.lookupswitch.offset, nI_add, pk_mul, dc_lt, dc_nlt, dc_le, dc_nle, dc_eq, dc_neq, dc_0, dc_n0, eq_self, t0, e5]
  try simp (disch := omega) only [z_rm, Nat.add_sub_cancel, Nat.add_one_sub_one, Nat.reduceEqDiff, pk_mul, nI_add, nI_1, pk_sub, pk_div, pk_rem, nI_ltI, nI_leI, nI_eq, z_cl, z_in, z_lt0, z_0le, z_eq0, z_le0, z_0lt, z_m1, z_i2l, z_l2i, z_ult, pk_lLT, pk_lLE, pk_lEQ, lN_add, lN_mul, lN_sub, true_and, and_true, forall_const, false_implies, implies_true, true_implies, not_true_eq_false, not_false_eq_true, Nat.not_lt, Nat.not_le]
  exact h
set_option maxRecDepth 100000 in
theorem c_arrive {o st pm ns s0 ck : Nat} (S : SH T R) (t0 : T o = some (4, 0)) (r0' : R o 0 = some (o + 1)) (O : RtO T R (o + 1)) (ho : 1000 ≤ o) (i1 : I o 1 = nI st) (i2 : I (o + 1) 2 = nI pm) (h7 : pm ≤ 7) (hst : st ≤ pm) (e1 : I (o + 2) st = nI s0) (i8 : I 16 8 = nI ck) (i0 : I 16 0 = nI ns) (hn : ns ≤ 8) (hs : s0 < ns)
    (h : Q none T (u2 (u2 (u2 (u2 I o 2 (nI 3)) o 3 (nI s0)) o 4 (nI ck)) 17 (s0 * 4 + 1) (I 17 (s0 * 4 + 1) + nI 1)) J R) : Run G 87 [.ref 16, .ref o] T I J R Q := by
  have f1 : u2 I o 2 (nI 3) o 1 = nI st := by rw [u2_ne (by omega)]; exact i1
  have f2 : u2 I o 2 (nI 3) (o + 1) 2 = nI pm := by rw [u2_ne (by omega)]; exact i2
  have n16 : (16 = o) = False := eq_false (by omega)
  refine Run.body (by decide) 0 (Nat.le_of_ble_eq_true rfl) (AT.go okB87 4 rfl [] 90 0 ?_)
  simp (disch := omega) only [B87, ↓ev_iconst, ↓ev_bipush, ↓ev_sipush, ↓ev_lconst, ↓ev_ldc, ↓ev_ldc_w, ↓ev_ldc2_w, ↓ev_aconst_null, ↓ev_iload, ↓ev_iload_n, ↓ev_lload, ↓ev_lload_n, ↓ev_aload, ↓ev_aload_n, ↓ev_istore, ↓ev_istore_n, ↓ev_lstore, ↓ev_lstore_n, ↓ev_astore, ↓ev_astore_n, ↓ev_iinc, ↓ev_iadd, ↓ev_isub, ↓ev_imul, ↓ev_iand, ↓ev_ixor, ↓ev_idiv, ↓ev_irem, ↓ev_ineg, ↓ev_i2l, ↓ev_i2b, ↓ev_l2i, ↓ev_ladd, ↓ev_lsub, ↓ev_lmul, ↓ev_land, ↓ev_lor, ↓ev_ldiv, ↓ev_lrem, ↓ev_lushr, ↓ev_lshl, ↓ev_lcmp, ↓ev_dup, ↓ev_pop, ↓ev_dup2, ↓ev_if_icmp, ↓ev_ifCond, ↓ev_goto, ↓ev_ifnull, ↓ev_ifnonnull, ↓ev_tableswitch, ↓ev_lookupswitch, ↓ev_getfield, ↓ev_putfield, ↓ev_getstatic, ↓ev_iaload, ↓ev_baload, ↓ev_laload, ↓ev_aaload, ↓ev_iastore, ↓ev_bastore, ↓ev_lastore, ↓ev_aastore, ↓ev_arraylength, ↓ev_new, ↓ev_newarray, ↓ev_anewarray, ↓ev_invokevirtual, ↓ev_invokestatic, ↓ev_invokespecial, ↓ev_ireturn, ↓ev_lreturn, ↓ev_areturn, ↓ev_ret, ↓ev_0, ↓ev_nil, ↓ev_cons, ↓ev_jp, ↓ev_pI, ↓ev_pII, ↓ev_pL, ↓ev_pLL, ↓ev_pIL, ↓ev_pR, ↓ev_pIR, ↓ev_pIIR, ↓ev_pLIR, ↓ev_pRIR, ↓ev_pop0, ↓ev_popS, ↓iv_eq, ↓iv_ne, ↓iv_lt, ↓iv_ge, ↓iv_gt, ↓iv_le, ↓ev_ldi0, ↓ev_ldiS, ↓ev_ldl0, ↓ev_ldlS, ↓ev_lda0, ↓ev_ldaN, ↓ev_ldaS, ↓ev_staR, ↓ev_staN, ↓ev_pfI, ↓ev_pfZ, ↓ev_pfL, ↓ev_pfR, ↓ev_kc, ↓ev_kcN, ↓inv, bk, sL, gf, tyI, tyIs, tyB, tyQ, tyN, nbk, ekd, elOk, isO, swl, vNat, vI, k1, st1, st2, ent, rtQ, va_rf, List.replicate, List.mem_cons, List.not_mem_nil, or_false, false_or, or_true, true_or, or_self, ↓reduceIte, Nat.reduceAdd, Nat.reduceEqDiff, true_and, and_true, reduceCtorEq, forall_const, false_implies, implies_true, true_implies, not_true_eq_false, not_false_eq_true, e00, e10, e01, e11, lg_eq0, lg_lt0, lg_le0, lg_gt0, lg_ge0, ite_u, Nat.reduceLeDiff, u2_ap, qe1, qe2, ↓reduceIte, Nat.reduceEqDiff, Nat.reduceAdd, Nat.reduceMul, z_cl, z_in, an0, an1, qn1, qn2, Int.cast_ofNat_Int, Int.reduceAdd, Int.reduceToNat, Int.reduceLT, Int.reduceLE, Int.reduceEq, Int.reduceSub, Int.zero_le_ofNat, Int.zero_add, List.length_cons, List.length_nil, Nat.zero_add, Op.lookupswitch.offset, nI_add, pk_mul, dc_lt, dc_nlt, dc_le, dc_nle, dc_eq, dc_neq, dc_0, dc_n0, eq_self, t0, r0', i1, f1, S.t0, S.t2, S.t3, S.t4, S.t5, S.t6, S.t7, S.t8, S.t9, S.t10, S.t11, S.t12, S.t13, S.t14, S.t15, S.t16, S.t17, S.t18, S.t19, S.t20, S.t21, S.t22, S.t23, S.r2_0, S.r2_1, S.r2_2, S.r2_4, S.r2_6, S.r2_7, S.r2_8, S.r3_0, S.r3_2, S.r6_0, S.r10_0, S.r10_1, S.r10_2, S.r10_3, S.r16_1, S.r16_2, S.r16_4, S.r16_6, S.r16_7, S.r21_0, S.r21_1, O.1, n16]
  try simp (disch := omega) only [z_rm, Nat.add_sub_cancel, Nat.add_one_sub_one, Nat.reduceEqDiff, pk_mul, nI_add, nI_1, pk_sub, pk_div, pk_rem, nI_ltI, nI_leI, nI_eq, z_cl, z_in, z_lt0, z_0le, z_eq0, z_le0, z_0lt, z_m1, z_i2l, z_l2i, z_ult, pk_lLT, pk_lLE, pk_lEQ, lN_add, lN_mul, lN_sub, true_and, and_true, forall_const, false_implies, implies_true, true_implies, not_true_eq_false, not_false_eq_true, Nat.not_lt, Nat.not_le]
  refine c_stationAt O f2 h7 (fun i hi e => ?_) (fun no => absurd rfl (no st hst))
  obtain rfl : st = i := nI_inj (by omega) (by omega) e
  clear e
  have g1 : u2 I o 2 (nI 3) (o + 1 + 1) st = nI s0 := by rw [u2_ne (by omega)]; exact e1
  rw [g1]
  have g8 : u2 (u2 I o 2 (nI 3)) o 3 (nI s0) 16 8 = nI ck := by rw [u2_row (by omega), u2_row (by omega)]; exact i8
  have g3 : u2 (u2 (u2 I o 2 (nI 3)) o 3 (nI s0)) o 4 (nI ck) o 3 = nI s0 := by rw [u2_ne (by omega), u2_at]
  try simp (disch := omega) only [↓ev_iconst, ↓ev_bipush, ↓ev_sipush, ↓ev_lconst, ↓ev_ldc, ↓ev_ldc_w, ↓ev_ldc2_w, ↓ev_aconst_null, ↓ev_iload, ↓ev_iload_n, ↓ev_lload, ↓ev_lload_n, ↓ev_aload, ↓ev_aload_n, ↓ev_istore, ↓ev_istore_n, ↓ev_lstore, ↓ev_lstore_n, ↓ev_astore, ↓ev_astore_n, ↓ev_iinc, ↓ev_iadd, ↓ev_isub, ↓ev_imul, ↓ev_iand, ↓ev_ixor, ↓ev_idiv, ↓ev_irem, ↓ev_ineg, ↓ev_i2l, ↓ev_i2b, ↓ev_l2i, ↓ev_ladd, ↓ev_lsub, ↓ev_lmul, ↓ev_land, ↓ev_lor, ↓ev_ldiv, ↓ev_lrem, ↓ev_lushr, ↓ev_lshl, ↓ev_lcmp, ↓ev_dup, ↓ev_pop, ↓ev_dup2, ↓ev_if_icmp, ↓ev_ifCond, ↓ev_goto, ↓ev_ifnull, ↓ev_ifnonnull, ↓ev_tableswitch, ↓ev_lookupswitch, ↓ev_getfield, ↓ev_putfield, ↓ev_getstatic, ↓ev_iaload, ↓ev_baload, ↓ev_laload, ↓ev_aaload, ↓ev_iastore, ↓ev_bastore, ↓ev_lastore, ↓ev_aastore, ↓ev_arraylength, ↓ev_new, ↓ev_newarray, ↓ev_anewarray, ↓ev_invokevirtual, ↓ev_invokestatic, ↓ev_invokespecial, ↓ev_ireturn, ↓ev_lreturn, ↓ev_areturn, ↓ev_ret, ↓ev_0, ↓ev_nil, ↓ev_cons, ↓ev_jp, ↓ev_pI, ↓ev_pII, ↓ev_pL, ↓ev_pLL, ↓ev_pIL, ↓ev_pR, ↓ev_pIR, ↓ev_pIIR, ↓ev_pLIR, ↓ev_pRIR, ↓ev_pop0, ↓ev_popS, ↓iv_eq, ↓iv_ne, ↓iv_lt, ↓iv_ge, ↓iv_gt, ↓iv_le, ↓ev_ldi0, ↓ev_ldiS, ↓ev_ldl0, ↓ev_ldlS, ↓ev_lda0, ↓ev_ldaN, ↓ev_ldaS, ↓ev_staR, ↓ev_staN, ↓ev_pfI, ↓ev_pfZ, ↓ev_pfL, ↓ev_pfR, ↓ev_kc, ↓ev_kcN, ↓inv, bk, sL, gf, tyI, tyIs, tyB, tyQ, tyN, nbk, ekd, elOk, isO, swl, vNat, vI, k1, st1, st2, ent, rtQ, va_rf, List.replicate, List.mem_cons, List.not_mem_nil, or_false, false_or, or_true, true_or, or_self, ↓reduceIte, Nat.reduceAdd, Nat.reduceEqDiff, true_and, and_true, reduceCtorEq, forall_const, false_implies, implies_true, true_implies, not_true_eq_false, not_false_eq_true, e00, e10, e01, e11, lg_eq0, lg_lt0, lg_le0, lg_gt0, lg_ge0, ite_u, Nat.reduceLeDiff, u2_ap, qe1, qe2, ↓reduceIte, Nat.reduceEqDiff, Nat.reduceAdd, Nat.reduceMul, z_cl, z_in, an0, an1, qn1, qn2, Int.cast_ofNat_Int, Int.reduceAdd, Int.reduceToNat, Int.reduceLT, Int.reduceLE, Int.reduceEq, Int.reduceSub, Int.zero_le_ofNat, Int.zero_add, List.length_cons, List.length_nil, Nat.zero_add, Op.lookupswitch.offset, nI_add, pk_mul, dc_lt, dc_nlt, dc_le, dc_nle, dc_eq, dc_neq, dc_0, dc_n0, eq_self, t0, S.t0, S.t2, S.t3, S.t4, S.t5, S.t6, S.t7, S.t8, S.t9, S.t10, S.t11, S.t12, S.t13, S.t14, S.t15, S.t16, S.t17, S.t18, S.t19, S.t20, S.t21, S.t22, S.t23, S.r2_0, S.r2_1, S.r2_2, S.r2_4, S.r2_6, S.r2_7, S.r2_8, S.r3_0, S.r3_2, S.r6_0, S.r10_0, S.r10_1, S.r10_2, S.r10_3, S.r16_1, S.r16_2, S.r16_4, S.r16_6, S.r16_7, S.r21_0, S.r21_1, i8, n16]
  try simp (disch := omega) only [z_rm, Nat.add_sub_cancel, Nat.add_one_sub_one, Nat.reduceEqDiff, pk_mul, nI_add, nI_1, pk_sub, pk_div, pk_rem, nI_ltI, nI_leI, nI_eq, z_cl, z_in, z_lt0, z_0le, z_eq0, z_le0, z_0lt, z_m1, z_i2l, z_l2i, z_ult, pk_lLT, pk_lLE, pk_lEQ, lN_add, lN_mul, lN_sub, true_and, and_true, forall_const, false_implies, implies_true, true_implies, not_true_eq_false, not_false_eq_true, Nat.not_lt, Nat.not_le]
  refine c_note (k := 1) S (by rw [u2_row (by omega), u2_row (by omega), u2_row (by omega)]; exact i0) hn hs (by decide) ?_
  rw [show u2 (u2 (u2 I o 2 (nI 3)) o 3 (nI s0)) o 4 (nI ck) 17 (s0 * 4 + 1) = I 17 (s0 * 4 + 1) from by rw [u2_row (by omega), u2_row (by omega), u2_row (by omega)]]
  try simp (disch := omega) only [↓ev_iconst, ↓ev_bipush, ↓ev_sipush, ↓ev_lconst, ↓ev_ldc, ↓ev_ldc_w, ↓ev_ldc2_w, ↓ev_aconst_null, ↓ev_iload, ↓ev_iload_n, ↓ev_lload, ↓ev_lload_n, ↓ev_aload, ↓ev_aload_n, ↓ev_istore, ↓ev_istore_n, ↓ev_lstore, ↓ev_lstore_n, ↓ev_astore, ↓ev_astore_n, ↓ev_iinc, ↓ev_iadd, ↓ev_isub, ↓ev_imul, ↓ev_iand, ↓ev_ixor, ↓ev_idiv, ↓ev_irem, ↓ev_ineg, ↓ev_i2l, ↓ev_i2b, ↓ev_l2i, ↓ev_ladd, ↓ev_lsub, ↓ev_lmul, ↓ev_land, ↓ev_lor, ↓ev_ldiv, ↓ev_lrem, ↓ev_lushr, ↓ev_lshl, ↓ev_lcmp, ↓ev_dup, ↓ev_pop, ↓ev_dup2, ↓ev_if_icmp, ↓ev_ifCond, ↓ev_goto, ↓ev_ifnull, ↓ev_ifnonnull, ↓ev_tableswitch, ↓ev_lookupswitch, ↓ev_getfield, ↓ev_putfield, ↓ev_getstatic, ↓ev_iaload, ↓ev_baload, ↓ev_laload, ↓ev_aaload, ↓ev_iastore, ↓ev_bastore, ↓ev_lastore, ↓ev_aastore, ↓ev_arraylength, ↓ev_new, ↓ev_newarray, ↓ev_anewarray, ↓ev_invokevirtual, ↓ev_invokestatic, ↓ev_invokespecial, ↓ev_ireturn, ↓ev_lreturn, ↓ev_areturn, ↓ev_ret, ↓ev_0, ↓ev_nil, ↓ev_cons, ↓ev_jp, ↓ev_pI, ↓ev_pII, ↓ev_pL, ↓ev_pLL, ↓ev_pIL, ↓ev_pR, ↓ev_pIR, ↓ev_pIIR, ↓ev_pLIR, ↓ev_pRIR, ↓ev_pop0, ↓ev_popS, ↓iv_eq, ↓iv_ne, ↓iv_lt, ↓iv_ge, ↓iv_gt, ↓iv_le, ↓ev_ldi0, ↓ev_ldiS, ↓ev_ldl0, ↓ev_ldlS, ↓ev_lda0, ↓ev_ldaN, ↓ev_ldaS, ↓ev_staR, ↓ev_staN, ↓ev_pfI, ↓ev_pfZ, ↓ev_pfL, ↓ev_pfR, ↓ev_kc, ↓ev_kcN, ↓inv, bk, sL, gf, tyI, tyIs, tyB, tyQ, tyN, nbk, ekd, elOk, isO, swl, vNat, vI, k1, st1, st2, ent, rtQ, va_rf, List.replicate, List.mem_cons, List.not_mem_nil, or_false, false_or, or_true, true_or, or_self, ↓reduceIte, Nat.reduceAdd, Nat.reduceEqDiff, true_and, and_true, reduceCtorEq, forall_const, false_implies, implies_true, true_implies, not_true_eq_false, not_false_eq_true, e00, e10, e01, e11, lg_eq0, lg_lt0, lg_le0, lg_gt0, lg_ge0, ite_u, Nat.reduceLeDiff, u2_ap, qe1, qe2, ↓reduceIte, Nat.reduceEqDiff, Nat.reduceAdd, Nat.reduceMul, z_cl, z_in, an0, an1, qn1, qn2, Int.cast_ofNat_Int, Int.reduceAdd, Int.reduceToNat, Int.reduceLT, Int.reduceLE, Int.reduceEq, Int.reduceSub, Int.zero_le_ofNat, Int.zero_add, List.length_cons, List.length_nil, Nat.zero_add, Op.lookupswitch.offset, nI_add, pk_mul, dc_lt, dc_nlt, dc_le, dc_nle, dc_eq, dc_neq, dc_0, dc_n0, eq_self, S.t0, S.t2, S.t3, S.t4, S.t5, S.t6, S.t7, S.t8, S.t9, S.t10, S.t11, S.t12, S.t13, S.t14, S.t15, S.t16, S.t17, S.t18, S.t19, S.t20, S.t21, S.t22, S.t23, S.r2_0, S.r2_1, S.r2_2, S.r2_4, S.r2_6, S.r2_7, S.r2_8, S.r3_0, S.r3_2, S.r6_0, S.r10_0, S.r10_1, S.r10_2, S.r10_3, S.r16_1, S.r16_2, S.r16_4, S.r16_6, S.r16_7, S.r21_0, S.r21_1]
  try simp (disch := omega) only [z_rm, Nat.add_sub_cancel, Nat.add_one_sub_one, Nat.reduceEqDiff, pk_mul, nI_add, nI_1, pk_sub, pk_div, pk_rem, nI_ltI, nI_leI, nI_eq, z_cl, z_in, z_lt0, z_0le, z_eq0, z_le0, z_0lt, z_m1, z_i2l, z_l2i, z_ult, pk_lLT, pk_lLE, pk_lEQ, lN_add, lN_mul, lN_sub, true_and, and_true, forall_const, false_implies, implies_true, true_implies, not_true_eq_false, not_false_eq_true, Nat.not_lt, Nat.not_le]
  exact h
set_option maxRecDepth 100000 in
theorem c_endRun {N : NtS} {l w : Nat} (S : SH T R) (Cn : CNt T I R N) (hl : l < N.nl) (hw : w < 2) (h : ∀ I', CNt T I' R (erN N l w).1 → mfr I I' → Q (some (.int (nI (erN N l w).2))) T I' J R) : Run G 85 [.ref 16, .ref (200 + 4 * l), .int (nI w)] T I J R Q := by
  obtain ⟨a0, a1, a2, a3, a4, a5, a6, a7, a8, v⟩ := id Cn
  obtain ⟨z0, z1, z2, z3, z4, z5, z6, z7, z8, z9, z10, z11, z12, z13⟩ := id (a3 l hl).2
  obtain ⟨x1, x2, x3⟩ := z13 w hw
  have hnl := v.2.1
  have jm := v.2.2.1
  have ok9 := er_ok v hl hw
  unfold erN at h ok9
  refine Run.body (by decide) 1 (Nat.le_of_ble_eq_true rfl) (AT.go okB85 0 rfl [] 90 0 ?_)
  simp (disch := omega) only [B85, ↓ev_iconst, ↓ev_bipush, ↓ev_sipush, ↓ev_lconst, ↓ev_ldc, ↓ev_ldc_w, ↓ev_ldc2_w, ↓ev_aconst_null, ↓ev_iload, ↓ev_iload_n, ↓ev_lload, ↓ev_lload_n, ↓ev_aload, ↓ev_aload_n, ↓ev_istore, ↓ev_istore_n, ↓ev_lstore, ↓ev_lstore_n, ↓ev_astore, ↓ev_astore_n, ↓ev_iinc, ↓ev_iadd, ↓ev_isub, ↓ev_imul, ↓ev_iand, ↓ev_ixor, ↓ev_idiv, ↓ev_irem, ↓ev_ineg, ↓ev_i2l, ↓ev_i2b, ↓ev_l2i, ↓ev_ladd, ↓ev_lsub, ↓ev_lmul, ↓ev_land, ↓ev_lor, ↓ev_ldiv, ↓ev_lrem, ↓ev_lushr, ↓ev_lshl, ↓ev_lcmp, ↓ev_dup, ↓ev_pop, ↓ev_dup2, ↓ev_if_icmp, ↓ev_ifCond, ↓ev_goto, ↓ev_ifnull, ↓ev_ifnonnull, ↓ev_tableswitch, ↓ev_lookupswitch, ↓ev_getfield, ↓ev_putfield, ↓ev_getstatic, ↓ev_iaload, ↓ev_baload, ↓ev_laload, ↓ev_aaload, ↓ev_iastore, ↓ev_bastore, ↓ev_lastore, ↓ev_aastore, ↓ev_arraylength, ↓ev_new, ↓ev_newarray, ↓ev_anewarray, ↓ev_invokevirtual, ↓ev_invokestatic, ↓ev_invokespecial, ↓ev_ireturn, ↓ev_lreturn, ↓ev_areturn, ↓ev_ret, ↓ev_0, ↓ev_nil, ↓ev_cons, ↓ev_jp, ↓ev_pI, ↓ev_pII, ↓ev_pL, ↓ev_pLL, ↓ev_pIL, ↓ev_pR, ↓ev_pIR, ↓ev_pIIR, ↓ev_pLIR, ↓ev_pRIR, ↓ev_pop0, ↓ev_popS, ↓iv_eq, ↓iv_ne, ↓iv_lt, ↓iv_ge, ↓iv_gt, ↓iv_le, ↓ev_ldi0, ↓ev_ldiS, ↓ev_ldl0, ↓ev_ldlS, ↓ev_lda0, ↓ev_ldaN, ↓ev_ldaS, ↓ev_staR, ↓ev_staN, ↓ev_pfI, ↓ev_pfZ, ↓ev_pfL, ↓ev_pfR, ↓ev_kc, ↓ev_kcN, ↓inv, bk, sL, gf, tyI, tyIs, tyB, tyQ, tyN, nbk, ekd, elOk, isO, swl, vNat, vI, k1, st1, st2, ent, rtQ, va_rf, List.replicate, List.mem_cons, List.not_mem_nil, or_false, false_or, or_true, true_or, or_self, ↓reduceIte, Nat.reduceAdd, Nat.reduceEqDiff, true_and, and_true, reduceCtorEq, forall_const, false_implies, implies_true, true_implies, not_true_eq_false, not_false_eq_true, e00, e10, e01, e11, lg_eq0, lg_lt0, lg_le0, lg_gt0, lg_ge0, ite_u, Nat.reduceLeDiff, u2_ap, qe1, qe2, ↓reduceIte, Nat.reduceEqDiff, Nat.reduceAdd, Nat.reduceMul, z_cl, z_in, an0, an1, qn1, qn2, Int.cast_ofNat_Int, Int.reduceAdd, Int.reduceToNat, Int.reduceLT, Int.reduceLE, Int.reduceEq, Int.reduceSub, Int.zero_le_ofNat, Int.zero_add, List.length_cons, List.length_nil, Nat.zero_add, Op.lookupswitch.offset, nI_add, pk_mul, dc_lt, dc_nlt, dc_le, dc_nle, dc_eq, dc_neq, dc_0, dc_n0, eq_self, S.t0, S.t2, S.t3, S.t4, S.t5, S.t6, S.t7, S.t8, S.t9, S.t10, S.t11, S.t12, S.t13, S.t14, S.t15, S.t16, S.t17, S.t18, S.t19, S.t20, S.t21, S.t22, S.t23, S.r2_0, S.r2_1, S.r2_2, S.r2_4, S.r2_6, S.r2_7, S.r2_8, S.r3_0, S.r3_2, S.r6_0, S.r10_0, S.r10_1, S.r10_2, S.r10_3, S.r16_1, S.r16_2, S.r16_4, S.r16_6, S.r16_7, S.r21_0, S.r21_1, z0, z3, z4, x2]
  try simp (disch := omega) only [z_rm, Nat.add_sub_cancel, Nat.add_one_sub_one, Nat.reduceEqDiff, pk_mul, nI_add, nI_1, pk_sub, pk_div, pk_rem, nI_ltI, nI_leI, nI_eq, z_cl, z_in, z_lt0, z_0le, z_eq0, z_le0, z_0lt, z_m1, z_i2l, z_l2i, z_ult, pk_lLT, pk_lLE, pk_lEQ, lN_add, lN_mul, lN_sub, true_and, and_true, forall_const, false_implies, implies_true, true_implies, not_true_eq_false, not_false_eq_true, Nat.not_lt, Nat.not_le]
  refine c_journeyAt S Cn (fun m hm e => ?_) (fun no => ?_)
  rotate_left
  · rw [pick_none no] at h
    try simp (disch := omega) only [↓ev_iconst, ↓ev_bipush, ↓ev_sipush, ↓ev_lconst, ↓ev_ldc, ↓ev_ldc_w, ↓ev_ldc2_w, ↓ev_aconst_null, ↓ev_iload, ↓ev_iload_n, ↓ev_lload, ↓ev_lload_n, ↓ev_aload, ↓ev_aload_n, ↓ev_istore, ↓ev_istore_n, ↓ev_lstore, ↓ev_lstore_n, ↓ev_astore, ↓ev_astore_n, ↓ev_iinc, ↓ev_iadd, ↓ev_isub, ↓ev_imul, ↓ev_iand, ↓ev_ixor, ↓ev_idiv, ↓ev_irem, ↓ev_ineg, ↓ev_i2l, ↓ev_i2b, ↓ev_l2i, ↓ev_ladd, ↓ev_lsub, ↓ev_lmul, ↓ev_land, ↓ev_lor, ↓ev_ldiv, ↓ev_lrem, ↓ev_lushr, ↓ev_lshl, ↓ev_lcmp, ↓ev_dup, ↓ev_pop, ↓ev_dup2, ↓ev_if_icmp, ↓ev_ifCond, ↓ev_goto, ↓ev_ifnull, ↓ev_ifnonnull, ↓ev_tableswitch, ↓ev_lookupswitch, ↓ev_getfield, ↓ev_putfield, ↓ev_getstatic, ↓ev_iaload, ↓ev_baload, ↓ev_laload, ↓ev_aaload, ↓ev_iastore, ↓ev_bastore, ↓ev_lastore, ↓ev_aastore, ↓ev_arraylength, ↓ev_new, ↓ev_newarray, ↓ev_anewarray, ↓ev_invokevirtual, ↓ev_invokestatic, ↓ev_invokespecial, ↓ev_ireturn, ↓ev_lreturn, ↓ev_areturn, ↓ev_ret, ↓ev_0, ↓ev_nil, ↓ev_cons, ↓ev_jp, ↓ev_pI, ↓ev_pII, ↓ev_pL, ↓ev_pLL, ↓ev_pIL, ↓ev_pR, ↓ev_pIR, ↓ev_pIIR, ↓ev_pLIR, ↓ev_pRIR, ↓ev_pop0, ↓ev_popS, ↓iv_eq, ↓iv_ne, ↓iv_lt, ↓iv_ge, ↓iv_gt, ↓iv_le, ↓ev_ldi0, ↓ev_ldiS, ↓ev_ldl0, ↓ev_ldlS, ↓ev_lda0, ↓ev_ldaN, ↓ev_ldaS, ↓ev_staR, ↓ev_staN, ↓ev_pfI, ↓ev_pfZ, ↓ev_pfL, ↓ev_pfR, ↓ev_kc, ↓ev_kcN, ↓inv, bk, sL, gf, tyI, tyIs, tyB, tyQ, tyN, nbk, ekd, elOk, isO, swl, vNat, vI, k1, st1, st2, ent, rtQ, va_rf, List.replicate, List.mem_cons, List.not_mem_nil, or_false, false_or, or_true, true_or, or_self, ↓reduceIte, Nat.reduceAdd, Nat.reduceEqDiff, true_and, and_true, reduceCtorEq, forall_const, false_implies, implies_true, true_implies, not_true_eq_false, not_false_eq_true, e00, e10, e01, e11, lg_eq0, lg_lt0, lg_le0, lg_gt0, lg_ge0, ite_u, Nat.reduceLeDiff, u2_ap, qe1, qe2, ↓reduceIte, Nat.reduceEqDiff, Nat.reduceAdd, Nat.reduceMul, z_cl, z_in, an0, an1, qn1, qn2, Int.cast_ofNat_Int, Int.reduceAdd, Int.reduceToNat, Int.reduceLT, Int.reduceLE, Int.reduceEq, Int.reduceSub, Int.zero_le_ofNat, Int.zero_add, List.length_cons, List.length_nil, Nat.zero_add, Op.lookupswitch.offset, nI_add, pk_mul, dc_lt, dc_nlt, dc_le, dc_nle, dc_eq, dc_neq, dc_0, dc_n0, eq_self, S.t0, S.t2, S.t3, S.t4, S.t5, S.t6, S.t7, S.t8, S.t9, S.t10, S.t11, S.t12, S.t13, S.t14, S.t15, S.t16, S.t17, S.t18, S.t19, S.t20, S.t21, S.t22, S.t23, S.r2_0, S.r2_1, S.r2_2, S.r2_4, S.r2_6, S.r2_7, S.r2_8, S.r3_0, S.r3_2, S.r6_0, S.r10_0, S.r10_1, S.r10_2, S.r10_3, S.r16_1, S.r16_2, S.r16_4, S.r16_6, S.r16_7, S.r21_0, S.r21_1]
    try simp (disch := omega) only [z_rm, Nat.add_sub_cancel, Nat.add_one_sub_one, Nat.reduceEqDiff, pk_mul, nI_add, nI_1, pk_sub, pk_div, pk_rem, nI_ltI, nI_leI, nI_eq, z_cl, z_in, z_lt0, z_0le, z_eq0, z_le0, z_0lt, z_m1, z_i2l, z_l2i, z_ult, pk_lLT, pk_lLE, pk_lEQ, lN_add, lN_mul, lN_sub, true_and, and_true, forall_const, false_implies, implies_true, true_implies, not_true_eq_false, not_false_eq_true, Nat.not_lt, Nat.not_le]
    exact h I Cn (mfr.rf I)
  have hp := pick_some hm (by omega) e
  rw [hp] at h ok9
  dsimp only at h ok9
  obtain ⟨r1, r2, r3, r4, r5, r6⟩ := v.rn hl hw hp
  have x3' := x3 (by rw [r2]; exact z_m9 (by omega))
  have ckb := v.2.2.2.1
  by_cases q : N.en (2 * l + w) = N.ck
  rotate_left
  · rw [if_neg q] at h
    try simp (disch := omega) only [↓ev_iconst, ↓ev_bipush, ↓ev_sipush, ↓ev_lconst, ↓ev_ldc, ↓ev_ldc_w, ↓ev_ldc2_w, ↓ev_aconst_null, ↓ev_iload, ↓ev_iload_n, ↓ev_lload, ↓ev_lload_n, ↓ev_aload, ↓ev_aload_n, ↓ev_istore, ↓ev_istore_n, ↓ev_lstore, ↓ev_lstore_n, ↓ev_astore, ↓ev_astore_n, ↓ev_iinc, ↓ev_iadd, ↓ev_isub, ↓ev_imul, ↓ev_iand, ↓ev_ixor, ↓ev_idiv, ↓ev_irem, ↓ev_ineg, ↓ev_i2l, ↓ev_i2b, ↓ev_l2i, ↓ev_ladd, ↓ev_lsub, ↓ev_lmul, ↓ev_land, ↓ev_lor, ↓ev_ldiv, ↓ev_lrem, ↓ev_lushr, ↓ev_lshl, ↓ev_lcmp, ↓ev_dup, ↓ev_pop, ↓ev_dup2, ↓ev_if_icmp, ↓ev_ifCond, ↓ev_goto, ↓ev_ifnull, ↓ev_ifnonnull, ↓ev_tableswitch, ↓ev_lookupswitch, ↓ev_getfield, ↓ev_putfield, ↓ev_getstatic, ↓ev_iaload, ↓ev_baload, ↓ev_laload, ↓ev_aaload, ↓ev_iastore, ↓ev_bastore, ↓ev_lastore, ↓ev_aastore, ↓ev_arraylength, ↓ev_new, ↓ev_newarray, ↓ev_anewarray, ↓ev_invokevirtual, ↓ev_invokestatic, ↓ev_invokespecial, ↓ev_ireturn, ↓ev_lreturn, ↓ev_areturn, ↓ev_ret, ↓ev_0, ↓ev_nil, ↓ev_cons, ↓ev_jp, ↓ev_pI, ↓ev_pII, ↓ev_pL, ↓ev_pLL, ↓ev_pIL, ↓ev_pR, ↓ev_pIR, ↓ev_pIIR, ↓ev_pLIR, ↓ev_pRIR, ↓ev_pop0, ↓ev_popS, ↓iv_eq, ↓iv_ne, ↓iv_lt, ↓iv_ge, ↓iv_gt, ↓iv_le, ↓ev_ldi0, ↓ev_ldiS, ↓ev_ldl0, ↓ev_ldlS, ↓ev_lda0, ↓ev_ldaN, ↓ev_ldaS, ↓ev_staR, ↓ev_staN, ↓ev_pfI, ↓ev_pfZ, ↓ev_pfL, ↓ev_pfR, ↓ev_kc, ↓ev_kcN, ↓inv, bk, sL, gf, tyI, tyIs, tyB, tyQ, tyN, nbk, ekd, elOk, isO, swl, vNat, vI, k1, st1, st2, ent, rtQ, va_rf, List.replicate, List.mem_cons, List.not_mem_nil, or_false, false_or, or_true, true_or, or_self, ↓reduceIte, Nat.reduceAdd, Nat.reduceEqDiff, true_and, and_true, reduceCtorEq, forall_const, false_implies, implies_true, true_implies, not_true_eq_false, not_false_eq_true, e00, e10, e01, e11, lg_eq0, lg_lt0, lg_le0, lg_gt0, lg_ge0, ite_u, Nat.reduceLeDiff, u2_ap, qe1, qe2, ↓reduceIte, Nat.reduceEqDiff, Nat.reduceAdd, Nat.reduceMul, z_cl, z_in, an0, an1, qn1, qn2, Int.cast_ofNat_Int, Int.reduceAdd, Int.reduceToNat, Int.reduceLT, Int.reduceLE, Int.reduceEq, Int.reduceSub, Int.zero_le_ofNat, Int.zero_add, List.length_cons, List.length_nil, Nat.zero_add, Op.lookupswitch.offset, nI_add, pk_mul, dc_lt, dc_nlt, dc_le, dc_nle, dc_eq, dc_neq, dc_0, dc_n0, eq_self, S.t0, S.t2, S.t3, S.t4, S.t5, S.t6, S.t7, S.t8, S.t9, S.t10, S.t11, S.t12, S.t13, S.t14, S.t15, S.t16, S.t17, S.t18, S.t19, S.t20, S.t21, S.t22, S.t23, S.r2_0, S.r2_1, S.r2_2, S.r2_4, S.r2_6, S.r2_7, S.r2_8, S.r3_0, S.r3_2, S.r6_0, S.r10_0, S.r10_1, S.r10_2, S.r10_3, S.r16_1, S.r16_2, S.r16_4, S.r16_6, S.r16_7, S.r21_0, S.r21_1, z0, z5, z6, x3', a6]
    try simp (disch := omega) only [z_rm, Nat.add_sub_cancel, Nat.add_one_sub_one, Nat.reduceEqDiff, pk_mul, nI_add, nI_1, pk_sub, pk_div, pk_rem, nI_ltI, nI_leI, nI_eq, z_cl, z_in, z_lt0, z_0le, z_eq0, z_le0, z_0lt, z_m1, z_i2l, z_l2i, z_ult, pk_lLT, pk_lLE, pk_lEQ, lN_add, lN_mul, lN_sub, true_and, and_true, forall_const, false_implies, implies_true, true_implies, not_true_eq_false, not_false_eq_true, Nat.not_lt, Nat.not_le]
    exact h I Cn (mfr.rf I)
  rw [if_pos q] at h ok9
  obtain ⟨j0, j1, j2, j3, j4, j5, j6, j7, j8, j9, j10, j11, j12⟩ := id (a5 m hm).2
  have O : RtO T R (1010 + 16 * m + 1) := (a5 m hm).2.rt
  obtain ⟨k1', k2', k3', k4', k5', k6', k7'⟩ := j12 (by omega)
  have vj := v.2.2.2.2.2.1 m hm
  obtain ⟨w1, w2, w3, w4, w5, w6, w7⟩ := vj.2.2.1 (by omega)
  have wst := (vj.2.2.2.2.1 r4).1
  have r0 : (nI m = (-9)) = False := eq_false (z_m9 (by omega))
  generalize ho : 1010 + 16 * m = o at *
  have nA : (o = 200 + 4 * l + 2) = False := eq_false (by omega)
  have nC : (o + 1 = 200 + 4 * l + 2) = False := eq_false (by omega)
  have nE : (16 = o) = False := eq_false (by omega)
  by_cases qd : (N.jy m).dm = true
  · rw [if_pos qd] at h ok9
    rw [qd] at j11
    have j11' : I o 6 = nI 1 := j11
    have f6 : u2 I (200 + 4 * l + 2) w (-9) o 6 = nI 1 := by rw [u2_ne (by omega)]; exact j11'
    try simp (disch := omega) only [↓ev_iconst, ↓ev_bipush, ↓ev_sipush, ↓ev_lconst, ↓ev_ldc, ↓ev_ldc_w, ↓ev_ldc2_w, ↓ev_aconst_null, ↓ev_iload, ↓ev_iload_n, ↓ev_lload, ↓ev_lload_n, ↓ev_aload, ↓ev_aload_n, ↓ev_istore, ↓ev_istore_n, ↓ev_lstore, ↓ev_lstore_n, ↓ev_astore, ↓ev_astore_n, ↓ev_iinc, ↓ev_iadd, ↓ev_isub, ↓ev_imul, ↓ev_iand, ↓ev_ixor, ↓ev_idiv, ↓ev_irem, ↓ev_ineg, ↓ev_i2l, ↓ev_i2b, ↓ev_l2i, ↓ev_ladd, ↓ev_lsub, ↓ev_lmul, ↓ev_land, ↓ev_lor, ↓ev_ldiv, ↓ev_lrem, ↓ev_lushr, ↓ev_lshl, ↓ev_lcmp, ↓ev_dup, ↓ev_pop, ↓ev_dup2, ↓ev_if_icmp, ↓ev_ifCond, ↓ev_goto, ↓ev_ifnull, ↓ev_ifnonnull, ↓ev_tableswitch, ↓ev_lookupswitch, ↓ev_getfield, ↓ev_putfield, ↓ev_getstatic, ↓ev_iaload, ↓ev_baload, ↓ev_laload, ↓ev_aaload, ↓ev_iastore, ↓ev_bastore, ↓ev_lastore, ↓ev_aastore, ↓ev_arraylength, ↓ev_new, ↓ev_newarray, ↓ev_anewarray, ↓ev_invokevirtual, ↓ev_invokestatic, ↓ev_invokespecial, ↓ev_ireturn, ↓ev_lreturn, ↓ev_areturn, ↓ev_ret, ↓ev_0, ↓ev_nil, ↓ev_cons, ↓ev_jp, ↓ev_pI, ↓ev_pII, ↓ev_pL, ↓ev_pLL, ↓ev_pIL, ↓ev_pR, ↓ev_pIR, ↓ev_pIIR, ↓ev_pLIR, ↓ev_pRIR, ↓ev_pop0, ↓ev_popS, ↓iv_eq, ↓iv_ne, ↓iv_lt, ↓iv_ge, ↓iv_gt, ↓iv_le, ↓ev_ldi0, ↓ev_ldiS, ↓ev_ldl0, ↓ev_ldlS, ↓ev_lda0, ↓ev_ldaN, ↓ev_ldaS, ↓ev_staR, ↓ev_staN, ↓ev_pfI, ↓ev_pfZ, ↓ev_pfL, ↓ev_pfR, ↓ev_kc, ↓ev_kcN, ↓inv, bk, sL, gf, tyI, tyIs, tyB, tyQ, tyN, nbk, ekd, elOk, isO, swl, vNat, vI, k1, st1, st2, ent, rtQ, va_rf, List.replicate, List.mem_cons, List.not_mem_nil, or_false, false_or, or_true, true_or, or_self, ↓reduceIte, Nat.reduceAdd, Nat.reduceEqDiff, true_and, and_true, reduceCtorEq, forall_const, false_implies, implies_true, true_implies, not_true_eq_false, not_false_eq_true, e00, e10, e01, e11, lg_eq0, lg_lt0, lg_le0, lg_gt0, lg_ge0, ite_u, Nat.reduceLeDiff, u2_ap, qe1, qe2, ↓reduceIte, Nat.reduceEqDiff, Nat.reduceAdd, Nat.reduceMul, z_cl, z_in, an0, an1, qn1, qn2, Int.cast_ofNat_Int, Int.reduceAdd, Int.reduceToNat, Int.reduceLT, Int.reduceLE, Int.reduceEq, Int.reduceSub, Int.zero_le_ofNat, Int.zero_add, List.length_cons, List.length_nil, Nat.zero_add, Op.lookupswitch.offset, nI_add, pk_mul, dc_lt, dc_nlt, dc_le, dc_nle, dc_eq, dc_neq, dc_0, dc_n0, eq_self, S.t0, S.t2, S.t3, S.t4, S.t5, S.t6, S.t7, S.t8, S.t9, S.t10, S.t11, S.t12, S.t13, S.t14, S.t15, S.t16, S.t17, S.t18, S.t19, S.t20, S.t21, S.t22, S.t23, S.r2_0, S.r2_1, S.r2_2, S.r2_4, S.r2_6, S.r2_7, S.r2_8, S.r3_0, S.r3_2, S.r6_0, S.r10_0, S.r10_1, S.r10_2, S.r10_3, S.r16_1, S.r16_2, S.r16_4, S.r16_6, S.r16_7, S.r21_0, S.r21_1, z0, z3, z4, z5, z6, x3', a6, j0, nA, nC, nE, j11']
    try simp (disch := omega) only [z_rm, Nat.add_sub_cancel, Nat.add_one_sub_one, Nat.reduceEqDiff, pk_mul, nI_add, nI_1, pk_sub, pk_div, pk_rem, nI_ltI, nI_leI, nI_eq, z_cl, z_in, z_lt0, z_0le, z_eq0, z_le0, z_0lt, z_m1, z_i2l, z_l2i, z_ult, pk_lLT, pk_lLE, pk_lEQ, lN_add, lN_mul, lN_sub, true_and, and_true, forall_const, false_implies, implies_true, true_implies, not_true_eq_false, not_false_eq_true, Nat.not_lt, Nat.not_le]
    refine c_beLost (ls := (N.jy m).ls) S j0 ?_ ?_
    · rw [u2_ne (by omega)]
      exact j10
    try simp (disch := omega) only [↓ev_iconst, ↓ev_bipush, ↓ev_sipush, ↓ev_lconst, ↓ev_ldc, ↓ev_ldc_w, ↓ev_ldc2_w, ↓ev_aconst_null, ↓ev_iload, ↓ev_iload_n, ↓ev_lload, ↓ev_lload_n, ↓ev_aload, ↓ev_aload_n, ↓ev_istore, ↓ev_istore_n, ↓ev_lstore, ↓ev_lstore_n, ↓ev_astore, ↓ev_astore_n, ↓ev_iinc, ↓ev_iadd, ↓ev_isub, ↓ev_imul, ↓ev_iand, ↓ev_ixor, ↓ev_idiv, ↓ev_irem, ↓ev_ineg, ↓ev_i2l, ↓ev_i2b, ↓ev_l2i, ↓ev_ladd, ↓ev_lsub, ↓ev_lmul, ↓ev_land, ↓ev_lor, ↓ev_ldiv, ↓ev_lrem, ↓ev_lushr, ↓ev_lshl, ↓ev_lcmp, ↓ev_dup, ↓ev_pop, ↓ev_dup2, ↓ev_if_icmp, ↓ev_ifCond, ↓ev_goto, ↓ev_ifnull, ↓ev_ifnonnull, ↓ev_tableswitch, ↓ev_lookupswitch, ↓ev_getfield, ↓ev_putfield, ↓ev_getstatic, ↓ev_iaload, ↓ev_baload, ↓ev_laload, ↓ev_aaload, ↓ev_iastore, ↓ev_bastore, ↓ev_lastore, ↓ev_aastore, ↓ev_arraylength, ↓ev_new, ↓ev_newarray, ↓ev_anewarray, ↓ev_invokevirtual, ↓ev_invokestatic, ↓ev_invokespecial, ↓ev_ireturn, ↓ev_lreturn, ↓ev_areturn, ↓ev_ret, ↓ev_0, ↓ev_nil, ↓ev_cons, ↓ev_jp, ↓ev_pI, ↓ev_pII, ↓ev_pL, ↓ev_pLL, ↓ev_pIL, ↓ev_pR, ↓ev_pIR, ↓ev_pIIR, ↓ev_pLIR, ↓ev_pRIR, ↓ev_pop0, ↓ev_popS, ↓iv_eq, ↓iv_ne, ↓iv_lt, ↓iv_ge, ↓iv_gt, ↓iv_le, ↓ev_ldi0, ↓ev_ldiS, ↓ev_ldl0, ↓ev_ldlS, ↓ev_lda0, ↓ev_ldaN, ↓ev_ldaS, ↓ev_staR, ↓ev_staN, ↓ev_pfI, ↓ev_pfZ, ↓ev_pfL, ↓ev_pfR, ↓ev_kc, ↓ev_kcN, ↓inv, bk, sL, gf, tyI, tyIs, tyB, tyQ, tyN, nbk, ekd, elOk, isO, swl, vNat, vI, k1, st1, st2, ent, rtQ, va_rf, List.replicate, List.mem_cons, List.not_mem_nil, or_false, false_or, or_true, true_or, or_self, ↓reduceIte, Nat.reduceAdd, Nat.reduceEqDiff, true_and, and_true, reduceCtorEq, forall_const, false_implies, implies_true, true_implies, not_true_eq_false, not_false_eq_true, e00, e10, e01, e11, lg_eq0, lg_lt0, lg_le0, lg_gt0, lg_ge0, ite_u, Nat.reduceLeDiff, u2_ap, qe1, qe2, ↓reduceIte, Nat.reduceEqDiff, Nat.reduceAdd, Nat.reduceMul, z_cl, z_in, an0, an1, qn1, qn2, Int.cast_ofNat_Int, Int.reduceAdd, Int.reduceToNat, Int.reduceLT, Int.reduceLE, Int.reduceEq, Int.reduceSub, Int.zero_le_ofNat, Int.zero_add, List.length_cons, List.length_nil, Nat.zero_add, Op.lookupswitch.offset, nI_add, pk_mul, dc_lt, dc_nlt, dc_le, dc_nle, dc_eq, dc_neq, dc_0, dc_n0, eq_self, S.t0, S.t2, S.t3, S.t4, S.t5, S.t6, S.t7, S.t8, S.t9, S.t10, S.t11, S.t12, S.t13, S.t14, S.t15, S.t16, S.t17, S.t18, S.t19, S.t20, S.t21, S.t22, S.t23, S.r2_0, S.r2_1, S.r2_2, S.r2_4, S.r2_6, S.r2_7, S.r2_8, S.r3_0, S.r3_2, S.r6_0, S.r10_0, S.r10_1, S.r10_2, S.r10_3, S.r16_1, S.r16_2, S.r16_4, S.r16_6, S.r16_7, S.r21_0, S.r21_1]
    try simp (disch := omega) only [z_rm, Nat.add_sub_cancel, Nat.add_one_sub_one, Nat.reduceEqDiff, pk_mul, nI_add, nI_1, pk_sub, pk_div, pk_rem, nI_ltI, nI_leI, nI_eq, z_cl, z_in, z_lt0, z_0le, z_eq0, z_le0, z_0lt, z_m1, z_i2l, z_l2i, z_ult, pk_lLT, pk_lLE, pk_lEQ, lN_add, lN_mul, lN_sub, true_and, and_true, forall_const, false_implies, implies_true, true_implies, not_true_eq_false, not_false_eq_true, Nat.not_lt, Nat.not_le]
    have wc : ∀ a b, wcn (N.sE N.lg N.L (uF N.rn (2 * l + w) (-9)) N.en (uF N.jy m (jLost (N.jy m)))) a b N.jn = wcn N a b N.jn := fun a b => by
      have u := wcn_up (N := N) (N' := N.sE N.lg N.L (uF N.rn (2 * l + w) (-9)) N.en (uF N.jy m (jLost (N.jy m)))) (m := m) (l := a) (st := b) (x := jLost (N.jy m)) rfl N.jn hm
      rw [wt1_no (N := N) (by omega), wt1_no (show ((uF N.jy m (jLost (N.jy m))) m).hw ≠ 1 by rw [uF_at]; exact (by decide : (4 : Nat) ≠ 1))] at u
      omega
    have F : ∀ y, y ≠ o → y ≠ 200 + 4 * l + 2 → u2 (u2 (u2 (u2 I (200 + 4 * l + 2) w (-9)) o 6 (nI 0)) o 2 (nI 4)) o 5 ((N.jy m).ls + nI 1) y = I y := fun y y1 y2 => by rw [u2_row y1, u2_row y1, u2_row y1, u2_row y2]
    refine h _ (Cn.gen (m := m) (l0 := l) ok9.2.1 (fun _ _ => rfl) (fun k hk => uF_ne hk) (fun a b ha hb => ⟨uF_ne (by omega), rfl⟩) (fun k hk => by rw [F 16 (by omega) (by omega)]) (by rw [F 16 (by omega) (by omega)]; exact a6) (by rw [F 16 (by omega) (by omega)]; exact a7) (by rw [F 16 (by omega) (by omega)]; exact a8) (fun a b ha hb => by rw [F 17 (by omega) (by omega)]; exact a1 a b ha hb) (fun a b ha hal hb hb1 => F _ (by omega) (by omega)) (fun a b ha hal hb => by rw [F _ (by omega) (by omega), wc]; exact ((a3 a ha).2.2.2.2.2.2.2.2.2.2.2.2.2.2 b hb).1) ?_ (fun k j hk hkm hj => F _ (by omega) (by omega)) ?_ ok9.1) ⟨fun y hy => F y (by omega) (by omega), fun k j hk hj => F _ (by omega) (by omega)⟩
    · have f0 := F (200 + 4 * l) (by omega) (by omega)
      refine ⟨z0, z1, z2, z3, z4, z5, z6, by rw [f0]; exact z7, by rw [f0]; exact z8, by rw [f0]; exact z9, by rw [f0]; exact z10, by rw [f0]; exact z11, by rw [f0]; exact z12, fun b hb => ⟨by rw [F _ (by omega) (by omega)]; show _ = nI (wcn _ l (lnSt (N.L l) b) N.jn); rw [wc]; exact (z13 b hb).1, ?_⟩⟩
      show _ = uF N.rn (2 * l + w) (-9) (2 * l + b) ∧ (uF N.rn (2 * l + w) (-9) (2 * l + b) ≠ (-9) → _)
      by_cases y : b = w
      · subst y
        rw [uF_at]
        exact ⟨by rw [u2_row (by omega), u2_row (by omega), u2_row (by omega), u2_at], fun c => absurd rfl c⟩
      · rw [uF_ne (by omega), u2_row (by omega), u2_row (by omega), u2_row (by omega), u2_ne (by omega), F _ (by omega) (by omega)]
        exact (z13 b hb).2
    · show CJn T _ R (1010 + 16 * m) (uF N.jy m (jLost (N.jy m)) m)
      rw [uF_at, ho]
      refine ⟨j0, j1, j2, j3, j4, j5, j6, ?_, ?_, ?_, u2_at _ _ _ _, ?_, fun _ => ⟨?_, ?_, ?_, ?_, ?_, fun i hi => ?_, fun i hi => ?_⟩⟩
      · rw [u2_ne (by omega), u2_at]
      · rw [u2_ne (by omega), u2_ne (by omega), u2_ne (by omega), u2_ne (by omega)]
        exact j8
      · rw [u2_ne (by omega), u2_ne (by omega), u2_ne (by omega), u2_ne (by omega)]
        exact j9
      · rw [u2_ne (by omega), u2_ne (by omega), u2_at]
        rfl
      · rw [u2_ne (by omega), u2_ne (by omega), u2_ne (by omega), u2_ne (by omega)]
        exact k1'
      · rw [u2_ne (by omega), u2_ne (by omega), u2_ne (by omega), u2_ne (by omega)]
        exact k2'
      · rw [u2_ne (by omega), u2_ne (by omega), u2_ne (by omega), u2_ne (by omega)]
        exact k3'
      · rw [u2_ne (by omega), u2_ne (by omega), u2_ne (by omega), u2_ne (by omega)]
        exact k4'
      · rw [F _ (by omega) (by omega)]
        exact k5'
      · rw [F _ (by omega) (by omega)]
        exact k6' i hi
      · rw [F _ (by omega) (by omega)]
        exact k7' i hi
  rw [if_neg qd] at h ok9
  have qf : (N.jy m).dm = false := by
    cases hd : (N.jy m).dm with
    | false => rfl
    | true => exact absurd hd qd
  rw [qf] at j11
  have j11' : I o 6 = nI 0 := j11
  have f6 : u2 I (200 + 4 * l + 2) w (-9) o 6 = nI 0 := by rw [u2_ne (by omega)]; exact j11'
  have f1 : u2 I (200 + 4 * l + 2) w (-9) o 1 = nI (N.jy m).st := by rw [u2_ne (by omega)]; exact k1'
  have g1 : u2 (u2 I (200 + 4 * l + 2) w (-9)) o 1 (nI ((N.jy m).st + 1)) o 1 = nI ((N.jy m).st + 1) := u2_at _ _ _ _
  have g2 : u2 (u2 I (200 + 4 * l + 2) w (-9)) o 1 (nI ((N.jy m).st + 1)) (o + 1) 2 = nI (N.jy m).pm := by rw [u2_row (by omega), u2_ne (by omega)]; exact k5'
  have F1 : ∀ y, y ≠ o → y ≠ 200 + 4 * l + 2 → u2 (u2 I (200 + 4 * l + 2) w (-9)) o 1 (nI ((N.jy m).st + 1)) y = I y := fun y y1 y2 => by rw [u2_row y1, u2_row y2]
  have Fo : ∀ k, k ≠ 1 → u2 (u2 I (200 + 4 * l + 2) w (-9)) o 1 (nI ((N.jy m).st + 1)) o k = I o k := fun k hk => by rw [u2_ne (by omega), u2_row (by omega)]
  have Fr : ∀ b, b ≠ w → u2 (u2 I (200 + 4 * l + 2) w (-9)) o 1 (nI ((N.jy m).st + 1)) (200 + 4 * l + 2) b = I (200 + 4 * l + 2) b := fun b hb => by rw [u2_row (by omega), u2_ne (by omega)]
  have Frw : u2 (u2 I (200 + 4 * l + 2) w (-9)) o 1 (nI ((N.jy m).st + 1)) (200 + 4 * l + 2) w = (-9) := by rw [u2_row (by omega), u2_at]
  by_cases q4 : (N.jy m).st + 1 < (N.jy m).pm
  · rw [if_pos q4] at h ok9
    obtain ⟨y1, y2⟩ := w7 ((N.jy m).st + 1) q4
    have lv := v.2.2.2.2.1 _ y1
    try simp (disch := omega) only [↓ev_iconst, ↓ev_bipush, ↓ev_sipush, ↓ev_lconst, ↓ev_ldc, ↓ev_ldc_w, ↓ev_ldc2_w, ↓ev_aconst_null, ↓ev_iload, ↓ev_iload_n, ↓ev_lload, ↓ev_lload_n, ↓ev_aload, ↓ev_aload_n, ↓ev_istore, ↓ev_istore_n, ↓ev_lstore, ↓ev_lstore_n, ↓ev_astore, ↓ev_astore_n, ↓ev_iinc, ↓ev_iadd, ↓ev_isub, ↓ev_imul, ↓ev_iand, ↓ev_ixor, ↓ev_idiv, ↓ev_irem, ↓ev_ineg, ↓ev_i2l, ↓ev_i2b, ↓ev_l2i, ↓ev_ladd, ↓ev_lsub, ↓ev_lmul, ↓ev_land, ↓ev_lor, ↓ev_ldiv, ↓ev_lrem, ↓ev_lushr, ↓ev_lshl, ↓ev_lcmp, ↓ev_dup, ↓ev_pop, ↓ev_dup2, ↓ev_if_icmp, ↓ev_ifCond, ↓ev_goto, ↓ev_ifnull, ↓ev_ifnonnull, ↓ev_tableswitch, ↓ev_lookupswitch, ↓ev_getfield, ↓ev_putfield, ↓ev_getstatic, ↓ev_iaload, ↓ev_baload, ↓ev_laload, ↓ev_aaload, ↓ev_iastore, ↓ev_bastore, ↓ev_lastore, ↓ev_aastore, ↓ev_arraylength, ↓ev_new, ↓ev_newarray, ↓ev_anewarray, ↓ev_invokevirtual, ↓ev_invokestatic, ↓ev_invokespecial, ↓ev_ireturn, ↓ev_lreturn, ↓ev_areturn, ↓ev_ret, ↓ev_0, ↓ev_nil, ↓ev_cons, ↓ev_jp, ↓ev_pI, ↓ev_pII, ↓ev_pL, ↓ev_pLL, ↓ev_pIL, ↓ev_pR, ↓ev_pIR, ↓ev_pIIR, ↓ev_pLIR, ↓ev_pRIR, ↓ev_pop0, ↓ev_popS, ↓iv_eq, ↓iv_ne, ↓iv_lt, ↓iv_ge, ↓iv_gt, ↓iv_le, ↓ev_ldi0, ↓ev_ldiS, ↓ev_ldl0, ↓ev_ldlS, ↓ev_lda0, ↓ev_ldaN, ↓ev_ldaS, ↓ev_staR, ↓ev_staN, ↓ev_pfI, ↓ev_pfZ, ↓ev_pfL, ↓ev_pfR, ↓ev_kc, ↓ev_kcN, ↓inv, bk, sL, gf, tyI, tyIs, tyB, tyQ, tyN, nbk, ekd, elOk, isO, swl, vNat, vI, k1, st1, st2, ent, rtQ, va_rf, List.replicate, List.mem_cons, List.not_mem_nil, or_false, false_or, or_true, true_or, or_self, ↓reduceIte, Nat.reduceAdd, Nat.reduceEqDiff, true_and, and_true, reduceCtorEq, forall_const, false_implies, implies_true, true_implies, not_true_eq_false, not_false_eq_true, e00, e10, e01, e11, lg_eq0, lg_lt0, lg_le0, lg_gt0, lg_ge0, ite_u, Nat.reduceLeDiff, u2_ap, qe1, qe2, ↓reduceIte, Nat.reduceEqDiff, Nat.reduceAdd, Nat.reduceMul, z_cl, z_in, an0, an1, qn1, qn2, Int.cast_ofNat_Int, Int.reduceAdd, Int.reduceToNat, Int.reduceLT, Int.reduceLE, Int.reduceEq, Int.reduceSub, Int.zero_le_ofNat, Int.zero_add, List.length_cons, List.length_nil, Nat.zero_add, Op.lookupswitch.offset, nI_add, pk_mul, dc_lt, dc_nlt, dc_le, dc_nle, dc_eq, dc_neq, dc_0, dc_n0, eq_self, S.t0, S.t2, S.t3, S.t4, S.t5, S.t6, S.t7, S.t8, S.t9, S.t10, S.t11, S.t12, S.t13, S.t14, S.t15, S.t16, S.t17, S.t18, S.t19, S.t20, S.t21, S.t22, S.t23, S.r2_0, S.r2_1, S.r2_2, S.r2_4, S.r2_6, S.r2_7, S.r2_8, S.r3_0, S.r3_2, S.r6_0, S.r10_0, S.r10_1, S.r10_2, S.r10_3, S.r16_1, S.r16_2, S.r16_4, S.r16_6, S.r16_7, S.r21_0, S.r21_1, z0, z3, z4, z5, z6, x3', a6, j0, j1, O.1, nA, nC, nE, j11', k1', k5']
    try simp (disch := omega) only [z_rm, Nat.add_sub_cancel, Nat.add_one_sub_one, Nat.reduceEqDiff, pk_mul, nI_add, nI_1, pk_sub, pk_div, pk_rem, nI_ltI, nI_leI, nI_eq, z_cl, z_in, z_lt0, z_0le, z_eq0, z_le0, z_0lt, z_m1, z_i2l, z_l2i, z_ult, pk_lLT, pk_lLE, pk_lEQ, lN_add, lN_mul, lN_sub, true_and, and_true, forall_const, false_implies, implies_true, true_implies, not_true_eq_false, not_false_eq_true, Nat.not_lt, Nat.not_le]
    generalize hI2 : u2 (u2 I (200 + 4 * l + 2) w (-9)) o 1 (nI ((N.jy m).st + 1)) = I2 at g1 g2 F1 Fo Fr Frw ⊢
    have Ln1 : CLn T I2 R ((N.jy m).pL ((N.jy m).st + 1)) (N.sE N.lg N.L (uF N.rn (2 * l + w) (-9)) N.en N.jy) := by
      obtain ⟨b0, b1, b2, b3, b4, b5, b6, b7, b8, b9, b10, b11, b12, b13⟩ := id (a3 _ y1).2
      have f0 := F1 (200 + 4 * (N.jy m).pL ((N.jy m).st + 1)) (by omega) (by omega)
      refine ⟨b0, b1, b2, b3, b4, b5, b6, by rw [f0]; exact b7, by rw [f0]; exact b8, by rw [f0]; exact b9, by rw [f0]; exact b10, by rw [f0]; exact b11, by rw [f0]; exact b12, fun b hb => ⟨by rw [F1 _ (by omega) (by omega)]; exact (b13 b hb).1.trans (congrArg nI (wcn_cg (N := N) (N' := N.sE N.lg N.L (uF N.rn (2 * l + w) (-9)) N.en N.jy) (fun _ _ => rfl)).symm), ?_⟩⟩
      show _ = uF N.rn (2 * l + w) (-9) (2 * (N.jy m).pL ((N.jy m).st + 1) + b) ∧ (uF N.rn (2 * l + w) (-9) (2 * (N.jy m).pL ((N.jy m).st + 1) + b) ≠ (-9) → _)
      by_cases y : (N.jy m).pL ((N.jy m).st + 1) = l ∧ b = w
      · obtain ⟨e1, e2⟩ := y
        rw [e1, e2, uF_at]
        exact ⟨Frw, fun c => absurd rfl c⟩
      · rw [uF_ne (by omega), F1 (_ + 3) (by omega) (by omega)]
        by_cases yl : (N.jy m).pL ((N.jy m).st + 1) = l
        · rw [yl] at b13 ⊢
          rw [Fr b (by omega)]
          exact (b13 b hb).2
        · rw [F1 _ (by omega) (by omega)]
          exact (b13 b hb).2
    refine c_beginWait (N := N.sE N.lg N.L (uF N.rn (2 * l + w) (-9)) N.en N.jy) (l0 := (N.jy m).pL ((N.jy m).st + 1)) (s0 := (N.jy m).pS ((N.jy m).st + 1)) (st := (N.jy m).st + 1) (pm := (N.jy m).pm) S j0 j1 O (by omega) g1 g2 w2 q4 (by rw [F1 _ (by omega) (by omega)]; exact k6' _ (by omega)) (by rw [F1 _ (by omega) (by omega)]; exact k7' _ q4) (by rw [F1 16 (by omega) (by omega)]; exact a2) v.2.1 y1 (a3 _ y1).1 Ln1 lv v.1 (by
      rcases y2 with ⟨e, _⟩ | ⟨e, _⟩
      · exact Or.inl e.symm
      · exact Or.inr e.symm) v.2.2.1 ?_
    try simp (disch := omega) only [↓ev_iconst, ↓ev_bipush, ↓ev_sipush, ↓ev_lconst, ↓ev_ldc, ↓ev_ldc_w, ↓ev_ldc2_w, ↓ev_aconst_null, ↓ev_iload, ↓ev_iload_n, ↓ev_lload, ↓ev_lload_n, ↓ev_aload, ↓ev_aload_n, ↓ev_istore, ↓ev_istore_n, ↓ev_lstore, ↓ev_lstore_n, ↓ev_astore, ↓ev_astore_n, ↓ev_iinc, ↓ev_iadd, ↓ev_isub, ↓ev_imul, ↓ev_iand, ↓ev_ixor, ↓ev_idiv, ↓ev_irem, ↓ev_ineg, ↓ev_i2l, ↓ev_i2b, ↓ev_l2i, ↓ev_ladd, ↓ev_lsub, ↓ev_lmul, ↓ev_land, ↓ev_lor, ↓ev_ldiv, ↓ev_lrem, ↓ev_lushr, ↓ev_lshl, ↓ev_lcmp, ↓ev_dup, ↓ev_pop, ↓ev_dup2, ↓ev_if_icmp, ↓ev_ifCond, ↓ev_goto, ↓ev_ifnull, ↓ev_ifnonnull, ↓ev_tableswitch, ↓ev_lookupswitch, ↓ev_getfield, ↓ev_putfield, ↓ev_getstatic, ↓ev_iaload, ↓ev_baload, ↓ev_laload, ↓ev_aaload, ↓ev_iastore, ↓ev_bastore, ↓ev_lastore, ↓ev_aastore, ↓ev_arraylength, ↓ev_new, ↓ev_newarray, ↓ev_anewarray, ↓ev_invokevirtual, ↓ev_invokestatic, ↓ev_invokespecial, ↓ev_ireturn, ↓ev_lreturn, ↓ev_areturn, ↓ev_ret, ↓ev_0, ↓ev_nil, ↓ev_cons, ↓ev_jp, ↓ev_pI, ↓ev_pII, ↓ev_pL, ↓ev_pLL, ↓ev_pIL, ↓ev_pR, ↓ev_pIR, ↓ev_pIIR, ↓ev_pLIR, ↓ev_pRIR, ↓ev_pop0, ↓ev_popS, ↓iv_eq, ↓iv_ne, ↓iv_lt, ↓iv_ge, ↓iv_gt, ↓iv_le, ↓ev_ldi0, ↓ev_ldiS, ↓ev_ldl0, ↓ev_ldlS, ↓ev_lda0, ↓ev_ldaN, ↓ev_ldaS, ↓ev_staR, ↓ev_staN, ↓ev_pfI, ↓ev_pfZ, ↓ev_pfL, ↓ev_pfR, ↓ev_kc, ↓ev_kcN, ↓inv, bk, sL, gf, tyI, tyIs, tyB, tyQ, tyN, nbk, ekd, elOk, isO, swl, vNat, vI, k1, st1, st2, ent, rtQ, va_rf, List.replicate, List.mem_cons, List.not_mem_nil, or_false, false_or, or_true, true_or, or_self, ↓reduceIte, Nat.reduceAdd, Nat.reduceEqDiff, true_and, and_true, reduceCtorEq, forall_const, false_implies, implies_true, true_implies, not_true_eq_false, not_false_eq_true, e00, e10, e01, e11, lg_eq0, lg_lt0, lg_le0, lg_gt0, lg_ge0, ite_u, Nat.reduceLeDiff, u2_ap, qe1, qe2, ↓reduceIte, Nat.reduceEqDiff, Nat.reduceAdd, Nat.reduceMul, z_cl, z_in, an0, an1, qn1, qn2, Int.cast_ofNat_Int, Int.reduceAdd, Int.reduceToNat, Int.reduceLT, Int.reduceLE, Int.reduceEq, Int.reduceSub, Int.zero_le_ofNat, Int.zero_add, List.length_cons, List.length_nil, Nat.zero_add, Op.lookupswitch.offset, nI_add, pk_mul, dc_lt, dc_nlt, dc_le, dc_nle, dc_eq, dc_neq, dc_0, dc_n0, eq_self, S.t0, S.t2, S.t3, S.t4, S.t5, S.t6, S.t7, S.t8, S.t9, S.t10, S.t11, S.t12, S.t13, S.t14, S.t15, S.t16, S.t17, S.t18, S.t19, S.t20, S.t21, S.t22, S.t23, S.r2_0, S.r2_1, S.r2_2, S.r2_4, S.r2_6, S.r2_7, S.r2_8, S.r3_0, S.r3_2, S.r6_0, S.r10_0, S.r10_1, S.r10_2, S.r10_3, S.r16_1, S.r16_2, S.r16_4, S.r16_6, S.r16_7, S.r21_0, S.r21_1]
    try simp (disch := omega) only [z_rm, Nat.add_sub_cancel, Nat.add_one_sub_one, Nat.reduceEqDiff, pk_mul, nI_add, nI_1, pk_sub, pk_div, pk_rem, nI_ltI, nI_leI, nI_eq, z_cl, z_in, z_lt0, z_0le, z_eq0, z_le0, z_0lt, z_m1, z_i2l, z_l2i, z_ult, pk_lLT, pk_lLE, pk_lEQ, lN_add, lN_mul, lN_sub, true_and, and_true, forall_const, false_implies, implies_true, true_implies, not_true_eq_false, not_false_eq_true, Nat.not_lt, Nat.not_le]
    have wc : ∀ a b, wcn (N.sE N.lg N.L (uF N.rn (2 * l + w) (-9)) N.en (uF N.jy m (jWait (N.jy m)))) a b N.jn = wcn N a b N.jn + (if (N.jy m).pS ((N.jy m).st + 1) = b ∧ (N.jy m).pL ((N.jy m).st + 1) = a then 1 else 0) := fun a b => by
      have u := wcn_up (N := N) (N' := N.sE N.lg N.L (uF N.rn (2 * l + w) (-9)) N.en (uF N.jy m (jWait (N.jy m)))) (m := m) (l := a) (st := b) (x := jWait (N.jy m)) rfl N.jn hm
      have e2 := wt1_yes (N := N.sE N.lg N.L (uF N.rn (2 * l + w) (-9)) N.en (uF N.jy m (jWait (N.jy m)))) (l := a) (st := b) (m := m) (show (uF N.jy m (jWait (N.jy m)) m).hw = 1 by rw [uF_at])
      rw [wt1_no (N := N) (by omega), e2] at u
      have e3 : (N.sE N.lg N.L (uF N.rn (2 * l + w) (-9)) N.en (uF N.jy m (jWait (N.jy m)))).jy m = jWait (N.jy m) := uF_at _ _ _
      rw [e3] at u
      exact u
    have wn : wcn (N.sE N.lg N.L (uF N.rn (2 * l + w) (-9)) N.en N.jy) ((N.jy m).pL ((N.jy m).st + 1)) ((N.jy m).pS ((N.jy m).st + 1)) N.jn = wcn N ((N.jy m).pL ((N.jy m).st + 1)) ((N.jy m).pS ((N.jy m).st + 1)) N.jn := wcn_cg (fun _ _ => rfl)
    change Q _ T (u2 _ _ _ (nI (wcn (N.sE N.lg N.L (uF N.rn (2 * l + w) (-9)) N.en N.jy) ((N.jy m).pL ((N.jy m).st + 1)) ((N.jy m).pS ((N.jy m).st + 1)) N.jn + 1))) J R
    rw [wn]
    have wl : (if (N.jy m).pS ((N.jy m).st + 1) = (N.L ((N.jy m).pL ((N.jy m).st + 1))).a then 0 else 1) < 2 := by split <;> omega
    have F : ∀ y, y ≠ o → y ≠ 200 + 4 * (N.jy m).pL ((N.jy m).st + 1) + 1 → u2 (u2 (u2 I2 o 2 (nI 1)) o 3 (nI ((N.jy m).pS ((N.jy m).st + 1)))) (200 + 4 * (N.jy m).pL ((N.jy m).st + 1) + 1) (if (N.jy m).pS ((N.jy m).st + 1) = (N.L ((N.jy m).pL ((N.jy m).st + 1))).a then 0 else 1) (nI (wcn N ((N.jy m).pL ((N.jy m).st + 1)) ((N.jy m).pS ((N.jy m).st + 1)) N.jn + 1)) y = I2 y := fun y y1 y2 => by rw [u2_row y2, u2_row y1, u2_row y1]
    have FW : ∀ a b, a < N.nl → b < 2 → u2 (u2 (u2 I2 o 2 (nI 1)) o 3 (nI ((N.jy m).pS ((N.jy m).st + 1)))) (200 + 4 * (N.jy m).pL ((N.jy m).st + 1) + 1) (if (N.jy m).pS ((N.jy m).st + 1) = (N.L ((N.jy m).pL ((N.jy m).st + 1))).a then 0 else 1) (nI (wcn N ((N.jy m).pL ((N.jy m).st + 1)) ((N.jy m).pS ((N.jy m).st + 1)) N.jn + 1)) (200 + 4 * a + 1) b = nI (wcn (N.sE N.lg N.L (uF N.rn (2 * l + w) (-9)) N.en (uF N.jy m (jWait (N.jy m)))) a (lnSt (N.L a) b) N.jn) := fun a b ha hb => by
      rw [wc]
      have zz := ((a3 a ha).2.2.2.2.2.2.2.2.2.2.2.2.2.2 b hb).1
      have l3 := (v.2.2.2.2.1 a ha).2.2.1
      by_cases y : (N.jy m).pS ((N.jy m).st + 1) = lnSt (N.L a) b ∧ (N.jy m).pL ((N.jy m).st + 1) = a
      · obtain ⟨e1, e2⟩ := y
        rw [show (if (N.jy m).pS ((N.jy m).st + 1) = lnSt (N.L a) b ∧ (N.jy m).pL ((N.jy m).st + 1) = a then 1 else 0) = 1 from if_pos ⟨e1, e2⟩, ← e1, e2]
        have eb : (if (N.jy m).pS ((N.jy m).st + 1) = (N.L a).a then 0 else 1) = b := by
          rw [e1]
          rcases Nat.eq_zero_or_pos b with rfl | bp
          · show (if (N.L a).a = (N.L a).a then 0 else 1) = 0
            exact if_pos rfl
          · obtain rfl : b = 1 := by omega
            show (if (N.L a).b = (N.L a).a then 0 else 1) = 1
            exact if_neg (fun z => l3 z.symm)
        rw [eb, u2_at]
      · rw [show (if (N.jy m).pS ((N.jy m).st + 1) = lnSt (N.L a) b ∧ (N.jy m).pL ((N.jy m).st + 1) = a then 1 else 0) = 0 from if_neg y, Nat.add_zero]
        have nb : ¬ (a = (N.jy m).pL ((N.jy m).st + 1) ∧ b = (if (N.jy m).pS ((N.jy m).st + 1) = (N.L ((N.jy m).pL ((N.jy m).st + 1))).a then 0 else 1)) := fun ⟨c1, c2⟩ => y ⟨by
          rw [c2, c1]
          unfold lnSt
          split
          · rename_i c3
            rw [if_pos rfl]
            exact c3
          · rename_i c3
            rw [if_neg (by decide)]
            rcases y2 with ⟨e, _⟩ | ⟨e, _⟩
            · exact absurd e.symm c3
            · exact e.symm, c1.symm⟩
        rw [u2_ne (by omega), u2_row (by omega), u2_row (by omega), F1 _ (by omega) (by omega)]
        exact zz
    refine h _ (Cn.gen (m := m) (l0 := l) ok9.2.1 (fun _ _ => rfl) (fun k hk => uF_ne hk) (fun a b ha hb => ⟨uF_ne (by omega), rfl⟩) (fun k hk => by rw [F 16 (by omega) (by omega), F1 16 (by omega) (by omega)]) (by rw [F 16 (by omega) (by omega), F1 16 (by omega) (by omega)]; exact a6) (by rw [F 16 (by omega) (by omega), F1 16 (by omega) (by omega)]; exact a7) (by rw [F 16 (by omega) (by omega), F1 16 (by omega) (by omega)]; exact a8) (fun a b ha hb => by rw [F 17 (by omega) (by omega), F1 17 (by omega) (by omega)]; exact a1 a b ha hb) (fun a b ha hal hb hb1 => by rw [F _ (by omega) (by omega), F1 _ (by omega) (by omega)]) (fun a b ha hal hb => FW a b ha hb) ?_ (fun k j hk hkm hj => by rw [F _ (by omega) (by omega), F1 _ (by omega) (by omega)]) ?_ ok9.1) ⟨fun y hy => by rw [F y (by omega) (by omega), F1 y (by omega) (by omega)], fun k j hk hj => by rw [F _ (by omega) (by omega), F1 _ (by omega) (by omega)]⟩
    · have f0 : u2 (u2 (u2 I2 o 2 (nI 1)) o 3 (nI ((N.jy m).pS ((N.jy m).st + 1)))) (200 + 4 * (N.jy m).pL ((N.jy m).st + 1) + 1) (if (N.jy m).pS ((N.jy m).st + 1) = (N.L ((N.jy m).pL ((N.jy m).st + 1))).a then 0 else 1) (nI (wcn N ((N.jy m).pL ((N.jy m).st + 1)) ((N.jy m).pS ((N.jy m).st + 1)) N.jn + 1)) (200 + 4 * l) = I (200 + 4 * l) := by rw [F _ (by omega) (by omega), F1 _ (by omega) (by omega)]
      refine ⟨z0, z1, z2, z3, z4, z5, z6, by rw [f0]; exact z7, by rw [f0]; exact z8, by rw [f0]; exact z9, by rw [f0]; exact z10, by rw [f0]; exact z11, by rw [f0]; exact z12, fun b hb => ⟨FW l b hl hb, ?_⟩⟩
      show _ = uF N.rn (2 * l + w) (-9) (2 * l + b) ∧ (uF N.rn (2 * l + w) (-9) (2 * l + b) ≠ (-9) → _)
      rw [F (200 + 4 * l + 2) (by omega) (by omega), F (200 + 4 * l + 3) (by omega) (by omega), F1 (200 + 4 * l + 3) (by omega) (by omega)]
      by_cases y : b = w
      · subst y
        rw [uF_at]
        exact ⟨Frw, fun c => absurd rfl c⟩
      · rw [uF_ne (by omega), Fr b y]
        exact (z13 b hb).2
    · show CJn T _ R (1010 + 16 * m) (uF N.jy m (jWait (N.jy m)) m)
      rw [uF_at, ho]
      refine ⟨j0, j1, j2, j3, j4, j5, j6, ?_, ?_, ?_, ?_, ?_, fun _ => ⟨?_, ?_, ?_, ?_, ?_, fun i hi => ?_, fun i hi => ?_⟩⟩
      · rw [u2_row (by omega), u2_ne (by omega), u2_at]
      · rw [u2_row (by omega), u2_at]
      · rw [u2_row (by omega), u2_ne (by omega), u2_ne (by omega), Fo 4 (by decide)]
        exact j9
      · rw [u2_row (by omega), u2_ne (by omega), u2_ne (by omega), Fo 5 (by decide)]
        exact j10
      · rw [u2_row (by omega), u2_ne (by omega), u2_ne (by omega), Fo 6 (by decide)]
        show _ = nI (N.jy m).dm.toNat
        rw [qf]
        exact j11'
      · rw [u2_row (by omega), u2_ne (by omega), u2_ne (by omega)]
        exact g1
      · rw [u2_row (by omega), u2_ne (by omega), u2_ne (by omega), Fo 7 (by decide)]
        exact k2'
      · rw [u2_row (by omega), u2_ne (by omega), u2_ne (by omega), Fo 8 (by decide)]
        exact k3'
      · rw [u2_row (by omega), u2_ne (by omega), u2_ne (by omega), Fo 9 (by decide)]
        exact k4'
      · rw [F _ (by omega) (by omega), F1 _ (by omega) (by omega)]
        exact k5'
      · rw [F _ (by omega) (by omega), F1 _ (by omega) (by omega)]
        exact k6' i hi
      · rw [F _ (by omega) (by omega), F1 _ (by omega) (by omega)]
        exact k7' i hi
  · rw [if_neg q4] at h ok9
    have s8 := w6 ((N.jy m).st + 1) (by omega)
    have hns := v.1
    try simp (disch := omega) only [↓ev_iconst, ↓ev_bipush, ↓ev_sipush, ↓ev_lconst, ↓ev_ldc, ↓ev_ldc_w, ↓ev_ldc2_w, ↓ev_aconst_null, ↓ev_iload, ↓ev_iload_n, ↓ev_lload, ↓ev_lload_n, ↓ev_aload, ↓ev_aload_n, ↓ev_istore, ↓ev_istore_n, ↓ev_lstore, ↓ev_lstore_n, ↓ev_astore, ↓ev_astore_n, ↓ev_iinc, ↓ev_iadd, ↓ev_isub, ↓ev_imul, ↓ev_iand, ↓ev_ixor, ↓ev_idiv, ↓ev_irem, ↓ev_ineg, ↓ev_i2l, ↓ev_i2b, ↓ev_l2i, ↓ev_ladd, ↓ev_lsub, ↓ev_lmul, ↓ev_land, ↓ev_lor, ↓ev_ldiv, ↓ev_lrem, ↓ev_lushr, ↓ev_lshl, ↓ev_lcmp, ↓ev_dup, ↓ev_pop, ↓ev_dup2, ↓ev_if_icmp, ↓ev_ifCond, ↓ev_goto, ↓ev_ifnull, ↓ev_ifnonnull, ↓ev_tableswitch, ↓ev_lookupswitch, ↓ev_getfield, ↓ev_putfield, ↓ev_getstatic, ↓ev_iaload, ↓ev_baload, ↓ev_laload, ↓ev_aaload, ↓ev_iastore, ↓ev_bastore, ↓ev_lastore, ↓ev_aastore, ↓ev_arraylength, ↓ev_new, ↓ev_newarray, ↓ev_anewarray, ↓ev_invokevirtual, ↓ev_invokestatic, ↓ev_invokespecial, ↓ev_ireturn, ↓ev_lreturn, ↓ev_areturn, ↓ev_ret, ↓ev_0, ↓ev_nil, ↓ev_cons, ↓ev_jp, ↓ev_pI, ↓ev_pII, ↓ev_pL, ↓ev_pLL, ↓ev_pIL, ↓ev_pR, ↓ev_pIR, ↓ev_pIIR, ↓ev_pLIR, ↓ev_pRIR, ↓ev_pop0, ↓ev_popS, ↓iv_eq, ↓iv_ne, ↓iv_lt, ↓iv_ge, ↓iv_gt, ↓iv_le, ↓ev_ldi0, ↓ev_ldiS, ↓ev_ldl0, ↓ev_ldlS, ↓ev_lda0, ↓ev_ldaN, ↓ev_ldaS, ↓ev_staR, ↓ev_staN, ↓ev_pfI, ↓ev_pfZ, ↓ev_pfL, ↓ev_pfR, ↓ev_kc, ↓ev_kcN, ↓inv, bk, sL, gf, tyI, tyIs, tyB, tyQ, tyN, nbk, ekd, elOk, isO, swl, vNat, vI, k1, st1, st2, ent, rtQ, va_rf, List.replicate, List.mem_cons, List.not_mem_nil, or_false, false_or, or_true, true_or, or_self, ↓reduceIte, Nat.reduceAdd, Nat.reduceEqDiff, true_and, and_true, reduceCtorEq, forall_const, false_implies, implies_true, true_implies, not_true_eq_false, not_false_eq_true, e00, e10, e01, e11, lg_eq0, lg_lt0, lg_le0, lg_gt0, lg_ge0, ite_u, Nat.reduceLeDiff, u2_ap, qe1, qe2, ↓reduceIte, Nat.reduceEqDiff, Nat.reduceAdd, Nat.reduceMul, z_cl, z_in, an0, an1, qn1, qn2, Int.cast_ofNat_Int, Int.reduceAdd, Int.reduceToNat, Int.reduceLT, Int.reduceLE, Int.reduceEq, Int.reduceSub, Int.zero_le_ofNat, Int.zero_add, List.length_cons, List.length_nil, Nat.zero_add, Op.lookupswitch.offset, nI_add, pk_mul, dc_lt, dc_nlt, dc_le, dc_nle, dc_eq, dc_neq, dc_0, dc_n0, eq_self, S.t0, S.t2, S.t3, S.t4, S.t5, S.t6, S.t7, S.t8, S.t9, S.t10, S.t11, S.t12, S.t13, S.t14, S.t15, S.t16, S.t17, S.t18, S.t19, S.t20, S.t21, S.t22, S.t23, S.r2_0, S.r2_1, S.r2_2, S.r2_4, S.r2_6, S.r2_7, S.r2_8, S.r3_0, S.r3_2, S.r6_0, S.r10_0, S.r10_1, S.r10_2, S.r10_3, S.r16_1, S.r16_2, S.r16_4, S.r16_6, S.r16_7, S.r21_0, S.r21_1, z0, z3, z4, z5, z6, x3', a6, j0, j1, O.1, nA, nC, nE, j11', k1', k5']
    try simp (disch := omega) only [z_rm, Nat.add_sub_cancel, Nat.add_one_sub_one, Nat.reduceEqDiff, pk_mul, nI_add, nI_1, pk_sub, pk_div, pk_rem, nI_ltI, nI_leI, nI_eq, z_cl, z_in, z_lt0, z_0le, z_eq0, z_le0, z_0lt, z_m1, z_i2l, z_l2i, z_ult, pk_lLT, pk_lLE, pk_lEQ, lN_add, lN_mul, lN_sub, true_and, and_true, forall_const, false_implies, implies_true, true_implies, not_true_eq_false, not_false_eq_true, Nat.not_lt, Nat.not_le]
    generalize hI2 : u2 (u2 I (200 + 4 * l + 2) w (-9)) o 1 (nI ((N.jy m).st + 1)) = I2 at g1 g2 F1 Fo Fr Frw ⊢
    refine c_arrive (st := (N.jy m).st + 1) (pm := (N.jy m).pm) (ns := N.ns) (s0 := (N.jy m).pS ((N.jy m).st + 1)) (ck := N.ck) S j0 j1 O (by omega) g1 g2 w2 (by omega) (by rw [F1 _ (by omega) (by omega)]; exact k6' _ (by omega)) (by rw [F1 16 (by omega) (by omega)]; exact a6) (by rw [F1 16 (by omega) (by omega)]; exact a0) hns s8 ?_
    rw [show I2 17 ((N.jy m).pS ((N.jy m).st + 1) * 4 + 1) = N.lg ((N.jy m).pS ((N.jy m).st + 1)) 1 from by rw [F1 17 (by omega) (by omega)]; exact a1 _ 1 (by omega) (by decide)]
    try simp (disch := omega) only [↓ev_iconst, ↓ev_bipush, ↓ev_sipush, ↓ev_lconst, ↓ev_ldc, ↓ev_ldc_w, ↓ev_ldc2_w, ↓ev_aconst_null, ↓ev_iload, ↓ev_iload_n, ↓ev_lload, ↓ev_lload_n, ↓ev_aload, ↓ev_aload_n, ↓ev_istore, ↓ev_istore_n, ↓ev_lstore, ↓ev_lstore_n, ↓ev_astore, ↓ev_astore_n, ↓ev_iinc, ↓ev_iadd, ↓ev_isub, ↓ev_imul, ↓ev_iand, ↓ev_ixor, ↓ev_idiv, ↓ev_irem, ↓ev_ineg, ↓ev_i2l, ↓ev_i2b, ↓ev_l2i, ↓ev_ladd, ↓ev_lsub, ↓ev_lmul, ↓ev_land, ↓ev_lor, ↓ev_ldiv, ↓ev_lrem, ↓ev_lushr, ↓ev_lshl, ↓ev_lcmp, ↓ev_dup, ↓ev_pop, ↓ev_dup2, ↓ev_if_icmp, ↓ev_ifCond, ↓ev_goto, ↓ev_ifnull, ↓ev_ifnonnull, ↓ev_tableswitch, ↓ev_lookupswitch, ↓ev_getfield, ↓ev_putfield, ↓ev_getstatic, ↓ev_iaload, ↓ev_baload, ↓ev_laload, ↓ev_aaload, ↓ev_iastore, ↓ev_bastore, ↓ev_lastore, ↓ev_aastore, ↓ev_arraylength, ↓ev_new, ↓ev_newarray, ↓ev_anewarray, ↓ev_invokevirtual, ↓ev_invokestatic, ↓ev_invokespecial, ↓ev_ireturn, ↓ev_lreturn, ↓ev_areturn, ↓ev_ret, ↓ev_0, ↓ev_nil, ↓ev_cons, ↓ev_jp, ↓ev_pI, ↓ev_pII, ↓ev_pL, ↓ev_pLL, ↓ev_pIL, ↓ev_pR, ↓ev_pIR, ↓ev_pIIR, ↓ev_pLIR, ↓ev_pRIR, ↓ev_pop0, ↓ev_popS, ↓iv_eq, ↓iv_ne, ↓iv_lt, ↓iv_ge, ↓iv_gt, ↓iv_le, ↓ev_ldi0, ↓ev_ldiS, ↓ev_ldl0, ↓ev_ldlS, ↓ev_lda0, ↓ev_ldaN, ↓ev_ldaS, ↓ev_staR, ↓ev_staN, ↓ev_pfI, ↓ev_pfZ, ↓ev_pfL, ↓ev_pfR, ↓ev_kc, ↓ev_kcN, ↓inv, bk, sL, gf, tyI, tyIs, tyB, tyQ, tyN, nbk, ekd, elOk, isO, swl, vNat, vI, k1, st1, st2, ent, rtQ, va_rf, List.replicate, List.mem_cons, List.not_mem_nil, or_false, false_or, or_true, true_or, or_self, ↓reduceIte, Nat.reduceAdd, Nat.reduceEqDiff, true_and, and_true, reduceCtorEq, forall_const, false_implies, implies_true, true_implies, not_true_eq_false, not_false_eq_true, e00, e10, e01, e11, lg_eq0, lg_lt0, lg_le0, lg_gt0, lg_ge0, ite_u, Nat.reduceLeDiff, u2_ap, qe1, qe2, ↓reduceIte, Nat.reduceEqDiff, Nat.reduceAdd, Nat.reduceMul, z_cl, z_in, an0, an1, qn1, qn2, Int.cast_ofNat_Int, Int.reduceAdd, Int.reduceToNat, Int.reduceLT, Int.reduceLE, Int.reduceEq, Int.reduceSub, Int.zero_le_ofNat, Int.zero_add, List.length_cons, List.length_nil, Nat.zero_add, Op.lookupswitch.offset, nI_add, pk_mul, dc_lt, dc_nlt, dc_le, dc_nle, dc_eq, dc_neq, dc_0, dc_n0, eq_self, S.t0, S.t2, S.t3, S.t4, S.t5, S.t6, S.t7, S.t8, S.t9, S.t10, S.t11, S.t12, S.t13, S.t14, S.t15, S.t16, S.t17, S.t18, S.t19, S.t20, S.t21, S.t22, S.t23, S.r2_0, S.r2_1, S.r2_2, S.r2_4, S.r2_6, S.r2_7, S.r2_8, S.r3_0, S.r3_2, S.r6_0, S.r10_0, S.r10_1, S.r10_2, S.r10_3, S.r16_1, S.r16_2, S.r16_4, S.r16_6, S.r16_7, S.r21_0, S.r21_1]
    try simp (disch := omega) only [z_rm, Nat.add_sub_cancel, Nat.add_one_sub_one, Nat.reduceEqDiff, pk_mul, nI_add, nI_1, pk_sub, pk_div, pk_rem, nI_ltI, nI_leI, nI_eq, z_cl, z_in, z_lt0, z_0le, z_eq0, z_le0, z_0lt, z_m1, z_i2l, z_l2i, z_ult, pk_lLT, pk_lLE, pk_lEQ, lN_add, lN_mul, lN_sub, true_and, and_true, forall_const, false_implies, implies_true, true_implies, not_true_eq_false, not_false_eq_true, Nat.not_lt, Nat.not_le]
    have wc : ∀ a b, wcn (N.sE (lgU N.lg ((N.jy m).pS ((N.jy m).st + 1)) 1 (nI 1)) N.L (uF N.rn (2 * l + w) (-9)) N.en (uF N.jy m (jCome (N.jy m) N.ck))) a b N.jn = wcn N a b N.jn := fun a b => by
      have u := wcn_up (N := N) (N' := N.sE (lgU N.lg ((N.jy m).pS ((N.jy m).st + 1)) 1 (nI 1)) N.L (uF N.rn (2 * l + w) (-9)) N.en (uF N.jy m (jCome (N.jy m) N.ck))) (m := m) (l := a) (st := b) (x := jCome (N.jy m) N.ck) rfl N.jn hm
      rw [wt1_no (N := N) (by omega), wt1_no (show ((uF N.jy m (jCome (N.jy m) N.ck)) m).hw ≠ 1 by rw [uF_at]; exact (by decide : (3 : Nat) ≠ 1))] at u
      omega
    have F : ∀ y, y ≠ o → y ≠ 17 → u2 (u2 (u2 (u2 I2 o 2 (nI 3)) o 3 (nI ((N.jy m).pS ((N.jy m).st + 1)))) o 4 (nI N.ck)) 17 ((N.jy m).pS ((N.jy m).st + 1) * 4 + 1) (N.lg ((N.jy m).pS ((N.jy m).st + 1)) 1 + nI 1) y = I2 y := fun y y1 y2 => by rw [u2_row y2, u2_row y1, u2_row y1, u2_row y1]
    refine h _ (Cn.gen (m := m) (l0 := l) ok9.2.1 (fun _ _ => rfl) (fun k hk => uF_ne hk) (fun a b ha hb => ⟨uF_ne (by omega), rfl⟩) (fun k hk => by rw [F 16 (by omega) (by omega), F1 16 (by omega) (by omega)]) (by rw [F 16 (by omega) (by omega), F1 16 (by omega) (by omega)]; exact a6) (by rw [F 16 (by omega) (by omega), F1 16 (by omega) (by omega)]; exact a7) (by rw [F 16 (by omega) (by omega), F1 16 (by omega) (by omega)]; exact a8) (fun a b ha hb => ?_) (fun a b ha hal hb hb1 => by rw [F _ (by omega) (by omega), F1 _ (by omega) (by omega)]) (fun a b ha hal hb => by rw [F _ (by omega) (by omega), F1 _ (by omega) (by omega), wc]; exact ((a3 a ha).2.2.2.2.2.2.2.2.2.2.2.2.2.2 b hb).1) ?_ (fun k j hk hkm hj => by rw [F _ (by omega) (by omega), F1 _ (by omega) (by omega)]) ?_ ok9.1) ⟨fun y hy => by rw [F y (by omega) (by omega), F1 y (by omega) (by omega)], fun k j hk hj => by rw [F _ (by omega) (by omega), F1 _ (by omega) (by omega)]⟩
    · show _ = lgU N.lg ((N.jy m).pS ((N.jy m).st + 1)) 1 (nI 1) a b
      unfold lgU
      by_cases y : a = (N.jy m).pS ((N.jy m).st + 1) ∧ b = 1
      · obtain ⟨e1, e2⟩ := y
        rw [if_pos ⟨e1, e2⟩, e1, e2, u2_at]
      · rw [if_neg y, u2_ne (by omega), u2_row (by omega), u2_row (by omega), u2_row (by omega), F1 17 (by omega) (by omega)]
        exact a1 a b ha hb
    · have f0 : u2 (u2 (u2 (u2 I2 o 2 (nI 3)) o 3 (nI ((N.jy m).pS ((N.jy m).st + 1)))) o 4 (nI N.ck)) 17 ((N.jy m).pS ((N.jy m).st + 1) * 4 + 1) (N.lg ((N.jy m).pS ((N.jy m).st + 1)) 1 + nI 1) (200 + 4 * l) = I (200 + 4 * l) := by rw [F _ (by omega) (by omega), F1 _ (by omega) (by omega)]
      refine ⟨z0, z1, z2, z3, z4, z5, z6, by rw [f0]; exact z7, by rw [f0]; exact z8, by rw [f0]; exact z9, by rw [f0]; exact z10, by rw [f0]; exact z11, by rw [f0]; exact z12, fun b hb => ⟨by rw [F _ (by omega) (by omega), F1 _ (by omega) (by omega)]; show _ = nI (wcn _ l (lnSt (N.L l) b) N.jn); rw [wc]; exact (z13 b hb).1, ?_⟩⟩
      show _ = uF N.rn (2 * l + w) (-9) (2 * l + b) ∧ (uF N.rn (2 * l + w) (-9) (2 * l + b) ≠ (-9) → _)
      rw [F (200 + 4 * l + 2) (by omega) (by omega), F (200 + 4 * l + 3) (by omega) (by omega), F1 (200 + 4 * l + 3) (by omega) (by omega)]
      by_cases y : b = w
      · subst y
        rw [uF_at]
        exact ⟨Frw, fun c => absurd rfl c⟩
      · rw [uF_ne (by omega), Fr b y]
        exact (z13 b hb).2
    · show CJn T _ R (1010 + 16 * m) (uF N.jy m (jCome (N.jy m) N.ck) m)
      rw [uF_at, ho]
      refine ⟨j0, j1, j2, j3, j4, j5, j6, ?_, ?_, ?_, ?_, ?_, fun _ => ⟨?_, ?_, ?_, ?_, ?_, fun i hi => ?_, fun i hi => ?_⟩⟩
      · rw [u2_row (by omega), u2_ne (by omega), u2_ne (by omega), u2_at]
      · rw [u2_row (by omega), u2_ne (by omega), u2_at]
      · rw [u2_row (by omega), u2_at]
      · rw [u2_row (by omega), u2_ne (by omega), u2_ne (by omega), u2_ne (by omega), Fo 5 (by decide)]
        exact j10
      · rw [u2_row (by omega), u2_ne (by omega), u2_ne (by omega), u2_ne (by omega), Fo 6 (by decide)]
        show _ = nI (N.jy m).dm.toNat
        rw [qf]
        exact j11'
      · rw [u2_row (by omega), u2_ne (by omega), u2_ne (by omega), u2_ne (by omega)]
        exact g1
      · rw [u2_row (by omega), u2_ne (by omega), u2_ne (by omega), u2_ne (by omega), Fo 7 (by decide)]
        exact k2'
      · rw [u2_row (by omega), u2_ne (by omega), u2_ne (by omega), u2_ne (by omega), Fo 8 (by decide)]
        exact k3'
      · rw [u2_row (by omega), u2_ne (by omega), u2_ne (by omega), u2_ne (by omega), Fo 9 (by decide)]
        exact k4'
      · rw [F _ (by omega) (by omega), F1 _ (by omega) (by omega)]
        exact k5'
      · rw [F _ (by omega) (by omega), F1 _ (by omega) (by omega)]
        exact k6' i hi
      · rw [F _ (by omega) (by omega), F1 _ (by omega) (by omega)]
        exact k7' i hi
end ENDRUN
