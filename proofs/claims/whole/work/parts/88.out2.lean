/-! a message sets out in the house -/
section OUT2
variable {G : GGy} {T : TTy} {I : MIy} {J : MJy} {R : MRy} {Q : QQy} {s : AlS}
theorem CNt.out {N : NtS} {m g a p : Nat} {sc sn : Int32} {I' : MIy} (Cn : CNt T I R N) (hm : m < N.jn) (hw2 : (N.jy m).hw ≠ 2) (hw1 : (N.jy m).hw ≠ 1) (ha : a < N.ns) (ne : a ≠ g) (hf : csN N g a < 1000000) (hp : p ≤ 2)
    (k16 : ∀ k, k = 0 ∨ k = 3 ∨ k = 5 ∨ k = 8 → I' 16 k = I 16 k) (k9 : I' 16 9 = sn) (k10 : I' 16 10 = nI (N.tu + 1)) (k17 : ∀ s k, s < 8 → k < 4 → I' 17 (s * 4 + k) = lgU (lgU N.lg a 0 (nI 1)) a 2 sc s k)
    (kL : ∀ l j, l < N.nl → j < 4 → j ≠ 1 → I' (200 + 4 * l + j) = I (200 + 4 * l + j)) (kW : ∀ l w, l < N.nl → w < 2 → ¬ (l = rtL N g a 0 ∧ w = if a = (N.L (rtL N g a 0)).a then 0 else 1) → I' (200 + 4 * l + 1) w = I (200 + 4 * l + 1) w) (kW0 : I' (200 + 4 * rtL N g a 0 + 1) (if a = (N.L (rtL N g a 0)).a then 0 else 1) = nI (wcn N (rtL N g a 0) a N.jn + 1))
    (kJ : ∀ k j, k < N.jn → k ≠ m → j < 4 → I' (1010 + 16 * k + j) = I (1010 + 16 * k + j)) (kM : CJn T I' R (1010 + 16 * m) (jOut N (N.jy m) g a p sc)) : CNt T I' R (out9 N m g a p sc sn) := by
  obtain ⟨a0, a1, a2, a3, a4, a5, a6, a7, a8, v⟩ := Cn
  have h1 : 0 < csN N g a % 16 := by
    rcases Nat.eq_zero_or_pos (csN N g a % 16) with q | q
    · have e := rt_end v ha hf
      rw [q] at e
      exact absurd e ne
    · exact q
  obtain ⟨r1, r2, r3, r4, r5⟩ := (rt_sp v ha hf 0 (by omega)).2.2.2 h1
  have lv := v.2.2.2.2.1 _ r4
  have ea : rtS N g a 0 = a := rfl
  rw [ea] at r5
  have wc : ∀ l st, wcn (out9 N m g a p sc sn) l st N.jn = wcn N l st N.jn + (if a = st ∧ rtL N g a 0 = l then 1 else 0) := fun l st => by
    have u := wcn_up (N := N) (N' := out9 N m g a p sc sn) (m := m) (l := l) (st := st) (x := jOut N (N.jy m) g a p sc) rfl N.jn hm
    have e1 : wt1 N l st m = false := wt1_no hw1
    have e2 := wt1_yes (N := out9 N m g a p sc sn) (l := l) (st := st) (m := m) (show (uF N.jy m (jOut N (N.jy m) g a p sc) m).hw = 1 by rw [uF_at]; rfl)
    rw [e1, e2] at u
    have e3 : (out9 N m g a p sc sn).jy m = jOut N (N.jy m) g a p sc := uF_at _ _ _
    rw [e3] at u
    have e4 : (jOut N (N.jy m) g a p sc).pS (jOut N (N.jy m) g a p sc).st = a := rfl
    have e5 : (jOut N (N.jy m) g a p sc).pL (jOut N (N.jy m) g a p sc).st = rtL N g a 0 := rfl
    rw [e4, e5] at u
    exact u
  refine ⟨by rw [k16 0 (by omega)]; exact a0, k17, by rw [k16 3 (by omega)]; exact a2, fun l hl => ⟨(a3 l hl).1, ?_⟩, by rw [k16 5 (by omega)]; exact a4, fun k hk => ⟨(a5 k hk).1, ?_⟩, by rw [k16 8 (by omega)]; exact a6, k9, k10, v.out hm hw2 ha ne hf hp⟩
  · obtain ⟨z0, z1, z2, z3, z4, z5, z6, z7, z8, z9, z10, z11, z12, z13⟩ := (a3 l hl).2
    have e0 : I' (200 + 4 * l) = I (200 + 4 * l) := kL l 0 hl (by decide) (by decide)
    refine ⟨z0, z1, z2, z3, z4, z5, z6, by rw [e0]; exact z7, by rw [e0]; exact z8, by rw [e0]; exact z9, by rw [e0]; exact z10, by rw [e0]; exact z11, by rw [e0]; exact z12, fun w w2 => ⟨?_, ?_⟩⟩
    · show I' (200 + 4 * l + 1) w = nI (wcn (out9 N m g a p sc sn) l (lnSt (N.L l) w) N.jn)
      rw [wc]
      by_cases q : l = rtL N g a 0 ∧ w = if a = (N.L (rtL N g a 0)).a then 0 else 1
      · obtain ⟨rfl, q2⟩ := q
        have es : lnSt (N.L (rtL N g a 0)) w = a := by
          rw [q2]
          unfold lnSt
          split
          · rename_i z
            rw [if_pos rfl]
            exact z.symm
          · rename_i z
            rw [if_neg (by decide)]
            rcases r5 with ⟨c1, _⟩ | ⟨c1, _⟩
            · exact absurd c1.symm z
            · exact c1
        rw [es, if_pos ⟨rfl, rfl⟩, q2]
        exact kW0
      · have es : ¬ (a = lnSt (N.L l) w ∧ rtL N g a 0 = l) := fun ⟨y1, y2⟩ => q ⟨y2.symm, by
          rw [y2]
          unfold lnSt at y1
          have l3 := (v.2.2.2.2.1 l hl).2.2.1
          rcases Nat.eq_zero_or_pos w with rfl | wp
          · rw [if_pos rfl] at y1
            rw [if_pos y1]
          · rw [if_neg (by omega)] at y1
            rw [if_neg (by omega)]
            omega⟩
        rw [if_neg es, kW l w hl w2 q]
        exact (z13 w w2).1
    · have e2 : I' (200 + 4 * l + 2) = I (200 + 4 * l + 2) := kL l 2 hl (by decide) (by decide)
      have e3 : I' (200 + 4 * l + 3) = I (200 + 4 * l + 3) := kL l 3 hl (by decide) (by decide)
      rw [e2, e3]
      exact (z13 w w2).2
  · show CJn T I' R (1010 + 16 * k) (uF N.jy m (jOut N (N.jy m) g a p sc) k)
    by_cases q : k = m
    · subst q
      rw [uF_at]
      exact kM
    · rw [uF_ne q]
      exact (a5 k hk).2.fr (fun _ _ => rfl) (fun j hj => kJ k j hk q hj) rfl rfl
set_option maxRecDepth 100000 in
theorem c_setOut {N : NtS} {m g a p : Nat} {sc sn : Int32} {I0 : MIy} (S : SH T R) (Cn : CNt T I0 R N) (hm : m < N.jn) (hw2 : (N.jy m).hw ≠ 2) (hw1 : (N.jy m).hw ≠ 1) (ha : a < N.ns) (ne : a ≠ g) (hf : csN N g a < 1000000) (hp : p ≤ 2) (rt : RT9 I N g a (csN N g a % 16))
    (fr0 : ∀ y, y ≠ 1010 + 16 * m → y ≠ 16 → (y < 20 ∨ 23 < y) → I y = I0 y) (fo : ∀ k, k ≠ 7 → k ≠ 9 → I (1010 + 16 * m) k = I0 (1010 + 16 * m) k) (f16 : ∀ k, k ≠ 9 → I 16 k = I0 16 k) (o7 : I (1010 + 16 * m) 7 = nI p) (o9 : I (1010 + 16 * m) 9 = sc) (s9 : I 16 9 = sn)
    (h : ∀ I', CNt T I' R (out9 N m g a p sc sn) → (∀ y, y < 16 ∨ (24 ≤ y ∧ y < 200) → I' y = I0 y) → (∀ k j, k < 30 → j < 10 → I' (1000 + 16 * k + j) = I0 (1000 + 16 * k + j)) → Q none T I' J R) : Run G 81 [.ref 16, .ref (1010 + 16 * m)] T I J R Q := by
  obtain ⟨a0, a1, a2, a3, a4, a5, a6, a7, a8, v⟩ := id Cn
  obtain ⟨j0, j1, j2, j3, j4, j5, j6, j7, j8, j9, j10, j11, j12⟩ := (a5 m hm).2
  have jm := v.2.2.1
  have hnl := v.2.1
  have h1 : 0 < csN N g a % 16 := by
    rcases Nat.eq_zero_or_pos (csN N g a % 16) with q | q
    · have e := rt_end v ha hf
      rw [q] at e
      exact absurd e ne
    · exact q
  have h7 : csN N g a % 16 ≤ 7 := by
    rcases cs_rel (g := g) v a with ⟨c1, _⟩ | ⟨m, p, c1, c2, c3, _⟩ <;> omega
  obtain ⟨r1, r2, r3, r4, r5⟩ := (rt_sp v ha hf 0 (by omega)).2.2.2 h1
  have ea : rtS N g a 0 = a := rfl
  rw [ea] at r5
  have lv := v.2.2.2.2.1 _ r4
  have O : RtO T R (1010 + 16 * m + 1) := (a5 m hm).2.rt
  have f10 : I 16 10 = nI N.tu := by rw [f16 10 (by decide)]; exact a8
  generalize ho : 1010 + 16 * m = o at *
  refine Run.body (by decide) 1 (Nat.le_of_ble_eq_true rfl) (AT.go okB81 4 rfl [] 90 0 ?_)
  simp (disch := omega) only [B81, ↓ev_iconst, ↓ev_bipush, ↓ev_sipush, ↓ev_lconst, ↓ev_ldc, ↓ev_ldc_w, ↓ev_ldc2_w, ↓ev_aconst_null, ↓ev_iload, ↓ev_iload_n, ↓ev_lload, ↓ev_lload_n, ↓ev_aload, ↓ev_aload_n, ↓ev_istore, ↓ev_istore_n, ↓ev_lstore, ↓ev_lstore_n, ↓ev_astore, ↓ev_astore_n, ↓ev_iinc, ↓ev_iadd, ↓ev_isub, ↓ev_imul, ↓ev_iand, ↓ev_ixor, ↓ev_idiv, ↓ev_irem, ↓ev_ineg, ↓ev_i2l, ↓ev_i2b, ↓ev_l2i, ↓ev_ladd, ↓ev_lsub, ↓ev_lmul, ↓ev_land, ↓ev_lor, ↓ev_ldiv, ↓ev_lrem, ↓ev_lushr, ↓ev_lshl, ↓ev_lcmp, ↓ev_dup, ↓ev_pop, ↓ev_dup2, ↓ev_if_icmp, ↓ev_ifCond, ↓ev_goto, ↓ev_ifnull, ↓ev_ifnonnull, ↓ev_tableswitch, ↓ev_lookupswitch, ↓ev_getfield, ↓ev_putfield, ↓ev_getstatic, ↓ev_iaload, ↓ev_baload, ↓ev_laload, ↓ev_aaload, ↓ev_iastore, ↓ev_bastore, ↓ev_lastore, ↓ev_aastore, ↓ev_arraylength, ↓ev_new, ↓ev_newarray, ↓ev_anewarray, ↓ev_invokevirtual, ↓ev_invokestatic, ↓ev_invokespecial, ↓ev_ireturn, ↓ev_lreturn, ↓ev_areturn, ↓ev_ret, ↓ev_0, ↓ev_nil, ↓ev_cons, ↓ev_jp, ↓ev_pI, ↓ev_pII, ↓ev_pL, ↓ev_pLL, ↓ev_pIL, ↓ev_pR, ↓ev_pIR, ↓ev_pIIR, ↓ev_pLIR, ↓ev_pRIR, ↓ev_pop0, ↓ev_popS, ↓iv_eq, ↓iv_ne, ↓iv_lt, ↓iv_ge, ↓iv_gt, ↓iv_le, ↓ev_ldi0, ↓ev_ldiS, ↓ev_ldl0, ↓ev_ldlS, ↓ev_lda0, ↓ev_ldaN, ↓ev_ldaS, ↓ev_staR, ↓ev_staN, ↓ev_pfI, ↓ev_pfZ, ↓ev_pfL, ↓ev_pfR, ↓ev_kc, ↓ev_kcN, ↓inv, bk, sL, gf, tyI, tyIs, tyB, tyQ, tyN, nbk, ekd, elOk, isO, swl, vNat, vI, k1, st1, st2, ent, rtQ, va_rf, List.replicate, List.mem_cons, List.not_mem_nil, or_false, false_or, or_true, true_or, or_self, ↓reduceIte, Nat.reduceAdd, Nat.reduceEqDiff, true_and, and_true, reduceCtorEq, forall_const, false_implies, implies_true, true_implies, not_true_eq_false, not_false_eq_true, e00, e10, e01, e11, lg_eq0, lg_lt0, lg_le0, lg_gt0, lg_ge0, ite_u, Nat.reduceLeDiff, u2_ap, qe1, qe2, ↓reduceIte, Nat.reduceEqDiff, Nat.reduceAdd, Nat.reduceMul, z_cl, z_in, an0, an1, qn1, qn2, Int.cast_ofNat_Int, Int.reduceAdd, Int.reduceToNat, Int.reduceLT, Int.reduceLE, Int.reduceEq, Int.reduceSub, Int.zero_le_ofNat, Int.zero_add, List.length_cons, List.length_nil, Nat.zero_add, Op.lookupswitch.offset, nI_add, pk_mul, dc_lt, dc_nlt, dc_le, dc_nle, dc_eq, dc_neq, dc_0, dc_n0, eq_self, S.t0, S.t2, S.t3, S.t4, S.t5, S.t6, S.t7, S.t8, S.t9, S.t10, S.t11, S.t12, S.t13, S.t14, S.t15, S.t16, S.t17, S.t18, S.t19, S.t20, S.t21, S.t22, S.t23, S.r2_0, S.r2_1, S.r2_2, S.r2_4, S.r2_6, S.r2_7, S.r2_8, S.r3_0, S.r3_2, S.r6_0, S.r10_0, S.r10_1, S.r10_2, S.r10_3, S.r16_1, S.r16_2, S.r16_4, S.r16_6, S.r16_7, S.r21_0, S.r21_1, f10, j0, j1, O.1]
  try simp (disch := omega) only [z_rm, Nat.add_sub_cancel, Nat.add_one_sub_one, Nat.reduceEqDiff, pk_mul, nI_add, nI_1, pk_sub, pk_div, pk_rem, nI_ltI, nI_leI, nI_eq, z_cl, z_in, z_lt0, z_0le, z_eq0, z_le0, z_0lt, z_m1, z_i2l, z_l2i, z_ult, pk_lLT, pk_lLE, pk_lEQ, lN_add, lN_mul, lN_sub, true_and, and_true, forall_const, false_implies, implies_true, true_implies, not_true_eq_false, not_false_eq_true, Nat.not_lt, Nat.not_le]
  refine c_copyFrom O S.rt (Or.inr (by omega)) (fun I2 b1 b2 b3 b4 b5 => ?_)
  have B5 : ∀ y, y ≠ 16 → y ≠ o → (y < o + 1 ∨ o + 1 + 2 < y) → I2 y = I y := fun y y1 y2 y3 => by rw [b5 y y3, u2_row y2, u2_row y1]
  have rt1 := rt.1
  have c1 : I2 (o + 1) 2 = nI (csN N g a % 16) := by
    rw [b1, u2_row (by omega), u2_row (by omega)]
    exact rt.1
  have c2 : ∀ j, j ≤ csN N g a % 16 → I2 (o + 2) j = nI (rtS N g a j) := fun j hj => by
    have := b3 j (by omega)
    rw [this, u2_row (by omega), u2_row (by omega)]
    exact rt.2.1 j hj
  have c3 : ∀ j, j < csN N g a % 16 → I2 (o + 3) j = nI (rtL N g a j) := fun j hj => by
    have := b4 j (by omega)
    rw [this, u2_row (by omega), u2_row (by omega)]
    exact rt.2.2 j hj
  have co : ∀ k, k ≠ 8 → I2 o k = I o k := fun k hk => by rw [b5 o (by omega), u2_ne (by omega), u2_row (by omega)]
  have co8 : I2 o 8 = nI (N.tu + 1) := by rw [b5 o (by omega), u2_at]
  have c16 : ∀ k, k ≠ 10 → I2 16 k = I 16 k := fun k hk => by rw [b5 16 (by omega), u2_row (by omega), u2_ne (by omega)]
  have c1610 : I2 16 10 = nI (N.tu + 1) := by rw [b5 16 (by omega), u2_row (by omega), u2_at]
  clear b1 b2 b3 b4 b5
  try simp (disch := omega) only [↓ev_iconst, ↓ev_bipush, ↓ev_sipush, ↓ev_lconst, ↓ev_ldc, ↓ev_ldc_w, ↓ev_ldc2_w, ↓ev_aconst_null, ↓ev_iload, ↓ev_iload_n, ↓ev_lload, ↓ev_lload_n, ↓ev_aload, ↓ev_aload_n, ↓ev_istore, ↓ev_istore_n, ↓ev_lstore, ↓ev_lstore_n, ↓ev_astore, ↓ev_astore_n, ↓ev_iinc, ↓ev_iadd, ↓ev_isub, ↓ev_imul, ↓ev_iand, ↓ev_ixor, ↓ev_idiv, ↓ev_irem, ↓ev_ineg, ↓ev_i2l, ↓ev_i2b, ↓ev_l2i, ↓ev_ladd, ↓ev_lsub, ↓ev_lmul, ↓ev_land, ↓ev_lor, ↓ev_ldiv, ↓ev_lrem, ↓ev_lushr, ↓ev_lshl, ↓ev_lcmp, ↓ev_dup, ↓ev_pop, ↓ev_dup2, ↓ev_if_icmp, ↓ev_ifCond, ↓ev_goto, ↓ev_ifnull, ↓ev_ifnonnull, ↓ev_tableswitch, ↓ev_lookupswitch, ↓ev_getfield, ↓ev_putfield, ↓ev_getstatic, ↓ev_iaload, ↓ev_baload, ↓ev_laload, ↓ev_aaload, ↓ev_iastore, ↓ev_bastore, ↓ev_lastore, ↓ev_aastore, ↓ev_arraylength, ↓ev_new, ↓ev_newarray, ↓ev_anewarray, ↓ev_invokevirtual, ↓ev_invokestatic, ↓ev_invokespecial, ↓ev_ireturn, ↓ev_lreturn, ↓ev_areturn, ↓ev_ret, ↓ev_0, ↓ev_nil, ↓ev_cons, ↓ev_jp, ↓ev_pI, ↓ev_pII, ↓ev_pL, ↓ev_pLL, ↓ev_pIL, ↓ev_pR, ↓ev_pIR, ↓ev_pIIR, ↓ev_pLIR, ↓ev_pRIR, ↓ev_pop0, ↓ev_popS, ↓iv_eq, ↓iv_ne, ↓iv_lt, ↓iv_ge, ↓iv_gt, ↓iv_le, ↓ev_ldi0, ↓ev_ldiS, ↓ev_ldl0, ↓ev_ldlS, ↓ev_lda0, ↓ev_ldaN, ↓ev_ldaS, ↓ev_staR, ↓ev_staN, ↓ev_pfI, ↓ev_pfZ, ↓ev_pfL, ↓ev_pfR, ↓ev_kc, ↓ev_kcN, ↓inv, bk, sL, gf, tyI, tyIs, tyB, tyQ, tyN, nbk, ekd, elOk, isO, swl, vNat, vI, k1, st1, st2, ent, rtQ, va_rf, List.replicate, List.mem_cons, List.not_mem_nil, or_false, false_or, or_true, true_or, or_self, ↓reduceIte, Nat.reduceAdd, Nat.reduceEqDiff, true_and, and_true, reduceCtorEq, forall_const, false_implies, implies_true, true_implies, not_true_eq_false, not_false_eq_true, e00, e10, e01, e11, lg_eq0, lg_lt0, lg_le0, lg_gt0, lg_ge0, ite_u, Nat.reduceLeDiff, u2_ap, qe1, qe2, ↓reduceIte, Nat.reduceEqDiff, Nat.reduceAdd, Nat.reduceMul, z_cl, z_in, an0, an1, qn1, qn2, Int.cast_ofNat_Int, Int.reduceAdd, Int.reduceToNat, Int.reduceLT, Int.reduceLE, Int.reduceEq, Int.reduceSub, Int.zero_le_ofNat, Int.zero_add, List.length_cons, List.length_nil, Nat.zero_add, Op.lookupswitch.offset, nI_add, pk_mul, dc_lt, dc_nlt, dc_le, dc_nle, dc_eq, dc_neq, dc_0, dc_n0, eq_self, S.t0, S.t2, S.t3, S.t4, S.t5, S.t6, S.t7, S.t8, S.t9, S.t10, S.t11, S.t12, S.t13, S.t14, S.t15, S.t16, S.t17, S.t18, S.t19, S.t20, S.t21, S.t22, S.t23, S.r2_0, S.r2_1, S.r2_2, S.r2_4, S.r2_6, S.r2_7, S.r2_8, S.r3_0, S.r3_2, S.r6_0, S.r10_0, S.r10_1, S.r10_2, S.r10_3, S.r16_1, S.r16_2, S.r16_4, S.r16_6, S.r16_7, S.r21_0, S.r21_1, j0, j1, O.1]
  try simp (disch := omega) only [z_rm, Nat.add_sub_cancel, Nat.add_one_sub_one, Nat.reduceEqDiff, pk_mul, nI_add, nI_1, pk_sub, pk_div, pk_rem, nI_ltI, nI_leI, nI_eq, z_cl, z_in, z_lt0, z_0le, z_eq0, z_le0, z_0lt, z_m1, z_i2l, z_l2i, z_ult, pk_lLT, pk_lLE, pk_lEQ, lN_add, lN_mul, lN_sub, true_and, and_true, forall_const, false_implies, implies_true, true_implies, not_true_eq_false, not_false_eq_true, Nat.not_lt, Nat.not_le]
  refine c_stationAt O (by rw [u2_row (by omega)]; exact c1) h7 (fun i hi e => ?_) (fun no => absurd rfl (no 0 (by omega)))
  obtain rfl : 0 = i := nI_inj (by omega) (by omega) e
  clear e
  rw [show u2 I2 o 1 (nI 0) (o + 1 + 1) 0 = nI a from by rw [u2_row (by omega)]; exact c2 0 (by omega)]
  have i160 : u2 I2 o 1 (nI 0) 16 0 = nI N.ns := by rw [u2_row (by omega), c16 0 (by decide), f16 0 (by decide)]; exact a0
  try simp (disch := omega) only [↓ev_iconst, ↓ev_bipush, ↓ev_sipush, ↓ev_lconst, ↓ev_ldc, ↓ev_ldc_w, ↓ev_ldc2_w, ↓ev_aconst_null, ↓ev_iload, ↓ev_iload_n, ↓ev_lload, ↓ev_lload_n, ↓ev_aload, ↓ev_aload_n, ↓ev_istore, ↓ev_istore_n, ↓ev_lstore, ↓ev_lstore_n, ↓ev_astore, ↓ev_astore_n, ↓ev_iinc, ↓ev_iadd, ↓ev_isub, ↓ev_imul, ↓ev_iand, ↓ev_ixor, ↓ev_idiv, ↓ev_irem, ↓ev_ineg, ↓ev_i2l, ↓ev_i2b, ↓ev_l2i, ↓ev_ladd, ↓ev_lsub, ↓ev_lmul, ↓ev_land, ↓ev_lor, ↓ev_ldiv, ↓ev_lrem, ↓ev_lushr, ↓ev_lshl, ↓ev_lcmp, ↓ev_dup, ↓ev_pop, ↓ev_dup2, ↓ev_if_icmp, ↓ev_ifCond, ↓ev_goto, ↓ev_ifnull, ↓ev_ifnonnull, ↓ev_tableswitch, ↓ev_lookupswitch, ↓ev_getfield, ↓ev_putfield, ↓ev_getstatic, ↓ev_iaload, ↓ev_baload, ↓ev_laload, ↓ev_aaload, ↓ev_iastore, ↓ev_bastore, ↓ev_lastore, ↓ev_aastore, ↓ev_arraylength, ↓ev_new, ↓ev_newarray, ↓ev_anewarray, ↓ev_invokevirtual, ↓ev_invokestatic, ↓ev_invokespecial, ↓ev_ireturn, ↓ev_lreturn, ↓ev_areturn, ↓ev_ret, ↓ev_0, ↓ev_nil, ↓ev_cons, ↓ev_jp, ↓ev_pI, ↓ev_pII, ↓ev_pL, ↓ev_pLL, ↓ev_pIL, ↓ev_pR, ↓ev_pIR, ↓ev_pIIR, ↓ev_pLIR, ↓ev_pRIR, ↓ev_pop0, ↓ev_popS, ↓iv_eq, ↓iv_ne, ↓iv_lt, ↓iv_ge, ↓iv_gt, ↓iv_le, ↓ev_ldi0, ↓ev_ldiS, ↓ev_ldl0, ↓ev_ldlS, ↓ev_lda0, ↓ev_ldaN, ↓ev_ldaS, ↓ev_staR, ↓ev_staN, ↓ev_pfI, ↓ev_pfZ, ↓ev_pfL, ↓ev_pfR, ↓ev_kc, ↓ev_kcN, ↓inv, bk, sL, gf, tyI, tyIs, tyB, tyQ, tyN, nbk, ekd, elOk, isO, swl, vNat, vI, k1, st1, st2, ent, rtQ, va_rf, List.replicate, List.mem_cons, List.not_mem_nil, or_false, false_or, or_true, true_or, or_self, ↓reduceIte, Nat.reduceAdd, Nat.reduceEqDiff, true_and, and_true, reduceCtorEq, forall_const, false_implies, implies_true, true_implies, not_true_eq_false, not_false_eq_true, e00, e10, e01, e11, lg_eq0, lg_lt0, lg_le0, lg_gt0, lg_ge0, ite_u, Nat.reduceLeDiff, u2_ap, qe1, qe2, ↓reduceIte, Nat.reduceEqDiff, Nat.reduceAdd, Nat.reduceMul, z_cl, z_in, an0, an1, qn1, qn2, Int.cast_ofNat_Int, Int.reduceAdd, Int.reduceToNat, Int.reduceLT, Int.reduceLE, Int.reduceEq, Int.reduceSub, Int.zero_le_ofNat, Int.zero_add, List.length_cons, List.length_nil, Nat.zero_add, Op.lookupswitch.offset, nI_add, pk_mul, dc_lt, dc_nlt, dc_le, dc_nle, dc_eq, dc_neq, dc_0, dc_n0, eq_self, S.t0, S.t2, S.t3, S.t4, S.t5, S.t6, S.t7, S.t8, S.t9, S.t10, S.t11, S.t12, S.t13, S.t14, S.t15, S.t16, S.t17, S.t18, S.t19, S.t20, S.t21, S.t22, S.t23, S.r2_0, S.r2_1, S.r2_2, S.r2_4, S.r2_6, S.r2_7, S.r2_8, S.r3_0, S.r3_2, S.r6_0, S.r10_0, S.r10_1, S.r10_2, S.r10_3, S.r16_1, S.r16_2, S.r16_4, S.r16_6, S.r16_7, S.r21_0, S.r21_1]
  try simp (disch := omega) only [z_rm, Nat.add_sub_cancel, Nat.add_one_sub_one, Nat.reduceEqDiff, pk_mul, nI_add, nI_1, pk_sub, pk_div, pk_rem, nI_ltI, nI_leI, nI_eq, z_cl, z_in, z_lt0, z_0le, z_eq0, z_le0, z_0lt, z_m1, z_i2l, z_l2i, z_ult, pk_lLT, pk_lLE, pk_lEQ, lN_add, lN_mul, lN_sub, true_and, and_true, forall_const, false_implies, implies_true, true_implies, not_true_eq_false, not_false_eq_true, Nat.not_lt, Nat.not_le]
  refine c_note (k := 0) S i160 v.1 ha (by decide) ?_
  generalize hI3 : u2 (u2 I2 o 1 (nI 0)) 17 (a * 4 + 0) (u2 I2 o 1 (nI 0) 17 (a * 4 + 0) + nI 1) = I3
  have d9 : I3 o 9 = sc := by rw [← hI3, u2_row (by omega), u2_ne (by omega), co 9 (by decide)]; exact o9
  have d160 : I3 16 0 = nI N.ns := by rw [← hI3, u2_row (by omega)]; exact i160
  try simp (disch := omega) only [↓ev_iconst, ↓ev_bipush, ↓ev_sipush, ↓ev_lconst, ↓ev_ldc, ↓ev_ldc_w, ↓ev_ldc2_w, ↓ev_aconst_null, ↓ev_iload, ↓ev_iload_n, ↓ev_lload, ↓ev_lload_n, ↓ev_aload, ↓ev_aload_n, ↓ev_istore, ↓ev_istore_n, ↓ev_lstore, ↓ev_lstore_n, ↓ev_astore, ↓ev_astore_n, ↓ev_iinc, ↓ev_iadd, ↓ev_isub, ↓ev_imul, ↓ev_iand, ↓ev_ixor, ↓ev_idiv, ↓ev_irem, ↓ev_ineg, ↓ev_i2l, ↓ev_i2b, ↓ev_l2i, ↓ev_ladd, ↓ev_lsub, ↓ev_lmul, ↓ev_land, ↓ev_lor, ↓ev_ldiv, ↓ev_lrem, ↓ev_lushr, ↓ev_lshl, ↓ev_lcmp, ↓ev_dup, ↓ev_pop, ↓ev_dup2, ↓ev_if_icmp, ↓ev_ifCond, ↓ev_goto, ↓ev_ifnull, ↓ev_ifnonnull, ↓ev_tableswitch, ↓ev_lookupswitch, ↓ev_getfield, ↓ev_putfield, ↓ev_getstatic, ↓ev_iaload, ↓ev_baload, ↓ev_laload, ↓ev_aaload, ↓ev_iastore, ↓ev_bastore, ↓ev_lastore, ↓ev_aastore, ↓ev_arraylength, ↓ev_new, ↓ev_newarray, ↓ev_anewarray, ↓ev_invokevirtual, ↓ev_invokestatic, ↓ev_invokespecial, ↓ev_ireturn, ↓ev_lreturn, ↓ev_areturn, ↓ev_ret, ↓ev_0, ↓ev_nil, ↓ev_cons, ↓ev_jp, ↓ev_pI, ↓ev_pII, ↓ev_pL, ↓ev_pLL, ↓ev_pIL, ↓ev_pR, ↓ev_pIR, ↓ev_pIIR, ↓ev_pLIR, ↓ev_pRIR, ↓ev_pop0, ↓ev_popS, ↓iv_eq, ↓iv_ne, ↓iv_lt, ↓iv_ge, ↓iv_gt, ↓iv_le, ↓ev_ldi0, ↓ev_ldiS, ↓ev_ldl0, ↓ev_ldlS, ↓ev_lda0, ↓ev_ldaN, ↓ev_ldaS, ↓ev_staR, ↓ev_staN, ↓ev_pfI, ↓ev_pfZ, ↓ev_pfL, ↓ev_pfR, ↓ev_kc, ↓ev_kcN, ↓inv, bk, sL, gf, tyI, tyIs, tyB, tyQ, tyN, nbk, ekd, elOk, isO, swl, vNat, vI, k1, st1, st2, ent, rtQ, va_rf, List.replicate, List.mem_cons, List.not_mem_nil, or_false, false_or, or_true, true_or, or_self, ↓reduceIte, Nat.reduceAdd, Nat.reduceEqDiff, true_and, and_true, reduceCtorEq, forall_const, false_implies, implies_true, true_implies, not_true_eq_false, not_false_eq_true, e00, e10, e01, e11, lg_eq0, lg_lt0, lg_le0, lg_gt0, lg_ge0, ite_u, Nat.reduceLeDiff, u2_ap, qe1, qe2, ↓reduceIte, Nat.reduceEqDiff, Nat.reduceAdd, Nat.reduceMul, z_cl, z_in, an0, an1, qn1, qn2, Int.cast_ofNat_Int, Int.reduceAdd, Int.reduceToNat, Int.reduceLT, Int.reduceLE, Int.reduceEq, Int.reduceSub, Int.zero_le_ofNat, Int.zero_add, List.length_cons, List.length_nil, Nat.zero_add, Op.lookupswitch.offset, nI_add, pk_mul, dc_lt, dc_nlt, dc_le, dc_nle, dc_eq, dc_neq, dc_0, dc_n0, eq_self, S.t0, S.t2, S.t3, S.t4, S.t5, S.t6, S.t7, S.t8, S.t9, S.t10, S.t11, S.t12, S.t13, S.t14, S.t15, S.t16, S.t17, S.t18, S.t19, S.t20, S.t21, S.t22, S.t23, S.r2_0, S.r2_1, S.r2_2, S.r2_4, S.r2_6, S.r2_7, S.r2_8, S.r3_0, S.r3_2, S.r6_0, S.r10_0, S.r10_1, S.r10_2, S.r10_3, S.r16_1, S.r16_2, S.r16_4, S.r16_6, S.r16_7, S.r21_0, S.r21_1, j0, d9]
  try simp (disch := omega) only [z_rm, Nat.add_sub_cancel, Nat.add_one_sub_one, Nat.reduceEqDiff, pk_mul, nI_add, nI_1, pk_sub, pk_div, pk_rem, nI_ltI, nI_leI, nI_eq, z_cl, z_in, z_lt0, z_0le, z_eq0, z_le0, z_0lt, z_m1, z_i2l, z_l2i, z_ult, pk_lLT, pk_lLE, pk_lEQ, lN_add, lN_mul, lN_sub, true_and, and_true, forall_const, false_implies, implies_true, true_implies, not_true_eq_false, not_false_eq_true, Nat.not_lt, Nat.not_le]
  refine c_note (k := 2) S d160 v.1 ha (by decide) ?_
  generalize hI4 : u2 I3 17 (a * 4 + 2) (I3 17 (a * 4 + 2) + sc) = I4
  have fr4 : ∀ y, y ≠ 17 → y ≠ o → I4 y = I2 y := fun y y1 y2 => by rw [← hI4, u2_row y1, ← hI3, u2_row y1, u2_row y2]
  have fo4 : ∀ k, k ≠ 1 → I4 o k = I2 o k := fun k hk => by rw [← hI4, u2_row (by omega), ← hI3, u2_row (by omega), u2_ne (by omega)]
  have fo41 : I4 o 1 = nI 0 := by rw [← hI4, u2_row (by omega), ← hI3, u2_row (by omega), u2_at]
  have lg4 : ∀ s k, s < 8 → k < 4 → I4 17 (s * 4 + k) = lgU (lgU N.lg a 0 (nI 1)) a 2 sc s k := fun s k hs hk => by
    have base : ∀ s k, s < 8 → k < 4 → I2 17 (s * 4 + k) = N.lg s k := fun s k hs hk => by
      rw [B5 17 (by omega) (by omega) (by omega), fr0 17 (by omega) (by omega) (by omega)]
      exact a1 s k hs hk
    have s3 : ∀ s k, s < 8 → k < 4 → I3 17 (s * 4 + k) = lgU N.lg a 0 (nI 1) s k := fun s k hs hk => by
      unfold lgU
      by_cases q : s = a ∧ k = 0
      · obtain ⟨rfl, rfl⟩ := q
        rw [← hI3, u2_at, if_pos ⟨rfl, rfl⟩, u2_row (by omega), base s 0 hs hk]
      · rw [← hI3, u2_ne (by omega), if_neg q, u2_row (by omega)]
        exact base s k hs hk
    show _ = (if s = a ∧ k = 2 then lgU N.lg a 0 (nI 1) a 2 + sc else lgU N.lg a 0 (nI 1) s k)
    by_cases q : s = a ∧ k = 2
    · obtain ⟨rfl, rfl⟩ := q
      rw [← hI4, u2_at, if_pos ⟨rfl, rfl⟩, s3 s 2 hs hk]
    · rw [← hI4, u2_ne (by omega), if_neg q]
      exact s3 s k hs hk
  try simp (disch := omega) only [↓ev_iconst, ↓ev_bipush, ↓ev_sipush, ↓ev_lconst, ↓ev_ldc, ↓ev_ldc_w, ↓ev_ldc2_w, ↓ev_aconst_null, ↓ev_iload, ↓ev_iload_n, ↓ev_lload, ↓ev_lload_n, ↓ev_aload, ↓ev_aload_n, ↓ev_istore, ↓ev_istore_n, ↓ev_lstore, ↓ev_lstore_n, ↓ev_astore, ↓ev_astore_n, ↓ev_iinc, ↓ev_iadd, ↓ev_isub, ↓ev_imul, ↓ev_iand, ↓ev_ixor, ↓ev_idiv, ↓ev_irem, ↓ev_ineg, ↓ev_i2l, ↓ev_i2b, ↓ev_l2i, ↓ev_ladd, ↓ev_lsub, ↓ev_lmul, ↓ev_land, ↓ev_lor, ↓ev_ldiv, ↓ev_lrem, ↓ev_lushr, ↓ev_lshl, ↓ev_lcmp, ↓ev_dup, ↓ev_pop, ↓ev_dup2, ↓ev_if_icmp, ↓ev_ifCond, ↓ev_goto, ↓ev_ifnull, ↓ev_ifnonnull, ↓ev_tableswitch, ↓ev_lookupswitch, ↓ev_getfield, ↓ev_putfield, ↓ev_getstatic, ↓ev_iaload, ↓ev_baload, ↓ev_laload, ↓ev_aaload, ↓ev_iastore, ↓ev_bastore, ↓ev_lastore, ↓ev_aastore, ↓ev_arraylength, ↓ev_new, ↓ev_newarray, ↓ev_anewarray, ↓ev_invokevirtual, ↓ev_invokestatic, ↓ev_invokespecial, ↓ev_ireturn, ↓ev_lreturn, ↓ev_areturn, ↓ev_ret, ↓ev_0, ↓ev_nil, ↓ev_cons, ↓ev_jp, ↓ev_pI, ↓ev_pII, ↓ev_pL, ↓ev_pLL, ↓ev_pIL, ↓ev_pR, ↓ev_pIR, ↓ev_pIIR, ↓ev_pLIR, ↓ev_pRIR, ↓ev_pop0, ↓ev_popS, ↓iv_eq, ↓iv_ne, ↓iv_lt, ↓iv_ge, ↓iv_gt, ↓iv_le, ↓ev_ldi0, ↓ev_ldiS, ↓ev_ldl0, ↓ev_ldlS, ↓ev_lda0, ↓ev_ldaN, ↓ev_ldaS, ↓ev_staR, ↓ev_staN, ↓ev_pfI, ↓ev_pfZ, ↓ev_pfL, ↓ev_pfR, ↓ev_kc, ↓ev_kcN, ↓inv, bk, sL, gf, tyI, tyIs, tyB, tyQ, tyN, nbk, ekd, elOk, isO, swl, vNat, vI, k1, st1, st2, ent, rtQ, va_rf, List.replicate, List.mem_cons, List.not_mem_nil, or_false, false_or, or_true, true_or, or_self, ↓reduceIte, Nat.reduceAdd, Nat.reduceEqDiff, true_and, and_true, reduceCtorEq, forall_const, false_implies, implies_true, true_implies, not_true_eq_false, not_false_eq_true, e00, e10, e01, e11, lg_eq0, lg_lt0, lg_le0, lg_gt0, lg_ge0, ite_u, Nat.reduceLeDiff, u2_ap, qe1, qe2, ↓reduceIte, Nat.reduceEqDiff, Nat.reduceAdd, Nat.reduceMul, z_cl, z_in, an0, an1, qn1, qn2, Int.cast_ofNat_Int, Int.reduceAdd, Int.reduceToNat, Int.reduceLT, Int.reduceLE, Int.reduceEq, Int.reduceSub, Int.zero_le_ofNat, Int.zero_add, List.length_cons, List.length_nil, Nat.zero_add, Op.lookupswitch.offset, nI_add, pk_mul, dc_lt, dc_nlt, dc_le, dc_nle, dc_eq, dc_neq, dc_0, dc_n0, eq_self, S.t0, S.t2, S.t3, S.t4, S.t5, S.t6, S.t7, S.t8, S.t9, S.t10, S.t11, S.t12, S.t13, S.t14, S.t15, S.t16, S.t17, S.t18, S.t19, S.t20, S.t21, S.t22, S.t23, S.r2_0, S.r2_1, S.r2_2, S.r2_4, S.r2_6, S.r2_7, S.r2_8, S.r3_0, S.r3_2, S.r6_0, S.r10_0, S.r10_1, S.r10_2, S.r10_3, S.r16_1, S.r16_2, S.r16_4, S.r16_6, S.r16_7, S.r21_0, S.r21_1, j0]
  try simp (disch := omega) only [z_rm, Nat.add_sub_cancel, Nat.add_one_sub_one, Nat.reduceEqDiff, pk_mul, nI_add, nI_1, pk_sub, pk_div, pk_rem, nI_ltI, nI_leI, nI_eq, z_cl, z_in, z_lt0, z_0le, z_eq0, z_le0, z_0lt, z_m1, z_i2l, z_l2i, z_ult, pk_lLT, pk_lLE, pk_lEQ, lN_add, lN_mul, lN_sub, true_and, and_true, forall_const, false_implies, implies_true, true_implies, not_true_eq_false, not_false_eq_true, Nat.not_lt, Nat.not_le]
  have Ln : CLn T I4 R (rtL N g a 0) N := (a3 _ r4).2.fr (fun _ _ => rfl) (fun j hj => by rw [fr4 _ (by omega) (by omega), B5 _ (by omega) (by omega) (by omega), fr0 _ (by omega) (by omega) (by omega)]) rfl
  refine c_beginWait (N := N) (l0 := rtL N g a 0) (s0 := a) (st := 0) (pm := csN N g a % 16) S j0 j1 O (by omega) fo41 (by rw [fr4 _ (by omega) (by omega)]; exact c1) h7 h1 (by rw [fr4 _ (by omega) (by omega)]; exact c2 0 (by omega)) (by rw [fr4 _ (by omega) (by omega)]; exact c3 0 h1) (by rw [fr4 16 (by omega) (by omega), c16 3 (by decide), f16 3 (by decide)]; exact a2) v.2.1 r4 (a3 _ r4).1 Ln lv v.1 (by
    rcases r5 with ⟨e, _⟩ | ⟨e, _⟩
    · exact Or.inl e.symm
    · exact Or.inr e.symm) v.2.2.1 ?_
  try simp (disch := omega) only [↓ev_iconst, ↓ev_bipush, ↓ev_sipush, ↓ev_lconst, ↓ev_ldc, ↓ev_ldc_w, ↓ev_ldc2_w, ↓ev_aconst_null, ↓ev_iload, ↓ev_iload_n, ↓ev_lload, ↓ev_lload_n, ↓ev_aload, ↓ev_aload_n, ↓ev_istore, ↓ev_istore_n, ↓ev_lstore, ↓ev_lstore_n, ↓ev_astore, ↓ev_astore_n, ↓ev_iinc, ↓ev_iadd, ↓ev_isub, ↓ev_imul, ↓ev_iand, ↓ev_ixor, ↓ev_idiv, ↓ev_irem, ↓ev_ineg, ↓ev_i2l, ↓ev_i2b, ↓ev_l2i, ↓ev_ladd, ↓ev_lsub, ↓ev_lmul, ↓ev_land, ↓ev_lor, ↓ev_ldiv, ↓ev_lrem, ↓ev_lushr, ↓ev_lshl, ↓ev_lcmp, ↓ev_dup, ↓ev_pop, ↓ev_dup2, ↓ev_if_icmp, ↓ev_ifCond, ↓ev_goto, ↓ev_ifnull, ↓ev_ifnonnull, ↓ev_tableswitch, ↓ev_lookupswitch, ↓ev_getfield, ↓ev_putfield, ↓ev_getstatic, ↓ev_iaload, ↓ev_baload, ↓ev_laload, ↓ev_aaload, ↓ev_iastore, ↓ev_bastore, ↓ev_lastore, ↓ev_aastore, ↓ev_arraylength, ↓ev_new, ↓ev_newarray, ↓ev_anewarray, ↓ev_invokevirtual, ↓ev_invokestatic, ↓ev_invokespecial, ↓ev_ireturn, ↓ev_lreturn, ↓ev_areturn, ↓ev_ret, ↓ev_0, ↓ev_nil, ↓ev_cons, ↓ev_jp, ↓ev_pI, ↓ev_pII, ↓ev_pL, ↓ev_pLL, ↓ev_pIL, ↓ev_pR, ↓ev_pIR, ↓ev_pIIR, ↓ev_pLIR, ↓ev_pRIR, ↓ev_pop0, ↓ev_popS, ↓iv_eq, ↓iv_ne, ↓iv_lt, ↓iv_ge, ↓iv_gt, ↓iv_le, ↓ev_ldi0, ↓ev_ldiS, ↓ev_ldl0, ↓ev_ldlS, ↓ev_lda0, ↓ev_ldaN, ↓ev_ldaS, ↓ev_staR, ↓ev_staN, ↓ev_pfI, ↓ev_pfZ, ↓ev_pfL, ↓ev_pfR, ↓ev_kc, ↓ev_kcN, ↓inv, bk, sL, gf, tyI, tyIs, tyB, tyQ, tyN, nbk, ekd, elOk, isO, swl, vNat, vI, k1, st1, st2, ent, rtQ, va_rf, List.replicate, List.mem_cons, List.not_mem_nil, or_false, false_or, or_true, true_or, or_self, ↓reduceIte, Nat.reduceAdd, Nat.reduceEqDiff, true_and, and_true, reduceCtorEq, forall_const, false_implies, implies_true, true_implies, not_true_eq_false, not_false_eq_true, e00, e10, e01, e11, lg_eq0, lg_lt0, lg_le0, lg_gt0, lg_ge0, ite_u, Nat.reduceLeDiff, u2_ap, qe1, qe2, ↓reduceIte, Nat.reduceEqDiff, Nat.reduceAdd, Nat.reduceMul, z_cl, z_in, an0, an1, qn1, qn2, Int.cast_ofNat_Int, Int.reduceAdd, Int.reduceToNat, Int.reduceLT, Int.reduceLE, Int.reduceEq, Int.reduceSub, Int.zero_le_ofNat, Int.zero_add, List.length_cons, List.length_nil, Nat.zero_add, Op.lookupswitch.offset, nI_add, pk_mul, dc_lt, dc_nlt, dc_le, dc_nle, dc_eq, dc_neq, dc_0, dc_n0, eq_self, S.t0, S.t2, S.t3, S.t4, S.t5, S.t6, S.t7, S.t8, S.t9, S.t10, S.t11, S.t12, S.t13, S.t14, S.t15, S.t16, S.t17, S.t18, S.t19, S.t20, S.t21, S.t22, S.t23, S.r2_0, S.r2_1, S.r2_2, S.r2_4, S.r2_6, S.r2_7, S.r2_8, S.r3_0, S.r3_2, S.r6_0, S.r10_0, S.r10_1, S.r10_2, S.r10_3, S.r16_1, S.r16_2, S.r16_4, S.r16_6, S.r16_7, S.r21_0, S.r21_1]
  try simp (disch := omega) only [z_rm, Nat.add_sub_cancel, Nat.add_one_sub_one, Nat.reduceEqDiff, pk_mul, nI_add, nI_1, pk_sub, pk_div, pk_rem, nI_ltI, nI_leI, nI_eq, z_cl, z_in, z_lt0, z_0le, z_eq0, z_le0, z_0lt, z_m1, z_i2l, z_l2i, z_ult, pk_lLT, pk_lLE, pk_lEQ, lN_add, lN_mul, lN_sub, true_and, and_true, forall_const, false_implies, implies_true, true_implies, not_true_eq_false, not_false_eq_true, Nat.not_lt, Nat.not_le]
  have wl : (if a = (N.L (rtL N g a 0)).a then 0 else 1) < 2 := by split <;> omega
  have rl : rtL N g a 0 < 12 := by have := v.2.1; omega
  generalize hw0 : (if a = (N.L (rtL N g a 0)).a then 0 else 1) = w0 at *
  have F : ∀ y, y ≠ 16 → y ≠ 17 → y ≠ o → y ≠ 200 + 4 * rtL N g a 0 + 1 → (y < o + 1 ∨ o + 3 < y) → (y < 20 ∨ 23 < y) → u2 (u2 (u2 I4 o 2 (nI 1)) o 3 (nI a)) (200 + 4 * rtL N g a 0 + 1) w0 (nI (wcn N (rtL N g a 0) a N.jn + 1)) y = I0 y := fun y y1 y2 y3 y4 y5 y6 => by
    rw [u2_row y4, u2_row y3, u2_row y3, fr4 y y2 y3, B5 y y1 y3 (by omega), fr0 y (by omega) y1 y6]
  refine h _ (Cn.out hm hw2 hw1 ha ne hf hp (fun k hk => ?_) ?_ ?_ (fun s k hs hk => ?_) (fun l j hl hj hj1 => ?_) (fun l w hl hw hlw => ?_) ?_ (fun k j hk hkm hj => ?_) ?_) (fun y hy => ?_) (fun k j hk hj => ?_)
  · rw [u2_row (by omega), u2_row (by omega), u2_row (by omega), fr4 16 (by omega) (by omega), c16 k (by omega), f16 k (by omega)]
  · rw [u2_row (by omega), u2_row (by omega), u2_row (by omega), fr4 16 (by omega) (by omega), c16 9 (by omega)]
    exact s9
  · rw [u2_row (by omega), u2_row (by omega), u2_row (by omega), fr4 16 (by omega) (by omega)]
    exact c1610
  · rw [u2_row (by omega), u2_row (by omega), u2_row (by omega)]
    exact lg4 s k hs hk
  · exact F _ (by omega) (by omega) (by omega) (by omega) (by omega) (by omega)
  · rw [hw0] at hlw
    rw [u2_ne (by omega), u2_row (by omega), u2_row (by omega), fr4 _ (by omega) (by omega), B5 _ (by omega) (by omega) (by omega), fr0 _ (by omega) (by omega) (by omega)]
  · rw [hw0]
    exact u2_at _ _ _ _
  · exact F _ (by omega) (by omega) (by omega) (by omega) (by omega) (by omega)
  · rw [ho]
    refine ⟨j0, j1, j2, j3, j4, j5, j6, ?_, ?_, ?_, ?_, ?_, fun _ => ⟨?_, ?_, ?_, ?_, ?_, fun i hi => ?_, fun i hi => ?_⟩⟩
    · rw [u2_row (by omega), u2_ne (by omega), u2_at]
      rfl
    · rw [u2_row (by omega), u2_at]
      rfl
    · rw [u2_row (by omega), u2_ne (by omega), u2_ne (by omega), fo4 4 (by decide), co 4 (by decide), fo 4 (by decide) (by decide)]
      exact j9
    · rw [u2_row (by omega), u2_ne (by omega), u2_ne (by omega), fo4 5 (by decide), co 5 (by decide), fo 5 (by decide) (by decide)]
      exact j10
    · rw [u2_row (by omega), u2_ne (by omega), u2_ne (by omega), fo4 6 (by decide), co 6 (by decide), fo 6 (by decide) (by decide)]
      exact j11
    · rw [u2_row (by omega), u2_ne (by omega), u2_ne (by omega)]
      exact fo41
    · rw [u2_row (by omega), u2_ne (by omega), u2_ne (by omega), fo4 7 (by decide), co 7 (by decide)]
      exact o7
    · rw [u2_row (by omega), u2_ne (by omega), u2_ne (by omega), fo4 8 (by decide)]
      exact co8
    · rw [u2_row (by omega), u2_ne (by omega), u2_ne (by omega), fo4 9 (by decide), co 9 (by decide)]
      exact o9
    · rw [u2_row (by omega), u2_row (by omega), u2_row (by omega), fr4 _ (by omega) (by omega)]
      exact c1
    · rw [u2_row (by omega), u2_row (by omega), u2_row (by omega), fr4 _ (by omega) (by omega)]
      exact c2 i hi
    · rw [u2_row (by omega), u2_row (by omega), u2_row (by omega), fr4 _ (by omega) (by omega)]
      exact c3 i hi
  · exact F y (by omega) (by omega) (by omega) (by omega) (by omega) (by omega)
  · exact F _ (by omega) (by omega) (by omega) (by omega) (by omega) (by omega)
end OUT2
