/-! CALLS: message -/
abbrev NtS.sJ (N : NtS) (jn : Nat) (jy : Nat → JnS) : NtS := (N.ns, N.lg, N.nl, N.L, N.rn, N.en, N.ck, jn, jy, N.sn, N.tu)
theorem wcn_cg {N N' : NtS} {l st : Nat} : ∀ {n : Nat}, (∀ m, m < n → N'.jy m = N.jy m) → wcn N' l st n = wcn N l st n
  | 0, _ => rfl
  | n + 1, h => by
    have e : wt1 N' l st n = wt1 N l st n := by
      unfold wt1
      rw [h n (by omega)]
    show wcn N' l st n + (wt1 N' l st n).toNat = wcn N l st n + (wt1 N l st n).toNat
    rw [e, wcn_cg (fun m hm => h m (by omega))]
section MESSAGE
variable {G : GGy} {T : TTy} {I : MIy} {J : MJy} {R : MRy} {Q : QQy} {s : AlS}
set_option maxRecDepth 100000 in
theorem c_addJourney {jn : Nat} (S : SH T R) (h5 : I 16 5 = nI jn) (hj : jn < 30) (hf : ∀ j, j < 4 → T (1010 + 16 * jn + j) = none)
    (h : ∀ T' I' J' R', (∀ y, y < 1010 + 16 * jn ∨ 1010 + 16 * jn + 3 < y → T' y = T y ∧ J' y = J y ∧ (y ≠ 16 → I' y = I y) ∧ (y ≠ 19 → R' y = R y)) → (∀ y, T y ≠ none → T' y = T y) → I' 16 5 = nI (jn + 1) → (∀ k, k ≠ 5 → I' 16 k = I 16 k) → R' 19 jn = some (1010 + 16 * jn) → (∀ m, m ≠ jn → R' 19 m = R 19 m) → CJn T' I' R' (1010 + 16 * jn) jsN0 → Q none T' I' J' R') : Run G 64 [.ref 16] T I J R Q := by
  have f0 := hf 0 (by decide)
  have f1 := hf 1 (by decide)
  have f2 := hf 2 (by decide)
  have f3 := hf 3 (by decide)
  refine Run.body (by decide) 0 (Nat.le_of_ble_eq_true rfl) (AT.go okB64 4 rfl [] 90 0 ?_)
  simp (disch := omega) only [B64, ↓ev_iconst, ↓ev_bipush, ↓ev_sipush, ↓ev_lconst, ↓ev_ldc, ↓ev_ldc_w, ↓ev_ldc2_w, ↓ev_aconst_null, ↓ev_iload, ↓ev_iload_n, ↓ev_lload, ↓ev_lload_n, ↓ev_aload, ↓ev_aload_n, ↓ev_istore, ↓ev_istore_n, ↓ev_lstore, ↓ev_lstore_n, ↓ev_astore, ↓ev_astore_n, ↓ev_iinc, ↓ev_iadd, ↓ev_isub, ↓ev_imul, ↓ev_iand, ↓ev_ixor, ↓ev_idiv, ↓ev_irem, ↓ev_ineg, ↓ev_i2l, ↓ev_i2b, ↓ev_l2i, ↓ev_ladd, ↓ev_lsub, ↓ev_lmul, ↓ev_land, ↓ev_lor, ↓ev_ldiv, ↓ev_lrem, ↓ev_lushr, ↓ev_lshl, ↓ev_lcmp, ↓ev_dup, ↓ev_pop, ↓ev_dup2, ↓ev_if_icmp, ↓ev_ifCond, ↓ev_goto, ↓ev_ifnull, ↓ev_ifnonnull, ↓ev_tableswitch, ↓ev_lookupswitch, ↓ev_getfield, ↓ev_putfield, ↓ev_getstatic, ↓ev_iaload, ↓ev_baload, ↓ev_laload, ↓ev_aaload, ↓ev_iastore, ↓ev_bastore, ↓ev_lastore, ↓ev_aastore, ↓ev_arraylength, ↓ev_new, ↓ev_newarray, ↓ev_anewarray, ↓ev_invokevirtual, ↓ev_invokestatic, ↓ev_invokespecial, ↓ev_ireturn, ↓ev_lreturn, ↓ev_areturn, ↓ev_ret, ↓ev_0, ↓ev_nil, ↓ev_cons, ↓ev_jp, ↓ev_pI, ↓ev_pII, ↓ev_pL, ↓ev_pLL, ↓ev_pIL, ↓ev_pR, ↓ev_pIR, ↓ev_pIIR, ↓ev_pLIR, ↓ev_pRIR, ↓ev_pop0, ↓ev_popS, ↓iv_eq, ↓iv_ne, ↓iv_lt, ↓iv_ge, ↓iv_gt, ↓iv_le, ↓ev_ldi0, ↓ev_ldiS, ↓ev_ldl0, ↓ev_ldlS, ↓ev_lda0, ↓ev_ldaN, ↓ev_ldaS, ↓ev_staR, ↓ev_staN, ↓ev_pfI, ↓ev_pfZ, ↓ev_pfL, ↓ev_pfR, ↓ev_kc, ↓ev_kcN, ↓inv, bk, sL, gf, tyI, tyIs, tyB, tyQ, tyN, nbk, ekd, elOk, isO, swl, vNat, vI, k1, st1, st2, ent, rtQ, va_rf, List.replicate, List.mem_cons, List.not_mem_nil, or_false, false_or, or_true, true_or, or_self, ↓reduceIte, Nat.reduceAdd, Nat.reduceEqDiff, true_and, and_true, reduceCtorEq, forall_const, false_implies, implies_true, true_implies, not_true_eq_false, not_false_eq_true, e00, e10, e01, e11, lg_eq0, lg_lt0, lg_le0, lg_gt0, lg_ge0, ite_u, Nat.reduceLeDiff, u2_ap, qe1, qe2, ↓reduceIte, Nat.reduceEqDiff, Nat.reduceAdd, Nat.reduceMul, z_cl, z_in, an0, an1, qn1, qn2, S.t0, S.t2, S.t3, S.t4, S.t5, S.t6, S.t7, S.t8, S.t9, S.t10, S.t11, S.t12, S.t13, S.t14, S.t15, S.t16, S.t17, S.t18, S.t19, S.t20, S.t21, S.t22, S.t23, S.r2_0, S.r2_1, S.r2_2, S.r2_4, S.r2_6, S.r2_7, S.r2_8, S.r3_0, S.r3_2, S.r6_0, S.r10_0, S.r10_1, S.r10_2, S.r10_3, S.r16_1, S.r16_2, S.r16_4, S.r16_6, S.r16_7, S.r21_0, S.r21_1, h5]
  try simp (disch := omega) only [z_rm, Nat.add_sub_cancel, Nat.add_one_sub_one, Nat.reduceEqDiff, pk_mul, nI_add, nI_1, pk_sub, pk_div, pk_rem, nI_ltI, nI_leI, nI_eq, z_cl, z_in, z_lt0, z_0le, z_eq0, z_le0, z_0lt, z_m1, z_i2l, z_l2i, z_ult, pk_lLT, pk_lLE, pk_lEQ, lN_add, lN_mul, lN_sub, true_and, and_true, forall_const, false_implies, implies_true, true_implies, not_true_eq_false, not_false_eq_true, Nat.not_lt, Nat.not_le]
  refine ⟨fun z => absurd z (by omega), fun _ => ?_⟩
  refine ⟨1010 + 16 * jn, f0, by decide, by decide, uT_at _ _ _, by decide, by decide, ?_⟩
  refine c_journeyNew (uT_at _ _ _) (by first | exact f1 | (simp (disch := omega) only [uT_ne]; exact f1)) (by first | exact f2 | (simp (disch := omega) only [uT_ne]; exact f2)) (by first | exact f3 | (simp (disch := omega) only [uT_ne]; exact f3)) (fun k => r0_at _ _ _ _) (fun T' I' J' R' fr mono jc => ?_)
  have hT : ∀ y, T y ≠ none → T' y = T y := fun y hy => by
    have e : y ≠ 1010 + 16 * jn := fun e => hy (by rw [e]; exact f0)
    rw [mono y (by rw [uT_ne e]; exact hy), uT_ne e]
  have hI : ∀ y, y < 1010 + 16 * jn ∨ 1010 + 16 * jn + 3 < y → I' y = I y := fun y hy => by
    rw [(fr y hy).2.1, r0_row (by omega)]
  have hR : ∀ y, y < 1010 + 16 * jn ∨ 1010 + 16 * jn + 3 < y → R' y = R y := fun y hy => by
    rw [(fr y hy).2.2.2, r0_row (by omega)]
  have S' : SH T' R' := S.ext hT (fun y y1 _ _ _ _ => hR y (by omega))
  have h5' : I' 16 5 = nI jn := by rw [hI 16 (by omega)]; exact h5
  have tq := jc.1
  have S := S'
  try simp (disch := omega) only [↓ev_iconst, ↓ev_bipush, ↓ev_sipush, ↓ev_lconst, ↓ev_ldc, ↓ev_ldc_w, ↓ev_ldc2_w, ↓ev_aconst_null, ↓ev_iload, ↓ev_iload_n, ↓ev_lload, ↓ev_lload_n, ↓ev_aload, ↓ev_aload_n, ↓ev_istore, ↓ev_istore_n, ↓ev_lstore, ↓ev_lstore_n, ↓ev_astore, ↓ev_astore_n, ↓ev_iinc, ↓ev_iadd, ↓ev_isub, ↓ev_imul, ↓ev_iand, ↓ev_ixor, ↓ev_idiv, ↓ev_irem, ↓ev_ineg, ↓ev_i2l, ↓ev_i2b, ↓ev_l2i, ↓ev_ladd, ↓ev_lsub, ↓ev_lmul, ↓ev_land, ↓ev_lor, ↓ev_ldiv, ↓ev_lrem, ↓ev_lushr, ↓ev_lshl, ↓ev_lcmp, ↓ev_dup, ↓ev_pop, ↓ev_dup2, ↓ev_if_icmp, ↓ev_ifCond, ↓ev_goto, ↓ev_ifnull, ↓ev_ifnonnull, ↓ev_tableswitch, ↓ev_lookupswitch, ↓ev_getfield, ↓ev_putfield, ↓ev_getstatic, ↓ev_iaload, ↓ev_baload, ↓ev_laload, ↓ev_aaload, ↓ev_iastore, ↓ev_bastore, ↓ev_lastore, ↓ev_aastore, ↓ev_arraylength, ↓ev_new, ↓ev_newarray, ↓ev_anewarray, ↓ev_invokevirtual, ↓ev_invokestatic, ↓ev_invokespecial, ↓ev_ireturn, ↓ev_lreturn, ↓ev_areturn, ↓ev_ret, ↓ev_0, ↓ev_nil, ↓ev_cons, ↓ev_jp, ↓ev_pI, ↓ev_pII, ↓ev_pL, ↓ev_pLL, ↓ev_pIL, ↓ev_pR, ↓ev_pIR, ↓ev_pIIR, ↓ev_pLIR, ↓ev_pRIR, ↓ev_pop0, ↓ev_popS, ↓iv_eq, ↓iv_ne, ↓iv_lt, ↓iv_ge, ↓iv_gt, ↓iv_le, ↓ev_ldi0, ↓ev_ldiS, ↓ev_ldl0, ↓ev_ldlS, ↓ev_lda0, ↓ev_ldaN, ↓ev_ldaS, ↓ev_staR, ↓ev_staN, ↓ev_pfI, ↓ev_pfZ, ↓ev_pfL, ↓ev_pfR, ↓ev_kc, ↓ev_kcN, ↓inv, bk, sL, gf, tyI, tyIs, tyB, tyQ, tyN, nbk, ekd, elOk, isO, swl, vNat, vI, k1, st1, st2, ent, rtQ, va_rf, List.replicate, List.mem_cons, List.not_mem_nil, or_false, false_or, or_true, true_or, or_self, ↓reduceIte, Nat.reduceAdd, Nat.reduceEqDiff, true_and, and_true, reduceCtorEq, forall_const, false_implies, implies_true, true_implies, not_true_eq_false, not_false_eq_true, e00, e10, e01, e11, lg_eq0, lg_lt0, lg_le0, lg_gt0, lg_ge0, ite_u, Nat.reduceLeDiff, u2_ap, qe1, qe2, ↓reduceIte, Nat.reduceEqDiff, Nat.reduceAdd, Nat.reduceMul, z_cl, z_in, an0, an1, qn1, qn2, S.t0, S.t2, S.t3, S.t4, S.t5, S.t6, S.t7, S.t8, S.t9, S.t10, S.t11, S.t12, S.t13, S.t14, S.t15, S.t16, S.t17, S.t18, S.t19, S.t20, S.t21, S.t22, S.t23, S.r2_0, S.r2_1, S.r2_2, S.r2_4, S.r2_6, S.r2_7, S.r2_8, S.r3_0, S.r3_2, S.r6_0, S.r10_0, S.r10_1, S.r10_2, S.r10_3, S.r16_1, S.r16_2, S.r16_4, S.r16_6, S.r16_7, S.r21_0, S.r21_1, h5', tq]
  try simp (disch := omega) only [z_rm, Nat.add_sub_cancel, Nat.add_one_sub_one, Nat.reduceEqDiff, pk_mul, nI_add, nI_1, pk_sub, pk_div, pk_rem, nI_ltI, nI_leI, nI_eq, z_cl, z_in, z_lt0, z_0le, z_eq0, z_le0, z_0lt, z_m1, z_i2l, z_l2i, z_ult, pk_lLT, pk_lLE, pk_lEQ, lN_add, lN_mul, lN_sub, true_and, and_true, forall_const, false_implies, implies_true, true_implies, not_true_eq_false, not_false_eq_true, Nat.not_lt, Nat.not_le]
  refine ⟨by decide, h T' _ J' _ (fun y hy => ⟨?_, ?_, fun y1 => ?_, fun y1 => ?_⟩) hT (u2_at _ _ _ _) (fun k hk => ?_) (u2_at _ _ _ _) (fun m hm => ?_) (jc.fr (fun _ _ => rfl) (fun j hj => u2_row (by omega)) (u2_row (by omega)) (u2_row (by omega)))⟩
  · rw [(fr y hy).1, uT_ne (by omega)]
  · rw [(fr y hy).2.2.1, r0_row (by omega)]
  · rw [u2_row y1]
    exact hI y hy
  · rw [u2_row y1]
    exact hR y hy
  · rw [u2_ne (by omega), hI 16 (by omega)]
  · rw [u2_ne (by omega), hR 19 (by omega)]
theorem vNt_add {N : NtS} (h : vNt N) (hj : N.jn < 30) : vNt (N.sJ (N.jn + 1) (uF N.jy N.jn jsN0)) := by
  obtain ⟨a, b, c, d, e, f, g⟩ := h
  refine ⟨a, b, hj, d, e, fun m hm => ?_, fun l w hl hw => ?_⟩
  · have hm' : m < N.jn + 1 := hm
    show vJn _ (uF N.jy N.jn jsN0 m)
    by_cases z : m = N.jn
    · subst z
      rw [uF_at]
      exact ⟨by decide, fun z => by (cases z), fun z => absurd rfl z, fun z => by (cases z), fun z => by (cases z), fun z => by (cases z)⟩
    · rw [uF_ne z]
      exact f m (by omega)
  · rcases g l w hl hw with z | ⟨m, m1, m2, m3, m4, m5⟩
    · exact Or.inl z
    · refine Or.inr ⟨m, Nat.lt_succ_of_lt m1, m2, m3, ?_⟩
      show (uF N.jy N.jn jsN0 m).hw = 2 ∧ (uF N.jy N.jn jsN0 m).pL (uF N.jy N.jn jsN0 m).st = l ∧ (uF N.jy N.jn jsN0 m).pS (uF N.jy N.jn jsN0 m).st = lnSt (N.L l) w
      rw [uF_ne (by omega)]
      exact ⟨m4, m5⟩
theorem CNt.add {N : NtS} {T' : TTy} {I' : MIy} {R' : MRy} (h : CNt T I R N) (hj : N.jn < 30) (hT : ∀ y, T y ≠ none → T' y = T y) (h5 : I' 16 5 = nI (N.jn + 1)) (h16 : ∀ k, k ≠ 5 → I' 16 k = I 16 k) (h17 : I' 17 = I 17) (hL : ∀ y, 200 ≤ y → y < 248 → I' y = I y ∧ R' y = R y) (hJ : ∀ m j, m < N.jn → j < 4 → I' (1010 + 16 * m + j) = I (1010 + 16 * m + j) ∧ R' (1010 + 16 * m + j) = R (1010 + 16 * m + j)) (h18 : R' 18 = R 18) (h19 : R' 19 N.jn = some (1010 + 16 * N.jn)) (h19' : ∀ m, m < N.jn → R' 19 m = R 19 m) (jc : CJn T' I' R' (1010 + 16 * N.jn) jsN0) : CNt T' I' R' (N.sJ (N.jn + 1) (uF N.jy N.jn jsN0)) := by
  obtain ⟨a0, a1, a2, a3, a4, a5, a6, a7, a8, a9⟩ := h
  have nl := a9.2.1
  refine ⟨by rw [h16 0 (by decide)]; exact a0, by rw [h17]; exact a1, by rw [h16 3 (by decide)]; exact a2, fun l hl => ⟨by rw [h18]; exact (a3 l hl).1, ?_⟩, h5, fun m hm => ?_, by rw [h16 8 (by decide)]; exact a6, by rw [h16 9 (by decide)]; exact a7, by rw [h16 10 (by decide)]; exact a8, vNt_add a9 hj⟩
  · have hl' : l < N.nl := hl
    have z := (a3 l hl).2.fr hT (fun j hj => (hL _ (by omega) (by omega)).1) (hL _ (by omega) (by omega)).2
    obtain ⟨z0, z1, z2, z3, z4, z5, z6, z7, z8, z9, z10, z11, z12, z13⟩ := z
    refine ⟨z0, z1, z2, z3, z4, z5, z6, z7, z8, z9, z10, z11, z12, fun w hw => ?_⟩
    obtain ⟨v1, v2, v3⟩ := z13 w hw
    refine ⟨?_, v2, v3⟩
    rw [v1]
    have e1 : wcn (N.sJ (N.jn + 1) (uF N.jy N.jn jsN0)) l (lnSt (N.L l) w) N.jn = wcn N l (lnSt (N.L l) w) N.jn := wcn_cg (fun m hm => uF_ne (by omega))
    have e2 : wt1 (N.sJ (N.jn + 1) (uF N.jy N.jn jsN0)) l (lnSt (N.L l) w) N.jn = false := by
      unfold wt1
      show ((uF N.jy N.jn jsN0 N.jn).hw == 1 && _ && _) = false
      rw [uF_at]
      rfl
    show _ = nI (wcn (N.sJ (N.jn + 1) (uF N.jy N.jn jsN0)) l (lnSt (N.L l) w) N.jn + (wt1 (N.sJ (N.jn + 1) (uF N.jy N.jn jsN0)) l (lnSt (N.L l) w) N.jn).toNat)
    rw [e1, e2]
    rfl
  · have hm' : m < N.jn + 1 := hm
    show R' 19 m = _ ∧ CJn T' I' R' (1010 + 16 * m) (uF N.jy N.jn jsN0 m)
    by_cases e : m = N.jn
    · subst e
      rw [uF_at]
      exact ⟨h19, jc⟩
    · rw [uF_ne e]
      exact ⟨by rw [h19' m (by omega)]; exact (a5 m (by omega)).1, (a5 m (by omega)).2.fr hT (fun j hj => (hJ m j (by omega) hj).1) (hJ m 0 (by omega) (by decide)).2 (hJ m 1 (by omega) (by decide)).2⟩
def xMsg (s : AlS) (n : Nat) (tk : Nat → Tok) : AlS := (0, s.tb, s.nb, s.bo, s.nm + 1, uF s.ms s.nm (n, tk, fmN0), s.nt.sJ (s.nt.jn + 1) (uF s.nt.jy s.nt.jn jsN0))
def xMessage (s : AlS) : Int32 × AlS := if s.nm = 30 then (-4, s) else match rdF s.tb s.tl 0 rd0 with
  | .inl i => (-100 - nI i, s)
  | .inr r => if r.1 = 0 then (-100 - nI s.tl, s) else (nI s.nm, xMsg s r.1 r.2.1)
theorem vAl_msg {n : Nat} {tk : Nat → Tok} (o : vAl s) : vAl (xMsg s n tk) := by
  obtain ⟨a, b⟩ := o
  refine ⟨by show s.nt.jn + 1 = s.nm + 1; rw [a], fun m hm => ?_⟩
  have hm' : m < s.nm + 1 := hm
  show vBo _ (uF s.ms s.nm (n, tk, fmN0) m).f ∧ ((uF s.nt.jy s.nt.jn jsN0 m).hw ≠ 0 → (uF s.nt.jy s.nt.jn jsN0 m).sc = nI (cC (uF s.ms s.nm (n, tk, fmN0) m).f.gc (uF s.ms s.nm (n, tk, fmN0) m).n (uF s.ms s.nm (n, tk, fmN0) m).tk))
  by_cases e : m = s.nm
  · subst e
    rw [uF_at, a, uF_at]
    exact ⟨Or.inl ⟨rfl, rfl⟩, fun z => absurd rfl z⟩
  · rw [uF_ne e, uF_ne (by omega)]
    exact b m (by omega)
theorem h_message (C : CIv s T I J R) (h : HSQ Q (xMessage s) I J) : Run G 118 [.ref 2] T I J R Q := by
  obtain ⟨S, F, Ct, Cs, Cb, Cm, Cn, o⟩ := id C
  have e5 := Cm.1
  have hnm := Cm.2.1
  unfold xMessage at h
  refine Run.body (by decide) 1 (Nat.le_of_ble_eq_true rfl) (AT.go okB118 0 rfl [] 90 0 ?_)
  simp (disch := omega) only [B118, ↓ev_iconst, ↓ev_bipush, ↓ev_sipush, ↓ev_lconst, ↓ev_ldc, ↓ev_ldc_w, ↓ev_ldc2_w, ↓ev_aconst_null, ↓ev_iload, ↓ev_iload_n, ↓ev_lload, ↓ev_lload_n, ↓ev_aload, ↓ev_aload_n, ↓ev_istore, ↓ev_istore_n, ↓ev_lstore, ↓ev_lstore_n, ↓ev_astore, ↓ev_astore_n, ↓ev_iinc, ↓ev_iadd, ↓ev_isub, ↓ev_imul, ↓ev_iand, ↓ev_ixor, ↓ev_idiv, ↓ev_irem, ↓ev_ineg, ↓ev_i2l, ↓ev_i2b, ↓ev_l2i, ↓ev_ladd, ↓ev_lsub, ↓ev_lmul, ↓ev_land, ↓ev_lor, ↓ev_ldiv, ↓ev_lrem, ↓ev_lushr, ↓ev_lshl, ↓ev_lcmp, ↓ev_dup, ↓ev_pop, ↓ev_dup2, ↓ev_if_icmp, ↓ev_ifCond, ↓ev_goto, ↓ev_ifnull, ↓ev_ifnonnull, ↓ev_tableswitch, ↓ev_lookupswitch, ↓ev_getfield, ↓ev_putfield, ↓ev_getstatic, ↓ev_iaload, ↓ev_baload, ↓ev_laload, ↓ev_aaload, ↓ev_iastore, ↓ev_bastore, ↓ev_lastore, ↓ev_aastore, ↓ev_arraylength, ↓ev_new, ↓ev_newarray, ↓ev_anewarray, ↓ev_invokevirtual, ↓ev_invokestatic, ↓ev_invokespecial, ↓ev_ireturn, ↓ev_lreturn, ↓ev_areturn, ↓ev_ret, ↓ev_0, ↓ev_nil, ↓ev_cons, ↓ev_jp, ↓ev_pI, ↓ev_pII, ↓ev_pL, ↓ev_pLL, ↓ev_pIL, ↓ev_pR, ↓ev_pIR, ↓ev_pIIR, ↓ev_pLIR, ↓ev_pRIR, ↓ev_pop0, ↓ev_popS, ↓iv_eq, ↓iv_ne, ↓iv_lt, ↓iv_ge, ↓iv_gt, ↓iv_le, ↓ev_ldi0, ↓ev_ldiS, ↓ev_ldl0, ↓ev_ldlS, ↓ev_lda0, ↓ev_ldaN, ↓ev_ldaS, ↓ev_staR, ↓ev_staN, ↓ev_pfI, ↓ev_pfZ, ↓ev_pfL, ↓ev_pfR, ↓ev_kc, ↓ev_kcN, ↓inv, bk, sL, gf, tyI, tyIs, tyB, tyQ, tyN, nbk, ekd, elOk, isO, swl, vNat, vI, k1, st1, st2, ent, rtQ, va_rf, List.replicate, List.mem_cons, List.not_mem_nil, or_false, false_or, or_true, true_or, or_self, ↓reduceIte, Nat.reduceAdd, Nat.reduceEqDiff, true_and, and_true, reduceCtorEq, forall_const, false_implies, implies_true, true_implies, not_true_eq_false, not_false_eq_true, e00, e10, e01, e11, lg_eq0, lg_lt0, lg_le0, lg_gt0, lg_ge0, ite_u, Nat.reduceLeDiff, u2_ap, qe1, qe2, ↓reduceIte, Nat.reduceEqDiff, Nat.reduceAdd, Nat.reduceMul, z_cl, z_in, an0, an1, qn1, qn2, S.t0, S.t2, S.t3, S.t4, S.t5, S.t6, S.t7, S.t8, S.t9, S.t10, S.t11, S.t12, S.t13, S.t14, S.t15, S.t16, S.t17, S.t18, S.t19, S.t20, S.t21, S.t22, S.t23, S.r2_0, S.r2_1, S.r2_2, S.r2_4, S.r2_6, S.r2_7, S.r2_8, S.r3_0, S.r3_2, S.r6_0, S.r10_0, S.r10_1, S.r10_2, S.r10_3, S.r16_1, S.r16_2, S.r16_4, S.r16_6, S.r16_7, S.r21_0, S.r21_1, e5]
  try simp (disch := omega) only [z_rm, Nat.add_sub_cancel, Nat.add_one_sub_one, Nat.reduceEqDiff, pk_mul, nI_add, nI_1, pk_sub, pk_div, pk_rem, nI_ltI, nI_leI, nI_eq, z_cl, z_in, z_lt0, z_0le, z_eq0, z_le0, z_0lt, z_m1, z_i2l, z_l2i, z_ult, pk_lLT, pk_lLE, pk_lEQ, lN_add, lN_mul, lN_sub, true_and, and_true, forall_const, false_implies, implies_true, true_implies, not_true_eq_false, not_false_eq_true, Nat.not_lt, Nat.not_le]
  refine ⟨fun z => ?_, fun z => ?_⟩
  rotate_left
  · rw [if_pos (by omega)] at h
    exact h.sm C
  rw [if_neg (by omega)] at h
  have htl := Ct.2.1
  refine c_read S Ct (fun i I' J' hr hi f => ?_) (fun r I' J' hr hz f => ?_) (fun r I' J' hr hz ok K f => ?_)
  · rw [hr] at h
    have ne := nm1 (a := i) (by omega)
    try simp (disch := omega) only [↓ev_iconst, ↓ev_bipush, ↓ev_sipush, ↓ev_lconst, ↓ev_ldc, ↓ev_ldc_w, ↓ev_ldc2_w, ↓ev_aconst_null, ↓ev_iload, ↓ev_iload_n, ↓ev_lload, ↓ev_lload_n, ↓ev_aload, ↓ev_aload_n, ↓ev_istore, ↓ev_istore_n, ↓ev_lstore, ↓ev_lstore_n, ↓ev_astore, ↓ev_astore_n, ↓ev_iinc, ↓ev_iadd, ↓ev_isub, ↓ev_imul, ↓ev_iand, ↓ev_ixor, ↓ev_idiv, ↓ev_irem, ↓ev_ineg, ↓ev_i2l, ↓ev_i2b, ↓ev_l2i, ↓ev_ladd, ↓ev_lsub, ↓ev_lmul, ↓ev_land, ↓ev_lor, ↓ev_ldiv, ↓ev_lrem, ↓ev_lushr, ↓ev_lshl, ↓ev_lcmp, ↓ev_dup, ↓ev_pop, ↓ev_dup2, ↓ev_if_icmp, ↓ev_ifCond, ↓ev_goto, ↓ev_ifnull, ↓ev_ifnonnull, ↓ev_tableswitch, ↓ev_lookupswitch, ↓ev_getfield, ↓ev_putfield, ↓ev_getstatic, ↓ev_iaload, ↓ev_baload, ↓ev_laload, ↓ev_aaload, ↓ev_iastore, ↓ev_bastore, ↓ev_lastore, ↓ev_aastore, ↓ev_arraylength, ↓ev_new, ↓ev_newarray, ↓ev_anewarray, ↓ev_invokevirtual, ↓ev_invokestatic, ↓ev_invokespecial, ↓ev_ireturn, ↓ev_lreturn, ↓ev_areturn, ↓ev_ret, ↓ev_0, ↓ev_nil, ↓ev_cons, ↓ev_jp, ↓ev_pI, ↓ev_pII, ↓ev_pL, ↓ev_pLL, ↓ev_pIL, ↓ev_pR, ↓ev_pIR, ↓ev_pIIR, ↓ev_pLIR, ↓ev_pRIR, ↓ev_pop0, ↓ev_popS, ↓iv_eq, ↓iv_ne, ↓iv_lt, ↓iv_ge, ↓iv_gt, ↓iv_le, ↓ev_ldi0, ↓ev_ldiS, ↓ev_ldl0, ↓ev_ldlS, ↓ev_lda0, ↓ev_ldaN, ↓ev_ldaS, ↓ev_staR, ↓ev_staN, ↓ev_pfI, ↓ev_pfZ, ↓ev_pfL, ↓ev_pfR, ↓ev_kc, ↓ev_kcN, ↓inv, bk, sL, gf, tyI, tyIs, tyB, tyQ, tyN, nbk, ekd, elOk, isO, swl, vNat, vI, k1, st1, st2, ent, rtQ, va_rf, List.replicate, List.mem_cons, List.not_mem_nil, or_false, false_or, or_true, true_or, or_self, ↓reduceIte, Nat.reduceAdd, Nat.reduceEqDiff, true_and, and_true, reduceCtorEq, forall_const, false_implies, implies_true, true_implies, not_true_eq_false, not_false_eq_true, e00, e10, e01, e11, lg_eq0, lg_lt0, lg_le0, lg_gt0, lg_ge0, ite_u, Nat.reduceLeDiff, u2_ap, qe1, qe2, ↓reduceIte, Nat.reduceEqDiff, Nat.reduceAdd, Nat.reduceMul, z_cl, z_in, an0, an1, qn1, qn2, ne]
    try simp (disch := omega) only [z_rm, Nat.add_sub_cancel, Nat.add_one_sub_one, Nat.reduceEqDiff, pk_mul, nI_add, nI_1, pk_sub, pk_div, pk_rem, nI_ltI, nI_leI, nI_eq, z_cl, z_in, z_lt0, z_0le, z_eq0, z_le0, z_0lt, z_m1, z_i2l, z_l2i, z_ult, pk_lLT, pk_lLE, pk_lEQ, lN_add, lN_mul, lN_sub, true_and, and_true, forall_const, false_implies, implies_true, true_implies, not_true_eq_false, not_false_eq_true, Nat.not_lt, Nat.not_le]
    exact h T I' J' R (C.rd f) (fun y _ _ => ⟨f.1 y (by omega), f.2.2 y (by omega) (by omega)⟩)
  · rw [hr] at h
    dsimp only at h
    rw [if_pos hz] at h
    have ne := nm1 (a := s.tl) (by omega)
    try simp (disch := omega) only [↓ev_iconst, ↓ev_bipush, ↓ev_sipush, ↓ev_lconst, ↓ev_ldc, ↓ev_ldc_w, ↓ev_ldc2_w, ↓ev_aconst_null, ↓ev_iload, ↓ev_iload_n, ↓ev_lload, ↓ev_lload_n, ↓ev_aload, ↓ev_aload_n, ↓ev_istore, ↓ev_istore_n, ↓ev_lstore, ↓ev_lstore_n, ↓ev_astore, ↓ev_astore_n, ↓ev_iinc, ↓ev_iadd, ↓ev_isub, ↓ev_imul, ↓ev_iand, ↓ev_ixor, ↓ev_idiv, ↓ev_irem, ↓ev_ineg, ↓ev_i2l, ↓ev_i2b, ↓ev_l2i, ↓ev_ladd, ↓ev_lsub, ↓ev_lmul, ↓ev_land, ↓ev_lor, ↓ev_ldiv, ↓ev_lrem, ↓ev_lushr, ↓ev_lshl, ↓ev_lcmp, ↓ev_dup, ↓ev_pop, ↓ev_dup2, ↓ev_if_icmp, ↓ev_ifCond, ↓ev_goto, ↓ev_ifnull, ↓ev_ifnonnull, ↓ev_tableswitch, ↓ev_lookupswitch, ↓ev_getfield, ↓ev_putfield, ↓ev_getstatic, ↓ev_iaload, ↓ev_baload, ↓ev_laload, ↓ev_aaload, ↓ev_iastore, ↓ev_bastore, ↓ev_lastore, ↓ev_aastore, ↓ev_arraylength, ↓ev_new, ↓ev_newarray, ↓ev_anewarray, ↓ev_invokevirtual, ↓ev_invokestatic, ↓ev_invokespecial, ↓ev_ireturn, ↓ev_lreturn, ↓ev_areturn, ↓ev_ret, ↓ev_0, ↓ev_nil, ↓ev_cons, ↓ev_jp, ↓ev_pI, ↓ev_pII, ↓ev_pL, ↓ev_pLL, ↓ev_pIL, ↓ev_pR, ↓ev_pIR, ↓ev_pIIR, ↓ev_pLIR, ↓ev_pRIR, ↓ev_pop0, ↓ev_popS, ↓iv_eq, ↓iv_ne, ↓iv_lt, ↓iv_ge, ↓iv_gt, ↓iv_le, ↓ev_ldi0, ↓ev_ldiS, ↓ev_ldl0, ↓ev_ldlS, ↓ev_lda0, ↓ev_ldaN, ↓ev_ldaS, ↓ev_staR, ↓ev_staN, ↓ev_pfI, ↓ev_pfZ, ↓ev_pfL, ↓ev_pfR, ↓ev_kc, ↓ev_kcN, ↓inv, bk, sL, gf, tyI, tyIs, tyB, tyQ, tyN, nbk, ekd, elOk, isO, swl, vNat, vI, k1, st1, st2, ent, rtQ, va_rf, List.replicate, List.mem_cons, List.not_mem_nil, or_false, false_or, or_true, true_or, or_self, ↓reduceIte, Nat.reduceAdd, Nat.reduceEqDiff, true_and, and_true, reduceCtorEq, forall_const, false_implies, implies_true, true_implies, not_true_eq_false, not_false_eq_true, e00, e10, e01, e11, lg_eq0, lg_lt0, lg_le0, lg_gt0, lg_ge0, ite_u, Nat.reduceLeDiff, u2_ap, qe1, qe2, ↓reduceIte, Nat.reduceEqDiff, Nat.reduceAdd, Nat.reduceMul, z_cl, z_in, an0, an1, qn1, qn2, ne]
    try simp (disch := omega) only [z_rm, Nat.add_sub_cancel, Nat.add_one_sub_one, Nat.reduceEqDiff, pk_mul, nI_add, nI_1, pk_sub, pk_div, pk_rem, nI_ltI, nI_leI, nI_eq, z_cl, z_in, z_lt0, z_0le, z_eq0, z_le0, z_0lt, z_m1, z_i2l, z_l2i, z_ult, pk_lLT, pk_lLE, pk_lEQ, lN_add, lN_mul, lN_sub, true_and, and_true, forall_const, false_implies, implies_true, true_implies, not_true_eq_false, not_false_eq_true, Nat.not_lt, Nat.not_le]
    exact h T I' J' R (C.rd f) (fun y _ _ => ⟨f.1 y (by omega), f.2.2 y (by omega) (by omega)⟩)
  rw [hr] at h
  dsimp only at h
  rw [if_neg hz] at h
  obtain ⟨n, tk, op⟩ := r
  have C' := C.rd f
  have hq : HSQ Q (nI s.nm, xMsg s n tk) I' J' := fun T2 I2 J2 R2 c2 f2 => h T2 I2 J2 R2 c2 (fun y y1 y2 => ⟨(f2 y y1 y2).1.trans (f.1 y (by omega)), (f2 y y1 y2).2.trans (f.2.2 y (by omega) (by omega))⟩)
  clear h
  obtain ⟨S, F, Ct, ⟨kk, Cs⟩, Cb, Cm, Cn, o⟩ := id C'
  have K3 : I' 3 3 = nI n := K.1
  have okn : n ≤ 20 := ok.1
  have hz' : n ≠ 0 := hz
  have TRk : TR J' 5 n tk := fun i hi => ⟨K.2.1 i hi, ok.2.1 i hi⟩
  have e5 := Cm.1
  have f0 := F.2.2 s.nm 0 (Nat.le_refl _) z (by decide)
  try simp (disch := omega) only [↓ev_iconst, ↓ev_bipush, ↓ev_sipush, ↓ev_lconst, ↓ev_ldc, ↓ev_ldc_w, ↓ev_ldc2_w, ↓ev_aconst_null, ↓ev_iload, ↓ev_iload_n, ↓ev_lload, ↓ev_lload_n, ↓ev_aload, ↓ev_aload_n, ↓ev_istore, ↓ev_istore_n, ↓ev_lstore, ↓ev_lstore_n, ↓ev_astore, ↓ev_astore_n, ↓ev_iinc, ↓ev_iadd, ↓ev_isub, ↓ev_imul, ↓ev_iand, ↓ev_ixor, ↓ev_idiv, ↓ev_irem, ↓ev_ineg, ↓ev_i2l, ↓ev_i2b, ↓ev_l2i, ↓ev_ladd, ↓ev_lsub, ↓ev_lmul, ↓ev_land, ↓ev_lor, ↓ev_ldiv, ↓ev_lrem, ↓ev_lushr, ↓ev_lshl, ↓ev_lcmp, ↓ev_dup, ↓ev_pop, ↓ev_dup2, ↓ev_if_icmp, ↓ev_ifCond, ↓ev_goto, ↓ev_ifnull, ↓ev_ifnonnull, ↓ev_tableswitch, ↓ev_lookupswitch, ↓ev_getfield, ↓ev_putfield, ↓ev_getstatic, ↓ev_iaload, ↓ev_baload, ↓ev_laload, ↓ev_aaload, ↓ev_iastore, ↓ev_bastore, ↓ev_lastore, ↓ev_aastore, ↓ev_arraylength, ↓ev_new, ↓ev_newarray, ↓ev_anewarray, ↓ev_invokevirtual, ↓ev_invokestatic, ↓ev_invokespecial, ↓ev_ireturn, ↓ev_lreturn, ↓ev_areturn, ↓ev_ret, ↓ev_0, ↓ev_nil, ↓ev_cons, ↓ev_jp, ↓ev_pI, ↓ev_pII, ↓ev_pL, ↓ev_pLL, ↓ev_pIL, ↓ev_pR, ↓ev_pIR, ↓ev_pIIR, ↓ev_pLIR, ↓ev_pRIR, ↓ev_pop0, ↓ev_popS, ↓iv_eq, ↓iv_ne, ↓iv_lt, ↓iv_ge, ↓iv_gt, ↓iv_le, ↓ev_ldi0, ↓ev_ldiS, ↓ev_ldl0, ↓ev_ldlS, ↓ev_lda0, ↓ev_ldaN, ↓ev_ldaS, ↓ev_staR, ↓ev_staN, ↓ev_pfI, ↓ev_pfZ, ↓ev_pfL, ↓ev_pfR, ↓ev_kc, ↓ev_kcN, ↓inv, bk, sL, gf, tyI, tyIs, tyB, tyQ, tyN, nbk, ekd, elOk, isO, swl, vNat, vI, k1, st1, st2, ent, rtQ, va_rf, List.replicate, List.mem_cons, List.not_mem_nil, or_false, false_or, or_true, true_or, or_self, ↓reduceIte, Nat.reduceAdd, Nat.reduceEqDiff, true_and, and_true, reduceCtorEq, forall_const, false_implies, implies_true, true_implies, not_true_eq_false, not_false_eq_true, e00, e10, e01, e11, lg_eq0, lg_lt0, lg_le0, lg_gt0, lg_ge0, ite_u, Nat.reduceLeDiff, u2_ap, qe1, qe2, ↓reduceIte, Nat.reduceEqDiff, Nat.reduceAdd, Nat.reduceMul, z_cl, z_in, an0, an1, qn1, qn2, S.t0, S.t2, S.t3, S.t4, S.t5, S.t6, S.t7, S.t8, S.t9, S.t10, S.t11, S.t12, S.t13, S.t14, S.t15, S.t16, S.t17, S.t18, S.t19, S.t20, S.t21, S.t22, S.t23, S.r2_0, S.r2_1, S.r2_2, S.r2_4, S.r2_6, S.r2_7, S.r2_8, S.r3_0, S.r3_2, S.r6_0, S.r10_0, S.r10_1, S.r10_2, S.r10_3, S.r16_1, S.r16_2, S.r16_4, S.r16_6, S.r16_7, S.r21_0, S.r21_1, e5, K3]
  try simp (disch := omega) only [z_rm, Nat.add_sub_cancel, Nat.add_one_sub_one, Nat.reduceEqDiff, pk_mul, nI_add, nI_1, pk_sub, pk_div, pk_rem, nI_ltI, nI_leI, nI_eq, z_cl, z_in, z_lt0, z_0le, z_eq0, z_le0, z_0lt, z_m1, z_i2l, z_l2i, z_ult, pk_lLT, pk_lLE, pk_lEQ, lN_add, lN_mul, lN_sub, true_and, and_true, forall_const, false_implies, implies_true, true_implies, not_true_eq_false, not_false_eq_true, Nat.not_lt, Nat.not_le]
  refine ⟨1000 + 16 * s.nm, f0, by decide, by decide, ?_⟩
  try simp (disch := omega) only [↓ev_iconst, ↓ev_bipush, ↓ev_sipush, ↓ev_lconst, ↓ev_ldc, ↓ev_ldc_w, ↓ev_ldc2_w, ↓ev_aconst_null, ↓ev_iload, ↓ev_iload_n, ↓ev_lload, ↓ev_lload_n, ↓ev_aload, ↓ev_aload_n, ↓ev_istore, ↓ev_istore_n, ↓ev_lstore, ↓ev_lstore_n, ↓ev_astore, ↓ev_astore_n, ↓ev_iinc, ↓ev_iadd, ↓ev_isub, ↓ev_imul, ↓ev_iand, ↓ev_ixor, ↓ev_idiv, ↓ev_irem, ↓ev_ineg, ↓ev_i2l, ↓ev_i2b, ↓ev_l2i, ↓ev_ladd, ↓ev_lsub, ↓ev_lmul, ↓ev_land, ↓ev_lor, ↓ev_ldiv, ↓ev_lrem, ↓ev_lushr, ↓ev_lshl, ↓ev_lcmp, ↓ev_dup, ↓ev_pop, ↓ev_dup2, ↓ev_if_icmp, ↓ev_ifCond, ↓ev_goto, ↓ev_ifnull, ↓ev_ifnonnull, ↓ev_tableswitch, ↓ev_lookupswitch, ↓ev_getfield, ↓ev_putfield, ↓ev_getstatic, ↓ev_iaload, ↓ev_baload, ↓ev_laload, ↓ev_aaload, ↓ev_iastore, ↓ev_bastore, ↓ev_lastore, ↓ev_aastore, ↓ev_arraylength, ↓ev_new, ↓ev_newarray, ↓ev_anewarray, ↓ev_invokevirtual, ↓ev_invokestatic, ↓ev_invokespecial, ↓ev_ireturn, ↓ev_lreturn, ↓ev_areturn, ↓ev_ret, ↓ev_0, ↓ev_nil, ↓ev_cons, ↓ev_jp, ↓ev_pI, ↓ev_pII, ↓ev_pL, ↓ev_pLL, ↓ev_pIL, ↓ev_pR, ↓ev_pIR, ↓ev_pIIR, ↓ev_pLIR, ↓ev_pRIR, ↓ev_pop0, ↓ev_popS, ↓iv_eq, ↓iv_ne, ↓iv_lt, ↓iv_ge, ↓iv_gt, ↓iv_le, ↓ev_ldi0, ↓ev_ldiS, ↓ev_ldl0, ↓ev_ldlS, ↓ev_lda0, ↓ev_ldaN, ↓ev_ldaS, ↓ev_staR, ↓ev_staN, ↓ev_pfI, ↓ev_pfZ, ↓ev_pfL, ↓ev_pfR, ↓ev_kc, ↓ev_kcN, ↓inv, bk, sL, gf, tyI, tyIs, tyB, tyQ, tyN, nbk, ekd, elOk, isO, swl, vNat, vI, k1, st1, st2, ent, rtQ, va_rf, List.replicate, List.mem_cons, List.not_mem_nil, or_false, false_or, or_true, true_or, or_self, ↓reduceIte, Nat.reduceAdd, Nat.reduceEqDiff, true_and, and_true, reduceCtorEq, forall_const, false_implies, implies_true, true_implies, not_true_eq_false, not_false_eq_true, e00, e10, e01, e11, lg_eq0, lg_lt0, lg_le0, lg_gt0, lg_ge0, ite_u, Nat.reduceLeDiff, u2_ap, qe1, qe2, ↓reduceIte, Nat.reduceEqDiff, Nat.reduceAdd, Nat.reduceMul, z_cl, z_in, an0, an1, qn1, qn2, S.t0, S.t2, S.t3, S.t4, S.t5, S.t6, S.t7, S.t8, S.t9, S.t10, S.t11, S.t12, S.t13, S.t14, S.t15, S.t16, S.t17, S.t18, S.t19, S.t20, S.t21, S.t22, S.t23, S.r2_0, S.r2_1, S.r2_2, S.r2_4, S.r2_6, S.r2_7, S.r2_8, S.r3_0, S.r3_2, S.r6_0, S.r10_0, S.r10_1, S.r10_2, S.r10_3, S.r16_1, S.r16_2, S.r16_4, S.r16_6, S.r16_7, S.r21_0, S.r21_1, e5, K3, uT_ne, r0_row]
  try simp (disch := omega) only [z_rm, Nat.add_sub_cancel, Nat.add_one_sub_one, Nat.reduceEqDiff, pk_mul, nI_add, nI_1, pk_sub, pk_div, pk_rem, nI_ltI, nI_leI, nI_eq, z_cl, z_in, z_lt0, z_0le, z_eq0, z_le0, z_0lt, z_m1, z_i2l, z_l2i, z_ult, pk_lLT, pk_lLE, pk_lEQ, lN_add, lN_mul, lN_sub, true_and, and_true, forall_const, false_implies, implies_true, true_implies, not_true_eq_false, not_false_eq_true, Nat.not_lt, Nat.not_le]
  refine ⟨uT_at _ _ _, by decide, by decide, ?_⟩
  refine c_msgNew (tk := tk) (uT_at _ _ _) (fun j j1 j2 => by rw [uT_ne (by omega)]; exact F.2.2 s.nm j (Nat.le_refl _) z (by omega)) (by rw [uT_ne (by omega)]; exact S.t5) (by omega) okn (fun i hi => ⟨by rw [r0_row (by omega)]; exact (TRk i hi).1, (TRk i hi).2⟩) (fun T1 I1 J1 R1 fr1 mono1 mo m1 mt mz => ?_)
  have hT1 : ∀ y, T y ≠ none → T1 y = T y := fun y hy => by
    have e : y ≠ 1000 + 16 * s.nm := fun e => hy (by rw [e]; exact f0)
    rw [mono1 y (by rw [uT_ne e]; exact hy), uT_ne e]
  have hT1' : ∀ y, y < 1000 + 16 * s.nm ∨ 1000 + 16 * s.nm + 9 < y → T1 y = T y := fun y hy => by
    rw [(fr1 y hy).1, uT_ne (by omega)]
  have hI1 : ∀ y, y < 1000 + 16 * s.nm ∨ 1000 + 16 * s.nm + 9 < y → I1 y = I' y := fun y hy => by
    rw [(fr1 y hy).2.1, r0_row (by omega)]
  have hJ1 : ∀ y, y < 1000 + 16 * s.nm ∨ 1000 + 16 * s.nm + 9 < y → J1 y = J' y := fun y hy => by
    rw [(fr1 y hy).2.2.1, r0_row (by omega)]
  have hR1 : ∀ y, y < 1000 + 16 * s.nm ∨ 1000 + 16 * s.nm + 9 < y → R1 y = R y := fun y hy => by
    rw [(fr1 y hy).2.2.2, r0_row (by omega)]
  have S1 : SH T1 R1 := S.ext hT1 (fun y y1 _ _ _ _ => hR1 y (by omega))
  have e51 : I1 2 5 = nI s.nm := by rw [hI1 2 (by omega)]; exact e5
  have tq := mo.1
  have SS := S
  have S := S1
  try simp (disch := omega) only [↓ev_iconst, ↓ev_bipush, ↓ev_sipush, ↓ev_lconst, ↓ev_ldc, ↓ev_ldc_w, ↓ev_ldc2_w, ↓ev_aconst_null, ↓ev_iload, ↓ev_iload_n, ↓ev_lload, ↓ev_lload_n, ↓ev_aload, ↓ev_aload_n, ↓ev_istore, ↓ev_istore_n, ↓ev_lstore, ↓ev_lstore_n, ↓ev_astore, ↓ev_astore_n, ↓ev_iinc, ↓ev_iadd, ↓ev_isub, ↓ev_imul, ↓ev_iand, ↓ev_ixor, ↓ev_idiv, ↓ev_irem, ↓ev_ineg, ↓ev_i2l, ↓ev_i2b, ↓ev_l2i, ↓ev_ladd, ↓ev_lsub, ↓ev_lmul, ↓ev_land, ↓ev_lor, ↓ev_ldiv, ↓ev_lrem, ↓ev_lushr, ↓ev_lshl, ↓ev_lcmp, ↓ev_dup, ↓ev_pop, ↓ev_dup2, ↓ev_if_icmp, ↓ev_ifCond, ↓ev_goto, ↓ev_ifnull, ↓ev_ifnonnull, ↓ev_tableswitch, ↓ev_lookupswitch, ↓ev_getfield, ↓ev_putfield, ↓ev_getstatic, ↓ev_iaload, ↓ev_baload, ↓ev_laload, ↓ev_aaload, ↓ev_iastore, ↓ev_bastore, ↓ev_lastore, ↓ev_aastore, ↓ev_arraylength, ↓ev_new, ↓ev_newarray, ↓ev_anewarray, ↓ev_invokevirtual, ↓ev_invokestatic, ↓ev_invokespecial, ↓ev_ireturn, ↓ev_lreturn, ↓ev_areturn, ↓ev_ret, ↓ev_0, ↓ev_nil, ↓ev_cons, ↓ev_jp, ↓ev_pI, ↓ev_pII, ↓ev_pL, ↓ev_pLL, ↓ev_pIL, ↓ev_pR, ↓ev_pIR, ↓ev_pIIR, ↓ev_pLIR, ↓ev_pRIR, ↓ev_pop0, ↓ev_popS, ↓iv_eq, ↓iv_ne, ↓iv_lt, ↓iv_ge, ↓iv_gt, ↓iv_le, ↓ev_ldi0, ↓ev_ldiS, ↓ev_ldl0, ↓ev_ldlS, ↓ev_lda0, ↓ev_ldaN, ↓ev_ldaS, ↓ev_staR, ↓ev_staN, ↓ev_pfI, ↓ev_pfZ, ↓ev_pfL, ↓ev_pfR, ↓ev_kc, ↓ev_kcN, ↓inv, bk, sL, gf, tyI, tyIs, tyB, tyQ, tyN, nbk, ekd, elOk, isO, swl, vNat, vI, k1, st1, st2, ent, rtQ, va_rf, List.replicate, List.mem_cons, List.not_mem_nil, or_false, false_or, or_true, true_or, or_self, ↓reduceIte, Nat.reduceAdd, Nat.reduceEqDiff, true_and, and_true, reduceCtorEq, forall_const, false_implies, implies_true, true_implies, not_true_eq_false, not_false_eq_true, e00, e10, e01, e11, lg_eq0, lg_lt0, lg_le0, lg_gt0, lg_ge0, ite_u, Nat.reduceLeDiff, u2_ap, qe1, qe2, ↓reduceIte, Nat.reduceEqDiff, Nat.reduceAdd, Nat.reduceMul, z_cl, z_in, an0, an1, qn1, qn2, S.t0, S.t2, S.t3, S.t4, S.t5, S.t6, S.t7, S.t8, S.t9, S.t10, S.t11, S.t12, S.t13, S.t14, S.t15, S.t16, S.t17, S.t18, S.t19, S.t20, S.t21, S.t22, S.t23, S.r2_0, S.r2_1, S.r2_2, S.r2_4, S.r2_6, S.r2_7, S.r2_8, S.r3_0, S.r3_2, S.r6_0, S.r10_0, S.r10_1, S.r10_2, S.r10_3, S.r16_1, S.r16_2, S.r16_4, S.r16_6, S.r16_7, S.r21_0, S.r21_1, e51, tq]
  try simp (disch := omega) only [z_rm, Nat.add_sub_cancel, Nat.add_one_sub_one, Nat.reduceEqDiff, pk_mul, nI_add, nI_1, pk_sub, pk_div, pk_rem, nI_ltI, nI_leI, nI_eq, z_cl, z_in, z_lt0, z_0le, z_eq0, z_le0, z_0lt, z_m1, z_i2l, z_l2i, z_ult, pk_lLT, pk_lLE, pk_lEQ, lN_add, lN_mul, lN_sub, true_and, and_true, forall_const, false_implies, implies_true, true_implies, not_true_eq_false, not_false_eq_true, Nat.not_lt, Nat.not_le]
  refine ⟨by decide, by decide, by decide, ?_⟩
  have ojn := o.1
  have S2 : SH T1 (u2 R1 9 s.nm (some (1000 + 16 * s.nm))) := S1.ext (fun _ _ => rfl) (fun y _ _ y9 _ _ => u2_row y9)
  refine c_addJourney (jn := s.nt.jn) S2 (by rw [hI1 16 (by omega)]; exact Cn.2.2.2.2.1) (by omega) (fun j hj => ?_) (fun T2 I2 J2 R2 fr2 mono2 i5 i16 r19 r19' jc => ?_)
  · rw [hT1' _ (by omega), show 1010 + 16 * s.nt.jn + j = 1000 + 16 * s.nt.jn + (10 + j) by omega]
    exact F.2.2 s.nt.jn (10 + j) (by omega) (by omega) (by omega)
  have hT2 : ∀ y, T y ≠ none → T2 y = T y := fun y hy => by
    rw [mono2 y (by rw [hT1 y hy]; exact hy), hT1 y hy]
  have S3 : SH T2 R2 := S2.ext mono2 (fun y y1 y8 y9 y18 y19 => (fr2 y (by omega)).2.2.2 y19)
  have e52 : I2 2 5 = nI s.nm := by rw [(fr2 2 (by omega)).2.2.1 (by omega)]; exact e51
  have S := S3
  try simp (disch := omega) only [↓ev_iconst, ↓ev_bipush, ↓ev_sipush, ↓ev_lconst, ↓ev_ldc, ↓ev_ldc_w, ↓ev_ldc2_w, ↓ev_aconst_null, ↓ev_iload, ↓ev_iload_n, ↓ev_lload, ↓ev_lload_n, ↓ev_aload, ↓ev_aload_n, ↓ev_istore, ↓ev_istore_n, ↓ev_lstore, ↓ev_lstore_n, ↓ev_astore, ↓ev_astore_n, ↓ev_iinc, ↓ev_iadd, ↓ev_isub, ↓ev_imul, ↓ev_iand, ↓ev_ixor, ↓ev_idiv, ↓ev_irem, ↓ev_ineg, ↓ev_i2l, ↓ev_i2b, ↓ev_l2i, ↓ev_ladd, ↓ev_lsub, ↓ev_lmul, ↓ev_land, ↓ev_lor, ↓ev_ldiv, ↓ev_lrem, ↓ev_lushr, ↓ev_lshl, ↓ev_lcmp, ↓ev_dup, ↓ev_pop, ↓ev_dup2, ↓ev_if_icmp, ↓ev_ifCond, ↓ev_goto, ↓ev_ifnull, ↓ev_ifnonnull, ↓ev_tableswitch, ↓ev_lookupswitch, ↓ev_getfield, ↓ev_putfield, ↓ev_getstatic, ↓ev_iaload, ↓ev_baload, ↓ev_laload, ↓ev_aaload, ↓ev_iastore, ↓ev_bastore, ↓ev_lastore, ↓ev_aastore, ↓ev_arraylength, ↓ev_new, ↓ev_newarray, ↓ev_anewarray, ↓ev_invokevirtual, ↓ev_invokestatic, ↓ev_invokespecial, ↓ev_ireturn, ↓ev_lreturn, ↓ev_areturn, ↓ev_ret, ↓ev_0, ↓ev_nil, ↓ev_cons, ↓ev_jp, ↓ev_pI, ↓ev_pII, ↓ev_pL, ↓ev_pLL, ↓ev_pIL, ↓ev_pR, ↓ev_pIR, ↓ev_pIIR, ↓ev_pLIR, ↓ev_pRIR, ↓ev_pop0, ↓ev_popS, ↓iv_eq, ↓iv_ne, ↓iv_lt, ↓iv_ge, ↓iv_gt, ↓iv_le, ↓ev_ldi0, ↓ev_ldiS, ↓ev_ldl0, ↓ev_ldlS, ↓ev_lda0, ↓ev_ldaN, ↓ev_ldaS, ↓ev_staR, ↓ev_staN, ↓ev_pfI, ↓ev_pfZ, ↓ev_pfL, ↓ev_pfR, ↓ev_kc, ↓ev_kcN, ↓inv, bk, sL, gf, tyI, tyIs, tyB, tyQ, tyN, nbk, ekd, elOk, isO, swl, vNat, vI, k1, st1, st2, ent, rtQ, va_rf, List.replicate, List.mem_cons, List.not_mem_nil, or_false, false_or, or_true, true_or, or_self, ↓reduceIte, Nat.reduceAdd, Nat.reduceEqDiff, true_and, and_true, reduceCtorEq, forall_const, false_implies, implies_true, true_implies, not_true_eq_false, not_false_eq_true, e00, e10, e01, e11, lg_eq0, lg_lt0, lg_le0, lg_gt0, lg_ge0, ite_u, Nat.reduceLeDiff, u2_ap, qe1, qe2, ↓reduceIte, Nat.reduceEqDiff, Nat.reduceAdd, Nat.reduceMul, z_cl, z_in, an0, an1, qn1, qn2, S.t0, S.t2, S.t3, S.t4, S.t5, S.t6, S.t7, S.t8, S.t9, S.t10, S.t11, S.t12, S.t13, S.t14, S.t15, S.t16, S.t17, S.t18, S.t19, S.t20, S.t21, S.t22, S.t23, S.r2_0, S.r2_1, S.r2_2, S.r2_4, S.r2_6, S.r2_7, S.r2_8, S.r3_0, S.r3_2, S.r6_0, S.r10_0, S.r10_1, S.r10_2, S.r10_3, S.r16_1, S.r16_2, S.r16_4, S.r16_6, S.r16_7, S.r21_0, S.r21_1]
  try simp (disch := omega) only [z_rm, Nat.add_sub_cancel, Nat.add_one_sub_one, Nat.reduceEqDiff, pk_mul, nI_add, nI_1, pk_sub, pk_div, pk_rem, nI_ltI, nI_leI, nI_eq, z_cl, z_in, z_lt0, z_0le, z_eq0, z_le0, z_0lt, z_m1, z_i2l, z_l2i, z_ult, pk_lLT, pk_lLE, pk_lEQ, lN_add, lN_mul, lN_sub, true_and, and_true, forall_const, false_implies, implies_true, true_implies, not_true_eq_false, not_false_eq_true, Nat.not_lt, Nat.not_le]
  refine c_clear S3 ?_
  try simp (disch := omega) only [↓ev_iconst, ↓ev_bipush, ↓ev_sipush, ↓ev_lconst, ↓ev_ldc, ↓ev_ldc_w, ↓ev_ldc2_w, ↓ev_aconst_null, ↓ev_iload, ↓ev_iload_n, ↓ev_lload, ↓ev_lload_n, ↓ev_aload, ↓ev_aload_n, ↓ev_istore, ↓ev_istore_n, ↓ev_lstore, ↓ev_lstore_n, ↓ev_astore, ↓ev_astore_n, ↓ev_iinc, ↓ev_iadd, ↓ev_isub, ↓ev_imul, ↓ev_iand, ↓ev_ixor, ↓ev_idiv, ↓ev_irem, ↓ev_ineg, ↓ev_i2l, ↓ev_i2b, ↓ev_l2i, ↓ev_ladd, ↓ev_lsub, ↓ev_lmul, ↓ev_land, ↓ev_lor, ↓ev_ldiv, ↓ev_lrem, ↓ev_lushr, ↓ev_lshl, ↓ev_lcmp, ↓ev_dup, ↓ev_pop, ↓ev_dup2, ↓ev_if_icmp, ↓ev_ifCond, ↓ev_goto, ↓ev_ifnull, ↓ev_ifnonnull, ↓ev_tableswitch, ↓ev_lookupswitch, ↓ev_getfield, ↓ev_putfield, ↓ev_getstatic, ↓ev_iaload, ↓ev_baload, ↓ev_laload, ↓ev_aaload, ↓ev_iastore, ↓ev_bastore, ↓ev_lastore, ↓ev_aastore, ↓ev_arraylength, ↓ev_new, ↓ev_newarray, ↓ev_anewarray, ↓ev_invokevirtual, ↓ev_invokestatic, ↓ev_invokespecial, ↓ev_ireturn, ↓ev_lreturn, ↓ev_areturn, ↓ev_ret, ↓ev_0, ↓ev_nil, ↓ev_cons, ↓ev_jp, ↓ev_pI, ↓ev_pII, ↓ev_pL, ↓ev_pLL, ↓ev_pIL, ↓ev_pR, ↓ev_pIR, ↓ev_pIIR, ↓ev_pLIR, ↓ev_pRIR, ↓ev_pop0, ↓ev_popS, ↓iv_eq, ↓iv_ne, ↓iv_lt, ↓iv_ge, ↓iv_gt, ↓iv_le, ↓ev_ldi0, ↓ev_ldiS, ↓ev_ldl0, ↓ev_ldlS, ↓ev_lda0, ↓ev_ldaN, ↓ev_ldaS, ↓ev_staR, ↓ev_staN, ↓ev_pfI, ↓ev_pfZ, ↓ev_pfL, ↓ev_pfR, ↓ev_kc, ↓ev_kcN, ↓inv, bk, sL, gf, tyI, tyIs, tyB, tyQ, tyN, nbk, ekd, elOk, isO, swl, vNat, vI, k1, st1, st2, ent, rtQ, va_rf, List.replicate, List.mem_cons, List.not_mem_nil, or_false, false_or, or_true, true_or, or_self, ↓reduceIte, Nat.reduceAdd, Nat.reduceEqDiff, true_and, and_true, reduceCtorEq, forall_const, false_implies, implies_true, true_implies, not_true_eq_false, not_false_eq_true, e00, e10, e01, e11, lg_eq0, lg_lt0, lg_le0, lg_gt0, lg_ge0, ite_u, Nat.reduceLeDiff, u2_ap, qe1, qe2, ↓reduceIte, Nat.reduceEqDiff, Nat.reduceAdd, Nat.reduceMul, z_cl, z_in, an0, an1, qn1, qn2, S.t0, S.t2, S.t3, S.t4, S.t5, S.t6, S.t7, S.t8, S.t9, S.t10, S.t11, S.t12, S.t13, S.t14, S.t15, S.t16, S.t17, S.t18, S.t19, S.t20, S.t21, S.t22, S.t23, S.r2_0, S.r2_1, S.r2_2, S.r2_4, S.r2_6, S.r2_7, S.r2_8, S.r3_0, S.r3_2, S.r6_0, S.r10_0, S.r10_1, S.r10_2, S.r10_3, S.r16_1, S.r16_2, S.r16_4, S.r16_6, S.r16_7, S.r21_0, S.r21_1, e52]
  try simp (disch := omega) only [z_rm, Nat.add_sub_cancel, Nat.add_one_sub_one, Nat.reduceEqDiff, pk_mul, nI_add, nI_1, pk_sub, pk_div, pk_rem, nI_ltI, nI_leI, nI_eq, z_cl, z_in, z_lt0, z_0le, z_eq0, z_le0, z_0lt, z_m1, z_i2l, z_l2i, z_ult, pk_lLT, pk_lLE, pk_lEQ, lN_add, lN_mul, lN_sub, true_and, and_true, forall_const, false_implies, implies_true, true_implies, not_true_eq_false, not_false_eq_true, Nat.not_lt, Nat.not_le]
  have hI2 : ∀ y, y ≠ 16 → y < 1000 + 16 * s.nm ∨ 1000 + 16 * s.nm + 13 < y → I2 y = I' y := fun y y1 hy => by
    rw [(fr2 y (by omega)).2.2.1 y1, hI1 y (by omega)]
  have hI9 : ∀ y, y ≠ 2 → y ≠ 3 → y ≠ 16 → y < 1000 + 16 * s.nm ∨ 1000 + 16 * s.nm + 13 < y → u2 (u2 I2 3 1 (nI 0)) 2 5 (nI (s.nm + 1)) y = I' y := fun y y1 y2 y3 hy => by
    rw [u2_row y1, u2_row y2]
    exact hI2 y y3 hy
  have hI8 : ∀ y, y ≠ 2 → y ≠ 3 → u2 (u2 I2 3 1 (nI 0)) 2 5 (nI (s.nm + 1)) y = I2 y := fun y y1 y2 => by
    rw [u2_row y1, u2_row y2]
  have hJ2 : ∀ y, y < 1000 + 16 * s.nm ∨ 1000 + 16 * s.nm + 13 < y → J2 y = J' y := fun y hy => by
    rw [(fr2 y (by omega)).2.1, hJ1 y (by omega)]
  have hR2 : ∀ y, y ≠ 9 → y ≠ 19 → y < 1000 + 16 * s.nm ∨ 1000 + 16 * s.nm + 13 < y → R2 y = R y := fun y y1 y2 hy => by
    rw [(fr2 y (by omega)).2.2.2 y2, u2_row y1, hR1 y (by omega)]
  have hR9 : ∀ m, R2 9 m = u2 R1 9 s.nm (some (1000 + 16 * s.nm)) 9 m := fun m => by rw [(fr2 9 (by omega)).2.2.2 (by omega)]
  have hTn : ∀ y, y < 1000 + 16 * s.nm ∨ 1000 + 16 * s.nm + 13 < y → T2 y = T y := fun y hy => by
    rw [(fr2 y (by omega)).1, hT1' y (by omega)]
  refine hq T2 _ J2 R2 ⟨S3, ⟨fun b j b1 b2 b3 => ?_, fun l j l1 l2 l3 => ?_, fun m j m1 m2 m3 => ?_⟩, ⟨?_, Nat.zero_le _, fun j hj => absurd hj (Nat.not_lt_zero j)⟩, ⟨kk, Cs.fr (hI9 6 (by omega) (by omega) (by omega) (by omega)) (hI9 7 (by omega) (by omega) (by omega) (by omega))⟩, Cb.fr hT2 ?_ (fun y _ _ => hI9 y (by omega) (by omega) (by omega) (by omega)) (fun y _ _ => hJ2 y (by omega)) (fun y _ _ => hR2 y (by omega) (by omega) (by omega)) (fun b _ => by rw [hR2 8 (by omega) (by omega) (by omega)]), ⟨u2_at _ _ _ _, z, fun m hm => ?_⟩, ?_, vAl_msg o⟩ (fun y y1 y2 => ⟨hI9 y (by omega) (by omega) (by omega) (by omega), hJ2 y (by omega)⟩)
  · have b1' : s.nb ≤ b := b1
    rw [hTn _ (by omega)]
    exact F.1 b j b1 b2 b3
  · rw [hTn _ (by omega)]
    exact F.2.1 l j l1 l2 l3
  · have m1' : s.nm + 1 ≤ m := m1
    rw [hTn _ (by omega)]
    exact F.2.2 m j (by omega) m2 m3
  · rw [u2_row (by omega), u2_at]
    rfl
  · rw [u2_ne (by omega), u2_row (by omega), hI2 2 (by omega) (by omega)]
  · have hm' : m < s.nm + 1 := hm
    show R2 9 m = _ ∧ CMg _ _ _ _ _ (uF s.ms s.nm (n, tk, fmN0) m)
    by_cases e : m = s.nm
    · subst e
      rw [uF_at, hR9, u2_at]
      have hI7 : ∀ y, 1000 + 16 * s.nm ≤ y → y < 1000 + 16 * s.nm + 10 → u2 (u2 I2 3 1 (nI 0)) 2 5 (nI (s.nm + 1)) y = I1 y := fun y y1 y2 => by
        rw [hI8 y (by omega) (by omega), (fr2 y (by omega)).2.2.1 (by omega)]
      have hR7 : ∀ y, 1000 + 16 * s.nm ≤ y → y < 1000 + 16 * s.nm + 10 → R2 y = R1 y := fun y y1 y2 => by
        rw [(fr2 y (by omega)).2.2.2 (by omega), u2_row (by omega)]
      refine ⟨rfl, mo.fr mono2 hR7, ⟨?_, okn, fun i hi => ⟨?_, ok.2.1 i hi⟩⟩, ?_, ⟨by show 1 ≤ n; omega, okn, fun i hi => ok.2.1 i hi⟩⟩
      · rw [hI7 _ (by omega) (by omega)]
        exact m1
      · rw [(fr2 _ (by omega)).2.1]
        exact mt i hi
      · exact (mz.cf (T := T1) (R := R1) mo.2.2.2.2).fr mono2 (fun y y1 y2 => hI7 y (by omega) (by omega)) (hR7 _ (by omega) (by omega))
    · rw [uF_ne e, hR9, u2_ne (by omega), hR1 9 (by omega)]
      exact ⟨(Cm.2.2 m (by omega)).1, (Cm.2.2 m (by omega)).2.fr hT2 (fun y _ _ => hI9 y (by omega) (by omega) (by omega) (by omega)) (hJ2 _ (by omega)) (fun y _ _ => hR2 y (by omega) (by omega) (by omega))⟩
  · have nl := Cn.2.2.2.2.2.2.2.2.2.2.1
    refine Cn.add (by omega) hT2 (by rw [hI8 16 (by omega) (by omega)]; exact i5) (fun k hk => by rw [hI8 16 (by omega) (by omega), i16 k hk, hI1 16 (by omega)]) (hI9 17 (by omega) (by omega) (by omega) (by omega)) (fun y y1 y2 => ⟨hI9 y (by omega) (by omega) (by omega) (by omega), hR2 y (by omega) (by omega) (by omega)⟩) (fun m j hm hj => ⟨hI9 _ (by omega) (by omega) (by omega) (by omega), hR2 _ (by omega) (by omega) (by omega)⟩) (hR2 18 (by omega) (by omega) (by omega)) r19 (fun m hm => ?_) (jc.fr (fun _ _ => rfl) (fun j hj => hI8 _ (by omega) (by omega)) rfl rfl)
    rw [r19' m (by omega), u2_row (by omega), hR1 19 (by omega)]
/-! the model's message -/
set_option maxRecDepth 100000 in
theorem l_mmsg {m n : Nat} {tk : Nat → Tok} {x1 : Option Value} {I0 : MIy} {J0 : MJy} (S : SH T R) (hm : m < 30) (hn : n ≤ 20) (h2 : I0 24 2 = nI n) (K : ∀ i, i < n → J0 28 i = mT9 (tk i) ∧ I0 29 i = nI (tL (tk i))) {T00 : TTy}
    (h : ∀ I' J', (∀ i, i < n → J' 32 (20 * m + i) = mT9 (tk i) ∧ I' 33 (20 * m + i) = nI (tL (tk i))) → (∀ y k, y ≠ 33 ∨ k < 20 * m ∨ 20 * m + 20 ≤ k → I' y k = I0 y k) → (∀ y k, y ≠ 32 ∨ k < 20 * m ∨ 20 * m + 20 ≤ k → J' y k = J0 y k) → ∀ x3, AT G 169 T00 Q 103 [some (.ref 24), x1, some (.int (nI m)), x3] [] 0 0 T I' J' R) :
    ∀ k i I J, i + k = n → (∀ j, j < i → J 32 (20 * m + j) = mT9 (tk j) ∧ I 33 (20 * m + j) = nI (tL (tk j))) → (∀ y k, y ≠ 33 ∨ k < 20 * m ∨ 20 * m + 20 ≤ k → I y k = I0 y k) → (∀ y k, y ≠ 32 ∨ k < 20 * m ∨ 20 * m + 20 ≤ k → J y k = J0 y k) → AT G 169 T00 Q 55 [some (.ref 24), x1, some (.int (nI m)), some (.int (nI i))] [] 0 0 T I J R
  | k, i, I, J, hi, g1, g2, g3 => by
    have f2 : I 24 2 = nI n := by rw [g2 24 2 (by omega)]; exact h2
    match k, hi with
    | 0, hi =>
      obtain rfl : i = n := by omega
      refine AT.go okB169 0 rfl [55, 103] 90 55 ?_
      simp (disch := omega) only [B169, ↓ev_iconst, ↓ev_bipush, ↓ev_sipush, ↓ev_lconst, ↓ev_ldc, ↓ev_ldc_w, ↓ev_ldc2_w, ↓ev_aconst_null, ↓ev_iload, ↓ev_iload_n, ↓ev_lload, ↓ev_lload_n, ↓ev_aload, ↓ev_aload_n, ↓ev_istore, ↓ev_istore_n, ↓ev_lstore, ↓ev_lstore_n, ↓ev_astore, ↓ev_astore_n, ↓ev_iinc, ↓ev_iadd, ↓ev_isub, ↓ev_imul, ↓ev_iand, ↓ev_ixor, ↓ev_idiv, ↓ev_irem, ↓ev_ineg, ↓ev_i2l, ↓ev_i2b, ↓ev_l2i, ↓ev_ladd, ↓ev_lsub, ↓ev_lmul, ↓ev_land, ↓ev_lor, ↓ev_ldiv, ↓ev_lrem, ↓ev_lushr, ↓ev_lshl, ↓ev_lcmp, ↓ev_dup, ↓ev_pop, ↓ev_dup2, ↓ev_if_icmp, ↓ev_ifCond, ↓ev_goto, ↓ev_ifnull, ↓ev_ifnonnull, ↓ev_tableswitch, ↓ev_lookupswitch, ↓ev_getfield, ↓ev_putfield, ↓ev_getstatic, ↓ev_iaload, ↓ev_baload, ↓ev_laload, ↓ev_aaload, ↓ev_iastore, ↓ev_bastore, ↓ev_lastore, ↓ev_aastore, ↓ev_arraylength, ↓ev_new, ↓ev_newarray, ↓ev_anewarray, ↓ev_invokevirtual, ↓ev_invokestatic, ↓ev_invokespecial, ↓ev_ireturn, ↓ev_lreturn, ↓ev_areturn, ↓ev_ret, ↓ev_0, ↓ev_nil, ↓ev_cons, ↓ev_jp, ↓ev_pI, ↓ev_pII, ↓ev_pL, ↓ev_pLL, ↓ev_pIL, ↓ev_pR, ↓ev_pIR, ↓ev_pIIR, ↓ev_pLIR, ↓ev_pRIR, ↓ev_pop0, ↓ev_popS, ↓iv_eq, ↓iv_ne, ↓iv_lt, ↓iv_ge, ↓iv_gt, ↓iv_le, ↓ev_ldi0, ↓ev_ldiS, ↓ev_ldl0, ↓ev_ldlS, ↓ev_lda0, ↓ev_ldaN, ↓ev_ldaS, ↓ev_staR, ↓ev_staN, ↓ev_pfI, ↓ev_pfZ, ↓ev_pfL, ↓ev_pfR, ↓ev_kc, ↓ev_kcN, ↓inv, bk, sL, gf, tyI, tyIs, tyB, tyQ, tyN, nbk, ekd, elOk, isO, swl, vNat, vI, k1, st1, st2, ent, rtQ, va_rf, List.replicate, List.mem_cons, List.not_mem_nil, or_false, false_or, or_true, true_or, or_self, ↓reduceIte, Nat.reduceAdd, Nat.reduceEqDiff, true_and, and_true, reduceCtorEq, forall_const, false_implies, implies_true, true_implies, not_true_eq_false, not_false_eq_true, e00, e10, e01, e11, lg_eq0, lg_lt0, lg_le0, lg_gt0, lg_ge0, ite_u, Nat.reduceLeDiff, u2_ap, qe1, qe2, ↓reduceIte, Nat.reduceEqDiff, Nat.reduceAdd, Nat.reduceMul, z_cl, z_in, an0, an1, qn1, qn2, S.t24, S.t25, S.t28, S.t29, S.t31, S.t32, S.t33, S.t34, S.t35, S.t36, S.t37, S.t38, S.t39, S.t40, S.t41, S.t42, S.t43, S.t44, S.t46, S.t47, S.t48, S.t49, S.t50, S.t51, S.t52, S.t53, S.t55, S.t56, S.t57, S.t58, S.t64, S.t65, S.t66, S.t67, S.t68, S.t69, S.t70, S.t71, S.t72, S.t74, S.t75, S.t76, S.t77, S.t78, S.t79, S.t80, S.t81, S.t82, S.t83, S.t84, S.t85, S.t88, S.t89, S.t90, S.t91, S.t92, S.t93, S.r24_0, S.r24_3, S.r24_4, S.r24_6, S.r24_7, S.r24_8, S.r24_9, S.r24_10, S.r24_11, S.r24_12, S.r24_13, S.r24_14, S.r24_15, S.r24_16, S.r24_17, S.r24_18, S.r24_19, S.r24_21, S.r24_22, S.r24_23, S.r24_24, S.r24_25, S.r24_26, S.r24_27, S.r24_28, S.r24_30, S.r24_31, S.r24_32, S.r24_33, S.r24_39, S.r24_40, S.r24_41, S.r24_42, S.r24_43, S.r24_44, S.r24_45, S.r24_46, S.r24_47, S.r24_49, S.r24_50, S.r24_51, S.r24_52, S.r24_53, S.r24_54, S.r24_55, S.r24_56, S.r24_57, S.r24_58, S.r24_59, S.r24_60, S.r24_63, S.r24_64, S.r24_65, S.r24_66, S.r24_67, S.r24_68, f2]
      try simp (disch := omega) only [z_rm, Nat.add_sub_cancel, Nat.add_one_sub_one, Nat.reduceEqDiff, pk_mul, nI_add, nI_1, pk_sub, pk_div, pk_rem, nI_ltI, nI_leI, nI_eq, z_cl, z_in, z_lt0, z_0le, z_eq0, z_le0, z_0lt, z_m1, z_i2l, z_l2i, z_ult, pk_lLT, pk_lLE, pk_lEQ, lN_add, lN_mul, lN_sub, true_and, and_true, forall_const, false_implies, implies_true, true_implies, not_true_eq_false, not_false_eq_true, Nat.not_lt, Nat.not_le]
      exact ⟨fun _ => h I J g1 g2 g3 _, fun z => absurd z (by omega)⟩
    | k + 1, hi =>
      have e1 : J 28 i = mT9 (tk i) := by rw [g3 28 i (by omega)]; exact (K i (by omega)).1
      have e2 : I 29 i = nI (tL (tk i)) := by rw [g2 29 i (by omega)]; exact (K i (by omega)).2
      refine AT.go okB169 0 rfl [55, 103] 90 55 ?_
      simp (disch := omega) only [B169, ↓ev_iconst, ↓ev_bipush, ↓ev_sipush, ↓ev_lconst, ↓ev_ldc, ↓ev_ldc_w, ↓ev_ldc2_w, ↓ev_aconst_null, ↓ev_iload, ↓ev_iload_n, ↓ev_lload, ↓ev_lload_n, ↓ev_aload, ↓ev_aload_n, ↓ev_istore, ↓ev_istore_n, ↓ev_lstore, ↓ev_lstore_n, ↓ev_astore, ↓ev_astore_n, ↓ev_iinc, ↓ev_iadd, ↓ev_isub, ↓ev_imul, ↓ev_iand, ↓ev_ixor, ↓ev_idiv, ↓ev_irem, ↓ev_ineg, ↓ev_i2l, ↓ev_i2b, ↓ev_l2i, ↓ev_ladd, ↓ev_lsub, ↓ev_lmul, ↓ev_land, ↓ev_lor, ↓ev_ldiv, ↓ev_lrem, ↓ev_lushr, ↓ev_lshl, ↓ev_lcmp, ↓ev_dup, ↓ev_pop, ↓ev_dup2, ↓ev_if_icmp, ↓ev_ifCond, ↓ev_goto, ↓ev_ifnull, ↓ev_ifnonnull, ↓ev_tableswitch, ↓ev_lookupswitch, ↓ev_getfield, ↓ev_putfield, ↓ev_getstatic, ↓ev_iaload, ↓ev_baload, ↓ev_laload, ↓ev_aaload, ↓ev_iastore, ↓ev_bastore, ↓ev_lastore, ↓ev_aastore, ↓ev_arraylength, ↓ev_new, ↓ev_newarray, ↓ev_anewarray, ↓ev_invokevirtual, ↓ev_invokestatic, ↓ev_invokespecial, ↓ev_ireturn, ↓ev_lreturn, ↓ev_areturn, ↓ev_ret, ↓ev_0, ↓ev_nil, ↓ev_cons, ↓ev_jp, ↓ev_pI, ↓ev_pII, ↓ev_pL, ↓ev_pLL, ↓ev_pIL, ↓ev_pR, ↓ev_pIR, ↓ev_pIIR, ↓ev_pLIR, ↓ev_pRIR, ↓ev_pop0, ↓ev_popS, ↓iv_eq, ↓iv_ne, ↓iv_lt, ↓iv_ge, ↓iv_gt, ↓iv_le, ↓ev_ldi0, ↓ev_ldiS, ↓ev_ldl0, ↓ev_ldlS, ↓ev_lda0, ↓ev_ldaN, ↓ev_ldaS, ↓ev_staR, ↓ev_staN, ↓ev_pfI, ↓ev_pfZ, ↓ev_pfL, ↓ev_pfR, ↓ev_kc, ↓ev_kcN, ↓inv, bk, sL, gf, tyI, tyIs, tyB, tyQ, tyN, nbk, ekd, elOk, isO, swl, vNat, vI, k1, st1, st2, ent, rtQ, va_rf, List.replicate, List.mem_cons, List.not_mem_nil, or_false, false_or, or_true, true_or, or_self, ↓reduceIte, Nat.reduceAdd, Nat.reduceEqDiff, true_and, and_true, reduceCtorEq, forall_const, false_implies, implies_true, true_implies, not_true_eq_false, not_false_eq_true, e00, e10, e01, e11, lg_eq0, lg_lt0, lg_le0, lg_gt0, lg_ge0, ite_u, Nat.reduceLeDiff, u2_ap, qe1, qe2, ↓reduceIte, Nat.reduceEqDiff, Nat.reduceAdd, Nat.reduceMul, z_cl, z_in, an0, an1, qn1, qn2, S.t24, S.t25, S.t28, S.t29, S.t31, S.t32, S.t33, S.t34, S.t35, S.t36, S.t37, S.t38, S.t39, S.t40, S.t41, S.t42, S.t43, S.t44, S.t46, S.t47, S.t48, S.t49, S.t50, S.t51, S.t52, S.t53, S.t55, S.t56, S.t57, S.t58, S.t64, S.t65, S.t66, S.t67, S.t68, S.t69, S.t70, S.t71, S.t72, S.t74, S.t75, S.t76, S.t77, S.t78, S.t79, S.t80, S.t81, S.t82, S.t83, S.t84, S.t85, S.t88, S.t89, S.t90, S.t91, S.t92, S.t93, S.r24_0, S.r24_3, S.r24_4, S.r24_6, S.r24_7, S.r24_8, S.r24_9, S.r24_10, S.r24_11, S.r24_12, S.r24_13, S.r24_14, S.r24_15, S.r24_16, S.r24_17, S.r24_18, S.r24_19, S.r24_21, S.r24_22, S.r24_23, S.r24_24, S.r24_25, S.r24_26, S.r24_27, S.r24_28, S.r24_30, S.r24_31, S.r24_32, S.r24_33, S.r24_39, S.r24_40, S.r24_41, S.r24_42, S.r24_43, S.r24_44, S.r24_45, S.r24_46, S.r24_47, S.r24_49, S.r24_50, S.r24_51, S.r24_52, S.r24_53, S.r24_54, S.r24_55, S.r24_56, S.r24_57, S.r24_58, S.r24_59, S.r24_60, S.r24_63, S.r24_64, S.r24_65, S.r24_66, S.r24_67, S.r24_68, f2, e1, e2]
      try simp (disch := omega) only [z_rm, Nat.add_sub_cancel, Nat.add_one_sub_one, Nat.reduceEqDiff, pk_mul, nI_add, nI_1, pk_sub, pk_div, pk_rem, nI_ltI, nI_leI, nI_eq, z_cl, z_in, z_lt0, z_0le, z_eq0, z_le0, z_0lt, z_m1, z_i2l, z_l2i, z_ult, pk_lLT, pk_lLE, pk_lEQ, lN_add, lN_mul, lN_sub, true_and, and_true, forall_const, false_implies, implies_true, true_implies, not_true_eq_false, not_false_eq_true, Nat.not_lt, Nat.not_le]
      refine ⟨fun z => absurd z (by omega), fun _ => ?_⟩
      refine l_mmsg S hm hn h2 K h k (i + 1) _ _ (by omega) (fun j hj => ?_) (fun y k hy => ?_) (fun y k hy => ?_)
      · by_cases z : j = i
        · subst z
          rw [u2_at, u2_at]
          exact ⟨rfl, rfl⟩
        · rw [u2_ne (by omega), u2_ne (by omega)]
          exact g1 j (by omega)
      · rw [u2_ne (by omega)]
        exact g2 y k hy
      · rw [u2_ne (by omega)]
        exact g3 y k hy
theorem nI_inj {a b : Nat} (ha : a < 2147483648) (hb : b < 2147483648) (h : nI a = nI b) : a = b := by
  have e1 := nI_toInt (n := a) ha
  rw [h, nI_toInt (n := b) hb] at e1
  omega
theorem vNt.run {N : NtS} (h : vNt N) {w m : Nat} (hw : w < 2 * N.nl) (hm : m < 2147483648) (e : N.rn w = nI m) : m < N.jn ∧ N.en w ≤ 6100 ∧ (N.jy m).hw = 2 ∧ (N.jy m).pL (N.jy m).st = w / 2 ∧ (N.jy m).pS (N.jy m).st = lnSt (N.L (w / 2)) (w % 2) := by
  have e2 : 2 * (w / 2) + w % 2 = w := by omega
  have hj := h.2.2.1
  rcases h.2.2.2.2.2.2 (w / 2) (w % 2) (by omega) (by omega) with z | ⟨k, k1, k2, k3, k4, k5, k6⟩
  · rw [e2, e] at z
    exact absurd z (z_m9 hm)
  · rw [e2] at k2 k3
    have e3 : m = k := nI_inj hm (by omega) (by rw [← e, k2])
    subst e3
    exact ⟨k1, k3, k4, k5, k6⟩
theorem m_message (S : SH T R) (C : MIv s I J) (hnm : s.nm ≤ 30) (hok : ∀ m, m < s.nm → vMg (s.ms m)) (hjn : s.nt.jn = s.nm) (hN : vNt s.nt) (h : MDQ Q (xMessage s) T I J R) : Run G 169 [.ref 24] T I J R Q := by
  obtain ⟨Mt, Ms, Mb, Mm, Mn⟩ := id C
  have e5 := Mm.1
  unfold xMessage at h
  refine Run.body (by decide) 3 (Nat.le_of_ble_eq_true rfl) (AT.go okB169 0 rfl [55] 90 0 ?_)
  simp (disch := omega) only [B169, ↓ev_iconst, ↓ev_bipush, ↓ev_sipush, ↓ev_lconst, ↓ev_ldc, ↓ev_ldc_w, ↓ev_ldc2_w, ↓ev_aconst_null, ↓ev_iload, ↓ev_iload_n, ↓ev_lload, ↓ev_lload_n, ↓ev_aload, ↓ev_aload_n, ↓ev_istore, ↓ev_istore_n, ↓ev_lstore, ↓ev_lstore_n, ↓ev_astore, ↓ev_astore_n, ↓ev_iinc, ↓ev_iadd, ↓ev_isub, ↓ev_imul, ↓ev_iand, ↓ev_ixor, ↓ev_idiv, ↓ev_irem, ↓ev_ineg, ↓ev_i2l, ↓ev_i2b, ↓ev_l2i, ↓ev_ladd, ↓ev_lsub, ↓ev_lmul, ↓ev_land, ↓ev_lor, ↓ev_ldiv, ↓ev_lrem, ↓ev_lushr, ↓ev_lshl, ↓ev_lcmp, ↓ev_dup, ↓ev_pop, ↓ev_dup2, ↓ev_if_icmp, ↓ev_ifCond, ↓ev_goto, ↓ev_ifnull, ↓ev_ifnonnull, ↓ev_tableswitch, ↓ev_lookupswitch, ↓ev_getfield, ↓ev_putfield, ↓ev_getstatic, ↓ev_iaload, ↓ev_baload, ↓ev_laload, ↓ev_aaload, ↓ev_iastore, ↓ev_bastore, ↓ev_lastore, ↓ev_aastore, ↓ev_arraylength, ↓ev_new, ↓ev_newarray, ↓ev_anewarray, ↓ev_invokevirtual, ↓ev_invokestatic, ↓ev_invokespecial, ↓ev_ireturn, ↓ev_lreturn, ↓ev_areturn, ↓ev_ret, ↓ev_0, ↓ev_nil, ↓ev_cons, ↓ev_jp, ↓ev_pI, ↓ev_pII, ↓ev_pL, ↓ev_pLL, ↓ev_pIL, ↓ev_pR, ↓ev_pIR, ↓ev_pIIR, ↓ev_pLIR, ↓ev_pRIR, ↓ev_pop0, ↓ev_popS, ↓iv_eq, ↓iv_ne, ↓iv_lt, ↓iv_ge, ↓iv_gt, ↓iv_le, ↓ev_ldi0, ↓ev_ldiS, ↓ev_ldl0, ↓ev_ldlS, ↓ev_lda0, ↓ev_ldaN, ↓ev_ldaS, ↓ev_staR, ↓ev_staN, ↓ev_pfI, ↓ev_pfZ, ↓ev_pfL, ↓ev_pfR, ↓ev_kc, ↓ev_kcN, ↓inv, bk, sL, gf, tyI, tyIs, tyB, tyQ, tyN, nbk, ekd, elOk, isO, swl, vNat, vI, k1, st1, st2, ent, rtQ, va_rf, List.replicate, List.mem_cons, List.not_mem_nil, or_false, false_or, or_true, true_or, or_self, ↓reduceIte, Nat.reduceAdd, Nat.reduceEqDiff, true_and, and_true, reduceCtorEq, forall_const, false_implies, implies_true, true_implies, not_true_eq_false, not_false_eq_true, e00, e10, e01, e11, lg_eq0, lg_lt0, lg_le0, lg_gt0, lg_ge0, ite_u, Nat.reduceLeDiff, u2_ap, qe1, qe2, ↓reduceIte, Nat.reduceEqDiff, Nat.reduceAdd, Nat.reduceMul, z_cl, z_in, an0, an1, qn1, qn2, S.t24, S.t25, S.t28, S.t29, S.t31, S.t32, S.t33, S.t34, S.t35, S.t36, S.t37, S.t38, S.t39, S.t40, S.t41, S.t42, S.t43, S.t44, S.t46, S.t47, S.t48, S.t49, S.t50, S.t51, S.t52, S.t53, S.t55, S.t56, S.t57, S.t58, S.t64, S.t65, S.t66, S.t67, S.t68, S.t69, S.t70, S.t71, S.t72, S.t74, S.t75, S.t76, S.t77, S.t78, S.t79, S.t80, S.t81, S.t82, S.t83, S.t84, S.t85, S.t88, S.t89, S.t90, S.t91, S.t92, S.t93, S.r24_0, S.r24_3, S.r24_4, S.r24_6, S.r24_7, S.r24_8, S.r24_9, S.r24_10, S.r24_11, S.r24_12, S.r24_13, S.r24_14, S.r24_15, S.r24_16, S.r24_17, S.r24_18, S.r24_19, S.r24_21, S.r24_22, S.r24_23, S.r24_24, S.r24_25, S.r24_26, S.r24_27, S.r24_28, S.r24_30, S.r24_31, S.r24_32, S.r24_33, S.r24_39, S.r24_40, S.r24_41, S.r24_42, S.r24_43, S.r24_44, S.r24_45, S.r24_46, S.r24_47, S.r24_49, S.r24_50, S.r24_51, S.r24_52, S.r24_53, S.r24_54, S.r24_55, S.r24_56, S.r24_57, S.r24_58, S.r24_59, S.r24_60, S.r24_63, S.r24_64, S.r24_65, S.r24_66, S.r24_67, S.r24_68, e5]
  try simp (disch := omega) only [z_rm, Nat.add_sub_cancel, Nat.add_one_sub_one, Nat.reduceEqDiff, pk_mul, nI_add, nI_1, pk_sub, pk_div, pk_rem, nI_ltI, nI_leI, nI_eq, z_cl, z_in, z_lt0, z_0le, z_eq0, z_le0, z_0lt, z_m1, z_i2l, z_l2i, z_ult, pk_lLT, pk_lLE, pk_lEQ, lN_add, lN_mul, lN_sub, true_and, and_true, forall_const, false_implies, implies_true, true_implies, not_true_eq_false, not_false_eq_true, Nat.not_lt, Nat.not_le]
  refine ⟨fun z => ?_, fun z => ?_⟩
  · rw [if_pos z] at h
    exact h.sm C
  rw [if_neg z] at h
  have htl := Mt.2.1
  refine c_cutUp S Mt (fun i I' J' hr hi f => ?_) (fun r I' J' hr hz f => ?_) (fun r I' J' hr hz okr K1 K2 f => ?_)
  · rw [hr] at h
    have ne := z_m9 (a := i) (by omega)
    try simp (disch := omega) only [↓ev_iconst, ↓ev_bipush, ↓ev_sipush, ↓ev_lconst, ↓ev_ldc, ↓ev_ldc_w, ↓ev_ldc2_w, ↓ev_aconst_null, ↓ev_iload, ↓ev_iload_n, ↓ev_lload, ↓ev_lload_n, ↓ev_aload, ↓ev_aload_n, ↓ev_istore, ↓ev_istore_n, ↓ev_lstore, ↓ev_lstore_n, ↓ev_astore, ↓ev_astore_n, ↓ev_iinc, ↓ev_iadd, ↓ev_isub, ↓ev_imul, ↓ev_iand, ↓ev_ixor, ↓ev_idiv, ↓ev_irem, ↓ev_ineg, ↓ev_i2l, ↓ev_i2b, ↓ev_l2i, ↓ev_ladd, ↓ev_lsub, ↓ev_lmul, ↓ev_land, ↓ev_lor, ↓ev_ldiv, ↓ev_lrem, ↓ev_lushr, ↓ev_lshl, ↓ev_lcmp, ↓ev_dup, ↓ev_pop, ↓ev_dup2, ↓ev_if_icmp, ↓ev_ifCond, ↓ev_goto, ↓ev_ifnull, ↓ev_ifnonnull, ↓ev_tableswitch, ↓ev_lookupswitch, ↓ev_getfield, ↓ev_putfield, ↓ev_getstatic, ↓ev_iaload, ↓ev_baload, ↓ev_laload, ↓ev_aaload, ↓ev_iastore, ↓ev_bastore, ↓ev_lastore, ↓ev_aastore, ↓ev_arraylength, ↓ev_new, ↓ev_newarray, ↓ev_anewarray, ↓ev_invokevirtual, ↓ev_invokestatic, ↓ev_invokespecial, ↓ev_ireturn, ↓ev_lreturn, ↓ev_areturn, ↓ev_ret, ↓ev_0, ↓ev_nil, ↓ev_cons, ↓ev_jp, ↓ev_pI, ↓ev_pII, ↓ev_pL, ↓ev_pLL, ↓ev_pIL, ↓ev_pR, ↓ev_pIR, ↓ev_pIIR, ↓ev_pLIR, ↓ev_pRIR, ↓ev_pop0, ↓ev_popS, ↓iv_eq, ↓iv_ne, ↓iv_lt, ↓iv_ge, ↓iv_gt, ↓iv_le, ↓ev_ldi0, ↓ev_ldiS, ↓ev_ldl0, ↓ev_ldlS, ↓ev_lda0, ↓ev_ldaN, ↓ev_ldaS, ↓ev_staR, ↓ev_staN, ↓ev_pfI, ↓ev_pfZ, ↓ev_pfL, ↓ev_pfR, ↓ev_kc, ↓ev_kcN, ↓inv, bk, sL, gf, tyI, tyIs, tyB, tyQ, tyN, nbk, ekd, elOk, isO, swl, vNat, vI, k1, st1, st2, ent, rtQ, va_rf, List.replicate, List.mem_cons, List.not_mem_nil, or_false, false_or, or_true, true_or, or_self, ↓reduceIte, Nat.reduceAdd, Nat.reduceEqDiff, true_and, and_true, reduceCtorEq, forall_const, false_implies, implies_true, true_implies, not_true_eq_false, not_false_eq_true, e00, e10, e01, e11, lg_eq0, lg_lt0, lg_le0, lg_gt0, lg_ge0, ite_u, Nat.reduceLeDiff, u2_ap, qe1, qe2, ↓reduceIte, Nat.reduceEqDiff, Nat.reduceAdd, Nat.reduceMul, z_cl, z_in, an0, an1, qn1, qn2, ne]
    try simp (disch := omega) only [z_rm, Nat.add_sub_cancel, Nat.add_one_sub_one, Nat.reduceEqDiff, pk_mul, nI_add, nI_1, pk_sub, pk_div, pk_rem, nI_ltI, nI_leI, nI_eq, z_cl, z_in, z_lt0, z_0le, z_eq0, z_le0, z_0lt, z_m1, z_i2l, z_l2i, z_ult, pk_lLT, pk_lLE, pk_lEQ, lN_add, lN_mul, lN_sub, true_and, and_true, forall_const, false_implies, implies_true, true_implies, not_true_eq_false, not_false_eq_true, Nat.not_lt, Nat.not_le]
    exact h I' J' (C.rd f) (fun y _ => ⟨f.1 y (by omega) (by omega), f.2.2 y (by omega)⟩)
  · rw [hr] at h
    dsimp only at h
    rw [if_pos hz] at h
    have ne := z_m9 (a := s.tl) (by omega)
    try simp (disch := omega) only [↓ev_iconst, ↓ev_bipush, ↓ev_sipush, ↓ev_lconst, ↓ev_ldc, ↓ev_ldc_w, ↓ev_ldc2_w, ↓ev_aconst_null, ↓ev_iload, ↓ev_iload_n, ↓ev_lload, ↓ev_lload_n, ↓ev_aload, ↓ev_aload_n, ↓ev_istore, ↓ev_istore_n, ↓ev_lstore, ↓ev_lstore_n, ↓ev_astore, ↓ev_astore_n, ↓ev_iinc, ↓ev_iadd, ↓ev_isub, ↓ev_imul, ↓ev_iand, ↓ev_ixor, ↓ev_idiv, ↓ev_irem, ↓ev_ineg, ↓ev_i2l, ↓ev_i2b, ↓ev_l2i, ↓ev_ladd, ↓ev_lsub, ↓ev_lmul, ↓ev_land, ↓ev_lor, ↓ev_ldiv, ↓ev_lrem, ↓ev_lushr, ↓ev_lshl, ↓ev_lcmp, ↓ev_dup, ↓ev_pop, ↓ev_dup2, ↓ev_if_icmp, ↓ev_ifCond, ↓ev_goto, ↓ev_ifnull, ↓ev_ifnonnull, ↓ev_tableswitch, ↓ev_lookupswitch, ↓ev_getfield, ↓ev_putfield, ↓ev_getstatic, ↓ev_iaload, ↓ev_baload, ↓ev_laload, ↓ev_aaload, ↓ev_iastore, ↓ev_bastore, ↓ev_lastore, ↓ev_aastore, ↓ev_arraylength, ↓ev_new, ↓ev_newarray, ↓ev_anewarray, ↓ev_invokevirtual, ↓ev_invokestatic, ↓ev_invokespecial, ↓ev_ireturn, ↓ev_lreturn, ↓ev_areturn, ↓ev_ret, ↓ev_0, ↓ev_nil, ↓ev_cons, ↓ev_jp, ↓ev_pI, ↓ev_pII, ↓ev_pL, ↓ev_pLL, ↓ev_pIL, ↓ev_pR, ↓ev_pIR, ↓ev_pIIR, ↓ev_pLIR, ↓ev_pRIR, ↓ev_pop0, ↓ev_popS, ↓iv_eq, ↓iv_ne, ↓iv_lt, ↓iv_ge, ↓iv_gt, ↓iv_le, ↓ev_ldi0, ↓ev_ldiS, ↓ev_ldl0, ↓ev_ldlS, ↓ev_lda0, ↓ev_ldaN, ↓ev_ldaS, ↓ev_staR, ↓ev_staN, ↓ev_pfI, ↓ev_pfZ, ↓ev_pfL, ↓ev_pfR, ↓ev_kc, ↓ev_kcN, ↓inv, bk, sL, gf, tyI, tyIs, tyB, tyQ, tyN, nbk, ekd, elOk, isO, swl, vNat, vI, k1, st1, st2, ent, rtQ, va_rf, List.replicate, List.mem_cons, List.not_mem_nil, or_false, false_or, or_true, true_or, or_self, ↓reduceIte, Nat.reduceAdd, Nat.reduceEqDiff, true_and, and_true, reduceCtorEq, forall_const, false_implies, implies_true, true_implies, not_true_eq_false, not_false_eq_true, e00, e10, e01, e11, lg_eq0, lg_lt0, lg_le0, lg_gt0, lg_ge0, ite_u, Nat.reduceLeDiff, u2_ap, qe1, qe2, ↓reduceIte, Nat.reduceEqDiff, Nat.reduceAdd, Nat.reduceMul, z_cl, z_in, an0, an1, qn1, qn2, ne]
    try simp (disch := omega) only [z_rm, Nat.add_sub_cancel, Nat.add_one_sub_one, Nat.reduceEqDiff, pk_mul, nI_add, nI_1, pk_sub, pk_div, pk_rem, nI_ltI, nI_leI, nI_eq, z_cl, z_in, z_lt0, z_0le, z_eq0, z_le0, z_0lt, z_m1, z_i2l, z_l2i, z_ult, pk_lLT, pk_lLE, pk_lEQ, lN_add, lN_mul, lN_sub, true_and, and_true, forall_const, false_implies, implies_true, true_implies, not_true_eq_false, not_false_eq_true, Nat.not_lt, Nat.not_le]
    exact h I' J' (C.rd f) (fun y _ => ⟨f.1 y (by omega) (by omega), f.2.2 y (by omega)⟩)
  rw [hr] at h
  dsimp only at h
  rw [if_neg hz] at h
  obtain ⟨n, tk, op⟩ := r
  have C' := C.rd f
  have hq : MDQ Q (nI s.nm, xMsg s n tk) T I' J' R := fun I2 J2 c2 f2 => h I2 J2 c2 (fun y y1 => ⟨(f2 y y1).1.trans (f.1 y (by omega) (by omega)), (f2 y y1).2.trans (f.2.2 y (by omega))⟩)
  clear h
  obtain ⟨Mt, ⟨kk, Ms⟩, Mb, Mm, Mn⟩ := id C'
  have K3 : I' 24 2 = nI n := K1
  have okn : n ≤ 20 := okr.1
  have e5 := Mm.1
  try simp (disch := omega) only [↓ev_iconst, ↓ev_bipush, ↓ev_sipush, ↓ev_lconst, ↓ev_ldc, ↓ev_ldc_w, ↓ev_ldc2_w, ↓ev_aconst_null, ↓ev_iload, ↓ev_iload_n, ↓ev_lload, ↓ev_lload_n, ↓ev_aload, ↓ev_aload_n, ↓ev_istore, ↓ev_istore_n, ↓ev_lstore, ↓ev_lstore_n, ↓ev_astore, ↓ev_astore_n, ↓ev_iinc, ↓ev_iadd, ↓ev_isub, ↓ev_imul, ↓ev_iand, ↓ev_ixor, ↓ev_idiv, ↓ev_irem, ↓ev_ineg, ↓ev_i2l, ↓ev_i2b, ↓ev_l2i, ↓ev_ladd, ↓ev_lsub, ↓ev_lmul, ↓ev_land, ↓ev_lor, ↓ev_ldiv, ↓ev_lrem, ↓ev_lushr, ↓ev_lshl, ↓ev_lcmp, ↓ev_dup, ↓ev_pop, ↓ev_dup2, ↓ev_if_icmp, ↓ev_ifCond, ↓ev_goto, ↓ev_ifnull, ↓ev_ifnonnull, ↓ev_tableswitch, ↓ev_lookupswitch, ↓ev_getfield, ↓ev_putfield, ↓ev_getstatic, ↓ev_iaload, ↓ev_baload, ↓ev_laload, ↓ev_aaload, ↓ev_iastore, ↓ev_bastore, ↓ev_lastore, ↓ev_aastore, ↓ev_arraylength, ↓ev_new, ↓ev_newarray, ↓ev_anewarray, ↓ev_invokevirtual, ↓ev_invokestatic, ↓ev_invokespecial, ↓ev_ireturn, ↓ev_lreturn, ↓ev_areturn, ↓ev_ret, ↓ev_0, ↓ev_nil, ↓ev_cons, ↓ev_jp, ↓ev_pI, ↓ev_pII, ↓ev_pL, ↓ev_pLL, ↓ev_pIL, ↓ev_pR, ↓ev_pIR, ↓ev_pIIR, ↓ev_pLIR, ↓ev_pRIR, ↓ev_pop0, ↓ev_popS, ↓iv_eq, ↓iv_ne, ↓iv_lt, ↓iv_ge, ↓iv_gt, ↓iv_le, ↓ev_ldi0, ↓ev_ldiS, ↓ev_ldl0, ↓ev_ldlS, ↓ev_lda0, ↓ev_ldaN, ↓ev_ldaS, ↓ev_staR, ↓ev_staN, ↓ev_pfI, ↓ev_pfZ, ↓ev_pfL, ↓ev_pfR, ↓ev_kc, ↓ev_kcN, ↓inv, bk, sL, gf, tyI, tyIs, tyB, tyQ, tyN, nbk, ekd, elOk, isO, swl, vNat, vI, k1, st1, st2, ent, rtQ, va_rf, List.replicate, List.mem_cons, List.not_mem_nil, or_false, false_or, or_true, true_or, or_self, ↓reduceIte, Nat.reduceAdd, Nat.reduceEqDiff, true_and, and_true, reduceCtorEq, forall_const, false_implies, implies_true, true_implies, not_true_eq_false, not_false_eq_true, e00, e10, e01, e11, lg_eq0, lg_lt0, lg_le0, lg_gt0, lg_ge0, ite_u, Nat.reduceLeDiff, u2_ap, qe1, qe2, ↓reduceIte, Nat.reduceEqDiff, Nat.reduceAdd, Nat.reduceMul, z_cl, z_in, an0, an1, qn1, qn2, S.t24, S.t25, S.t28, S.t29, S.t31, S.t32, S.t33, S.t34, S.t35, S.t36, S.t37, S.t38, S.t39, S.t40, S.t41, S.t42, S.t43, S.t44, S.t46, S.t47, S.t48, S.t49, S.t50, S.t51, S.t52, S.t53, S.t55, S.t56, S.t57, S.t58, S.t64, S.t65, S.t66, S.t67, S.t68, S.t69, S.t70, S.t71, S.t72, S.t74, S.t75, S.t76, S.t77, S.t78, S.t79, S.t80, S.t81, S.t82, S.t83, S.t84, S.t85, S.t88, S.t89, S.t90, S.t91, S.t92, S.t93, S.r24_0, S.r24_3, S.r24_4, S.r24_6, S.r24_7, S.r24_8, S.r24_9, S.r24_10, S.r24_11, S.r24_12, S.r24_13, S.r24_14, S.r24_15, S.r24_16, S.r24_17, S.r24_18, S.r24_19, S.r24_21, S.r24_22, S.r24_23, S.r24_24, S.r24_25, S.r24_26, S.r24_27, S.r24_28, S.r24_30, S.r24_31, S.r24_32, S.r24_33, S.r24_39, S.r24_40, S.r24_41, S.r24_42, S.r24_43, S.r24_44, S.r24_45, S.r24_46, S.r24_47, S.r24_49, S.r24_50, S.r24_51, S.r24_52, S.r24_53, S.r24_54, S.r24_55, S.r24_56, S.r24_57, S.r24_58, S.r24_59, S.r24_60, S.r24_63, S.r24_64, S.r24_65, S.r24_66, S.r24_67, S.r24_68, e5, K3]
  try simp (disch := omega) only [z_rm, Nat.add_sub_cancel, Nat.add_one_sub_one, Nat.reduceEqDiff, pk_mul, nI_add, nI_1, pk_sub, pk_div, pk_rem, nI_ltI, nI_leI, nI_eq, z_cl, z_in, z_lt0, z_0le, z_eq0, z_le0, z_0lt, z_m1, z_i2l, z_l2i, z_ult, pk_lLT, pk_lLE, pk_lEQ, lN_add, lN_mul, lN_sub, true_and, and_true, forall_const, false_implies, implies_true, true_implies, not_true_eq_false, not_false_eq_true, Nat.not_lt, Nat.not_le]
  refine l_mmsg (n := n) (tk := tk) (I0 := u2 (u2 I' 24 5 (nI (s.nm + 1))) 31 s.nm (nI n)) (J0 := J') S (by omega) okn (by rw [u2_row (by omega), u2_ne (by omega)]; exact K3) (fun i hi => ⟨(K2 i hi).1, by rw [u2_row (by omega), u2_row (by omega)]; exact (K2 i hi).2⟩) (fun I2 J2 g1 g2 g3 x3 => ?_) n 0 _ _ (by omega) (fun j hj => absurd hj (Nat.not_lt_zero j)) (fun _ _ _ => rfl) (fun _ _ _ => rfl)
  refine AT.go okB169 0 rfl [] 90 103 ?_
  simp (disch := omega) only [B169, ↓ev_iconst, ↓ev_bipush, ↓ev_sipush, ↓ev_lconst, ↓ev_ldc, ↓ev_ldc_w, ↓ev_ldc2_w, ↓ev_aconst_null, ↓ev_iload, ↓ev_iload_n, ↓ev_lload, ↓ev_lload_n, ↓ev_aload, ↓ev_aload_n, ↓ev_istore, ↓ev_istore_n, ↓ev_lstore, ↓ev_lstore_n, ↓ev_astore, ↓ev_astore_n, ↓ev_iinc, ↓ev_iadd, ↓ev_isub, ↓ev_imul, ↓ev_iand, ↓ev_ixor, ↓ev_idiv, ↓ev_irem, ↓ev_ineg, ↓ev_i2l, ↓ev_i2b, ↓ev_l2i, ↓ev_ladd, ↓ev_lsub, ↓ev_lmul, ↓ev_land, ↓ev_lor, ↓ev_ldiv, ↓ev_lrem, ↓ev_lushr, ↓ev_lshl, ↓ev_lcmp, ↓ev_dup, ↓ev_pop, ↓ev_dup2, ↓ev_if_icmp, ↓ev_ifCond, ↓ev_goto, ↓ev_ifnull, ↓ev_ifnonnull, ↓ev_tableswitch, ↓ev_lookupswitch, ↓ev_getfield, ↓ev_putfield, ↓ev_getstatic, ↓ev_iaload, ↓ev_baload, ↓ev_laload, ↓ev_aaload, ↓ev_iastore, ↓ev_bastore, ↓ev_lastore, ↓ev_aastore, ↓ev_arraylength, ↓ev_new, ↓ev_newarray, ↓ev_anewarray, ↓ev_invokevirtual, ↓ev_invokestatic, ↓ev_invokespecial, ↓ev_ireturn, ↓ev_lreturn, ↓ev_areturn, ↓ev_ret, ↓ev_0, ↓ev_nil, ↓ev_cons, ↓ev_jp, ↓ev_pI, ↓ev_pII, ↓ev_pL, ↓ev_pLL, ↓ev_pIL, ↓ev_pR, ↓ev_pIR, ↓ev_pIIR, ↓ev_pLIR, ↓ev_pRIR, ↓ev_pop0, ↓ev_popS, ↓iv_eq, ↓iv_ne, ↓iv_lt, ↓iv_ge, ↓iv_gt, ↓iv_le, ↓ev_ldi0, ↓ev_ldiS, ↓ev_ldl0, ↓ev_ldlS, ↓ev_lda0, ↓ev_ldaN, ↓ev_ldaS, ↓ev_staR, ↓ev_staN, ↓ev_pfI, ↓ev_pfZ, ↓ev_pfL, ↓ev_pfR, ↓ev_kc, ↓ev_kcN, ↓inv, bk, sL, gf, tyI, tyIs, tyB, tyQ, tyN, nbk, ekd, elOk, isO, swl, vNat, vI, k1, st1, st2, ent, rtQ, va_rf, List.replicate, List.mem_cons, List.not_mem_nil, or_false, false_or, or_true, true_or, or_self, ↓reduceIte, Nat.reduceAdd, Nat.reduceEqDiff, true_and, and_true, reduceCtorEq, forall_const, false_implies, implies_true, true_implies, not_true_eq_false, not_false_eq_true, e00, e10, e01, e11, lg_eq0, lg_lt0, lg_le0, lg_gt0, lg_ge0, ite_u, Nat.reduceLeDiff, u2_ap, qe1, qe2, ↓reduceIte, Nat.reduceEqDiff, Nat.reduceAdd, Nat.reduceMul, z_cl, z_in, an0, an1, qn1, qn2, S.t24, S.t25, S.t28, S.t29, S.t31, S.t32, S.t33, S.t34, S.t35, S.t36, S.t37, S.t38, S.t39, S.t40, S.t41, S.t42, S.t43, S.t44, S.t46, S.t47, S.t48, S.t49, S.t50, S.t51, S.t52, S.t53, S.t55, S.t56, S.t57, S.t58, S.t64, S.t65, S.t66, S.t67, S.t68, S.t69, S.t70, S.t71, S.t72, S.t74, S.t75, S.t76, S.t77, S.t78, S.t79, S.t80, S.t81, S.t82, S.t83, S.t84, S.t85, S.t88, S.t89, S.t90, S.t91, S.t92, S.t93, S.r24_0, S.r24_3, S.r24_4, S.r24_6, S.r24_7, S.r24_8, S.r24_9, S.r24_10, S.r24_11, S.r24_12, S.r24_13, S.r24_14, S.r24_15, S.r24_16, S.r24_17, S.r24_18, S.r24_19, S.r24_21, S.r24_22, S.r24_23, S.r24_24, S.r24_25, S.r24_26, S.r24_27, S.r24_28, S.r24_30, S.r24_31, S.r24_32, S.r24_33, S.r24_39, S.r24_40, S.r24_41, S.r24_42, S.r24_43, S.r24_44, S.r24_45, S.r24_46, S.r24_47, S.r24_49, S.r24_50, S.r24_51, S.r24_52, S.r24_53, S.r24_54, S.r24_55, S.r24_56, S.r24_57, S.r24_58, S.r24_59, S.r24_60, S.r24_63, S.r24_64, S.r24_65, S.r24_66, S.r24_67, S.r24_68]
  try simp (disch := omega) only [z_rm, Nat.add_sub_cancel, Nat.add_one_sub_one, Nat.reduceEqDiff, pk_mul, nI_add, nI_1, pk_sub, pk_div, pk_rem, nI_ltI, nI_leI, nI_eq, z_cl, z_in, z_lt0, z_0le, z_eq0, z_le0, z_0lt, z_m1, z_i2l, z_l2i, z_ult, pk_lLT, pk_lLE, pk_lEQ, lN_add, lN_mul, lN_sub, true_and, and_true, forall_const, false_implies, implies_true, true_implies, not_true_eq_false, not_false_eq_true, Nat.not_lt, Nat.not_le]
  have hX : ∀ y k, ¬ (y = 24 ∧ (k = 1 ∨ k = 5)) → ¬ ((y = 31 ∨ y = 34 ∨ y = 35 ∨ y = 39 ∨ y = 41 ∨ y = 74 ∨ y = 75 ∨ y = 76 ∨ y = 77) ∧ k = s.nm) → ¬ (y = 33 ∧ 20 * s.nm ≤ k ∧ k < 20 * s.nm + 20) → u2 (u2 (u2 (u2 (u2 (u2 (u2 (u2 (u2 I2 34 s.nm (-9)) 35 s.nm (nI 0)) 39 s.nm (nI 0)) 41 s.nm (nI 0)) 74 s.nm (nI 0)) 77 s.nm (nI 0)) 76 s.nm (-9)) 75 s.nm (-9)) 24 1 (nI 0) y k = I' y k := fun y k a b c => by
    rw [u2_ne (by omega), u2_ne (by omega), u2_ne (by omega), u2_ne (by omega), u2_ne (by omega), u2_ne (by omega), u2_ne (by omega), u2_ne (by omega), u2_ne (by omega), g2 y k (by omega), u2_ne (by omega), u2_ne (by omega)]
  have h31 : u2 (u2 (u2 (u2 (u2 (u2 (u2 (u2 (u2 I2 34 s.nm (-9)) 35 s.nm (nI 0)) 39 s.nm (nI 0)) 41 s.nm (nI 0)) 74 s.nm (nI 0)) 77 s.nm (nI 0)) 76 s.nm (-9)) 75 s.nm (-9)) 24 1 (nI 0) 31 s.nm = nI n := by
    rw [u2_ne (by omega), u2_ne (by omega), u2_ne (by omega), u2_ne (by omega), u2_ne (by omega), u2_ne (by omega), u2_ne (by omega), u2_ne (by omega), u2_ne (by omega), g2 31 _ (by omega), u2_at]
  have h245 : u2 (u2 (u2 (u2 (u2 (u2 (u2 (u2 (u2 I2 34 s.nm (-9)) 35 s.nm (nI 0)) 39 s.nm (nI 0)) 41 s.nm (nI 0)) 74 s.nm (nI 0)) 77 s.nm (nI 0)) 76 s.nm (-9)) 75 s.nm (-9)) 24 1 (nI 0) 24 5 = nI (s.nm + 1) := by
    rw [u2_ne (by omega), u2_ne (by omega), u2_ne (by omega), u2_ne (by omega), u2_ne (by omega), u2_ne (by omega), u2_ne (by omega), u2_ne (by omega), u2_ne (by omega), g2 24 _ (by omega), u2_ne (by omega), u2_at]
  have h33 : ∀ i, i < n → u2 (u2 (u2 (u2 (u2 (u2 (u2 (u2 (u2 I2 34 s.nm (-9)) 35 s.nm (nI 0)) 39 s.nm (nI 0)) 41 s.nm (nI 0)) 74 s.nm (nI 0)) 77 s.nm (nI 0)) 76 s.nm (-9)) 75 s.nm (-9)) 24 1 (nI 0) 33 (20 * s.nm + i) = nI (tL (tk i)) := fun i hi => by
    rw [u2_ne (by omega), u2_ne (by omega), u2_ne (by omega), u2_ne (by omega), u2_ne (by omega), u2_ne (by omega), u2_ne (by omega), u2_ne (by omega), u2_ne (by omega), (g1 i hi).2]
  have hat : ∀ y v, (y = 34 ∧ v = (-9)) ∨ (y = 35 ∧ v = nI 0) ∨ (y = 39 ∧ v = nI 0) ∨ (y = 41 ∧ v = nI 0) ∨ (y = 74 ∧ v = nI 0) ∨ (y = 75 ∧ v = (-9)) ∨ (y = 76 ∧ v = (-9)) ∨ (y = 77 ∧ v = nI 0) → u2 (u2 (u2 (u2 (u2 (u2 (u2 (u2 (u2 I2 34 s.nm (-9)) 35 s.nm (nI 0)) 39 s.nm (nI 0)) 41 s.nm (nI 0)) 74 s.nm (nI 0)) 77 s.nm (nI 0)) 76 s.nm (-9)) 75 s.nm (-9)) 24 1 (nI 0) y s.nm = v := fun y v hy => by
    rcases hy with ⟨rfl, rfl⟩ | ⟨rfl, rfl⟩ | ⟨rfl, rfl⟩ | ⟨rfl, rfl⟩ | ⟨rfl, rfl⟩ | ⟨rfl, rfl⟩ | ⟨rfl, rfl⟩ | ⟨rfl, rfl⟩ <;> simp only [u2_ap, ↓reduceIte, Nat.reduceEqDiff]
  have h241 : u2 (u2 (u2 (u2 (u2 (u2 (u2 (u2 (u2 I2 34 s.nm (-9)) 35 s.nm (nI 0)) 39 s.nm (nI 0)) 41 s.nm (nI 0)) 74 s.nm (nI 0)) 77 s.nm (nI 0)) 76 s.nm (-9)) 75 s.nm (-9)) 24 1 (nI 0) 24 1 = nI 0 := u2_at _ _ _ _
  generalize u2 (u2 (u2 (u2 (u2 (u2 (u2 (u2 (u2 I2 34 s.nm (-9)) 35 s.nm (nI 0)) 39 s.nm (nI 0)) 41 s.nm (nI 0)) 74 s.nm (nI 0)) 77 s.nm (nI 0)) 76 s.nm (-9)) 75 s.nm (-9)) 24 1 (nI 0) = X at hX h31 h245 h33 hat h241 ⊢
  have hr : ∀ y, y ≠ 24 → y ≠ 31 → y ≠ 33 → y ≠ 34 → y ≠ 35 → y ≠ 39 → y ≠ 41 → y < 74 ∨ 77 < y → X y = I' y := fun y a b c d e f g i => funext fun k => hX y k (by omega) (by omega) (by omega)
  refine hq X J2 ⟨⟨h241, Nat.zero_le _, fun j hj => absurd hj (Nat.not_lt_zero j)⟩, ⟨kk, Ms.fr (hX 24 29 (by omega) (by omega) (by omega)) (hr 53 (by omega) (by omega) (by omega) (by omega) (by omega) (by omega) (by omega) (by omega))⟩, Mb.fr (hX 24 20 (by omega) (by omega) (by omega)) (fun y _ _ => hr y (by omega) (by omega) (by omega) (by omega) (by omega) (by omega) (by omega) (by omega)) (funext fun k => g3 51 k (by omega)), ⟨h245, fun m hm => ?_⟩, ?_⟩ (fun y y1 => ⟨hr y (by omega) (by omega) (by omega) (by omega) (by omega) (by omega) (by omega) (by omega), funext fun k => g3 y k (by omega)⟩)
  · have hm' : m < s.nm + 1 := hm
    show MMg _ _ _ (uF s.ms s.nm (n, tk, fmN0) m)
    by_cases e : m = s.nm
    · subst e
      rw [uF_at]
      refine ⟨h31, fun i hi => ⟨(g1 i hi).1, h33 i hi⟩, hat 34 _ (by simp; try rfl), hat 39 _ (by simp; try rfl), fun j hj => absurd hj (Nat.not_lt_zero j), hat 35 _ (by simp; try rfl), fun j hj => absurd hj (Nat.not_lt_zero j), hat 41 _ (by simp; try rfl), fun j hj => absurd hj (Nat.not_lt_zero j)⟩
    · rw [uF_ne e]
      have hm2 : m < s.nm := by omega
      have ok2 := (hok m hm2).2.1
      obtain ⟨a0, a1, b1, b2, b3, b4, b5, b6, b7⟩ := Mm.2 m hm2
      refine ⟨by rw [hX 31 m (by omega) (by omega) (by omega)]; exact a0, fun i hi => ⟨by rw [g3 32 _ (by omega)]; exact (a1 i hi).1, by rw [hX 33 _ (by omega) (by omega) (by omega)]; exact (a1 i hi).2⟩, by rw [hX 34 m (by omega) (by omega) (by omega)]; exact b1, by rw [hX 39 m (by omega) (by omega) (by omega)]; exact b2, fun j hj => by rw [hX 40 _ (by omega) (by omega) (by omega)]; exact b3 j hj, by rw [hX 35 m (by omega) (by omega) (by omega)]; exact b4, fun i hi => ?_, by rw [hX 41 m (by omega) (by omega) (by omega)]; exact b6, fun i hi => ?_⟩
      · rw [hX 36 _ (by omega) (by omega) (by omega), hX 37 _ (by omega) (by omega) (by omega), hX 38 _ (by omega) (by omega) (by omega)]
        exact b5 i hi
      · rw [hX 42 _ (by omega) (by omega) (by omega), hX 43 _ (by omega) (by omega) (by omega), hX 44 _ (by omega) (by omega) (by omega)]
        exact b7 i hi
  · obtain ⟨a0, a1, a2, a3, a4, a5, a6, a7, a8⟩ := Mn
    have hr' : ∀ y, 64 ≤ y → y < 74 ∨ 77 < y → X y = I' y := fun y y1 y2 => hr y (by omega) (by omega) (by omega) (by omega) (by omega) (by omega) (by omega) y2
    refine ⟨by rw [hX 24 37 (by omega) (by omega) (by omega)]; exact a0, ?_, by rw [hX 24 38 (by omega) (by omega) (by omega)]; exact a2, ?_, fun w hw => ⟨by rw [hr' 70 (by omega) (by omega)]; exact (a4 w hw).1, fun m hm hm2 => ?_⟩, fun m hm => ?_, by rw [hX 24 48 (by omega) (by omega) (by omega)]; exact a6, by rw [hX 24 61 (by omega) (by omega) (by omega)]; exact a7, by rw [hX 24 62 (by omega) (by omega) (by omega)]; exact a8⟩
    · rw [hr' 88 (by omega) (by omega), hr' 89 (by omega) (by omega), hr' 90 (by omega) (by omega), hr' 91 (by omega) (by omega)]
      exact a1
    · rw [hr' 64 (by omega) (by omega), hr' 65 (by omega) (by omega), hr' 66 (by omega) (by omega), hr' 67 (by omega) (by omega), hr' 68 (by omega) (by omega), hr' 69 (by omega) (by omega)]
      exact a3
    · have hw' : w < 2 * s.nt.nl := hw
      have e := (hN.run hw' (by omega) hm).1
      show _ ∧ X 72 w = nI (uF s.nt.jy s.nt.jn jsN0 m).dm.toNat
      rw [uF_ne (by omega), hr' 71 (by omega) (by omega), hr' 72 (by omega) (by omega)]
      exact (a4 w hw).2 m hm hm2
    · have hm' : m < s.nt.jn + 1 := hm
      show X 74 m = nI (uF s.nt.jy s.nt.jn jsN0 m).hw ∧ X 75 m = (uF s.nt.jy s.nt.jn jsN0 m).at9 ∧ X 76 m = (uF s.nt.jy s.nt.jn jsN0 m).ca ∧ X 77 m = (uF s.nt.jy s.nt.jn jsN0 m).ls ∧ ((uF s.nt.jy s.nt.jn jsN0 m).hw ≠ 0 → _)
      by_cases e : m = s.nt.jn
      · subst e
        rw [uF_at, hjn]
        exact ⟨hat 74 _ (by simp; try rfl), hat 75 _ (by simp; try rfl), hat 76 _ (by simp; try rfl), hat 77 _ (by simp; try rfl), fun z => absurd rfl z⟩
      · show _ ∧ _ ∧ _ ∧ _ ∧ ((uF s.nt.jy s.nt.jn jsN0 m).hw ≠ 0 → X 78 m = nI (uF s.nt.jy s.nt.jn jsN0 m).pr ∧ X 79 m = nI (uF s.nt.jy s.nt.jn jsN0 m).tu ∧ X 80 m = nI ((uF s.nt.jy s.nt.jn jsN0 m).pS 0) ∧ X 81 m = nI ((uF s.nt.jy s.nt.jn jsN0 m).pS (uF s.nt.jy s.nt.jn jsN0 m).pm) ∧ X 82 m = nI (uF s.nt.jy s.nt.jn jsN0 m).st ∧ X 83 m = nI (uF s.nt.jy s.nt.jn jsN0 m).pm ∧ ∀ i, i < (uF s.nt.jy s.nt.jn jsN0 m).pm → X 84 (8 * m + i) = nI ((uF s.nt.jy s.nt.jn jsN0 m).pS (i + 1)) ∧ X 85 (8 * m + i) = nI ((uF s.nt.jy s.nt.jn jsN0 m).pL i))
        rw [uF_ne e, hX 74 m (by omega) (by omega) (by omega), hX 75 m (by omega) (by omega) (by omega), hX 76 m (by omega) (by omega) (by omega), hX 77 m (by omega) (by omega) (by omega), hr' 78 (by omega) (by omega), hr' 79 (by omega) (by omega), hr' 80 (by omega) (by omega), hr' 81 (by omega) (by omega), hr' 82 (by omega) (by omega), hr' 83 (by omega) (by omega), hr' 84 (by omega) (by omega), hr' 85 (by omega) (by omega)]
        exact a5 m (by omega)
end MESSAGE
