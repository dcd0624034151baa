/-! THE TABLE of the best ways, from the end on: groups, parts, cover, phrase + 1 -/
abbrev Cl9 : Type := Nat × Nat × Nat × Nat
abbrev Cl9.g (x : Cl9) : Nat := x.1
abbrev Cl9.q (x : Cl9) : Nat := x.2.1
abbrev Cl9.c (x : Cl9) : Nat := x.2.2.1
abbrev Cl9.z (x : Cl9) : Nat := x.2.2.2
def zI9 (z : Nat) : Int32 := if z = 0 then (-9) else nI (z - 1)
def bett (x : Cl9) (g q w : Nat) : Prop := g < x.g ∨ (g = x.g ∧ (q < x.q ∨ (q = x.q ∧ x.c ≤ w)))
abbrev cand (ph : Nat → List (List Nat)) (D : Nat → Cl9) (i p : Nat) : Cl9 := (1 + (D (i + (ph p).length)).g, 1 + (D (i + (ph p).length)).q, (ph p).length, p + 1)
noncomputable def inC (tk : Nat → Tok) (n : Nat) (ph : Nat → List (List Nat)) (D : Nat → Cl9) (i : Nat) : Nat → Cl9
  | 0 => (gF (tk i) + (D (i + 1)).g, 1 + (D (i + 1)).q, 1, 0)
  | p + 1 => cif (stA tk n i (ph p) ∧ bett (inC tk n ph D i p) (cand ph D i p).g (cand ph D i p).q (cand ph D i p).c) (cand ph D i p) (inC tk n ph D i p)
noncomputable def dpT (tk : Nat → Tok) (n pn : Nat) (ph : Nat → List (List Nat)) : Nat → Nat → Cl9
  | 0 => fun _ => (0, 0, 0, 0)
  | k + 1 => uF (dpT tk n pn ph k) (n - (k + 1)) (inC tk n ph (dpT tk n pn ph k) (n - (k + 1)) pn)
def okC (tk : Nat → Tok) (n pn : Nat) (ph : Nat → List (List Nat)) (D : Nat → Cl9) (i : Nat) (x : Cl9) : Prop := 1 ≤ x.c ∧ i + x.c ≤ n ∧ x.z ≤ pn ∧ x.q = 1 + (D (i + x.c)).q ∧ x.g = (if x.z = 0 then gF (tk i) else 1) + (D (i + x.c)).g ∧ (x.z = 0 → x.c = 1) ∧ (x.z ≠ 0 → stA tk n i (ph (x.z - 1)) ∧ x.c = (ph (x.z - 1)).length) ∧ 1 ≤ x.g ∧ x.g ≤ 4 * (n - i) ∧ x.q ≤ n - i
def okD (tk : Nat → Tok) (n pn : Nat) (ph : Nat → List (List Nat)) (D : Nat → Cl9) (lo : Nat) : Prop := (D n).g = 0 ∧ (D n).q = 0 ∧ ∀ i, lo ≤ i → i < n → okC tk n pn ph D i (D i)
section TABLE
variable {tk : Nat → Tok} {n pn : Nat} {ph : Nat → List (List Nat)} {D : Nat → Cl9}
theorem okD.le {lo i : Nat} (h : okD tk n pn ph D lo) (h1 : lo ≤ i) (h2 : i ≤ n) : (D i).g ≤ 4 * (n - i) ∧ (D i).q ≤ n - i := by
  rcases Nat.lt_or_ge i n with q | q
  · have := h.2.2 i h1 q
    exact ⟨this.2.2.2.2.2.2.2.2.1, this.2.2.2.2.2.2.2.2.2⟩
  · obtain rfl : i = n := by omega
    rw [h.1, h.2.1]
    omega
theorem inC_ok (ht : ∀ i, i < n → okT (tk i)) (hp : ∀ p, p < pn → 1 ≤ (ph p).length) {i : Nat} (hi : i < n) (ok : okD tk n pn ph D (i + 1)) : ∀ p, p ≤ pn → okC tk n p ph D i (inC tk n ph D i p)
  | 0, _ => by
    have h1 := gF_le (ht i hi)
    have h2 := ok.le (i := i + 1) (Nat.le_refl _) (by omega)
    unfold inC
    refine ⟨Nat.le_refl _, (show i + 1 ≤ n by omega), Nat.le_refl _, rfl, ?_, fun _ => rfl, fun z => absurd rfl z, ?_, ?_, ?_⟩
    · show _ = (if 0 = 0 then gF (tk i) else 1) + _
      rw [if_pos rfl]
    · show 1 ≤ gF (tk i) + (D (i + 1)).g
      omega
    · show gF (tk i) + (D (i + 1)).g ≤ _
      omega
    · show 1 + (D (i + 1)).q ≤ _
      omega
  | p + 1, hpn => by
    have ih := inC_ok ht hp hi ok p (by omega)
    unfold inC
    by_cases q : stA tk n i (ph p) ∧ bett (inC tk n ph D i p) (cand ph D i p).g (cand ph D i p).q (cand ph D i p).c
    · rw [cif_pos q]
      have h3 := hp p (by omega)
      have h4 := q.1.1
      have h2 := ok.le (i := i + (ph p).length) (by omega) (by omega)
      refine ⟨h3, h4, Nat.le_refl _, rfl, ?_, fun z => absurd z (Nat.succ_ne_zero p), fun _ => ⟨q.1, rfl⟩, ?_, ?_, ?_⟩
      · show _ = (if p + 1 = 0 then gF (tk i) else 1) + _
        rw [if_neg (by omega)]
      · show 1 ≤ 1 + (D (i + (ph p).length)).g
        omega
      · show 1 + (D (i + (ph p).length)).g ≤ _
        omega
      · show 1 + (D (i + (ph p).length)).q ≤ _
        omega
    · rw [cif_neg q]
      obtain ⟨a1, a2, a3, a4⟩ := ih
      exact ⟨a1, a2, by omega, a4⟩
theorem okD.up {i : Nat} {x : Cl9} (hi : i < n) (ok : okD tk n pn ph D (i + 1)) (hx : okC tk n pn ph D i x) : okD tk n pn ph (uF D i x) i := by
  refine ⟨by rw [uF_ne (by omega)]; exact ok.1, by rw [uF_ne (by omega)]; exact ok.2.1, fun j hj hj2 => ?_⟩
  rcases Nat.lt_or_ge i j with q | q
  · have h := ok.2.2 j (by omega) hj2
    rw [uF_ne (by omega)]
    unfold okC at h ⊢
    rw [uF_ne (by omega)]
    exact h
  · obtain rfl : j = i := by omega
    rw [uF_at]
    have h1 := hx.1
    unfold okC at hx ⊢
    rw [uF_ne (by omega)]
    exact hx
theorem dpT_ok (ht : ∀ i, i < n → okT (tk i)) (hp : ∀ p, p < pn → 1 ≤ (ph p).length) : ∀ k, k ≤ n → okD tk n pn ph (dpT tk n pn ph k) (n - k)
  | 0, _ => ⟨rfl, rfl, fun i h1 h2 => by omega⟩
  | k + 1, hk => by
    have ih := dpT_ok ht hp k (by omega)
    rw [show n - k = n - (k + 1) + 1 by omega] at ih
    exact okD.up (by omega) ih (inC_ok ht hp (by omega) ih pn (Nat.le_refl _))
end TABLE
/-- rows of the memory that hold a table from lo on -/
def TB (I : MIy) (r0 r1 r2 r3 : Nat) (D : Nat → Cl9) (lo n : Nat) : Prop := (∀ j, lo ≤ j → j ≤ n → I r0 j = nI (D j).g ∧ I r1 j = nI (D j).q) ∧ ∀ j, lo ≤ j → j < n → I r2 j = nI (D j).c ∧ I r3 j = zI9 (D j).z
def CA9 (I : MIy) (r0 r1 r2 r3 i : Nat) (x : Cl9) : Prop := I r0 i = nI x.g ∧ I r1 i = nI x.q ∧ I r2 i = nI x.c ∧ I r3 i = zI9 x.z
theorem TB.up {I : MIy} {r0 r1 r2 r3 i n : Nat} {D : Nat → Cl9} {x : Cl9} (hi : i < n) (h : TB I r0 r1 r2 r3 D (i + 1) n) (hx : CA9 I r0 r1 r2 r3 i x) : TB I r0 r1 r2 r3 (uF D i x) i n := by
  refine ⟨fun j h1 h2 => ?_, fun j h1 h2 => ?_⟩
  · rcases Nat.lt_or_ge i j with q | q
    · rw [uF_ne (by omega)]
      exact h.1 j (by omega) h2
    · obtain rfl : j = i := by omega
      rw [uF_at]
      exact ⟨hx.1, hx.2.1⟩
  · rcases Nat.lt_or_ge i j with q | q
    · rw [uF_ne (by omega)]
      exact h.2 j (by omega) h2
    · obtain rfl : j = i := by omega
      rw [uF_at]
      exact ⟨hx.2.2.1, hx.2.2.2⟩
theorem TB.fr {I I' : MIy} {r0 r1 r2 r3 lo n : Nat} {D : Nat → Cl9} (h : TB I r0 r1 r2 r3 D lo n) (e0 : ∀ j, lo ≤ j → I' r0 j = I r0 j) (e1 : ∀ j, lo ≤ j → I' r1 j = I r1 j) (e2 : ∀ j, lo ≤ j → I' r2 j = I r2 j) (e3 : ∀ j, lo ≤ j → I' r3 j = I r3 j) : TB I' r0 r1 r2 r3 D lo n :=
  ⟨fun j h1 h2 => by rw [e0 j h1, e1 j h1]; exact h.1 j h1 h2, fun j h1 h2 => by rw [e2 j h1, e3 j h1]; exact h.2 j h1 h2⟩
/-- one less, as a loop downward has it -/
def dnI : Nat → Int32
  | 0 => (-1)
  | j + 1 => nI j
theorem dn_eq (j : Nat) : nI j + (-1) = dnI j := by
  cases j with
  | zero => exact z_m0
  | succ j => exact z_m1 (Nat.succ_pos j)
section WEIGH
variable {G : GGy} {T : TTy} {I : MIy} {J : MJy} {R : MRy} {Q : QQy}
set_option maxRecDepth 100000 in
theorem c_take {i w g q own : Nat} {x : Int32} (S : SH T R) (hw : i + w < 21) (h11 : I 11 (i + w) = nI g) (h12 : I 12 (i + w) = nI q) (h : Q none T (u2 (u2 (u2 (u2 I 11 i (nI (own + g))) 12 i (nI (1 + q))) 13 i (nI w)) 14 i x) J R) : Run G 12 [.ref 10, .int (nI i), .int (nI w), .int x, .int (nI own)] T I J R Q := by
  refine Run.body (by decide) 0 (Nat.le_of_ble_eq_true rfl) (AT.go okB12 4 rfl [] 90 0 ?_)
  simp (disch := omega) only [B12, ↓ev_iconst, ↓ev_bipush, ↓ev_sipush, ↓ev_lconst, ↓ev_ldc, ↓ev_ldc_w, ↓ev_ldc2_w, ↓ev_aconst_null, ↓ev_iload, ↓ev_iload_n, ↓ev_lload, ↓ev_lload_n, ↓ev_aload, ↓ev_aload_n, ↓ev_istore, ↓ev_istore_n, ↓ev_lstore, ↓ev_lstore_n, ↓ev_astore, ↓ev_astore_n, ↓ev_iinc, ↓ev_iadd, ↓ev_isub, ↓ev_imul, ↓ev_iand, ↓ev_ixor, ↓ev_idiv, ↓ev_irem, ↓ev_ineg, ↓ev_i2l, ↓ev_i2b, ↓ev_l2i, ↓ev_ladd, ↓ev_lsub, ↓ev_lmul, ↓ev_land, ↓ev_lor, ↓ev_ldiv, ↓ev_lrem, ↓ev_lushr, ↓ev_lshl, ↓ev_lcmp, ↓ev_dup, ↓ev_pop, ↓ev_dup2, ↓ev_if_icmp, ↓ev_ifCond, ↓ev_goto, ↓ev_ifnull, ↓ev_ifnonnull, ↓ev_tableswitch, ↓ev_lookupswitch, ↓ev_getfield, ↓ev_putfield, ↓ev_getstatic, ↓ev_iaload, ↓ev_baload, ↓ev_laload, ↓ev_aaload, ↓ev_iastore, ↓ev_bastore, ↓ev_lastore, ↓ev_aastore, ↓ev_arraylength, ↓ev_new, ↓ev_newarray, ↓ev_anewarray, ↓ev_invokevirtual, ↓ev_invokestatic, ↓ev_invokespecial, ↓ev_ireturn, ↓ev_lreturn, ↓ev_areturn, ↓ev_ret, ↓ev_0, ↓ev_nil, ↓ev_cons, ↓ev_jp, ↓ev_pI, ↓ev_pII, ↓ev_pL, ↓ev_pLL, ↓ev_pIL, ↓ev_pR, ↓ev_pIR, ↓ev_pIIR, ↓ev_pLIR, ↓ev_pRIR, ↓ev_pop0, ↓ev_popS, ↓iv_eq, ↓iv_ne, ↓iv_lt, ↓iv_ge, ↓iv_gt, ↓iv_le, ↓ev_ldi0, ↓ev_ldiS, ↓ev_ldl0, ↓ev_ldlS, ↓ev_lda0, ↓ev_ldaN, ↓ev_ldaS, ↓ev_staR, ↓ev_staN, ↓ev_pfI, ↓ev_pfZ, ↓ev_pfL, ↓ev_pfR, ↓ev_kc, ↓ev_kcN, ↓inv, bk, sL, gf, tyI, tyIs, tyB, tyQ, tyN, nbk, ekd, elOk, isO, swl, vNat, vI, k1, st1, st2, ent, rtQ, va_rf, List.replicate, List.mem_cons, List.not_mem_nil, or_false, false_or, or_true, true_or, or_self, ↓reduceIte, Nat.reduceAdd, Nat.reduceEqDiff, true_and, and_true, reduceCtorEq, forall_const, false_implies, implies_true, true_implies, not_true_eq_false, not_false_eq_true, e00, e10, e01, e11, lg_eq0, lg_lt0, lg_le0, lg_gt0, lg_ge0, ite_u, Nat.reduceLeDiff, u2_ap, qe1, qe2, ↓reduceIte, Nat.reduceEqDiff, Nat.reduceAdd, Nat.reduceMul, z_cl, z_in, an0, an1, qn1, qn2, Int.cast_ofNat_Int, Int.reduceAdd, Int.reduceToNat, Int.reduceLT, Int.reduceLE, Int.reduceEq, Int.reduceSub, Int.zero_le_ofNat, Int.zero_add, List.length_cons, List.length_nil, Nat.zero_add, Op.lookupswitch.offset, S.t0, S.t2, S.t3, S.t4, S.t5, S.t6, S.t7, S.t8, S.t9, S.t10, S.t11, S.t12, S.t13, S.t14, S.t15, S.t16, S.t17, S.t18, S.t19, S.t20, S.t21, S.t22, S.t23, S.r2_0, S.r2_1, S.r2_2, S.r2_4, S.r2_6, S.r2_7, S.r2_8, S.r3_0, S.r3_2, S.r6_0, S.r10_0, S.r10_1, S.r10_2, S.r10_3, S.r16_1, S.r16_2, S.r16_4, S.r16_6, S.r16_7, S.r21_0, S.r21_1, nI_add, h11, h12]
  try simp (disch := omega) only [z_rm, Nat.add_sub_cancel, Nat.add_one_sub_one, Nat.reduceEqDiff, pk_mul, nI_add, nI_1, pk_sub, pk_div, pk_rem, nI_ltI, nI_leI, nI_eq, z_cl, z_in, z_lt0, z_0le, z_eq0, z_le0, z_0lt, z_m1, z_i2l, z_l2i, z_ult, pk_lLT, pk_lLE, pk_lEQ, lN_add, lN_mul, lN_sub, true_and, and_true, forall_const, false_implies, implies_true, true_implies, not_true_eq_false, not_false_eq_true, Nat.not_lt, Nat.not_le]
  exact h
set_option maxRecDepth 100000 in
theorem c_isBetter {i w g q : Nat} {x : Cl9} (S : SH T R) (hw : i + w < 21) (C : CA9 I 11 12 13 14 i x) (h11 : I 11 (i + w) = nI g) (h12 : I 12 (i + w) = nI q) (bg : g ≤ 80) (bq : q ≤ 80) (xg : x.g ≤ 80) (xq : x.q ≤ 80) (xc : x.c ≤ 80) (h1 : bett x (1 + g) (1 + q) w → Q (some (.int (nI 1))) T I J R) (h0 : ¬ bett x (1 + g) (1 + q) w → Q (some (.int (nI 0))) T I J R) : Run G 13 [.ref 10, .int (nI i), .int (nI w)] T I J R Q := by
  obtain ⟨a0, a1, a2, a3⟩ := C
  unfold bett at h1 h0
  refine Run.body (by decide) 2 (Nat.le_of_ble_eq_true rfl) (AT.go okB13 1 rfl [] 90 0 ?_)
  simp (disch := omega) only [B13, ↓ev_iconst, ↓ev_bipush, ↓ev_sipush, ↓ev_lconst, ↓ev_ldc, ↓ev_ldc_w, ↓ev_ldc2_w, ↓ev_aconst_null, ↓ev_iload, ↓ev_iload_n, ↓ev_lload, ↓ev_lload_n, ↓ev_aload, ↓ev_aload_n, ↓ev_istore, ↓ev_istore_n, ↓ev_lstore, ↓ev_lstore_n, ↓ev_astore, ↓ev_astore_n, ↓ev_iinc, ↓ev_iadd, ↓ev_isub, ↓ev_imul, ↓ev_iand, ↓ev_ixor, ↓ev_idiv, ↓ev_irem, ↓ev_ineg, ↓ev_i2l, ↓ev_i2b, ↓ev_l2i, ↓ev_ladd, ↓ev_lsub, ↓ev_lmul, ↓ev_land, ↓ev_lor, ↓ev_ldiv, ↓ev_lrem, ↓ev_lushr, ↓ev_lshl, ↓ev_lcmp, ↓ev_dup, ↓ev_pop, ↓ev_dup2, ↓ev_if_icmp, ↓ev_ifCond, ↓ev_goto, ↓ev_ifnull, ↓ev_ifnonnull, ↓ev_tableswitch, ↓ev_lookupswitch, ↓ev_getfield, ↓ev_putfield, ↓ev_getstatic, ↓ev_iaload, ↓ev_baload, ↓ev_laload, ↓ev_aaload, ↓ev_iastore, ↓ev_bastore, ↓ev_lastore, ↓ev_aastore, ↓ev_arraylength, ↓ev_new, ↓ev_newarray, ↓ev_anewarray, ↓ev_invokevirtual, ↓ev_invokestatic, ↓ev_invokespecial, ↓ev_ireturn, ↓ev_lreturn, ↓ev_areturn, ↓ev_ret, ↓ev_0, ↓ev_nil, ↓ev_cons, ↓ev_jp, ↓ev_pI, ↓ev_pII, ↓ev_pL, ↓ev_pLL, ↓ev_pIL, ↓ev_pR, ↓ev_pIR, ↓ev_pIIR, ↓ev_pLIR, ↓ev_pRIR, ↓ev_pop0, ↓ev_popS, ↓iv_eq, ↓iv_ne, ↓iv_lt, ↓iv_ge, ↓iv_gt, ↓iv_le, ↓ev_ldi0, ↓ev_ldiS, ↓ev_ldl0, ↓ev_ldlS, ↓ev_lda0, ↓ev_ldaN, ↓ev_ldaS, ↓ev_staR, ↓ev_staN, ↓ev_pfI, ↓ev_pfZ, ↓ev_pfL, ↓ev_pfR, ↓ev_kc, ↓ev_kcN, ↓inv, bk, sL, gf, tyI, tyIs, tyB, tyQ, tyN, nbk, ekd, elOk, isO, swl, vNat, vI, k1, st1, st2, ent, rtQ, va_rf, List.replicate, List.mem_cons, List.not_mem_nil, or_false, false_or, or_true, true_or, or_self, ↓reduceIte, Nat.reduceAdd, Nat.reduceEqDiff, true_and, and_true, reduceCtorEq, forall_const, false_implies, implies_true, true_implies, not_true_eq_false, not_false_eq_true, e00, e10, e01, e11, lg_eq0, lg_lt0, lg_le0, lg_gt0, lg_ge0, ite_u, Nat.reduceLeDiff, u2_ap, qe1, qe2, ↓reduceIte, Nat.reduceEqDiff, Nat.reduceAdd, Nat.reduceMul, z_cl, z_in, an0, an1, qn1, qn2, Int.cast_ofNat_Int, Int.reduceAdd, Int.reduceToNat, Int.reduceLT, Int.reduceLE, Int.reduceEq, Int.reduceSub, Int.zero_le_ofNat, Int.zero_add, List.length_cons, List.length_nil, Nat.zero_add, Op.lookupswitch.offset, S.t0, S.t2, S.t3, S.t4, S.t5, S.t6, S.t7, S.t8, S.t9, S.t10, S.t11, S.t12, S.t13, S.t14, S.t15, S.t16, S.t17, S.t18, S.t19, S.t20, S.t21, S.t22, S.t23, S.r2_0, S.r2_1, S.r2_2, S.r2_4, S.r2_6, S.r2_7, S.r2_8, S.r3_0, S.r3_2, S.r6_0, S.r10_0, S.r10_1, S.r10_2, S.r10_3, S.r16_1, S.r16_2, S.r16_4, S.r16_6, S.r16_7, S.r21_0, S.r21_1, nI_add, h11, h12, a0, a1, a2]
  try simp (disch := omega) only [z_rm, Nat.add_sub_cancel, Nat.add_one_sub_one, Nat.reduceEqDiff, pk_mul, nI_add, nI_1, pk_sub, pk_div, pk_rem, nI_ltI, nI_leI, nI_eq, z_cl, z_in, z_lt0, z_0le, z_eq0, z_le0, z_0lt, z_m1, z_i2l, z_l2i, z_ult, pk_lLT, pk_lLE, pk_lEQ, lN_add, lN_mul, lN_sub, true_and, and_true, forall_const, false_implies, implies_true, true_implies, not_true_eq_false, not_false_eq_true, Nat.not_lt, Nat.not_le]
  exact ⟨fun a => ⟨fun b => ⟨fun c => h0 (by omega), fun c => h1 (by omega)⟩, fun b => ⟨fun c => h0 (by omega), fun c => h1 (by omega)⟩⟩, fun a => ⟨fun c => h0 (by omega), fun c => h1 (by omega)⟩⟩
end WEIGH
