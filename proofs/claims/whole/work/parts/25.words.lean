/-! WORDS: letters packed in a long, base 32 (the house) and base 27 (the model) -/
/-- the letters l (0 .. 25), the first one highest, each one more than its number -/
def pk (b : Nat) (l : List Nat) : Nat := l.foldl (fun w x => w * b + (x + 1)) 0
def okW (l : List Nat) : Prop := (∀ x ∈ l, x < 26) ∧ 1 ≤ l.length ∧ l.length ≤ 12
theorem pk_snoc (b : Nat) (l : List Nat) (x : Nat) : pk b (l ++ [x]) = pk b l * b + (x + 1) := by
  unfold pk
  rw [List.foldl_append]
  rfl
theorem pk_bounds {b : Nat} (hb : 27 ≤ b) : ∀ (n : Nat) (l : List Nat), l.length = n → (∀ x ∈ l, x < 26) → pk b l < b ^ n ∧ (n ≠ 0 → b ^ (n - 1) ≤ pk b l)
  | 0, l, h, _ => by
    have : l = [] := List.length_eq_zero_iff.mp h
    subst this
    exact ⟨Nat.zero_lt_one, fun q => absurd rfl q⟩
  | n + 1, l, h, hx => by
    have hne : l ≠ [] := fun q => by rw [q] at h; cases h
    obtain ⟨l', x, rfl⟩ : ∃ l' x, l = l' ++ [x] := ⟨l.dropLast, l.getLast hne, (List.dropLast_concat_getLast hne).symm⟩
    have hl : l'.length = n := by simpa using h
    have ih := pk_bounds hb n l' hl (fun y hy => hx y (List.mem_append_left _ hy))
    have h26 := hx x (List.mem_append_right _ List.mem_cons_self)
    rw [pk_snoc]
    have e : b ^ (n + 1) = b ^ n * b := Nat.pow_succ ..
    refine ⟨?_, fun _ => ?_⟩
    · rw [e]
      have : (pk b l' + 1) * b ≤ b ^ n * b := Nat.mul_le_mul_right b ih.1
      rw [Nat.succ_mul] at this
      omega
    · show b ^ n ≤ _
      match n, hl, ih with
      | 0, hl, ih => simp; omega
      | n + 1, hl, ih =>
        have h3 := ih.2 (by omega)
        have e2 : b ^ (n + 1) = b ^ n * b := Nat.pow_succ ..
        have : b ^ n * b ≤ pk b l' * b := Nat.mul_le_mul_right b h3
        omega
theorem pk_inj {b : Nat} (hb : 27 ≤ b) : ∀ (n : Nat) (l m : List Nat), l.length = n → (∀ x ∈ l, x < 26) → (∀ x ∈ m, x < 26) → pk b l = pk b m → l = m
  | 0, l, m, hl, _, hm, e => by
    have : l = [] := List.length_eq_zero_iff.mp hl
    subst this
    cases hlm : m with
    | nil => rfl
    | cons y m' =>
      rw [hlm] at e hm
      have h := (pk_bounds hb (m'.length + 1) (y :: m') rfl hm).2 (by omega)
      have : 0 < b ^ (m'.length + 1 - 1) := Nat.pow_pos (by omega)
      rw [← e] at h
      have : pk b [] = 0 := rfl
      omega
  | n + 1, l, m, hl, hx, hm, e => by
    have hne : l ≠ [] := fun q => by rw [q] at hl; cases hl
    obtain ⟨l', x, rfl⟩ : ∃ l' x, l = l' ++ [x] := ⟨l.dropLast, l.getLast hne, (List.dropLast_concat_getLast hne).symm⟩
    have hne2 : m ≠ [] := fun q => by
      rw [q, pk_snoc] at e
      have : pk b [] = 0 := rfl
      omega
    obtain ⟨m', y, rfl⟩ : ∃ l' x, m = l' ++ [x] := ⟨m.dropLast, m.getLast hne2, (List.dropLast_concat_getLast hne2).symm⟩
    have h1 := hx x (List.mem_append_right _ List.mem_cons_self)
    have h2 := hm y (List.mem_append_right _ List.mem_cons_self)
    rw [pk_snoc, pk_snoc] at e
    have e1 : (pk b l' * b + (x + 1)) % b = x + 1 := by rw [Nat.mul_add_mod_self_right, Nat.mod_eq_of_lt (by omega)]
    have e2 : (pk b m' * b + (y + 1)) % b = y + 1 := by rw [Nat.mul_add_mod_self_right, Nat.mod_eq_of_lt (by omega)]
    rw [e] at e1
    have exy : x = y := by omega
    subst exy
    have e3 : pk b l' * b = pk b m' * b := by omega
    have e4 : pk b l' = pk b m' := Nat.eq_of_mul_eq_mul_right (by omega) e3
    rw [pk_inj hb n l' m' (by simpa using hl) (fun z hz => hx z (List.mem_append_left _ hz)) (fun z hz => hm z (List.mem_append_left _ hz)) e4]
theorem pk_drop {b : Nat} (hb : 27 ≤ b) : ∀ (k : Nat) (l : List Nat), (∀ x ∈ l, x < 26) → k ≤ l.length → pk b l / b ^ k = pk b (l.take (l.length - k))
  | 0, l, _, _ => by simp
  | k + 1, l, hx, hk => by
    have hne : l ≠ [] := fun q => by rw [q] at hk; simp at hk
    obtain ⟨l', x, rfl⟩ : ∃ l' x, l = l' ++ [x] := ⟨l.dropLast, l.getLast hne, (List.dropLast_concat_getLast hne).symm⟩
    have h26 := hx x (List.mem_append_right _ List.mem_cons_self)
    have hk2 : k ≤ l'.length := by simpa using hk
    have e : b ^ (k + 1) = b * b ^ k := by rw [Nat.pow_succ, Nat.mul_comm]
    rw [pk_snoc, e, ← Nat.div_div_eq_div_mul, Nat.mul_comm (pk b l') b, Nat.mul_add_div (by omega), Nat.div_eq_of_lt (show x + 1 < b by omega), Nat.add_zero, pk_drop hb k l' (fun y hy => hx y (List.mem_append_left _ hy)) hk2]
    congr 1
    rw [List.length_append, List.length_singleton, List.take_append_of_le_length (by omega)]
    congr 1
    omega
section WORDS
variable {G : GGy} {T : TTy} {I : MIy} {J : MJy} {R : MRy} {Q : QQy}
set_option maxRecDepth 100000 in
theorem l_lettersIn {l : List Nat} (hl : okW l) {T00 : TTy} (h : Q (some (.int (nI l.length))) T I J R) : ∀ n i, i + n = l.length → AT G 158 T00 Q 2 [some (.long (lN (pk 32 l))), none, some (.int (nI i))] [] 0 0 T I J R
  | n, i, hi => by
    have hb := pk_bounds (b := 32) (by decide) l.length l rfl hl.1
    have h64 : pk 32 l < 2 ^ 60 := Nat.lt_of_lt_of_le hb.1 (Nat.le_trans (Nat.pow_le_pow_right (by decide) hl.2.2) (by decide))
    have e9 : nI 5 * nI i = nI (5 * i) := pk_mul 5 i
    have hlen := hl.2.2
    have p5 : (2 : Nat) ^ (5 * i) = 32 ^ i := by rw [Nat.pow_mul]
    have esh : ((lN (pk 32 l)).toUInt64 >>> ((nI (5 * i)).toInt64.toUInt64 &&& Int64.toUInt64 63)).toInt64 = lN (pk 32 l / 32 ^ i) := by
      rw [z_ult (by omega) (by omega), p5]
    have hle : pk 32 l / 32 ^ i ≤ pk 32 l := Nat.div_le_self _ _
    refine AT.go okB158 0 rfl [2] 40 2 ?_
    simp only [B158, ↓ev_iconst, ↓ev_bipush, ↓ev_sipush, ↓ev_lconst, ↓ev_ldc, ↓ev_ldc_w, ↓ev_ldc2_w, ↓ev_aconst_null, ↓ev_iload, ↓ev_iload_n, ↓ev_lload, ↓ev_lload_n, ↓ev_aload, ↓ev_aload_n, ↓ev_istore, ↓ev_istore_n, ↓ev_lstore, ↓ev_lstore_n, ↓ev_astore, ↓ev_astore_n, ↓ev_iinc, ↓ev_iadd, ↓ev_isub, ↓ev_imul, ↓ev_iand, ↓ev_ixor, ↓ev_idiv, ↓ev_irem, ↓ev_ineg, ↓ev_i2l, ↓ev_i2b, ↓ev_l2i, ↓ev_ladd, ↓ev_lsub, ↓ev_lmul, ↓ev_land, ↓ev_lor, ↓ev_ldiv, ↓ev_lrem, ↓ev_lushr, ↓ev_lshl, ↓ev_lcmp, ↓ev_dup, ↓ev_pop, ↓ev_dup2, ↓ev_if_icmp, ↓ev_ifCond, ↓ev_goto, ↓ev_ifnull, ↓ev_ifnonnull, ↓ev_tableswitch, ↓ev_lookupswitch, ↓ev_getfield, ↓ev_putfield, ↓ev_getstatic, ↓ev_iaload, ↓ev_baload, ↓ev_laload, ↓ev_aaload, ↓ev_iastore, ↓ev_bastore, ↓ev_lastore, ↓ev_aastore, ↓ev_arraylength, ↓ev_new, ↓ev_newarray, ↓ev_anewarray, ↓ev_invokevirtual, ↓ev_invokestatic, ↓ev_invokespecial, ↓ev_ireturn, ↓ev_lreturn, ↓ev_areturn, ↓ev_ret, ↓ev_0, ↓ev_nil, ↓ev_cons, ↓ev_jp, ↓ev_pI, ↓ev_pII, ↓ev_pL, ↓ev_pLL, ↓ev_pIL, ↓ev_pR, ↓ev_pIR, ↓ev_pIIR, ↓ev_pLIR, ↓ev_pRIR, ↓ev_pop0, ↓ev_popS, ↓ev_eq, ↓ev_ne, ↓ev_lt, ↓ev_ge, ↓ev_gt, ↓ev_le, ↓ev_ldi0, ↓ev_ldiS, ↓ev_ldl0, ↓ev_ldlS, ↓ev_lda0, ↓ev_ldaN, ↓ev_ldaS, ↓ev_staR, ↓ev_staN, ↓ev_pfI, ↓ev_pfZ, ↓ev_pfL, ↓ev_pfR, ↓ev_kc, ↓ev_kcN, ↓inv, bk, sL, gf, tyI, tyIs, tyB, tyQ, tyN, nbk, ekd, elOk, isO, swl, vNat, vI, k1, st1, st2, ent, rtQ, va_rf, List.replicate, List.mem_cons, List.not_mem_nil, or_false, false_or, or_true, true_or, or_self, ↓reduceIte, Nat.reduceAdd, Nat.reduceEqDiff, true_and, and_true, reduceCtorEq, forall_const, false_implies, implies_true, true_implies, not_true_eq_false, not_false_eq_true, e00, e10, e01, e11, lg_eq0, lg_lt0, lg_le0, lg_gt0, lg_ge0, e9, esh]
    simp (disch := omega) only [z_rm, Nat.add_sub_cancel, Nat.add_one_sub_one, Nat.reduceEqDiff, pk_mul, nI_add, nI_1, pk_sub, pk_div, pk_rem, nI_ltI, nI_leI, nI_eq, z_cl, z_in, z_lt0, z_0le, z_eq0, z_le0, z_0lt, z_m1, z_i2l, z_l2i, z_ult, pk_lLT, pk_lLE, pk_lEQ, lN_add, lN_mul, lN_sub, true_and, and_true, forall_const, false_implies, implies_true, true_implies, not_true_eq_false, not_false_eq_true, Nat.not_lt, Nat.not_le]
    match n, hi with
    | 0, hi =>
      obtain rfl : i = l.length := by omega
      have e0 : pk 32 l / 32 ^ l.length = 0 := Nat.div_eq_of_lt hb.1
      refine ⟨fun _ => h, fun _ => ⟨fun _ => h, fun q => absurd e0 q⟩⟩
    | n + 1, hi =>
      have e0 : pk 32 l / 32 ^ i ≠ 0 := by
        have h1 := hb.2 (by omega)
        have h2 : (32 : Nat) ^ i ≤ 32 ^ (l.length - 1) := Nat.pow_le_pow_right (by decide) (by omega)
        have := Nat.div_pos (Nat.le_trans h2 h1) (Nat.pow_pos (by decide))
        omega
      exact ⟨fun q => absurd q (by omega), fun _ => ⟨fun q => absurd q e0, fun _ => l_lettersIn hl h n (i + 1) (by omega)⟩⟩
set_option maxRecDepth 100000 in
theorem c_lettersIn {l : List Nat} (hl : okW l) (h : Q (some (.int (nI l.length))) T I J R) : Run G 158 [.long (lN (pk 32 l))] T I J R Q := by
  refine Run.body (by decide) 1 (Nat.le_of_ble_eq_true rfl) (AT.go okB158 0 rfl [2] 40 0 ?_)
  simp only [B158, ↓ev_iconst, ↓ev_bipush, ↓ev_sipush, ↓ev_lconst, ↓ev_ldc, ↓ev_ldc_w, ↓ev_ldc2_w, ↓ev_aconst_null, ↓ev_iload, ↓ev_iload_n, ↓ev_lload, ↓ev_lload_n, ↓ev_aload, ↓ev_aload_n, ↓ev_istore, ↓ev_istore_n, ↓ev_lstore, ↓ev_lstore_n, ↓ev_astore, ↓ev_astore_n, ↓ev_iinc, ↓ev_iadd, ↓ev_isub, ↓ev_imul, ↓ev_iand, ↓ev_ixor, ↓ev_idiv, ↓ev_irem, ↓ev_ineg, ↓ev_i2l, ↓ev_i2b, ↓ev_l2i, ↓ev_ladd, ↓ev_lsub, ↓ev_lmul, ↓ev_land, ↓ev_lor, ↓ev_ldiv, ↓ev_lrem, ↓ev_lushr, ↓ev_lshl, ↓ev_lcmp, ↓ev_dup, ↓ev_pop, ↓ev_dup2, ↓ev_if_icmp, ↓ev_ifCond, ↓ev_goto, ↓ev_ifnull, ↓ev_ifnonnull, ↓ev_tableswitch, ↓ev_lookupswitch, ↓ev_getfield, ↓ev_putfield, ↓ev_getstatic, ↓ev_iaload, ↓ev_baload, ↓ev_laload, ↓ev_aaload, ↓ev_iastore, ↓ev_bastore, ↓ev_lastore, ↓ev_aastore, ↓ev_arraylength, ↓ev_new, ↓ev_newarray, ↓ev_anewarray, ↓ev_invokevirtual, ↓ev_invokestatic, ↓ev_invokespecial, ↓ev_ireturn, ↓ev_lreturn, ↓ev_areturn, ↓ev_ret, ↓ev_0, ↓ev_nil, ↓ev_cons, ↓ev_jp, ↓ev_pI, ↓ev_pII, ↓ev_pL, ↓ev_pLL, ↓ev_pIL, ↓ev_pR, ↓ev_pIR, ↓ev_pIIR, ↓ev_pLIR, ↓ev_pRIR, ↓ev_pop0, ↓ev_popS, ↓ev_eq, ↓ev_ne, ↓ev_lt, ↓ev_ge, ↓ev_gt, ↓ev_le, ↓ev_ldi0, ↓ev_ldiS, ↓ev_ldl0, ↓ev_ldlS, ↓ev_lda0, ↓ev_ldaN, ↓ev_ldaS, ↓ev_staR, ↓ev_staN, ↓ev_pfI, ↓ev_pfZ, ↓ev_pfL, ↓ev_pfR, ↓ev_kc, ↓ev_kcN, ↓inv, bk, sL, gf, tyI, tyIs, tyB, tyQ, tyN, nbk, ekd, elOk, isO, swl, vNat, vI, k1, st1, st2, ent, rtQ, va_rf, List.replicate, List.mem_cons, List.not_mem_nil, or_false, false_or, or_true, true_or, or_self, ↓reduceIte, Nat.reduceAdd, Nat.reduceEqDiff, true_and, and_true, reduceCtorEq, forall_const, false_implies, implies_true, true_implies, not_true_eq_false, not_false_eq_true, e00, e10, e01, e11, lg_eq0, lg_lt0, lg_le0, lg_gt0, lg_ge0]
  exact l_lettersIn hl h l.length 0 (by omega)
end WORDS
