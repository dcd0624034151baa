/-! RULES BY WHICH A STRETCH IS EVALUATED, FROM ITS FIRST INSTRUCTION ON -/
section EV
variable {Rc Rs : Nat} {rn : RNy} {K : Nat → KKy} {nx : KKy} {jp : Nat → KKy} {rt : RTy} {B : List (Nat × List EEy)} {cut : List Nat} {f pc len a b d : Nat} {v w : Value} {ls : List (Option Value)} {st acc : List Value} {c n : Nat} {T : TTy} {I : MIy} {J : MJy} {R : MRy} {A1 A2 : Prop} {x y : Int32} {X Y : Int64} {o o2 i : Nat}
theorem ev_iconst {z0 : Int} : stp Rc Rs rn nx jp rt (pc, .iconst z0, len, a, b, d, v) ls st c n T I J R = (nx ls (v :: st) c n T I J R) := of_eq_true (eq_self _)
theorem ev_bipush {z0 : Int} : stp Rc Rs rn nx jp rt (pc, .bipush z0, len, a, b, d, v) ls st c n T I J R = (nx ls (v :: st) c n T I J R) := of_eq_true (eq_self _)
theorem ev_sipush {z0 : Int} : stp Rc Rs rn nx jp rt (pc, .sipush z0, len, a, b, d, v) ls st c n T I J R = (nx ls (v :: st) c n T I J R) := of_eq_true (eq_self _)
theorem ev_lconst {z0 : Fin 2} : stp Rc Rs rn nx jp rt (pc, .lconst z0, len, a, b, d, v) ls st c n T I J R = (nx ls (v :: st) c n T I J R) := of_eq_true (eq_self _)
theorem ev_ldc {z0 : Nat} : stp Rc Rs rn nx jp rt (pc, .ldc z0, len, a, b, d, v) ls st c n T I J R = (nx ls (v :: st) c n T I J R) := of_eq_true (eq_self _)
theorem ev_ldc_w {z0 : Nat} : stp Rc Rs rn nx jp rt (pc, .ldc_w z0, len, a, b, d, v) ls st c n T I J R = (nx ls (v :: st) c n T I J R) := of_eq_true (eq_self _)
theorem ev_ldc2_w {z0 : Nat} : stp Rc Rs rn nx jp rt (pc, .ldc2_w z0, len, a, b, d, v) ls st c n T I J R = (nx ls (v :: st) c n T I J R) := of_eq_true (eq_self _)
theorem ev_aconst_null : stp Rc Rs rn nx jp rt (pc, .aconst_null, len, a, b, d, v) ls st c n T I J R = (nx ls (.null :: st) c n T I J R) := of_eq_true (eq_self _)
theorem ev_iload {i : Nat} : stp Rc Rs rn nx jp rt (pc, .iload i, len, a, b, d, v) ls st c n T I J R = (ldi ls i fun x => nx ls (.int x :: st) c n T I J R) := of_eq_true (eq_self _)
theorem ev_iload_n {i : Fin 4} : stp Rc Rs rn nx jp rt (pc, .iload_n i, len, a, b, d, v) ls st c n T I J R = (ldi ls a fun x => nx ls (.int x :: st) c n T I J R) := of_eq_true (eq_self _)
theorem ev_lload {i : Nat} : stp Rc Rs rn nx jp rt (pc, .lload i, len, a, b, d, v) ls st c n T I J R = (ldl ls i fun x => nx ls (.long x :: st) c n T I J R) := of_eq_true (eq_self _)
theorem ev_lload_n {i : Fin 4} : stp Rc Rs rn nx jp rt (pc, .lload_n i, len, a, b, d, v) ls st c n T I J R = (ldl ls a fun x => nx ls (.long x :: st) c n T I J R) := of_eq_true (eq_self _)
theorem ev_aload {i : Nat} : stp Rc Rs rn nx jp rt (pc, .aload i, len, a, b, d, v) ls st c n T I J R = (lda ls i fun x => nx ls (x :: st) c n T I J R) := of_eq_true (eq_self _)
theorem ev_aload_n {i : Fin 4} : stp Rc Rs rn nx jp rt (pc, .aload_n i, len, a, b, d, v) ls st c n T I J R = (lda ls a fun x => nx ls (x :: st) c n T I J R) := of_eq_true (eq_self _)
theorem ev_istore {i : Nat} : stp Rc Rs rn nx jp rt (pc, .istore i, len, a, b, d, v) ls st c n T I J R = (pI st fun x st => nx (st1 ls i (.int x)) st c n T I J R) := of_eq_true (eq_self _)
theorem ev_istore_n {i : Fin 4} : stp Rc Rs rn nx jp rt (pc, .istore_n i, len, a, b, d, v) ls st c n T I J R = (pI st fun x st => nx (st1 ls a (.int x)) st c n T I J R) := of_eq_true (eq_self _)
theorem ev_lstore {i : Nat} : stp Rc Rs rn nx jp rt (pc, .lstore i, len, a, b, d, v) ls st c n T I J R = (pL st fun x st => nx (st2 ls i (.long x)) st c n T I J R) := of_eq_true (eq_self _)
theorem ev_lstore_n {i : Fin 4} : stp Rc Rs rn nx jp rt (pc, .lstore_n i, len, a, b, d, v) ls st c n T I J R = (pL st fun x st => nx (st2 ls a (.long x)) st c n T I J R) := of_eq_true (eq_self _)
theorem ev_astore {i : Nat} : stp Rc Rs rn nx jp rt (pc, .astore i, len, a, b, d, v) ls st c n T I J R = (sta st fun x st => nx (st1 ls i x) st c n T I J R) := of_eq_true (eq_self _)
theorem ev_astore_n {i : Fin 4} : stp Rc Rs rn nx jp rt (pc, .astore_n i, len, a, b, d, v) ls st c n T I J R = (sta st fun x st => nx (st1 ls a x) st c n T I J R) := of_eq_true (eq_self _)
theorem ev_iinc {i : Nat} {z1 : Int} : stp Rc Rs rn nx jp rt (pc, .iinc i z1, len, a, b, d, v) ls st c n T I J R = (ldi ls i fun x => nx (st1 ls i (.int (x + vI v))) st c n T I J R) := of_eq_true (eq_self _)
theorem ev_iadd : stp Rc Rs rn nx jp rt (pc, .iadd, len, a, b, d, v) ls st c n T I J R = (pII st fun x y st => nx ls (.int (x + y) :: st) c n T I J R) := of_eq_true (eq_self _)
theorem ev_isub : stp Rc Rs rn nx jp rt (pc, .isub, len, a, b, d, v) ls st c n T I J R = (pII st fun x y st => nx ls (.int (x - y) :: st) c n T I J R) := of_eq_true (eq_self _)
theorem ev_imul : stp Rc Rs rn nx jp rt (pc, .imul, len, a, b, d, v) ls st c n T I J R = (pII st fun x y st => nx ls (.int (x * y) :: st) c n T I J R) := of_eq_true (eq_self _)
theorem ev_iand : stp Rc Rs rn nx jp rt (pc, .iand, len, a, b, d, v) ls st c n T I J R = (pII st fun x y st => nx ls (.int (x &&& y) :: st) c n T I J R) := of_eq_true (eq_self _)
theorem ev_ixor : stp Rc Rs rn nx jp rt (pc, .ixor, len, a, b, d, v) ls st c n T I J R = (pII st fun x y st => nx ls (.int (x ^^^ y) :: st) c n T I J R) := of_eq_true (eq_self _)
theorem ev_idiv : stp Rc Rs rn nx jp rt (pc, .idiv, len, a, b, d, v) ls st c n T I J R = (pII st fun x y st => ¬ y = 0 ∧ nx ls (.int (x / y) :: st) c n T I J R) := of_eq_true (eq_self _)
theorem ev_irem : stp Rc Rs rn nx jp rt (pc, .irem, len, a, b, d, v) ls st c n T I J R = (pII st fun x y st => ¬ y = 0 ∧ nx ls (.int (x - x / y * y) :: st) c n T I J R) := of_eq_true (eq_self _)
theorem ev_ineg : stp Rc Rs rn nx jp rt (pc, .ineg, len, a, b, d, v) ls st c n T I J R = (pI st fun x st => nx ls (.int (-x) :: st) c n T I J R) := of_eq_true (eq_self _)
theorem ev_i2l : stp Rc Rs rn nx jp rt (pc, .i2l, len, a, b, d, v) ls st c n T I J R = (pI st fun x st => nx ls (.long x.toInt64 :: st) c n T I J R) := of_eq_true (eq_self _)
theorem ev_i2b : stp Rc Rs rn nx jp rt (pc, .i2b, len, a, b, d, v) ls st c n T I J R = (pI st fun x st => nx ls (.int x.toInt8.toInt32 :: st) c n T I J R) := of_eq_true (eq_self _)
theorem ev_l2i : stp Rc Rs rn nx jp rt (pc, .l2i, len, a, b, d, v) ls st c n T I J R = (pL st fun x st => nx ls (.int x.toInt32 :: st) c n T I J R) := of_eq_true (eq_self _)
theorem ev_ladd : stp Rc Rs rn nx jp rt (pc, .ladd, len, a, b, d, v) ls st c n T I J R = (pLL st fun x y st => nx ls (.long (x + y) :: st) c n T I J R) := of_eq_true (eq_self _)
theorem ev_lsub : stp Rc Rs rn nx jp rt (pc, .lsub, len, a, b, d, v) ls st c n T I J R = (pLL st fun x y st => nx ls (.long (x - y) :: st) c n T I J R) := of_eq_true (eq_self _)
theorem ev_lmul : stp Rc Rs rn nx jp rt (pc, .lmul, len, a, b, d, v) ls st c n T I J R = (pLL st fun x y st => nx ls (.long (x * y) :: st) c n T I J R) := of_eq_true (eq_self _)
theorem ev_land : stp Rc Rs rn nx jp rt (pc, .land, len, a, b, d, v) ls st c n T I J R = (pLL st fun x y st => nx ls (.long (x &&& y) :: st) c n T I J R) := of_eq_true (eq_self _)
theorem ev_lor : stp Rc Rs rn nx jp rt (pc, .lor, len, a, b, d, v) ls st c n T I J R = (pLL st fun x y st => nx ls (.long (x ||| y) :: st) c n T I J R) := of_eq_true (eq_self _)
theorem ev_ldiv : stp Rc Rs rn nx jp rt (pc, .ldiv, len, a, b, d, v) ls st c n T I J R = (pLL st fun x y st => ¬ y = 0 ∧ nx ls (.long (x / y) :: st) c n T I J R) := of_eq_true (eq_self _)
theorem ev_lrem : stp Rc Rs rn nx jp rt (pc, .lrem, len, a, b, d, v) ls st c n T I J R = (pLL st fun x y st => ¬ y = 0 ∧ nx ls (.long (x - x / y * y) :: st) c n T I J R) := of_eq_true (eq_self _)
theorem ev_lushr : stp Rc Rs rn nx jp rt (pc, .lushr, len, a, b, d, v) ls st c n T I J R = (pIL st fun x y st => nx ls (.long (x.toUInt64 >>> (y.toInt64.toUInt64 &&& Int64.toUInt64 63)).toInt64 :: st) c n T I J R) := of_eq_true (eq_self _)
theorem ev_lshl : stp Rc Rs rn nx jp rt (pc, .lshl, len, a, b, d, v) ls st c n T I J R = (pIL st fun x y st => nx ls (.long (x <<< (y.toInt64 &&& 63)) :: st) c n T I J R) := of_eq_true (eq_self _)
theorem ev_lcmp : stp Rc Rs rn nx jp rt (pc, .lcmp, len, a, b, d, v) ls st c n T I J R = (pLL st fun x y st => nx ls (.int (lg_cmp x y) :: st) c n T I J R) := of_eq_true (eq_self _)
theorem ev_dup : stp Rc Rs rn nx jp rt (pc, .dup, len, a, b, d, v) ls st c n T I J R = ((match st with
      | .int x :: st => nx ls (.int x :: .int x :: st) c n T I J R
      | .ref x :: st => nx ls (.ref x :: .ref x :: st) c n T I J R
      | _ => False)) := of_eq_true (eq_self _)
theorem ev_pop : stp Rc Rs rn nx jp rt (pc, .pop, len, a, b, d, v) ls st c n T I J R = ((match st with
      | .int x :: st => nx ls st c n T I J R
      | .ref x :: st => nx ls st c n T I J R
      | _ => False)) := of_eq_true (eq_self _)
theorem ev_dup2 : stp Rc Rs rn nx jp rt (pc, .dup2, len, a, b, d, v) ls st c n T I J R = ((match st with
      | .int x :: .ref y :: st => nx ls (.int x :: .ref y :: .int x :: .ref y :: st) c n T I J R
      | _ => False)) := of_eq_true (eq_self _)
theorem ev_if_icmp {cd : Jvm.ClassFile.Cond} {z1 : Int} : stp Rc Rs rn nx jp rt (pc, .if_icmp cd z1, len, a, b, d, v) ls st c n T I J R = (pII st fun x y st => brc cd x y (jp a ls st c n T I J R) (nx ls st c n T I J R)) := of_eq_true (eq_self _)
theorem ev_ifCond {cd : Jvm.ClassFile.Cond} {z1 : Int} : stp Rc Rs rn nx jp rt (pc, .ifCond cd z1, len, a, b, d, v) ls st c n T I J R = (pI st fun x st => brc cd x 0 (jp a ls st c n T I J R) (nx ls st c n T I J R)) := of_eq_true (eq_self _)
theorem ev_goto {z0 : Int} : stp Rc Rs rn nx jp rt (pc, .goto z0, len, a, b, d, v) ls st c n T I J R = (jp a ls st c n T I J R) := of_eq_true (eq_self _)
theorem ev_ifnull {z0 : Int} : stp Rc Rs rn nx jp rt (pc, .ifnull z0, len, a, b, d, v) ls st c n T I J R = ((match st with
      | .ref _ :: st => nx ls st c n T I J R
      | .null :: st => jp a ls st c n T I J R
      | _ => False)) := of_eq_true (eq_self _)
theorem ev_ifnonnull {z0 : Int} : stp Rc Rs rn nx jp rt (pc, .ifnonnull z0, len, a, b, d, v) ls st c n T I J R = ((match st with
      | .ref _ :: st => jp a ls st c n T I J R
      | .null :: st => nx ls st c n T I J R
      | _ => False)) := of_eq_true (eq_self _)
theorem ev_tableswitch {dflt : Int} {lo : Int} {hi : Int} {offs : Array Int} : stp Rc Rs rn nx jp rt (pc, .tableswitch dflt lo hi offs, len, a, b, d, v) ls st c n T I J R = (pI st fun x st => (x.toInt < lo ∨ hi < x.toInt → 0 ≤ (pc : Int) + dflt ∧ jp ((pc : Int) + dflt).toNat ls st c n T I J R) ∧ hi = lo + offs.toList.length - 1 ∧ swl (fun t => jp t ls st c n T I J R) pc x.toInt lo offs.toList) := of_eq_true (eq_self _)
theorem ev_lookupswitch {dflt : Int} {ps : Array (Int × Int)} : stp Rc Rs rn nx jp rt (pc, .lookupswitch dflt ps, len, a, b, d, v) ls st c n T I J R = (pI st fun x st => 0 ≤ (pc : Int) + Op.lookupswitch.offset ps.toList dflt x.toInt ∧ jp ((pc : Int) + Op.lookupswitch.offset ps.toList dflt x.toInt).toNat ls st c n T I J R) := of_eq_true (eq_self _)
theorem ev_getfield {z0 : Nat} : stp Rc Rs rn nx jp rt (pc, .getfield z0, len, a, b, d, v) ls st c n T I J R = (pR st fun o st => T o = some (a, 0) ∧ nx ls (gf v I J R o b :: st) c n T I J R) := of_eq_true (eq_self _)
theorem ev_putfield {z0 : Nat} : stp Rc Rs rn nx jp rt (pc, .putfield z0, len, a, b, d, v) ls st c n T I J R = (pfd v st T a I J R b fun st I J R => nx ls st c n T I J R) := of_eq_true (eq_self _)
theorem ev_getstatic {z0 : Nat} : stp Rc Rs rn nx jp rt (pc, .getstatic z0, len, a, b, d, v) ls st c n T I J R = (nx ls (.ref 0 :: st) c n T I J R) := of_eq_true (eq_self _)
theorem ev_iaload : stp Rc Rs rn nx jp rt (pc, .iaload, len, a, b, d, v) ls st c n T I J R = (pIR st fun o i st => tyI (T o) i ∧ nx ls (.int (I o i.toNatClampNeg) :: st) c n T I J R) := of_eq_true (eq_self _)
theorem ev_baload : stp Rc Rs rn nx jp rt (pc, .baload, len, a, b, d, v) ls st c n T I J R = (pIR st fun o i st => tyB (T o) i ∧ nx ls (.int (I o i.toNatClampNeg) :: st) c n T I J R) := of_eq_true (eq_self _)
theorem ev_laload : stp Rc Rs rn nx jp rt (pc, .laload, len, a, b, d, v) ls st c n T I J R = (pIR st fun o i st => tyIs 15 (T o) i ∧ nx ls (.long (J o i.toNatClampNeg) :: st) c n T I J R) := of_eq_true (eq_self _)
theorem ev_aaload : stp Rc Rs rn nx jp rt (pc, .aaload, len, a, b, d, v) ls st c n T I J R = (pIR st fun o i st => tyQ (T o) i ∧ nx ls (va_rf (R o i.toNatClampNeg) :: st) c n T I J R) := of_eq_true (eq_self _)
theorem ev_iastore : stp Rc Rs rn nx jp rt (pc, .iastore, len, a, b, d, v) ls st c n T I J R = (pIIR st fun o i x st => tyIs 14 (T o) i ∧ nx ls st c n T (u2 I o i.toNatClampNeg x) J R) := of_eq_true (eq_self _)
theorem ev_bastore : stp Rc Rs rn nx jp rt (pc, .bastore, len, a, b, d, v) ls st c n T I J R = (pIIR st fun o i x st => tyB (T o) i ∧ nx ls st c n T (u2 I o i.toNatClampNeg (nbk (T o) x)) J R) := of_eq_true (eq_self _)
theorem ev_lastore : stp Rc Rs rn nx jp rt (pc, .lastore, len, a, b, d, v) ls st c n T I J R = (pLIR st fun o i x st => tyIs 15 (T o) i ∧ nx ls st c n T I (u2 J o i.toNatClampNeg x) R) := of_eq_true (eq_self _)
theorem ev_aastore : stp Rc Rs rn nx jp rt (pc, .aastore, len, a, b, d, v) ls st c n T I J R = (pRIR st fun o i x st => tyQ (T o) i ∧ elOk (T o) (T x) ∧ nx ls st c n T I J (u2 R o i.toNatClampNeg (some x))) := of_eq_true (eq_self _)
theorem ev_arraylength : stp Rc Rs rn nx jp rt (pc, .arraylength, len, a, b, d, v) ls st c n T I J R = (pR st fun o st => tyN (T o) fun x => nx ls (.int x :: st) c n T I J R) := of_eq_true (eq_self _)
theorem ev_new {z0 : Nat} : stp Rc Rs rn nx jp rt (pc, .new z0, len, a, b, d, v) ls st c n T I J R = (∃ q, T q = none ∧ c + 1 ≤ Rc ∧ n + b ≤ Rs ∧ nx ls (.ref q :: st) (c + 1) (n + b) (uT T q (a, 0)) (r0 I q 0) (r0 J q 0) (r0 R q none)) := of_eq_true (eq_self _)
theorem ev_newarray {z0 : ArrayType} : stp Rc Rs rn nx jp rt (pc, .newarray z0, len, a, b, d, v) ls st c n T I J R = (pI st fun x st => ¬ x < 0 ∧ x.toNatClampNeg ≤ 60000 ∧ ∃ q, T q = none ∧ c + 1 ≤ Rc ∧ n + x.toNatClampNeg ≤ Rs ∧ nx ls (.ref q :: st) (c + 1) (n + x.toNatClampNeg) (uT T q (a, x.toNatClampNeg)) (r0 I q 0) (r0 J q 0) (r0 R q none)) := of_eq_true (eq_self _)
theorem ev_anewarray {z0 : Nat} : stp Rc Rs rn nx jp rt (pc, .anewarray z0, len, a, b, d, v) ls st c n T I J R = (pI st fun x st => ¬ x < 0 ∧ x.toNatClampNeg ≤ 60000 ∧ ∃ q, T q = none ∧ c + 1 ≤ Rc ∧ n + x.toNatClampNeg ≤ Rs ∧ nx ls (.ref q :: st) (c + 1) (n + x.toNatClampNeg) (uT T q (a, x.toNatClampNeg)) (r0 I q 0) (r0 J q 0) (r0 R q none)) := of_eq_true (eq_self _)
theorem ev_invokevirtual {z0 : Nat} : stp Rc Rs rn nx jp rt (pc, .invokevirtual z0, len, a, b, d, v) ls st c n T I J R = (inv Rc Rs rn nx a b d (vNat v) ls st c n T I J R) := of_eq_true (eq_self _)
theorem ev_invokestatic {z0 : Nat} : stp Rc Rs rn nx jp rt (pc, .invokestatic z0, len, a, b, d, v) ls st c n T I J R = (inv Rc Rs rn nx a b d (vNat v) ls st c n T I J R) := of_eq_true (eq_self _)
theorem ev_invokespecial {z0 : Nat} : stp Rc Rs rn nx jp rt (pc, .invokespecial z0, len, a, b, d, v) ls st c n T I J R = (inv Rc Rs rn nx a b d (vNat v) ls st c n T I J R) := of_eq_true (eq_self _)
theorem ev_ireturn : stp Rc Rs rn nx jp rt (pc, .ireturn, len, a, b, d, v) ls st c n T I J R = ((match st with
      | [.int x] => rt (some (.int x)) c n T I J R
      | _ => False)) := of_eq_true (eq_self _)
theorem ev_lreturn : stp Rc Rs rn nx jp rt (pc, .lreturn, len, a, b, d, v) ls st c n T I J R = ((match st with
      | [.long x] => rt (some (.long x)) c n T I J R
      | _ => False)) := of_eq_true (eq_self _)
theorem ev_areturn : stp Rc Rs rn nx jp rt (pc, .areturn, len, a, b, d, v) ls st c n T I J R = ((match st with
      | [.ref x] => rt (some (.ref x)) c n T I J R
      | [.null] => rt (some .null) c n T I J R
      | _ => False)) := of_eq_true (eq_self _)
theorem ev_ret : stp Rc Rs rn nx jp rt (pc, .return_, len, a, b, d, v) ls st c n T I J R = ((match st with
      | [] => rt none c n T I J R
      | _ => False)) := of_eq_true (eq_self _)
theorem ev_0 {es : List EEy} : wpk Rc Rs rn K rt B cut 0 pc es ls st c n T I J R = (K pc ls st c n T I J R) := of_eq_true (eq_self _)
theorem ev_nil : wpk Rc Rs rn K rt B cut (f + 1) pc [] ls st c n T I J R = (jpK K B cut (wpk Rc Rs rn K rt B cut f) pc ls st c n T I J R) := of_eq_true (eq_self _)
theorem ev_cons {e : EEy} {r : List EEy} : wpk Rc Rs rn K rt B cut (f + 1) pc (e :: r) ls st c n T I J R = (stp Rc Rs rn (wpk Rc Rs rn K rt B cut f (e.1 + e.2.2.1) r) (jpK K B cut (wpk Rc Rs rn K rt B cut f)) rt e ls st c n T I J R) := of_eq_true (eq_self _)
theorem ev_jp {wf : Nat → List EEy → KKy} : jpK K B cut wf pc ls st c n T I J R = (if pc ∈ cut then K pc ls st c n T I J R else wf pc (bk B pc) ls st c n T I J R) := of_eq_true (eq_self _)
theorem ev_pI {k : Int32 → List Value → Prop} : pI (.int x :: st) k = (k x st) := of_eq_true (eq_self _)
theorem ev_pII {k : Int32 → Int32 → List Value → Prop} : pII (.int y :: .int x :: st) k = (k x y st) := of_eq_true (eq_self _)
theorem ev_pL {k : Int64 → List Value → Prop} : pL (.long X :: st) k = (k X st) := of_eq_true (eq_self _)
theorem ev_pLL {k : Int64 → Int64 → List Value → Prop} : pLL (.long Y :: .long X :: st) k = (k X Y st) := of_eq_true (eq_self _)
theorem ev_pIL {k : Int64 → Int32 → List Value → Prop} : pIL (.int y :: .long X :: st) k = (k X y st) := of_eq_true (eq_self _)
theorem ev_pR {k : Nat → List Value → Prop} : pR (.ref o :: st) k = (k o st) := of_eq_true (eq_self _)
theorem ev_pIR {k : Nat → Int32 → List Value → Prop} : pIR (.int x :: .ref o :: st) k = (k o x st) := of_eq_true (eq_self _)
theorem ev_pIIR {k : Nat → Int32 → Int32 → List Value → Prop} : pIIR (.int y :: .int x :: .ref o :: st) k = (k o x y st) := of_eq_true (eq_self _)
theorem ev_pLIR {k : Nat → Int32 → Int64 → List Value → Prop} : pLIR (.long Y :: .int x :: .ref o :: st) k = (k o x Y st) := of_eq_true (eq_self _)
theorem ev_pRIR {k : Nat → Int32 → Nat → List Value → Prop} : pRIR (.ref o2 :: .int x :: .ref o :: st) k = (k o x o2 st) := of_eq_true (eq_self _)
theorem ev_pop0 {k : List Value → List Value → Prop} : popN 0 acc st k = (k acc st) := of_eq_true (eq_self _)
theorem ev_popS {k : List Value → List Value → Prop} : popN (i + 1) acc (v :: st) k = (popN i (v :: acc) st k) := of_eq_true (eq_self _)
theorem ev_eq : brc .eq x y A1 A2 = ((x = y → A1) ∧ (¬ x = y → A2)) := of_eq_true (eq_self _)
theorem ev_ne : brc .ne x y A1 A2 = ((¬ x = y → A1) ∧ (x = y → A2)) := of_eq_true (eq_self _)
theorem ev_lt : brc .lt x y A1 A2 = ((x < y → A1) ∧ (¬ x < y → A2)) := of_eq_true (eq_self _)
theorem ev_ge : brc .ge x y A1 A2 = ((y ≤ x → A1) ∧ (¬ y ≤ x → A2)) := of_eq_true (eq_self _)
theorem ev_gt : brc .gt x y A1 A2 = ((y < x → A1) ∧ (¬ y < x → A2)) := of_eq_true (eq_self _)
theorem ev_le : brc .le x y A1 A2 = ((x ≤ y → A1) ∧ (¬ x ≤ y → A2)) := of_eq_true (eq_self _)
theorem ev_ldi0 {k : Int32 → Prop} : ldi (some (.int x) :: ls) 0 k = (k x) := of_eq_true (eq_self _)
theorem ev_ldiS {u : Option Value} {k : Int32 → Prop} : ldi (u :: ls) (i + 1) k = (ldi ls i k) := of_eq_true (eq_self _)
theorem ev_ldl0 {k : Int64 → Prop} : ldl (some (.long X) :: ls) 0 k = (k X) := of_eq_true (eq_self _)
theorem ev_ldlS {u : Option Value} {k : Int64 → Prop} : ldl (u :: ls) (i + 1) k = (ldl ls i k) := of_eq_true (eq_self _)
theorem ev_lda0 {k : Value → Prop} : lda (some (.ref o) :: ls) 0 k = (k (.ref o)) := of_eq_true (eq_self _)
theorem ev_ldaN {k : Value → Prop} : lda (some .null :: ls) 0 k = (k .null) := of_eq_true (eq_self _)
theorem ev_ldaS {u : Option Value} {k : Value → Prop} : lda (u :: ls) (i + 1) k = (lda ls i k) := of_eq_true (eq_self _)
theorem ev_staR {k : Value → List Value → Prop} : sta (.ref o :: st) k = (k (.ref o) st) := of_eq_true (eq_self _)
theorem ev_staN {k : Value → List Value → Prop} : sta (.null :: st) k = (k .null st) := of_eq_true (eq_self _)
theorem ev_pfI {u : Int32} {k : List Value → MIy → MJy → MRy → Prop} : pfd (.int u) (.int x :: .ref o :: st) T i I J R d k = (T o = some (i, 0) ∧ k st (u2 I o d x) J R) := of_eq_true (eq_self _)
theorem ev_pfZ {u : UInt32} {k : List Value → MIy → MJy → MRy → Prop} : pfd (.float u) (.int x :: .ref o :: st) T i I J R d k = (T o = some (i, 0) ∧ (x = 0 ∨ x = 1) ∧ k st (u2 I o d x) J R) := of_eq_true (eq_self _)
theorem ev_pfL {u : Int64} {k : List Value → MIy → MJy → MRy → Prop} : pfd (.long u) (.long X :: .ref o :: st) T i I J R d k = (T o = some (i, 0) ∧ k st I (u2 J o d X) R) := of_eq_true (eq_self _)
theorem ev_pfR {k : List Value → MIy → MJy → MRy → Prop} : pfd .null (.ref o2 :: .ref o :: st) T i I J R d k = (T o = some (i, 0) ∧ k st I J (u2 R o d (some o2))) := of_eq_true (eq_self _)
theorem ev_kc : kc nx ls st c n (some v) T I J R = (nx ls (v :: st) c n T I J R) := of_eq_true (eq_self _)
theorem ev_kcN : kc nx ls st c n none T I J R = (nx ls st c n T I J R) := of_eq_true (eq_self _)
end EV
