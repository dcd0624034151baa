/-! A STEP IS SOUND, A STRETCH IS SOUND, A METHOD'S CONTRACT -/
section SOUND2
variable {G : GGy} {mi : Nat} {p : Program} {e : Env} {s : State} {m : MethodId} {args : Array Value} {below : List Frame} {meth : Method} {c : Code} {Qf : (State → Prop) × TTy × (Nat → Nat)}
theorem swl_mono {A B : Nat → Prop} {pc : Nat} {x : Int} (h : ∀ t, A t → B t) : ∀ (l : List Int) (i : Int), swl A pc x i l → swl B pc x i l
  | [], _, _ => trivial
  | _ :: l, i, q => ⟨fun z => ⟨(q.1 z).1, h _ (q.1 z).2⟩, swl_mono h l (i + 1) q.2⟩
set_option maxHeartbeats 4000000 in
theorem stp_ok (C : Cx G mi p s m args meth c) {nx : KKy} {jp : Nat → KKy} {rt : RTy} {ee : EEy} (hE : okE mi ee = true) (hnx : ∀ ls st cs ns T I J R, nx ls st cs ns T I J R → Wc G mi p e s m args below meth c Qf (ee.1 + ee.2.2.1) ls st cs ns T I J R) (hjp : ∀ t ls st cs ns T I J R, jp t ls st cs ns T I J R → Wc G mi p e s m args below meth c Qf t ls st cs ns T I J R) (hrt : ∀ pc ins v, decode (cM mi) pc = .ok (ins, 1) → retI ins v → ∀ ls cs ns T I J R, rt v cs ns T I J R → Wc G mi p e s m args below meth c Qf pc ls v.toList cs ns T I J R)
    {ls : List (Option Value)} {st : List Value} {cs ns : Nat} {T : TTy} {I : MIy} {J : MJy} {R : MRy} (h : stp (rmM mi).cells (rmM mi).slots (Run G) nx jp rt ee ls st cs ns T I J R) : Wc G mi p e s m args below meth c Qf ee.1 ls st cs ns T I J R := by
  obtain ⟨pc, ins, len, a, b, d, v⟩ := ee
  simp only [okE, Bool.and_eq_true, decide_eq_true_eq] at hE
  obtain ⟨hd, h2⟩ := hE
  dsimp only at hd hnx ⊢
  cases ins with
  | iconst z =>
    simp only [okE2, Bool.and_eq_true, decide_eq_true_eq] at h2
    obtain ⟨rfl, rfl⟩ := h2
    exact s_iconst C hd rfl (hnx _ _ _ _ _ _ _ _ h)
  | bipush z =>
    simp only [okE2, Bool.and_eq_true, decide_eq_true_eq] at h2
    obtain ⟨rfl, rfl⟩ := h2
    exact s_bipush C hd rfl (hnx _ _ _ _ _ _ _ _ h)
  | sipush z =>
    simp only [okE2, Bool.and_eq_true, decide_eq_true_eq] at h2
    obtain ⟨rfl, rfl⟩ := h2
    exact s_sipush C hd rfl (hnx _ _ _ _ _ _ _ _ h)
  | lconst z =>
    simp only [okE2, Bool.and_eq_true, decide_eq_true_eq] at h2
    obtain ⟨rfl, rfl⟩ := h2
    exact s_lconst C hd rfl (hnx _ _ _ _ _ _ _ _ h)
  | ldc i =>
    simp only [okE2, Bool.and_eq_true, decide_eq_true_eq] at h2
    obtain ⟨⟨w1, w2⟩, rfl⟩ := h2
    have h9 := hnx _ _ _ _ _ _ _ _ h
    rw [isI_of w2] at h9
    exact s_ldc C hd (wAt_in w1) h9
  | ldc_w i =>
    simp only [okE2, Bool.and_eq_true, decide_eq_true_eq] at h2
    obtain ⟨⟨w1, w2⟩, rfl⟩ := h2
    have h9 := hnx _ _ _ _ _ _ _ _ h
    rw [isI_of w2] at h9
    exact s_ldc_w C hd (wAt_in w1) h9
  | ldc2_w i =>
    simp only [okE2, Bool.and_eq_true, decide_eq_true_eq] at h2
    obtain ⟨⟨w1, w2⟩, rfl⟩ := h2
    have h9 := hnx _ _ _ _ _ _ _ _ h
    rw [isLg_of w2] at h9
    exact s_ldc2 C hd (wAt_in w1) h9
  | aconst_null =>
    simp only [okE2, decide_eq_true_eq] at h2
    subst h2
    exact s_null C hd (hnx _ _ _ _ _ _ _ _ h)
  | iload i =>
    simp only [okE2, decide_eq_true_eq] at h2
    subst h2
    obtain ⟨x, g, h⟩ := ldi_of h
    exact s_iload C hd g (hnx _ _ _ _ _ _ _ _ h)
  | iload_n i =>
    simp only [okE2, Bool.and_eq_true, decide_eq_true_eq] at h2
    obtain ⟨w1, rfl⟩ := h2
    obtain ⟨x, g, h⟩ := ldi_of h
    exact s_iloadn C hd w1 g (hnx _ _ _ _ _ _ _ _ h)
  | lload i =>
    simp only [okE2, decide_eq_true_eq] at h2
    subst h2
    obtain ⟨x, g, h⟩ := ldl_of h
    exact s_lload C hd g (hnx _ _ _ _ _ _ _ _ h)
  | lload_n i =>
    simp only [okE2, Bool.and_eq_true, decide_eq_true_eq] at h2
    obtain ⟨w1, rfl⟩ := h2
    obtain ⟨x, g, h⟩ := ldl_of h
    exact s_lloadn C hd w1 g (hnx _ _ _ _ _ _ _ _ h)
  | aload i =>
    simp only [okE2, decide_eq_true_eq] at h2
    subst h2
    have h : lda ls i (fun x => nx ls (x :: st) cs ns T I J R) := h
    rcases lda_of h with ⟨x, g, h⟩ | ⟨g, h⟩
    · exact s_aload C hd g (hnx _ _ _ _ _ _ _ _ h)
    · exact s_aloadN C hd g (hnx _ _ _ _ _ _ _ _ h)
  | aload_n i =>
    simp only [okE2, Bool.and_eq_true, decide_eq_true_eq] at h2
    obtain ⟨w1, rfl⟩ := h2
    have h : lda ls a (fun x => nx ls (x :: st) cs ns T I J R) := h
    rcases lda_of h with ⟨x, g, h⟩ | ⟨g, h⟩
    · exact s_aloadn C hd w1 g (hnx _ _ _ _ _ _ _ _ h)
    · exact s_aloadnN C hd w1 g (hnx _ _ _ _ _ _ _ _ h)
  | istore i =>
    simp only [okE2, Bool.and_eq_true, decide_eq_true_eq] at h2
    obtain ⟨w1, rfl⟩ := h2
    obtain ⟨x, st2, rfl, h⟩ := pI_of h
    exact s_istore C hd w1 (hnx _ _ _ _ _ _ _ _ h)
  | istore_n i =>
    simp only [okE2, Bool.and_eq_true, decide_eq_true_eq] at h2
    obtain ⟨⟨w1, w2⟩, rfl⟩ := h2
    obtain ⟨x, st2, rfl, h⟩ := pI_of h
    exact s_istoren C hd w1 w2 (hnx _ _ _ _ _ _ _ _ h)
  | lstore i =>
    simp only [okE2, Bool.and_eq_true, decide_eq_true_eq] at h2
    obtain ⟨w1, rfl⟩ := h2
    obtain ⟨x, st2, rfl, h⟩ := pL_of h
    exact s_lstore C hd w1 (hnx _ _ _ _ _ _ _ _ h)
  | lstore_n i =>
    simp only [okE2, Bool.and_eq_true, decide_eq_true_eq] at h2
    obtain ⟨⟨w1, w2⟩, rfl⟩ := h2
    obtain ⟨x, st2, rfl, h⟩ := pL_of h
    exact s_lstoren C hd w1 w2 (hnx _ _ _ _ _ _ _ _ h)
  | astore i =>
    simp only [okE2, Bool.and_eq_true, decide_eq_true_eq] at h2
    obtain ⟨w1, rfl⟩ := h2
    have h : sta st (fun x st => nx (st1 ls i x) st cs ns T I J R) := h
    rcases sta_of h with ⟨x, st2, rfl, h⟩ | ⟨st2, rfl, h⟩
    · exact s_astore C hd w1 (hnx _ _ _ _ _ _ _ _ h)
    · exact s_astoreN C hd w1 (hnx _ _ _ _ _ _ _ _ h)
  | astore_n i =>
    simp only [okE2, Bool.and_eq_true, decide_eq_true_eq] at h2
    obtain ⟨⟨w1, w2⟩, rfl⟩ := h2
    have h : sta st (fun x st => nx (st1 ls a x) st cs ns T I J R) := h
    rcases sta_of h with ⟨x, st2, rfl, h⟩ | ⟨st2, rfl, h⟩
    · exact s_astoren C hd w1 w2 (hnx _ _ _ _ _ _ _ _ h)
    · exact s_astorenN C hd w1 w2 (hnx _ _ _ _ _ _ _ _ h)
  | iinc i z =>
    simp only [okE2, Bool.and_eq_true, decide_eq_true_eq] at h2
    obtain ⟨⟨w1, w2⟩, rfl⟩ := h2
    obtain ⟨x, g, h⟩ := ldi_of h
    exact s_iinc C hd w1 w2 g (hnx _ _ _ _ _ _ _ _ h)
  | iadd =>
    simp only [okE2, decide_eq_true_eq] at h2
    subst h2
    obtain ⟨x, y, st2, rfl, h⟩ := pII_of h
    exact s_iadd C hd (hnx _ _ _ _ _ _ _ _ h)
  | isub =>
    simp only [okE2, decide_eq_true_eq] at h2
    subst h2
    obtain ⟨x, y, st2, rfl, h⟩ := pII_of h
    exact s_isub C hd (hnx _ _ _ _ _ _ _ _ h)
  | imul =>
    simp only [okE2, decide_eq_true_eq] at h2
    subst h2
    obtain ⟨x, y, st2, rfl, h⟩ := pII_of h
    exact s_imul C hd (hnx _ _ _ _ _ _ _ _ h)
  | iand =>
    simp only [okE2, decide_eq_true_eq] at h2
    subst h2
    obtain ⟨x, y, st2, rfl, h⟩ := pII_of h
    exact s_iand C hd (hnx _ _ _ _ _ _ _ _ h)
  | ixor =>
    simp only [okE2, decide_eq_true_eq] at h2
    subst h2
    obtain ⟨x, y, st2, rfl, h⟩ := pII_of h
    exact s_ixor C hd (hnx _ _ _ _ _ _ _ _ h)
  | idiv =>
    simp only [okE2, decide_eq_true_eq] at h2
    subst h2
    obtain ⟨x, y, st2, rfl, h⟩ := pII_of h
    exact s_idiv C hd h.1 (hnx _ _ _ _ _ _ _ _ h.2)
  | irem =>
    simp only [okE2, decide_eq_true_eq] at h2
    subst h2
    obtain ⟨x, y, st2, rfl, h⟩ := pII_of h
    exact s_irem C hd h.1 (hnx _ _ _ _ _ _ _ _ h.2)
  | ladd =>
    simp only [okE2, decide_eq_true_eq] at h2
    subst h2
    obtain ⟨x, y, st2, rfl, h⟩ := pLL_of h
    exact s_ladd C hd (hnx _ _ _ _ _ _ _ _ h)
  | lsub =>
    simp only [okE2, decide_eq_true_eq] at h2
    subst h2
    obtain ⟨x, y, st2, rfl, h⟩ := pLL_of h
    exact s_lsub C hd (hnx _ _ _ _ _ _ _ _ h)
  | lmul =>
    simp only [okE2, decide_eq_true_eq] at h2
    subst h2
    obtain ⟨x, y, st2, rfl, h⟩ := pLL_of h
    exact s_lmul C hd (hnx _ _ _ _ _ _ _ _ h)
  | land =>
    simp only [okE2, decide_eq_true_eq] at h2
    subst h2
    obtain ⟨x, y, st2, rfl, h⟩ := pLL_of h
    exact s_land C hd (hnx _ _ _ _ _ _ _ _ h)
  | lor =>
    simp only [okE2, decide_eq_true_eq] at h2
    subst h2
    obtain ⟨x, y, st2, rfl, h⟩ := pLL_of h
    exact s_lor C hd (hnx _ _ _ _ _ _ _ _ h)
  | lcmp =>
    simp only [okE2, decide_eq_true_eq] at h2
    subst h2
    obtain ⟨x, y, st2, rfl, h⟩ := pLL_of h
    exact s_lcmp C hd (hnx _ _ _ _ _ _ _ _ h)
  | ldiv =>
    simp only [okE2, decide_eq_true_eq] at h2
    subst h2
    obtain ⟨x, y, st2, rfl, h⟩ := pLL_of h
    exact s_ldiv C hd h.1 (hnx _ _ _ _ _ _ _ _ h.2)
  | lrem =>
    simp only [okE2, decide_eq_true_eq] at h2
    subst h2
    obtain ⟨x, y, st2, rfl, h⟩ := pLL_of h
    exact s_lrem C hd h.1 (hnx _ _ _ _ _ _ _ _ h.2)
  | lushr =>
    simp only [okE2, decide_eq_true_eq] at h2
    subst h2
    obtain ⟨x, y, st2, rfl, h⟩ := pIL_of h
    exact s_lushr C hd (hnx _ _ _ _ _ _ _ _ h)
  | lshl =>
    simp only [okE2, decide_eq_true_eq] at h2
    subst h2
    obtain ⟨x, y, st2, rfl, h⟩ := pIL_of h
    exact s_lshl C hd (hnx _ _ _ _ _ _ _ _ h)
  | ineg =>
    simp only [okE2, decide_eq_true_eq] at h2
    subst h2
    obtain ⟨x, st2, rfl, h⟩ := pI_of h
    exact s_ineg C hd (hnx _ _ _ _ _ _ _ _ h)
  | i2l =>
    simp only [okE2, decide_eq_true_eq] at h2
    subst h2
    obtain ⟨x, st2, rfl, h⟩ := pI_of h
    exact s_i2l C hd (hnx _ _ _ _ _ _ _ _ h)
  | i2b =>
    simp only [okE2, decide_eq_true_eq] at h2
    subst h2
    obtain ⟨x, st2, rfl, h⟩ := pI_of h
    exact s_i2b C hd (hnx _ _ _ _ _ _ _ _ h)
  | l2i =>
    simp only [okE2, decide_eq_true_eq] at h2
    subst h2
    obtain ⟨x, st2, rfl, h⟩ := pL_of h
    exact s_l2i C hd (hnx _ _ _ _ _ _ _ _ h)
  | dup =>
    simp only [okE2, decide_eq_true_eq] at h2
    subst h2
    simp only [stp] at h
    split at h
    · exact s_dupI C hd (hnx _ _ _ _ _ _ _ _ h)
    · exact s_dupR C hd (hnx _ _ _ _ _ _ _ _ h)
    · exact h.elim
  | pop =>
    simp only [okE2, decide_eq_true_eq] at h2
    subst h2
    simp only [stp] at h
    split at h
    · exact s_popI C hd (hnx _ _ _ _ _ _ _ _ h)
    · exact s_popR C hd (hnx _ _ _ _ _ _ _ _ h)
    · exact h.elim
  | dup2 =>
    simp only [okE2, decide_eq_true_eq] at h2
    subst h2
    simp only [stp] at h
    split at h
    · exact s_dup2 C hd (hnx _ _ _ _ _ _ _ _ h)
    · exact h.elim
  | if_icmp cd off =>
    simp only [okE2, Bool.and_eq_true, decide_eq_true_eq] at h2
    obtain ⟨w1, rfl⟩ := h2
    obtain ⟨x, y, st2, rfl, h⟩ := pII_of h
    cases cd with
    | eq => exact s_icmp_eq C hd w1 (fun q => hjp _ _ _ _ _ _ _ _ _ q) (fun q => hnx _ _ _ _ _ _ _ _ q) h
    | ne => exact s_icmp_ne C hd w1 (fun q => hjp _ _ _ _ _ _ _ _ _ q) (fun q => hnx _ _ _ _ _ _ _ _ q) h
    | lt => exact s_icmp_lt C hd w1 (fun q => hjp _ _ _ _ _ _ _ _ _ q) (fun q => hnx _ _ _ _ _ _ _ _ q) h
    | ge => exact s_icmp_ge C hd w1 (fun q => hjp _ _ _ _ _ _ _ _ _ q) (fun q => hnx _ _ _ _ _ _ _ _ q) h
    | gt => exact s_icmp_gt C hd w1 (fun q => hjp _ _ _ _ _ _ _ _ _ q) (fun q => hnx _ _ _ _ _ _ _ _ q) h
    | le => exact s_icmp_le C hd w1 (fun q => hjp _ _ _ _ _ _ _ _ _ q) (fun q => hnx _ _ _ _ _ _ _ _ q) h
  | ifCond cd off =>
    simp only [okE2, Bool.and_eq_true, decide_eq_true_eq] at h2
    obtain ⟨w1, rfl⟩ := h2
    obtain ⟨x, st2, rfl, h⟩ := pI_of h
    cases cd with
    | eq => exact s_if_eq C hd w1 (fun q => hjp _ _ _ _ _ _ _ _ _ q) (fun q => hnx _ _ _ _ _ _ _ _ q) h
    | ne => exact s_if_ne C hd w1 (fun q => hjp _ _ _ _ _ _ _ _ _ q) (fun q => hnx _ _ _ _ _ _ _ _ q) h
    | lt => exact s_if_lt C hd w1 (fun q => hjp _ _ _ _ _ _ _ _ _ q) (fun q => hnx _ _ _ _ _ _ _ _ q) h
    | ge => exact s_if_ge C hd w1 (fun q => hjp _ _ _ _ _ _ _ _ _ q) (fun q => hnx _ _ _ _ _ _ _ _ q) h
    | gt => exact s_if_gt C hd w1 (fun q => hjp _ _ _ _ _ _ _ _ _ q) (fun q => hnx _ _ _ _ _ _ _ _ q) h
    | le => exact s_if_le C hd w1 (fun q => hjp _ _ _ _ _ _ _ _ _ q) (fun q => hnx _ _ _ _ _ _ _ _ q) h
  | goto off =>
    simp only [okE2, Bool.and_eq_true, decide_eq_true_eq] at h2
    obtain ⟨w1, rfl⟩ := h2
    exact s_goto C hd w1 (hjp _ _ _ _ _ _ _ _ _ h)
  | ifnull off =>
    simp only [okE2, Bool.and_eq_true, decide_eq_true_eq] at h2
    obtain ⟨w1, rfl⟩ := h2
    simp only [stp] at h
    split at h
    · exact s_ifnull C hd (hnx _ _ _ _ _ _ _ _ h)
    · exact s_ifnullN C hd w1 (hjp _ _ _ _ _ _ _ _ _ h)
    · exact h.elim
  | ifnonnull off =>
    simp only [okE2, Bool.and_eq_true, decide_eq_true_eq] at h2
    obtain ⟨w1, rfl⟩ := h2
    simp only [stp] at h
    split at h
    · exact s_ifnonnull C hd w1 (hjp _ _ _ _ _ _ _ _ _ h)
    · exact s_ifnonnullN C hd (hnx _ _ _ _ _ _ _ _ h)
    · exact h.elim
  | tableswitch dflt lo hi offs =>
    obtain ⟨x, st2, rfl, h⟩ := pI_of h
    exact s_table C hd (fun q => ⟨(h.1 q).1, hjp _ _ _ _ _ _ _ _ _ (h.1 q).2⟩) h.2.1 (swl_mono (fun t q => hjp _ _ _ _ _ _ _ _ _ q) _ _ h.2.2)
  | lookupswitch dflt ps =>
    obtain ⟨x, st2, rfl, h⟩ := pI_of h
    exact s_lookup C hd h2 h.1 (hjp _ _ _ _ _ _ _ _ _ h.2)
  | getfield i =>
    simp only [okE2, Bool.and_eq_true, decide_eq_true_eq] at h2
    obtain ⟨⟨w1, w2⟩, rfl⟩ := h2
    obtain ⟨o, st2, rfl, h⟩ := pR_of h
    exact s_getfield C hd w1 w2 h.1 (hnx _ _ _ _ _ _ _ _ h.2)
  | putfield i =>
    simp only [okE2, Bool.and_eq_true] at h2
    obtain ⟨⟨⟨w1, w2⟩, w3⟩, w4⟩ := h2
    simp only [decide_eq_true_eq] at w1 w2 w3
    subst w3
    exact s_putfield C hd w1 w2 w4 (fun st I J R q => hnx _ _ _ _ _ _ _ _ q) h
  | getstatic i =>
    simp only [okE2, Bool.and_eq_true, decide_eq_true_eq] at h2
    obtain ⟨w1, rfl⟩ := h2
    exact s_getstatic C hd (wAt_in w1) (hnx _ _ _ _ _ _ _ _ h)
  | iaload =>
    simp only [okE2, decide_eq_true_eq] at h2
    subst h2
    obtain ⟨o, i, st2, rfl, h⟩ := pIR_of h
    exact s_iaload C hd h.1 (hnx _ _ _ _ _ _ _ _ h.2)
  | baload =>
    simp only [okE2, decide_eq_true_eq] at h2
    subst h2
    obtain ⟨o, i, st2, rfl, h⟩ := pIR_of h
    exact s_baload C hd h.1 (hnx _ _ _ _ _ _ _ _ h.2)
  | laload =>
    simp only [okE2, decide_eq_true_eq] at h2
    subst h2
    obtain ⟨o, i, st2, rfl, h⟩ := pIR_of h
    exact s_laload C hd h.1 (hnx _ _ _ _ _ _ _ _ h.2)
  | aaload =>
    simp only [okE2, decide_eq_true_eq] at h2
    subst h2
    obtain ⟨o, i, st2, rfl, h⟩ := pIR_of h
    exact s_aaload C hd h.1 (hnx _ _ _ _ _ _ _ _ h.2)
  | iastore =>
    simp only [okE2, decide_eq_true_eq] at h2
    subst h2
    obtain ⟨o, i, x, st2, rfl, h⟩ := pIIR_of h
    exact s_iastore C hd h.1 (hnx _ _ _ _ _ _ _ _ h.2)
  | bastore =>
    simp only [okE2, decide_eq_true_eq] at h2
    subst h2
    obtain ⟨o, i, x, st2, rfl, h⟩ := pIIR_of h
    exact s_bastore C hd h.1 (hnx _ _ _ _ _ _ _ _ h.2)
  | lastore =>
    simp only [okE2, decide_eq_true_eq] at h2
    subst h2
    obtain ⟨o, i, x, st2, rfl, h⟩ := pLIR_of h
    exact s_lastore C hd h.1 (hnx _ _ _ _ _ _ _ _ h.2)
  | aastore =>
    simp only [okE2, decide_eq_true_eq] at h2
    subst h2
    obtain ⟨o, i, x, st2, rfl, h⟩ := pRIR_of h
    exact s_aastore C hd h.1 h.2.1 (hnx _ _ _ _ _ _ _ _ h.2.2)
  | arraylength =>
    simp only [okE2, decide_eq_true_eq] at h2
    subst h2
    obtain ⟨o, st2, rfl, h⟩ := pR_of h
    exact s_alen C hd h (fun x q => hnx _ _ _ _ _ _ _ _ q)
  | new i =>
    simp only [okE2, Bool.and_eq_true, decide_eq_true_eq] at h2
    obtain ⟨⟨w1, w2⟩, rfl⟩ := h2
    obtain ⟨q, z1, z2, z3, z4⟩ := h
    exact s_new C hd w1 w2 z1 z2 z3 (hnx _ _ _ _ _ _ _ _ z4)
  | newarray t =>
    simp only [okE2, Bool.and_eq_true, decide_eq_true_eq] at h2
    obtain ⟨⟨⟨⟨w1, w2⟩, w3⟩, w4⟩, rfl⟩ := h2
    obtain ⟨x, st2, rfl, h⟩ := pI_of h
    obtain ⟨z5, z6, q, z1, z2, z3, z4⟩ := h
    exact s_newarray C hd w1 w2 w3 (wAt_in w4) z5 z6 z1 z2 z3 (hnx _ _ _ _ _ _ _ _ z4)
  | anewarray i =>
    simp only [okE2, Bool.and_eq_true, decide_eq_true_eq] at h2
    obtain ⟨⟨⟨w1, w2⟩, w4⟩, rfl⟩ := h2
    obtain ⟨x, st2, rfl, h⟩ := pI_of h
    obtain ⟨z5, z6, q, z1, z2, z3, z4⟩ := h
    exact s_anewarray C hd w1 w2 (wAt_in w4) z5 z6 z1 z2 z3 (hnx _ _ _ _ _ _ _ _ z4)
  | invokevirtual i =>
    simp only [okE2] at h2
    rw [Bool.and_eq_true] at h2
    obtain ⟨w1, w2⟩ := h2
    simp only [decide_eq_true_eq] at w2
    subst w2
    exact inv_ok C (Or.inl ⟨rfl, w1⟩) hd hnx h
  | invokestatic i =>
    simp only [okE2] at h2
    rw [Bool.and_eq_true] at h2
    obtain ⟨w1, w2⟩ := h2
    simp only [decide_eq_true_eq] at w2
    subst w2
    exact inv_ok C (Or.inr (Or.inl ⟨rfl, w1⟩)) hd hnx h
  | invokespecial i =>
    simp only [okE2] at h2
    rw [Bool.and_eq_true] at h2
    obtain ⟨w1, w2⟩ := h2
    simp only [decide_eq_true_eq] at w2
    subst w2
    exact inv_ok C (Or.inr (Or.inr ⟨rfl, w1⟩)) hd hnx h
  | ireturn =>
    simp only [okE2, decide_eq_true_eq] at h2
    subst h2
    simp only [stp] at h
    split at h
    · rename_i x
      exact hrt _ _ (some (.int x)) hd trivial _ _ _ _ _ _ _ h
    · exact h.elim
  | lreturn =>
    simp only [okE2, decide_eq_true_eq] at h2
    subst h2
    simp only [stp] at h
    split at h
    · rename_i x
      exact hrt _ _ (some (.long x)) hd trivial _ _ _ _ _ _ _ h
    · exact h.elim
  | areturn =>
    simp only [okE2, decide_eq_true_eq] at h2
    subst h2
    simp only [stp] at h
    split at h
    · rename_i x
      exact hrt _ _ (some (.ref x)) hd trivial _ _ _ _ _ _ _ h
    · exact hrt _ _ (some .null) hd trivial _ _ _ _ _ _ _ h
    · exact h.elim
  | return_ =>
    simp only [okE2, decide_eq_true_eq] at h2
    subst h2
    simp only [stp] at h
    split at h
    · exact hrt _ _ none hd trivial _ _ _ _ _ _ _ h
    · exact h.elim
  | _ => exact False.elim h
theorem wpk_ok (C : Cx G mi p s m args meth c) {K : Nat → KKy} {rt : RTy} {B : List (Nat × List EEy)} {cut : List Nat} (hB : okB mi B = true) (hK : ∀ t ls st cs ns T I J R, K t ls st cs ns T I J R → Wc G mi p e s m args below meth c Qf t ls st cs ns T I J R) (hrt : ∀ pc ins v, decode (cM mi) pc = .ok (ins, 1) → retI ins v → ∀ ls cs ns T I J R, rt v cs ns T I J R → Wc G mi p e s m args below meth c Qf pc ls v.toList cs ns T I J R) :
    ∀ (f pc : Nat) (code : List EEy), okL mi pc code = true → ∀ (ls : List (Option Value)) (st : List Value) (cs ns : Nat) (T : TTy) (I : MIy) (J : MJy) (R : MRy), wpk (rmM mi).cells (rmM mi).slots (Run G) K rt B cut f pc code ls st cs ns T I J R → Wc G mi p e s m args below meth c Qf pc ls st cs ns T I J R
  | 0, pc, code, _, ls, st, cs, ns, T, I, J, R, h => hK _ _ _ _ _ _ _ _ _ h
  | f + 1, pc, [], ho, ls, st, cs, ns, T, I, J, R, h => by
    rw [wpk] at h
    unfold jpK at h
    split at h
    · exact hK _ _ _ _ _ _ _ _ _ h
    · exact wpk_ok C hB hK hrt f pc _ (okB_at hB pc) _ _ _ _ _ _ _ _ h
  | f + 1, pc, ee :: r, ho, ls, st, cs, ns, T, I, J, R, h => by
    rw [wpk] at h
    simp only [okL, Bool.and_eq_true, decide_eq_true_eq] at ho
    obtain ⟨⟨rfl, h2⟩, h3⟩ := ho
    refine stp_ok C h2 (fun ls st cs ns T I J R q => wpk_ok C hB hK hrt f _ r h3 _ _ _ _ _ _ _ _ q) (fun t ls st cs ns T I J R q => ?_) hrt h
    unfold jpK at q
    split at q
    · exact hK _ _ _ _ _ _ _ _ _ q
    · exact wpk_ok C hB hK hrt f t _ (okB_at hB t) _ _ _ _ _ _ _ _ q
end SOUND2
