/-! INSTRUCTIONS THAT WRITE ARRAYS AND MAKE CELLS -/
section HEAP2
variable {G : GGy} {mi : Nat} {p : Program} {e : Env} {s : State} {m : MethodId} {args : Array Value} {below : List Frame} {meth : Method} {c : Code} {Qf : (State → Prop) × TTy × (Nat → Nat)}
variable {pc : Nat} {ls : List (Option Value)} {st : List Value} {cs ns : Nat} {T : TTy} {I : MIy} {J : MJy} {R : MRy}
theorem u2_updI {I : MIy} {o k : Nat} {x : Int32} : (fun j => Value.int (u2 I o k x o j)) = updV (fun j => .int (I o j)) k (.int x) := by
  funext j
  by_cases h : j = k
  · subst h
    rw [u2_at]
    simp [updV]
  · rw [u2_ne (fun q => h q.2)]
    simp [updV, h]
theorem u2_updJ {J : MJy} {o k : Nat} {x : Int64} : (fun j => Value.long (u2 J o k x o j)) = updV (fun j => .long (J o j)) k (.long x) := by
  funext j
  by_cases h : j = k
  · subst h
    rw [u2_at]
    simp [updV]
  · rw [u2_ne (fun q => h q.2)]
    simp [updV, h]
theorem u2_updR {R : MRy} {ad : Nat → Nat} {o k x : Nat} : (fun j => va_rf ((u2 R o k (some x) o j).map ad)) = updV (fun j => va_rf ((R o j).map ad)) k (.ref (ad x)) := by
  funext j
  by_cases h : j = k
  · subst h
    rw [u2_at]
    simp [updV, va_rf]
  · rw [u2_ne (fun q => h q.2)]
    simp [updV, h]
theorem s_iastore (C : Cx G mi p s m args meth c) {o : Nat} {i x : Int32} (hd : decode (cM mi) pc = .ok (.iastore, 1)) (h : tyIs 14 (T o) i) (kk : Wc G mi p e s m args below meth c Qf (pc + 1) ls st cs ns T (u2 I o i.toNatClampNeg x) J R) : Wc G mi p e s m args below meth c Qf pc ls (.int x :: .int i :: .ref o :: st) cs ns T I J R := by
  obtain ⟨hx, hb, hml, hown, hts, hK, hini⟩ := C
  intro H locs lsr ad hR hS hL hs hc hn
  cases hT : T o with
  | none => rw [hT] at h; exact h.elim
  | some y =>
    obtain ⟨kd, n⟩ := y
    rw [hT] at h
    obtain ⟨rfl, h2⟩ := h
    have hbase : g_b G ≤ ad o := (hR.2.1 o 14 n hT).1 (by omega)
    refine W.iast (rest := st.map (mv ad)) hx hb ((RC_i (by omega)).mp (hR.kd hT)) ((kdK hK 14 (by omega) (by omega)).1 n _) (fun q => by cases q) (by rw [arrV_size]; exact h2) rfl rfl hd fun H1 e1 z oq => ?_
    rw [arrV_store, ← u2_updI] at e1
    exact kk H1 _ lsr ad (hR.upd (I' := u2 I o i.toNatClampNeg x) (J' := J) (R' := R) hT (fun b hb => u2_row hb) (fun _ _ => rfl) (fun _ _ => rfl) z oq ((RC_i (by omega)).mpr e1) (fun j b hb => hR.2.2.1 o j b (by rw [hT]; exact fun q => by cases q) hb)) (hS.put z oq hbase) hL (okS_tl (okS_tl (okS_tl hs))) hc hn
theorem s_bastore (C : Cx G mi p s m args meth c) {o : Nat} {i x : Int32} (hd : decode (cM mi) pc = .ok (.bastore, 1)) (h : tyB (T o) i) (kk : Wc G mi p e s m args below meth c Qf (pc + 1) ls st cs ns T (u2 I o i.toNatClampNeg (nbk (T o) x)) J R) : Wc G mi p e s m args below meth c Qf pc ls (.int x :: .int i :: .ref o :: st) cs ns T I J R := by
  obtain ⟨hx, hb, hml, hown, hts, hK, hini⟩ := C
  intro H locs lsr ad hR hS hL hs hc hn
  cases hT : T o with
  | none => rw [hT] at h; exact h.elim
  | some y =>
    obtain ⟨kd, n⟩ := y
    rw [hT] at h kk
    have hT0 : ∀ j b, R o j = some b → T b ≠ none := fun j b hb => hR.2.2.1 o j b (by rw [hT]; exact fun q => by cases q) hb
    rcases h with ⟨rfl | rfl, h2⟩
    · have hbase : g_b G ≤ ad o := (hR.2.1 o 13 n hT).1 (by omega)
      refine W.bast (rest := st.map (mv ad)) hx hb ((RC_i (by omega)).mp (hR.kd hT)) ((kdK hK 13 (by omega) (by omega)).1 n _) (fun q => by cases q) (by rw [arrV_size]; exact h2) rfl rfl hd fun H1 e1 z oq => ?_
      rw [arrV_store, show narrow .byte (.int x) = .int (nbk (some (13, n)) x) from rfl, ← u2_updI] at e1
      exact kk H1 _ lsr ad (hR.upd (I' := u2 I o i.toNatClampNeg (nbk (some (13, n)) x)) (J' := J) (R' := R) hT (fun b hb => u2_row hb) (fun _ _ => rfl) (fun _ _ => rfl) z oq ((RC_i (by omega)).mpr e1) hT0) (hS.put z oq hbase) hL (okS_tl (okS_tl (okS_tl hs))) hc hn
    · have hbase : g_b G ≤ ad o := (hR.2.1 o 16 n hT).1 (by omega)
      refine W.zast (rest := st.map (mv ad)) hx hb ((RC_i (by omega)).mp (hR.kd hT)) ((kdK hK 16 (by omega) (by omega)).1 n _) (fun q => by cases q) (by rw [arrV_size]; exact h2) rfl rfl hd fun H1 e1 z oq => ?_
      rw [arrV_store, show narrow .boolean (.int x) = .int (nbk (some (16, n)) x) from rfl, ← u2_updI] at e1
      exact kk H1 _ lsr ad (hR.upd (I' := u2 I o i.toNatClampNeg (nbk (some (16, n)) x)) (J' := J) (R' := R) hT (fun b hb => u2_row hb) (fun _ _ => rfl) (fun _ _ => rfl) z oq ((RC_i (by omega)).mpr e1) hT0) (hS.put z oq hbase) hL (okS_tl (okS_tl (okS_tl hs))) hc hn
theorem s_lastore (C : Cx G mi p s m args meth c) {o : Nat} {i : Int32} {x : Int64} (hd : decode (cM mi) pc = .ok (.lastore, 1)) (h : tyIs 15 (T o) i) (kk : Wc G mi p e s m args below meth c Qf (pc + 1) ls st cs ns T I (u2 J o i.toNatClampNeg x) R) : Wc G mi p e s m args below meth c Qf pc ls (.long x :: .int i :: .ref o :: st) cs ns T I J R := by
  obtain ⟨hx, hb, hml, hown, hts, hK, hini⟩ := C
  intro H locs lsr ad hR hS hL hs hc hn
  cases hT : T o with
  | none => rw [hT] at h; exact h.elim
  | some y =>
    obtain ⟨kd, n⟩ := y
    rw [hT] at h
    obtain ⟨rfl, h2⟩ := h
    have hbase : g_b G ≤ ad o := (hR.2.1 o 15 n hT).1 (by omega)
    refine W.last (rest := st.map (mv ad)) hx hb (RC_l.mp (hR.kd hT)) ((kdK hK 15 (by omega) (by omega)).1 n _) (fun q => by cases q) (by rw [arrV_size]; exact h2) rfl rfl hd fun H1 e1 z oq => ?_
    rw [arrV_store, ← u2_updJ] at e1
    exact kk H1 _ lsr ad (hR.upd (I' := I) (J' := u2 J o i.toNatClampNeg x) (R' := R) hT (fun _ _ => rfl) (fun b hb => u2_row hb) (fun _ _ => rfl) z oq (RC_l.mpr e1) (fun j b hb => hR.2.2.1 o j b (by rw [hT]; exact fun q => by cases q) hb)) (hS.put z oq hbase) hL (okS_tl (okS_tl (okS_tl hs))) hc hn
theorem s_aastore (C : Cx G mi p s m args meth c) {o x : Nat} {i : Int32} (hd : decode (cM mi) pc = .ok (.aastore, 1)) (h : tyQ (T o) i) (hel : elOk (T o) (T x)) (kk : Wc G mi p e s m args below meth c Qf (pc + 1) ls st cs ns T I J (u2 R o i.toNatClampNeg (some x))) : Wc G mi p e s m args below meth c Qf pc ls (.ref x :: .int i :: .ref o :: st) cs ns T I J R := by
  obtain ⟨hx, hb, hml, hown, hts, hK, hini⟩ := C
  intro H locs lsr ad hR hS hL hs hc hn
  cases hT : T o with
  | none => rw [hT] at h; exact h.elim
  | some y =>
    obtain ⟨kd, n⟩ := y
    rw [hT] at h hel
    cases hTx : T x with
    | none => rw [hTx] at hel; exact hel.elim
    | some z =>
      obtain ⟨ci, n0⟩ := z
      rw [hTx] at hel
      obtain ⟨rfl, rfl⟩ := hel
      have hci : ekd kd < 13 := by
        unfold ekd
        split <;> omega
      have hbase : g_b G ≤ ad o := (hR.2.1 o kd n hT).1 h.1.2
      have h0 : ¬ i < 0 := fun q => h.2 (Or.inl q)
      have hlt : i.toNatClampNeg < n := Nat.not_le.mp fun q => h.2 (Or.inr q)
      obtain ⟨cell, g1, g2, g3, g4⟩ := (RC_o hci).mp (hR.kd hTx)
      obtain ⟨c1, c2, c3, c4⟩ := cl_all (ekd kd) hci
      have hcls := (hK.1.1 (ekd kd) _ c1).2
      obtain ⟨kA, comp, k1, k2, k3, -⟩ := (kdQ hK kd h.1.1 h.1.2).2
      have hcomp : comp = (g_D G).1 (ekd kd) := Option.some.inj (k3.symm.trans hcls.1)
      subst hcomp
      obtain ⟨kC, hkC, -⟩ := hcls.2
      refine W.aast (rest := st.map (mv ad)) hx hb ((RC_q h.1.1 h.1.2).mp (hR.kd hT)) (fun q h => by cases h) (fun h => by cases h) k1 k2 rfl hkC ⟨h0, by rw [arrV_size]; exact hlt⟩ g1 (fun q h => by rw [g3] at h; cases h) (by rw [g2]; exact hkC) (by rw [g2]; exact va_assign hcls) rfl rfl hd fun H1 e1 z oq => ?_
      rw [arrV_store, ← u2_updR] at e1
      refine kk H1 _ lsr ad (hR.upd (I' := I) (J' := J) (R' := u2 R o i.toNatClampNeg (some x)) hT (fun _ _ => rfl) (fun _ _ => rfl) (fun b hb => u2_row hb) z oq ((RC_q h.1.1 h.1.2).mpr e1) (fun j b hb => ?_)) (hS.put z oq hbase) hL (okS_tl (okS_tl (okS_tl hs))) hc hn
      by_cases q : j = i.toNatClampNeg
      · subst q
        rw [u2_at] at hb
        cases hb
        rw [hTx]
        exact fun q => by cases q
      · rw [u2_ne (fun z => q z.2)] at hb
        exact hR.2.2.1 o j b (by rw [hT]; exact fun q => by cases q) hb
theorem s_alen (C : Cx G mi p s m args meth c) {o : Nat} {k : Int32 → Prop} (hd : decode (cM mi) pc = .ok (.arraylength, 1)) (h : tyN (T o) k) (kk : ∀ x, k x → Wc G mi p e s m args below meth c Qf (pc + 1) ls (.int x :: st) cs ns T I J R) : Wc G mi p e s m args below meth c Qf pc ls (.ref o :: st) cs ns T I J R := by
  obtain ⟨hx, hb, hml, hown, hts, hK, hini⟩ := C
  intro H locs lsr ad hR hS hL hs hc hn
  cases hT : T o with
  | none => rw [hT] at h; exact h.elim
  | some y =>
    obtain ⟨kd, n⟩ := y
    rw [hT] at h
    have k9 := kk _ h.2 H locs lsr ad hR hS hL (okS_cons (okV_int _ _) (okS_tl hs)) hc hn
    have hk := hR.kd hT
    by_cases a1 : kd < 17
    · by_cases a2 : kd = 15
      · subst a2
        exact W.alen (n := nI n) (rest := st.map (mv ad)) hx hb (RC_l.mp hk) ((kdK hK 15 (by omega) (by omega)).1 n _) (by rw [arrV_size]; rfl) rfl rfl hd k9
      · exact W.alen (n := nI n) (rest := st.map (mv ad)) hx hb ((RC_i (by have := h.1; omega)).mp hk) ((kdK hK kd h.1 a1).1 n _) (by rw [arrV_size]; rfl) rfl rfl hd k9
    · by_cases a2 : kd < 21
      · exact W.alen (n := nI n) (rest := st.map (mv ad)) hx hb ((RC_q (by omega) a2).mp hk) ((kdQ hK kd (by omega) a2).1 n _) (by rw [arrV_size]; rfl) rfl rfl hd k9
      · obtain ⟨scr, g1, g2, g3, g4, g5⟩ := (RC_x (by omega)).mp hk
        exact W.alen (n := nI n) (rest := st.map (mv ad)) hx hb g1 g2 (by rw [g4]; rfl) rfl rfl hd k9
theorem va_S.grow {A : Nat → Prop} {H0 H H1 : Heap} {locs : List Loc} (h : va_S A H0 H locs) (z : H1.size = H.size + 1) (oq : ∀ x : Nat, x < H.size → H1[x]? = H[x]?) : va_S A H0 H1 locs :=
  ⟨Nat.le_trans h.1 (by omega), fun x h1 h2 => (oq x (Nat.lt_of_lt_of_le h1 h.1)).trans (h.2.1 x h1 h2), h.2.2⟩
theorem fv_born {ad : Nat → Nat} {I : MIy} {J : MJy} {R : MRy} {ci q k : Nat} (h : ci < 13) (hk : k < nfM ci) : defaultValue (tyf ci k) = fv ad (r0 I q 0) (r0 J q 0) (r0 R q none) ci q k := by
  have h4 := fk_no4 ci h k hk
  unfold fv
  rw [r0_at, r0_at, r0_at]
  unfold fk at h4 ⊢
  cases e : tyf ci k <;> rw [e] at h4 <;> first | rfl | (exact absurd rfl h4)
theorem s_new (C : Cx G mi p s m args meth c) {i ci N q : Nat} (hd : decode (cM mi) pc = .ok (.new i, 3)) (hk : kT.any (fun q => decide (q.1 = oM mi ∧ q.2.1 = i ∧ q.2.2.1 = ci)) = true) (hN : N = nfM ci) (hq : T q = none) (h1 : cs + 1 ≤ (rmM mi).cells) (h2 : ns + N ≤ (rmM mi).slots) (kk : Wc G mi p e s m args below meth c Qf (pc + 3) ls (.ref q :: st) (cs + 1) (ns + N) (uT T q (ci, 0)) (r0 I q 0) (r0 J q 0) (r0 R q none)) : Wc G mi p e s m args below meth c Qf pc ls st cs ns T I J R := by
  obtain ⟨hx, hb, hml, hown, hts, hK, hini⟩ := C
  intro H locs lsr ad hR hS hL hs hc hn
  obtain ⟨x, hx1, hx2⟩ := List.any_eq_true.mp hk
  simp only [decide_eq_true_eq] at hx2
  have hx3 := List.all_eq_true.mp kT_ok _ hx1
  simp only [kOk, Bool.and_eq_true, decide_eq_true_eq] at hx3
  obtain ⟨⟨⟨w1, w2⟩, w3⟩, w4⟩ := hx3
  rw [hx2.1, hx2.2.1, hx2.2.2] at w1
  rw [hx2.2.2] at w2 w3 w4
  subst hN
  obtain ⟨c1, c2, c3, c4⟩ := cl_all ci w4
  have hKn := hK.1.1 ci _ c1
  refine W.newcK hx hb hown (hts _ (wAt_in w1)) (hts _ (wAt_in w2)) (hts _ (wAt_in w3)) rfl hd h1 h2 hKn.2.1 rfl fun H1 kC hkC e1 z1 o1 => ?_
  obtain ⟨r1, r2⟩ := hR.new (q := q) (kd := ci) (n := 0) (I' := r0 I q 0) (J' := r0 J q 0) (R' := r0 R q none) hq (fun b hb => r0_row hb) (fun b hb => r0_row hb) (fun b hb => r0_row hb) z1 o1 ((RC_o w4).mpr (by rw [va_up_self]; exact (u_born (tyf ci) hts c2 hKn hkC e1 c3).to (fun k hk => fv_born w4 hk))) (fun k => r0_at _ _ _ _)
  have k9 := kk H1 locs lsr (va_up ad q H.size) r1 (hS.grow z1 o1) (hL.ext r2) (okS_cons (okV_ref (by rw [uT_at]; exact fun q => by cases q)) (hs.ext r2)) h1 h2
  rw [List.map_cons, map_ext hs r2, mv_ref, va_up_self] at k9
  exact k9
theorem s_newarray (C : Cx G mi p s m args meth c) {t : ArrayType} {kd q : Nat} {x : Int32} (hd : decode (cM mi) pc = .ok (.newarray t, 2)) (k1 : 13 ≤ kd) (k2 : kd < 17) (ht : newarray.typeOf t = akd kd) (hw : Cond.arrayClass (akd kd) ∈ T0) (h0 : ¬ x < 0) (h6 : x.toNatClampNeg ≤ 60000) (hq : T q = none) (h1 : cs + 1 ≤ (rmM mi).cells) (h2 : ns + x.toNatClampNeg ≤ (rmM mi).slots) (kk : Wc G mi p e s m args below meth c Qf (pc + 2) ls (.ref q :: st) (cs + 1) (ns + x.toNatClampNeg) (uT T q (kd, x.toNatClampNeg)) (r0 I q 0) (r0 J q 0) (r0 R q none)) : Wc G mi p e s m args below meth c Qf pc ls (.int x :: st) cs ns T I J R := by
  obtain ⟨hx, hb, hml, hown, hts, hK, hini⟩ := C
  intro H locs lsr ad hR hS hL hs hc hn
  refine va_newaK (rest := st.map (mv ad)) hx hb (by rw [ht]; exact hts _ hw) rfl hd rfl h0 rfl ?_ h1 h2 rfl fun H1 cA e1 z1 o1 hAr hNm => ?_
  · rw [ht]
    have : componentBytes (akd kd) ≤ 8 := by
      rcases (show kd = 13 ∨ kd = 14 ∨ kd = 15 ∨ kd = 16 by omega) with rfl | rfl | rfl | rfl <;> decide
    exact Nat.le_trans (Nat.mul_le_mul h6 this) (by decide)
  · have hc2 := (kdK hK kd k1 k2).2
    rw [ht] at hNm e1
    have ec : cA = g_A G kd := Option.some.inj (hNm.symm.trans hc2)
    subst ec
    obtain ⟨r1, r2⟩ := hR.new (q := q) (kd := kd) (n := x.toNatClampNeg) (I' := r0 I q 0) (J' := r0 J q 0) (R' := r0 R q none) hq (fun b hb => r0_row hb) (fun b hb => r0_row hb) (fun b hb => r0_row hb) z1 o1 (by
      by_cases a2 : kd = 15
      · subst a2
        rw [RC_l, va_up_self, e1]
        congr 2
        funext j
        rw [r0_at]
        rfl
      · rw [RC_i (by omega), va_up_self, e1]
        congr 2
        funext j
        rw [r0_at]
        rcases (show kd = 13 ∨ kd = 14 ∨ kd = 16 by omega) with rfl | rfl | rfl <;> rfl) (fun k => r0_at _ _ _ _)
    have k9 := kk H1 locs lsr (va_up ad q H.size) r1 (hS.grow z1 o1) (hL.ext r2) (okS_cons (okV_ref (by rw [uT_at]; exact fun q => by cases q)) ((okS_tl hs).ext r2)) h1 h2
    rw [List.map_cons, map_ext (okS_tl hs) r2, mv_ref, va_up_self] at k9
    exact k9
theorem s_anewarray (C : Cx G mi p s m args meth c) {i kd q : Nat} {x : Int32} (hd : decode (cM mi) pc = .ok (.anewarray i, 3)) (k1 : 17 ≤ kd) (k2 : kd < 21) (hw : Cond.classLink (clN (oM mi)) i (clN (ekd kd)) ∈ T0) (h0 : ¬ x < 0) (h6 : x.toNatClampNeg ≤ 60000) (hq : T q = none) (h1 : cs + 1 ≤ (rmM mi).cells) (h2 : ns + x.toNatClampNeg ≤ (rmM mi).slots) (kk : Wc G mi p e s m args below meth c Qf (pc + 3) ls (.ref q :: st) (cs + 1) (ns + x.toNatClampNeg) (uT T q (kd, x.toNatClampNeg)) (r0 I q 0) (r0 J q 0) (r0 R q none)) : Wc G mi p e s m args below meth c Qf pc ls (.int x :: st) cs ns T I J R := by
  obtain ⟨hx, hb, hml, hown, hts, hK, hini⟩ := C
  intro H locs lsr ad hR hS hL hs hc hn
  refine W.anew (rest := st.map (mv ad)) hx hb hown (hts _ hw) (va_AO.use (hK.2.1.2 kd k1 k2)) rfl hd rfl h0 (by omega) h1 h2 fun cA kA comp f1 f2 f3 f4 => ?_
  generalize hH1 : H.push ({ cls := cA, slots := Array.replicate x.toNatClampNeg .null, vm := .none } : Cell) = H1
  have z1 : H1.size = H.size + 1 := by rw [← hH1, Array.size_push]
  have e1 : H1[H.size]? = some (arrV cA x.toNatClampNeg (fun _ => .null)) := by rw [← hH1, Array.getElem?_push_size, ← arrV_new]
  have o1 : ∀ q : Nat, q < H.size → H1[q]? = H[q]? := fun q hq => by rw [← hH1, Array.getElem?_push, if_neg (Nat.ne_of_lt hq)]
  obtain ⟨kA2, comp2, a1, a2, a3, a4⟩ := (kdQ hK kd k1 k2).2
  have ec : cA = g_A G kd := Option.some.inj (f1.symm.trans a4)
  subst ec
  obtain ⟨r1, r2⟩ := hR.new (q := q) (kd := kd) (n := x.toNatClampNeg) (I' := r0 I q 0) (J' := r0 J q 0) (R' := r0 R q none) hq (fun b hb => r0_row hb) (fun b hb => r0_row hb) (fun b hb => r0_row hb) z1 o1 (by
    rw [RC_q k1 k2, va_up_self, e1]
    congr 2
    funext j
    rw [r0_at]
    rfl) (fun k => r0_at _ _ _ _)
  have k9 := kk H1 locs lsr (va_up ad q H.size) r1 (hS.grow z1 o1) (hL.ext r2) (okS_cons (okV_ref (by rw [uT_at]; exact fun q => by cases q)) ((okS_tl hs).ext r2)) h1 h2
  rw [List.map_cons, map_ext (okS_tl hs) r2, mv_ref, va_up_self] at k9
  exact k9
end HEAP2
