/-! INSTRUCTIONS THAT READ AND WRITE CELLS -/
theorem RC_o {G : GGy} {ad : Nat → Nat} {I : MIy} {J : MJy} {R : MRy} {H : Heap} {s : State} {a kd n : Nat} (h : kd < 13) : RC G ad I J R H s a kd n ↔ t_OB (ad a) ((g_D G).1 kd) (nfM kd) ((g_D G).2 kd) H (fun k => fv ad I J R kd a k) := by
  unfold RC
  rw [if_pos h]
theorem RC_l {G : GGy} {ad : Nat → Nat} {I : MIy} {J : MJy} {R : MRy} {H : Heap} {s : State} {a n : Nat} : RC G ad I J R H s a 15 n ↔ H[ad a]? = some (arrV (g_A G 15) n (fun j => .long (J a j))) := by
  unfold RC
  rw [if_neg (by decide), if_pos rfl]
theorem RC_i {G : GGy} {ad : Nat → Nat} {I : MIy} {J : MJy} {R : MRy} {H : Heap} {s : State} {a kd n : Nat} (h : kd = 13 ∨ kd = 14 ∨ kd = 16) : RC G ad I J R H s a kd n ↔ H[ad a]? = some (arrV (g_A G kd) n (fun j => .int (I a j))) := by
  unfold RC
  rw [if_neg (by omega), if_neg (by omega), if_pos (by omega)]
theorem RC_q {G : GGy} {ad : Nat → Nat} {I : MIy} {J : MJy} {R : MRy} {H : Heap} {s : State} {a kd n : Nat} (h : 17 ≤ kd) (h2 : kd < 21) : RC G ad I J R H s a kd n ↔ H[ad a]? = some (arrV (g_A G kd) n (fun j => va_rf ((R a j).map ad))) := by
  unfold RC
  rw [if_neg (by omega), if_neg (by omega), if_neg (by omega), if_pos h2]
theorem RC_x {G : GGy} {ad : Nat → Nat} {I : MIy} {J : MJy} {R : MRy} {H : Heap} {s : State} {a kd n : Nat} (h : 21 ≤ kd) : RC G ad I J R H s a kd n ↔ va_X (ad a) n (I a) s H := by
  unfold RC
  rw [if_neg (by omega), if_neg (by omega), if_neg (by omega), if_neg (by omega)]
theorem fv_gf {ad : Nat → Nat} {I : MIy} {J : MJy} {R : MRy} {ci o k : Nat} {v : Value} (h : tagF v = fk ci k) : fv ad I J R ci o k = mv ad (gf v I J R o k) := by
  unfold fv
  rw [← h]
  cases v <;> first | rfl | exact (mv_rf _ _).symm
theorem gf_ok {G : GGy} {ad : Nat → Nat} {T : TTy} {I : MIy} {J : MJy} {R : MRy} {H : Heap} {s : State} (hR : Rel G ad T I J R H s) {o k : Nat} (ho : T o ≠ none) (v : Value) : okV T (gf v I J R o k) := by
  intro b hb
  cases v with
  | null =>
    cases hr : R o k with
    | none => simp [gf, hr, va_rf] at hb
    | some b' =>
      simp only [gf, hr, va_rf, Value.ref.injEq] at hb
      subst hb
      exact hR.2.2.1 o k _ ho hr
  | _ => simp [gf] at hb
theorem fT_in {o i ci k pos : Nat} (h : (o, i, ci, k, pos) ∈ fT) : Cond.fieldLink (clN o) i (clN ci) ((TXf ci) k).2.1 ((TXf ci) k).2.2.1 ∈ T0 ∧ k < nfM ci ∧ ci < 13 ∧ ((TXf ci) k).1 = clN ci := by
  have h1 := List.all_eq_true.mp fT_ok _ h
  simp only [fOk, Bool.and_eq_true, decide_eq_true_eq] at h1
  exact ⟨wAt_in h1.1.1.1, h1.1.1.2, h1.1.2, h1.2⟩
theorem fk_no4 : ∀ ci, ci < 13 → ∀ k, k < nfM ci → fk ci k ≠ 4 := by decide +kernel
theorem fk_int {ci k : Nat} (h : fk ci k = 0) : tyf ci k = .int := by
  unfold fk at h
  cases e : tyf ci k <;> rw [e] at h <;> simp [fkt] at h ⊢
theorem fk_long {ci k : Nat} (h : fk ci k = 1) : tyf ci k = .long := by
  unfold fk at h
  cases e : tyf ci k <;> rw [e] at h <;> simp [fkt] at h ⊢
theorem fk_bool {ci k : Nat} (h : fk ci k = 3) : tyf ci k = .boolean := by
  unfold fk at h
  cases e : tyf ci k <;> rw [e] at h <;> simp [fkt] at h ⊢
theorem fk_ref {ci k : Nat} (h : fk ci k = 2) (a : Nat) : narrow (tyf ci k) (.ref a) = .ref a ∧ fits (tyf ci k) (.ref a) = true := by
  unfold fk at h
  cases e : tyf ci k <;> rw [e] at h <;> simp [fkt] at h <;> exact ⟨rfl, rfl⟩
theorem kdK {G : GGy} {s : State} (h : KU G s) (kd : Nat) (h1 : 13 ≤ kd) (h2 : kd < 17) : ArrOfT s (g_A G kd) (akd kd) ∧ s.vm.findClass ("[" ++ (akd kd).toString) = some (g_A G kd) := by
  rcases (show kd = 13 ∨ kd = 14 ∨ kd = 15 ∨ kd = 16 by omega) with rfl | rfl | rfl | rfl
  · exact h.1.2 0 _ rfl
  · exact h.1.2 1 _ rfl
  · exact h.1.2 2 _ rfl
  · exact h.1.2 3 _ rfl
theorem kdQ {G : GGy} {s : State} (h : KU G s) (kd : Nat) (h1 : 17 ≤ kd) (h2 : kd < 21) : ArrOfT s (g_A G kd) (.object (clN (ekd kd))) ∧ va_RA s (g_A G kd) (.object (clN (ekd kd))) := by
  rcases (show kd = 17 ∨ kd = 18 ∨ kd = 19 ∨ kd = 20 by omega) with rfl | rfl | rfl | rfl
  · exact h.1.2 4 _ rfl
  · exact h.1.2 5 _ rfl
  · exact h.1.2 6 _ rfl
  · exact h.1.2 7 _ rfl
theorem Rel.kd {G : GGy} {ad : Nat → Nat} {T : TTy} {I : MIy} {J : MJy} {R : MRy} {H : Heap} {s : State} (h : Rel G ad T I J R H s) {a kd n : Nat} (hT : T a = some (kd, n)) : RC G ad I J R H s a kd n := (h.2.1 a kd n hT).2.2
section HEAP
variable {G : GGy} {mi : Nat} {p : Program} {e : Env} {s : State} {m : MethodId} {args : Array Value} {below : List Frame} {meth : Method} {c : Code} {Qf : (State → Prop) × TTy × (Nat → Nat)}
variable {pc : Nat} {ls : List (Option Value)} {st : List Value} {cs ns : Nat} {T : TTy} {I : MIy} {J : MJy} {R : MRy}
theorem s_getfield (C : Cx G mi p s m args meth c) {i ci k pos o : Nat} {v : Value} (hd : decode (cM mi) pc = .ok (.getfield i, 3)) (hf : (oM mi, i, ci, k, pos) ∈ fT) (ht : tagF v = fk ci k) (hT : T o = some (ci, 0)) (kk : Wc G mi p e s m args below meth c Qf (pc + 3) ls (gf v I J R o k :: st) cs ns T I J R) : Wc G mi p e s m args below meth c Qf pc ls (.ref o :: st) cs ns T I J R := by
  obtain ⟨hx, hb, hml, hown, hts, hK, hini⟩ := C
  intro H locs lsr ad hR hS hL hs hc hn
  obtain ⟨f1, f2, f3, f4⟩ := fT_in hf
  obtain ⟨c1, c2, c3, c4⟩ := cl_all ci f3
  obtain ⟨cell, q1, q2, q3, q4⟩ := (RC_o f3).mp (hR.kd hT)
  obtain ⟨hS1, hfc, kC, hkC, hkind⟩ := hK.1.1 ci _ c1
  obtain ⟨cf, kf, fi, f, hi, hsl⟩ := hS1 k f2
  have hi2 := hi
  rw [show ((clN ci, TXf ci, nfM ci) : vw_C).2.1 = TXf ci from rfl, f4] at hi2
  refine W.getf (v := mv ad (gf v I J R o k)) (rest := st.map (mv ad)) hx hb hown (hts _ f1) hi2 (u_facts hfc hkC (u_lays hts c2 f2) hi).1 q1 (by rw [q3]; exact fun h => by cases h) ?_ rfl rfl hd (kk H locs lsr ad hR hS hL (okS_cons (gf_ok hR (okS_ref hs) v) (okS_tl hs)) hc hn)
  rw [hsl, ← fv_gf ht]
  exact q4 k f2
theorem s_put (C : Cx G mi p s m args meth c) {i ci k pos o : Nat} {w : Value} {I' : MIy} {J' : MJy} {R' : MRy} (hd : decode (cM mi) pc = .ok (.putfield i, 3)) (hf : (oM mi, i, ci, k, pos) ∈ fT) (hfin : (if ((TXf ci) k).2.2.2 = true then decide ((yM mi).name = "<init>") && decide (oM mi = ci) else true) = true) (hT : T o = some (ci, 0))
    (hI : ∀ b, b ≠ o → I' b = I b) (hJ : ∀ b, b ≠ o → J' b = J b) (hR2 : ∀ b, b ≠ o → R' b = R b) (hv : ∀ ad, fv ad I' J' R' ci o k = mv ad w) (ho : ∀ ad j, j ≠ k → fv ad I' J' R' ci o j = fv ad I J R ci o j) (hnw : ∀ ad, narrow (tyf ci k) (mv ad w) = mv ad w ∧ fits (tyf ci k) (mv ad w) = true) (hr : ∀ ad H, Rel G ad T I J R H s → okV T w → ∀ j b, R' o j = some b → T b ≠ none)
    (kk : Wc G mi p e s m args below meth c Qf (pc + 3) ls st cs ns T I' J' R') : Wc G mi p e s m args below meth c Qf pc ls (w :: .ref o :: st) cs ns T I J R := by
  obtain ⟨hx, hb, hml, hown, hts, hK, hini⟩ := C
  intro H locs lsr ad hR hS hL hs hc hn
  obtain ⟨f1, f2, f3, f4⟩ := fT_in hf
  obtain ⟨c1, c2, c3, c4⟩ := cl_all ci f3
  obtain ⟨cell, q1, q2, q3, q4⟩ := (RC_o f3).mp (hR.kd hT)
  have hap := va_apart (own := clN (oM mi)) hts c2 (tyf ci) c3 c4 hK.1 c1
  obtain ⟨hS1, hfc, kC, hkC, hkind⟩ := hK.1.1 ci _ c1
  obtain ⟨cf, kf, fi, f, hi, hsl⟩ := hS1 k f2
  have hi2 := hi
  rw [show ((clN ci, TXf ci, nfM ci) : vw_C).2.1 = TXf ci from rfl, f4] at hi2
  have hst := (u_facts hfc hkC (u_lays hts c2 f2) hi).1
  have hlay := hts _ (c2 _ (u_in_lay f2))
  have hbase : g_b G ≤ ad o := (hR.2.1 o ci 0 hT).1 (by omega)
  have fin : ∀ H' : Heap, H'[ad o]? = some (cell.setSlot f.slot (mv ad w)) → H'.size = H.size → (∀ q, q ≠ ad o → H'[q]? = H[q]?) → W p (g_l G) e (rmM mi) s m args below meth c H' (locs ++ [⟨ad o, f.slot⟩]) cs ns Qf.1 (F0 m (pc + 3) lsr (st.map (mv ad))) := by
    intro H' e1 e2 e3
    rw [hsl] at e1 ⊢
    refine kk H' _ lsr ad (hR.upd hT hI hJ hR2 e2 e3 ((RC_o f3).mpr (t_OB.to (V := updV (fun j => fv ad I J R ci o j) k (mv ad w)) ⟨_, e1, q2, q3, t_set q4 hap f2 (mv ad w)⟩ (fun j _ => ?_))) (hr ad H hR (okS_hd hs))) (hS.put e2 e3 hbase) hL (okS_tl (okS_tl hs)) hc hn
    by_cases ej : j = k
    · subst ej
      simp only [updV, if_pos]
      exact (hv ad).symm
    · simp only [updV, if_neg ej]
      exact (ho ad j ej).symm
  by_cases hfl : ((TXf ci) k).2.2.2 = true
  · rw [if_pos hfl] at hfin
    simp only [Bool.and_eq_true, decide_eq_true_eq] at hfin
    unfold u_lay at hlay
    rw [if_pos hfl] at hlay
    have hcf : m.cls = cf := by
      obtain ⟨_, _, c', _, _, _, -, -, hf', -, -, -, hown2, -⟩ := Cond.laysFinal_spec hlay
      have e1 : c' = cf := by have := hi.symm.trans hf'; simp at this; exact this.1.symm
      rw [f4, ← hfin.2] at hown2
      rw [← e1]; exact Option.some.inj (hown.symm.trans hown2)
    have h6 := u_fits hfc hkC hkind (Or.inr hlay) hi (c3 k f2) (hnw ad).1 (hnw ad).2
    exact W.putFinK (rest := st.map (mv ad)) hx hb hown (hts _ f1) hi2 hst hcf (hini hfin.1) (by rw [q2]; exact h6) q1 q3 (by rw [hsl]; exact k2_hasslot (q4 k f2)) rfl rfl hd fin
  · unfold u_lay at hlay
    rw [if_neg hfl] at hlay
    have h6 := u_store hfc hkC hkind hlay hi (c3 k f2) (hnw ad).1 (hnw ad).2
    exact W.putK (rest := st.map (mv ad)) hx hb (f := f) ⟨hown, hts _ f1, ⟨_, _, _, hi2⟩, hst⟩ (by rw [q2]; exact h6) q1 q3 (by rw [hsl]; exact k2_hasslot (q4 k f2)) rfl rfl hd fin
theorem s_putfield (C : Cx G mi p s m args meth c) {i ci k pos : Nat} {v : Value} (hd : decode (cM mi) pc = .ok (.putfield i, 3)) (hf : (oM mi, i, ci, k, pos) ∈ fT) (ht : tagF v = fk ci k) (hfin : (if ((TXf ci) k).2.2.2 = true then decide ((yM mi).name = "<init>") && decide (oM mi = ci) else true) = true) {nx : List Value → MIy → MJy → MRy → Prop} (hnx : ∀ st I J R, nx st I J R → Wc G mi p e s m args below meth c Qf (pc + 3) ls st cs ns T I J R) (h : pfd v st T ci I J R k nx) : Wc G mi p e s m args below meth c Qf pc ls st cs ns T I J R := by
  unfold pfd at h
  split at h
  · rename_i x o st' 
    refine s_put C (I' := u2 I o k x) (J' := J) (R' := R) hd hf hfin h.1 (fun b hb => u2_row hb) (fun _ _ => rfl) (fun _ _ => rfl) (fun ad => ?_) (fun ad j hj => fv_cong (u2_ne (fun q => hj q.2)) rfl rfl) (fun ad => ?_) (fun ad H hR _ j b hb => hR.2.2.1 o j b (by rw [h.1]; exact fun q => by cases q) hb) (hnx _ _ _ _ h.2)
    · unfold fv
      rw [← ht]
      show Value.int _ = Value.int _
      rw [u2_at]
    · rw [fk_int ht.symm]
      exact ⟨rfl, rfl⟩
  · rename_i x o st'
    refine s_put C (I' := u2 I o k x) (J' := J) (R' := R) hd hf hfin h.1 (fun b hb => u2_row hb) (fun _ _ => rfl) (fun _ _ => rfl) (fun ad => ?_) (fun ad j hj => fv_cong (u2_ne (fun q => hj q.2)) rfl rfl) (fun ad => ?_) (fun ad H hR _ j b hb => hR.2.2.1 o j b (by rw [h.1]; exact fun q => by cases q) hb) (hnx _ _ _ _ h.2.2)
    · unfold fv
      rw [← ht]
      show Value.int _ = Value.int _
      rw [u2_at]
    · rw [fk_bool ht.symm]
      rcases h.2.1 with rfl | rfl <;> exact ⟨rfl, rfl⟩
  · rename_i x o st'
    refine s_put C (I' := I) (J' := u2 J o k x) (R' := R) hd hf hfin h.1 (fun _ _ => rfl) (fun b hb => u2_row hb) (fun _ _ => rfl) (fun ad => ?_) (fun ad j hj => fv_cong rfl (u2_ne (fun q => hj q.2)) rfl) (fun ad => ?_) (fun ad H hR _ j b hb => hR.2.2.1 o j b (by rw [h.1]; exact fun q => by cases q) hb) (hnx _ _ _ _ h.2)
    · unfold fv
      rw [← ht]
      show Value.long _ = Value.long _
      rw [u2_at]
    · rw [fk_long ht.symm]
      exact ⟨rfl, rfl⟩
  · rename_i b0 o st'
    refine s_put C (I' := I) (J' := J) (R' := u2 R o k (some b0)) hd hf hfin h.1 (fun _ _ => rfl) (fun _ _ => rfl) (fun b hb => u2_row hb) (fun ad => ?_) (fun ad j hj => fv_cong rfl rfl (by rw [u2_ne (fun q => hj q.2)])) (fun ad => ?_) (fun ad H hR hw j b hb => ?_) (hnx _ _ _ _ h.2)
    · unfold fv
      rw [← ht]
      show va_rf _ = _
      rw [u2_at]
      rfl
    · exact fk_ref ht.symm _
    · by_cases q : j = k
      · subst q
        rw [u2_at] at hb
        cases hb
        exact hw _ rfl
      · rw [u2_ne (fun z => q z.2)] at hb
        exact hR.2.2.1 o j b (by rw [h.1]; exact fun q => by cases q) hb
  · exact h.elim
theorem s_getstatic (C : Cx G mi p s m args meth c) {i : Nat} (hd : decode (cM mi) pc = .ok (.getstatic i, 3)) (hw : Cond.fieldLink (clN (oM mi)) i "TelegraphHouse" "ZONE_CENTS" "[I" ∈ T0) (kk : Wc G mi p e s m args below meth c Qf (pc + 3) ls (.ref 0 :: st) cs ns T I J R) : Wc G mi p e s m args below meth c Qf pc ls st cs ns T I J R := by
  obtain ⟨hx, hb, hml, hown, hts, hK, hini⟩ := C
  intro H locs lsr ad hR hS hL hs hc hn
  have h := kk H locs lsr ad hR hS hL (okS_cons (okV_ref hR.2.2.2.1) hs) hc hn
  refine va_gets hx hb hK.2.2 hS hown (hts _ hw) (fun _ h9 => h9) hd ?_
  rw [← hR.2.2.2.2.1]
  exact h
theorem s_iaload (C : Cx G mi p s m args meth c) {o : Nat} {i : Int32} (hd : decode (cM mi) pc = .ok (.iaload, 1)) (h : tyI (T o) i) (kk : Wc G mi p e s m args below meth c Qf (pc + 1) ls (.int (I o i.toNatClampNeg) :: st) cs ns T I J R) : Wc G mi p e s m args below meth c Qf pc ls (.int i :: .ref o :: st) cs ns T I J R := by
  obtain ⟨hx, hb, hml, hown, hts, hK, hini⟩ := C
  intro H locs lsr ad hR hS hL hs hc hn
  have k9 := kk H locs lsr ad hR hS hL (okS_cons (okV_int _ _) (okS_tl (okS_tl hs))) hc hn
  cases hT : T o with
  | none => rw [hT] at h; exact h.elim
  | some x =>
    obtain ⟨kd, n⟩ := x
    rw [hT] at h
    have hlt : i.toNatClampNeg < n := Nat.not_le.mp fun q => h.2 (Or.inr q)
    rcases h.1 with rfl | rfl
    · exact W.iald (v := .int (I o i.toNatClampNeg)) (rest := st.map (mv ad)) hx hb ((RC_i (by omega)).mp (hR.kd hT)) ((kdK hK 14 (by omega) (by omega)).1 n _) (fun q => by cases q) (by rw [arrV_size]; exact h.2) (by rw [arrV_read _ _ hlt]) rfl rfl hd k9
    · obtain ⟨scr, g1, g2, g3, g4, g5⟩ := (RC_x (Nat.le_refl 21)).mp (hR.kd hT)
      exact W.iald (v := .int (I o i.toNatClampNeg)) (rest := st.map (mv ad)) hx hb g1 g2 g3 (by rw [g4]; exact h.2) (g5 _ hlt) rfl rfl hd k9
theorem s_baload (C : Cx G mi p s m args meth c) {o : Nat} {i : Int32} (hd : decode (cM mi) pc = .ok (.baload, 1)) (h : tyB (T o) i) (kk : Wc G mi p e s m args below meth c Qf (pc + 1) ls (.int (I o i.toNatClampNeg) :: st) cs ns T I J R) : Wc G mi p e s m args below meth c Qf pc ls (.int i :: .ref o :: st) cs ns T I J R := by
  obtain ⟨hx, hb, hml, hown, hts, hK, hini⟩ := C
  intro H locs lsr ad hR hS hL hs hc hn
  have k9 := kk H locs lsr ad hR hS hL (okS_cons (okV_int _ _) (okS_tl (okS_tl hs))) hc hn
  cases hT : T o with
  | none => rw [hT] at h; exact h.elim
  | some x =>
    obtain ⟨kd, n⟩ := x
    rw [hT] at h
    have hlt : i.toNatClampNeg < n := Nat.not_le.mp fun q => h.2 (Or.inr q)
    rcases h.1 with rfl | rfl
    · exact W.bald (v := .int (I o i.toNatClampNeg)) (rest := st.map (mv ad)) hx hb ((RC_i (by omega)).mp (hR.kd hT)) ((kdK hK 13 (by omega) (by omega)).1 n _) (fun q => by cases q) (by rw [arrV_size]; exact h.2) (by rw [arrV_read _ _ hlt]) rfl rfl hd k9
    · exact W.zald (v := .int (I o i.toNatClampNeg)) (rest := st.map (mv ad)) hx hb ((RC_i (by omega)).mp (hR.kd hT)) ((kdK hK 16 (by omega) (by omega)).1 n _) (fun q => by cases q) (by rw [arrV_size]; exact h.2) (by rw [arrV_read _ _ hlt]) rfl rfl hd k9
theorem s_laload (C : Cx G mi p s m args meth c) {o : Nat} {i : Int32} (hd : decode (cM mi) pc = .ok (.laload, 1)) (h : tyIs 15 (T o) i) (kk : Wc G mi p e s m args below meth c Qf (pc + 1) ls (.long (J o i.toNatClampNeg) :: st) cs ns T I J R) : Wc G mi p e s m args below meth c Qf pc ls (.int i :: .ref o :: st) cs ns T I J R := by
  obtain ⟨hx, hb, hml, hown, hts, hK, hini⟩ := C
  intro H locs lsr ad hR hS hL hs hc hn
  have k9 := kk H locs lsr ad hR hS hL (okS_cons (okV_long _ _) (okS_tl (okS_tl hs))) hc hn
  cases hT : T o with
  | none => rw [hT] at h; exact h.elim
  | some x =>
    obtain ⟨kd, n⟩ := x
    rw [hT] at h
    have hlt : i.toNatClampNeg < n := Nat.not_le.mp fun q => h.2 (Or.inr q)
    obtain ⟨rfl, h2⟩ := h
    exact W.lald (v := .long (J o i.toNatClampNeg)) (rest := st.map (mv ad)) hx hb (RC_l.mp (hR.kd hT)) ((kdK hK 15 (by omega) (by omega)).1 n _) (fun q => by cases q) (by rw [arrV_size]; exact h2) (by rw [arrV_read _ _ hlt]) rfl rfl hd k9
theorem s_aaload (C : Cx G mi p s m args meth c) {o : Nat} {i : Int32} (hd : decode (cM mi) pc = .ok (.aaload, 1)) (h : tyQ (T o) i) (kk : Wc G mi p e s m args below meth c Qf (pc + 1) ls (va_rf (R o i.toNatClampNeg) :: st) cs ns T I J R) : Wc G mi p e s m args below meth c Qf pc ls (.int i :: .ref o :: st) cs ns T I J R := by
  obtain ⟨hx, hb, hml, hown, hts, hK, hini⟩ := C
  intro H locs lsr ad hR hS hL hs hc hn
  have k9 := kk H locs lsr ad hR hS hL (okS_cons (gf_ok (k := i.toNatClampNeg) hR (okS_ref (okS_tl hs)) .null) (okS_tl (okS_tl hs))) hc hn
  cases hT : T o with
  | none => rw [hT] at h; exact h.elim
  | some x =>
    obtain ⟨kd, n⟩ := x
    rw [hT] at h
    have hlt : i.toNatClampNeg < n := Nat.not_le.mp fun q => h.2 (Or.inr q)
    refine W.aald (v := mv ad (va_rf (R o i.toNatClampNeg))) (ty := .object (clN (ekd kd))) (rest := st.map (mv ad)) hx hb ((RC_q h.1.1 h.1.2).mp (hR.kd hT)) ((kdQ hK kd h.1.1 h.1.2).1 n _) rfl (fun q => by cases q) (by rw [arrV_size]; exact h.2) (by rw [arrV_read _ _ hlt, mv_rf]) rfl rfl hd k9
end HEAP
