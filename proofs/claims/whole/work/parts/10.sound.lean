/-! THE JDK: Math, Object.<init>, arraycopy -/
theorem w_min : Cond.static Lib.Math.min.name ∈ T0 ∧ Cond.initialized "java/lang/Math" ∈ T0 ∧ Cond.code Lib.Math.min.name Lib.Math.min.code 2 (some .int) ∈ T0 := ⟨(inC2 (i := 81) rfl rfl), (inC1 (i := 11) rfl rfl), (inC2 (i := 82) rfl rfl)⟩
theorem w_max : Cond.static Lib.Math.max.name ∈ T0 ∧ Cond.initialized "java/lang/Math" ∈ T0 ∧ Cond.code Lib.Math.max.name Lib.Math.max.code 2 (some .int) ∈ T0 := ⟨(inC4 (i := 55) rfl rfl), (inC1 (i := 11) rfl rfl), (inC4 (i := 56) rfl rfl)⟩
theorem w_abs : Cond.static Lib.Math.abs.name ∈ T0 ∧ Cond.initialized "java/lang/Math" ∈ T0 ∧ Cond.code Lib.Math.abs.name Lib.Math.abs.code 1 (some .int) ∈ T0 := ⟨(inC3 (i := 7) rfl rfl), (inC1 (i := 11) rfl rfl), (inC3 (i := 8) rfl rfl)⟩
theorem w_obj : Cond.instanceMethod objectInit ∈ T0 ∧ Cond.code objectInit ⟨#[0xb1]⟩ 1 none ∈ T0 := ⟨(inC1 (i := 23) rfl rfl), (inC1 (i := 24) rfl rfl)⟩
theorem w_copy : Cond.native arraycopyName ∈ T0 ∧ Cond.static arraycopyName ∈ T0 ∧ Cond.initialized "java/lang/System" ∈ T0 := ⟨(inC4 (i := 211) rfl rfl), (inC4 (i := 210) rfl rfl), (inC1 (i := 16) rfl rfl)⟩
section NATS
variable {G : GGy} {mi : Nat} {p : Program} {e : Env} {s : State} {m : MethodId} {args : Array Value} {below : List Frame} {meth : Method} {c : Code} {Qf : (State → Prop) × TTy × (Nat → Nat)}
variable {pc : Nat} {ls : List (Option Value)} {st : List Value} {cs ns : Nat} {T : TTy} {I : MIy} {J : MJy} {R : MRy}
theorem s_min (C : Cx G mi p s m args meth c) {i : Nat} {x y : Int32} (hd : decode (cM mi) pc = .ok (.invokestatic i, 3)) (hw : Cond.methodLink (clN (oM mi)) i Lib.Math.min.name ∈ T0) (h1 : 1 ≤ (rmM mi).frames) (h2 : 21 ≤ (rmM mi).locals) (h4 : sL 8 st) (k : Wc G mi p e s m args below meth c Qf (pc + 3) ls (.int (if y < x then y else x) :: st) cs ns T I J R) : Wc G mi p e s m args below meth c Qf pc ls (.int y :: .int x :: st) cs ns T I J R := by
  obtain ⟨hx, hb, hml, hown, hts, hK, hini⟩ := C
  intro H locs lsr ad hR hS hL hs hc hn
  exact va_mmin (rest := st.map (mv ad)) hx hb (hml.trans hL.1.symm) hown (hts _ hw) (hts _ w_min.1) (hts _ w_min.2.1) (hts _ w_min.2.2) h1 (by have := sL_sum ad 8 st h4; omega) hc hn hd (k H locs lsr ad hR hS hL (okS_cons (okV_int _ _) (okS_tl (okS_tl hs))) hc hn)
theorem s_max (C : Cx G mi p s m args meth c) {i : Nat} {x y : Int32} (hd : decode (cM mi) pc = .ok (.invokestatic i, 3)) (hw : Cond.methodLink (clN (oM mi)) i Lib.Math.max.name ∈ T0) (h1 : 1 ≤ (rmM mi).frames) (h2 : 21 ≤ (rmM mi).locals) (h4 : sL 8 st) (k : Wc G mi p e s m args below meth c Qf (pc + 3) ls (.int (if x < y then y else x) :: st) cs ns T I J R) : Wc G mi p e s m args below meth c Qf pc ls (.int y :: .int x :: st) cs ns T I J R := by
  obtain ⟨hx, hb, hml, hown, hts, hK, hini⟩ := C
  intro H locs lsr ad hR hS hL hs hc hn
  exact va_mmax (rest := st.map (mv ad)) hx hb (hml.trans hL.1.symm) hown (hts _ hw) (hts _ w_max.1) (hts _ w_max.2.1) (hts _ w_max.2.2) h1 (by have := sL_sum ad 8 st h4; omega) hc hn hd (k H locs lsr ad hR hS hL (okS_cons (okV_int _ _) (okS_tl (okS_tl hs))) hc hn)
theorem s_abs (C : Cx G mi p s m args meth c) {i : Nat} {x : Int32} (hd : decode (cM mi) pc = .ok (.invokestatic i, 3)) (hw : Cond.methodLink (clN (oM mi)) i Lib.Math.abs.name ∈ T0) (h1 : 1 ≤ (rmM mi).frames) (h2 : 21 ≤ (rmM mi).locals) (h4 : sL 8 st) (k : Wc G mi p e s m args below meth c Qf (pc + 3) ls (.int (if 0 ≤ x then x else 0 - x) :: st) cs ns T I J R) : Wc G mi p e s m args below meth c Qf pc ls (.int x :: st) cs ns T I J R := by
  obtain ⟨hx, hb, hml, hown, hts, hK, hini⟩ := C
  intro H locs lsr ad hR hS hL hs hc hn
  exact va_mabs (rest := st.map (mv ad)) hx hb (hml.trans hL.1.symm) hown (hts _ hw) (hts _ w_abs.1) (hts _ w_abs.2.1) (hts _ w_abs.2.2) h1 (by have := sL_sum ad 8 st h4; omega) hc hn hd (k H locs lsr ad hR hS hL (okS_cons (okV_int _ _) (okS_tl hs)) hc hn)
theorem s_objInit (C : Cx G mi p s m args meth c) {i o : Nat} (hd : decode (cM mi) pc = .ok (.invokespecial i, 3)) (hw : Cond.methodLink (clN (oM mi)) i objectInit ∈ T0) (h1 : 1 ≤ (rmM mi).frames) (h2 : 20 ≤ (rmM mi).locals) (h4 : sL 8 st) (k : Wc G mi p e s m args below meth c Qf (pc + 3) ls st cs ns T I J R) : Wc G mi p e s m args below meth c Qf pc ls (.ref o :: st) cs ns T I J R := by
  obtain ⟨hx, hb, hml, hown, hts, hK, hini⟩ := C
  intro H locs lsr ad hR hS hL hs hc hn
  exact W.objInit (rest := st.map (mv ad)) hx hb hown (hts _ hw) (hts _ w_obj.1) (hts _ w_obj.2) rfl (hL.1.trans hml.symm) rfl hd h1 (by have := sL_sum ad 8 st h4; have := lv_room (m := m) (pc := pc) (ls := lsr) (rest := (.ref o :: st).map (mv ad)) this; omega) (k H locs lsr ad hR hS hL (okS_tl hs) hc hn)
theorem s_copy (C : Cx G mi p s m args meth c) {i a b n0 n1 : Nat} {sp dp n : Int32} (hd : decode (cM mi) pc = .ok (.invokestatic i, 3)) (hw : Cond.methodLink (clN (oM mi)) i arraycopyName ∈ T0) (hf : 1 ≤ (rmM mi).frames) (hlo : 30 ≤ (rmM mi).locals) (h4s : sL 8 st) (hab : a ≠ b) (ha : T a = some (14, n0)) (h4 : sp.toNatClampNeg + n.toNatClampNeg ≤ n0) (hb' : T b = some (14, n1)) (h5 : dp.toNatClampNeg + n.toNatClampNeg ≤ n1) (h1 : ¬ sp < 0) (h2 : ¬ dp < 0) (h3 : ¬ n < 0)
    (k : Wc G mi p e s m args below meth c Qf (pc + 3) ls st cs ns T (cpyI I a b sp.toNatClampNeg dp.toNatClampNeg n.toNatClampNeg) J R) : Wc G mi p e s m args below meth c Qf pc ls (.int n :: .int dp :: .ref b :: .int sp :: .ref a :: st) cs ns T I J R := by
  obtain ⟨hx, hb, hml, hown, hts, hK, hini⟩ := C
  intro H locs lsr ad hR hS hL hs hc hn
  have nn : ∀ z : Int32, ¬ z < 0 → z.toInt = (z.toNatClampNeg : Int) := by
    intro z hz
    have h0 : 0 ≤ z.toInt := by
      have := Int32.not_lt.mp hz
      simpa using Int32.le_iff_toInt_le.mp this
    show z.toInt = ((z.toInt.toNat : Nat) : Int)
    omega
  have hc0 : H[ad a]? = some (vp_cell (g_A G 14) (n0, .inl (I a))) := (RC_i (by omega)).mp (hR.kd ha)
  have hc1 : H[ad b]? = some (vp_cell (g_A G 14) (n1, .inl (I b))) := (RC_i (by omega)).mp (hR.kd hb')
  have hbase : g_b G ≤ ad b := (hR.2.1 b 14 n1 hb').1 (by omega)
  have hAr := (kdK hK 14 (by omega) (by omega)).1
  obtain ⟨-, k0, hk0, cm0, hkk0⟩ := hAr n0 (fun j => .int (I a j))
  obtain ⟨-, k1, hk1, cm1, hkk1⟩ := hAr n1 (fun j => .int (I b j))
  have key : ∀ H1 : Heap, ∀ locs1 : List Loc, H1[ad b]? = some (vp_cell (g_A G 14) (n1, .inl (va_cpy (I a) (I b) sp.toNatClampNeg dp.toNatClampNeg n.toNatClampNeg))) → H1.size = H.size → (∀ q : Nat, q ≠ ad b → H1[q]? = H[q]?) → (∀ q ∈ locs1, g_b G ≤ q.base) → W p (g_l G) e (rmM mi) s m args below meth c H1 locs1 cs ns Qf.1 (F0 m (pc + 3) lsr (st.map (mv ad))) := by
    intro H1 locs1 e1 z oq hl1
    refine k H1 locs1 lsr ad (hR.upd (I' := cpyI I a b sp.toNatClampNeg dp.toNatClampNeg n.toNatClampNeg) (J' := J) (R' := R) hb' (fun x hx => ?_) (fun _ _ => rfl) (fun _ _ => rfl) z oq ((RC_i (by omega)).mpr ?_) (fun j b2 hb2 => hR.2.2.1 b j b2 (by rw [hb']; exact fun q => by cases q) hb2)) ⟨by rw [z]; exact hS.1, fun q g1 g2 => ?_, hl1⟩ hL (okS_tl (okS_tl (okS_tl (okS_tl (okS_tl hs))))) hc hn
    · funext j
      simp [cpyI, hx]
    · rw [e1, vp_cell_i]
      congr 2
      funext j
      simp [cpyI]
    · rw [oq q (fun e => g2 (by rw [e]; exact hbase))]
      exact hS.2.1 q g1 g2
  intro X hX Y
  obtain ⟨vm', X', step⟩ := Y.arraycopy hx hown (hts _ hw) (hts _ w_copy.1) (hts _ w_copy.2.1) (hts _ w_copy.2.2) (src := ad a) (dst := ad b) (cs := vp_cell (g_A G 14) (n0, .inl (I a))) (cd := vp_cell (g_A G 14) (n1, .inl (I b))) (srcPos := sp) (destPos := dp) (n := n) (by rw [hX]; exact hc0) (by rw [hX]; exact hc1)
    (fun _ h => by cases h) (fun _ h => by cases h) (fun h => by cases h) (fun h => by cases h) hk0 hk1 hkk0 hkk1 (by decide) h1 h2 h3
    (by rw [nn sp h1, nn n h3]; show ¬ _ > ((arrV _ n0 (fun j => .int (I a j))).slots.size : Int); rw [arrV_size]; omega)
    (by rw [nn dp h2, nn n h3]; show ¬ _ > ((arrV _ n1 (fun j => .int (I b j))).slots.size : Int); rw [arrV_size]; omega)
    (fun vm₁ _ i hi => by
      have e : (vp_cell (g_A G 14) (n0, .inl (I a))).slots.getD (sp.toNatClampNeg + i) .null = .int (I a (sp.toNatClampNeg + i)) := by
        show (arrV _ n0 (fun j => .int (I a j))).slots.getD _ _ = _
        rw [Array.getD_eq_getD_getElem?, arrV_read _ _ (by omega)]
        rfl
      refine ⟨?_, ?_⟩
      · rw [e]
        rfl
      · rw [e]
        exact trivial)
    (g := F0 m pc lsr ((.int n :: .int dp :: .ref b :: .int sp :: .ref a :: st).map (mv ad))) rfl (hL.1.trans hml.symm) (rest := st.map (mv ad)) rfl (by rw [hb]; exact hd) hf (by
      have e9 : nativeFrameWords "java/lang/System" "arraycopy" 5 = 7 := by decide
      have := sL_sum ad 8 st h4s
      rw [e9]
      show 2 * 0 + _ + _ ≤ _
      omega)
  have e1 : copied (vp_cell (g_A G 14) (n0, .inl (I a))) (vp_cell (g_A G 14) (n1, .inl (I b))) sp dp n = vp_cell (g_A G 14) (n1, .inl (va_cpy (I a) (I b) sp.toNatClampNeg dp.toNatClampNeg n.toNatClampNeg)) := va_copied (fun z => .int z) _ _ (I a) (I b) h4
  rw [e1] at X' step
  have hl : ad b < H.size := (Array.getElem?_eq_some_iff.mp hc1).1
  have hheap : ((X.setVm vm').setCell (ad b) (vp_cell (g_A G 14) (n1, .inl (va_cpy (I a) (I b) sp.toNatClampNeg dp.toNatClampNeg n.toNatClampNeg)))).heap = H.setIfInBounds (ad b) (vp_cell (g_A G 14) (n1, .inl (va_cpy (I a) (I b) sp.toNatClampNeg dp.toNatClampNeg n.toNatClampNeg))) := by rw [← hX]; rfl
  obtain ⟨t, a1, b1⟩ := key _ _ (show (H.setIfInBounds (ad b) _)[ad b]? = some _ by simp [Array.getElem?_setIfInBounds, hl]) (by simp) (fun q hq => by simp [Array.getElem?_setIfInBounds, Ne.symm hq]) (fun q hq => by
      rcases List.mem_append.mp hq with h | h
      · exact hS.2.2 q h
      · obtain ⟨z, -, hz⟩ := List.mem_map.mp h
        rw [← hz]
        exact hbase) _ hheap X'
  exact ⟨t, step t a1, b1⟩
end NATS
