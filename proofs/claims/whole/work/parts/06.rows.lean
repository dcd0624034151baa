/-! A METHOD'S PLACE IN THE MACHINE, AND EACH INSTRUCTION'S ROW OVER THE MEMORY -/
def NW (U : State) : Prop := (∀ (j : Nat) (q : String × Nat × MethodName × String), nestL[j]? = some q → va_Nw (.methodLinkNest q.1 q.2.1 q.2.2.1 q.2.2.2) U) ∧ ∀ k, 17 ≤ k → k < 21 → va_AO (clN (ekd k)) U
def tyl (G : GGy) : List (ClassId × FieldType) := [(g_A G 13, .byte), (g_A G 14, .int), (g_A G 15, .long), (g_A G 16, .boolean), (g_A G 17, .object "TelegraphHouse$Book"), (g_A G 18, .object "TelegraphHouse$Journey"), (g_A G 19, .object "TelegraphHouse$Line"), (g_A G 20, .object "TelegraphHouse$Message")]
def KU (G : GGy) (U : State) : Prop := va_K (g_D G) vwCl (tyl G) U ∧ NW U ∧ va_Z "TelegraphHouse" "ZONE_CENTS" "[I" (.ref (g_z G)) (fun q => g_b G ≤ q) U U.heap
theorem NW.warm {s U : State} (hW : s.WarmedH U.vm) (h : NW s) : NW U := ⟨fun j q hq => va_Nw.warmM hW (h.1 j q hq), fun k h1 h2 => (h.2 k h1 h2).moved hW.alike⟩
theorem KU.to {G : GGy} {s U : State} (hW : s.WarmedH U.vm) (hh : ∀ q : Nat, q < s.heap.size → ¬ g_b G ≤ q → U.heap[q]? = s.heap[q]?) (h : KU G s) : KU G U :=
  ⟨va_K.moved hW.alike h.1, h.2.1.warm hW, (h.2.2.moved hW.alike).kept hh⟩
def Cx (G : GGy) (mi : Nat) (p : Program) (s : State) (m : MethodId) (args : Array Value) (meth : Method) (c : Code) : Prop :=
  p.tables.exec = Jvm.exec ∧ c.code = cM mi ∧ c.maxLocals = lM mi ∧ s.vm.findClass (clN (oM mi)) = some m.cls ∧ (∀ w ∈ T0, w.before args s = true) ∧ KU G s ∧ ((yM mi).name = "<init>" → meth.name = "<init>")
def Wc (G : GGy) (mi : Nat) (p : Program) (e : Env) (s : State) (m : MethodId) (args : Array Value) (below : List Frame) (meth : Method) (c : Code) (Qf : (State → Prop) × TTy × (Nat → Nat)) (pc : Nat) : KKy := fun ls st cs ns T I J R => ∀ (H : Heap) (locs : List Loc) (lsr : Array Slot) (ad : Nat → Nat), Rel G ad T I J R H s → va_S (fun q => g_b G ≤ q) s.heap H locs → RL (lM mi, Qf.2) ad T ls lsr → okS T st → cs ≤ (rmM mi).cells → ns ≤ (rmM mi).slots → W p (g_l G) e (rmM mi) s m args below meth c H locs cs ns Qf.1 (F0 m pc lsr (st.map (mv ad)))
section ROWS
variable {G : GGy} {mi : Nat} {p : Program} {e : Env} {s : State} {m : MethodId} {args : Array Value} {below : List Frame} {meth : Method} {c : Code} {Qf : (State → Prop) × TTy × (Nat → Nat)}
variable {pc : Nat} {ls : List (Option Value)} {st : List Value} {cs ns : Nat} {T : TTy} {I : MIy} {J : MJy} {R : MRy}
theorem s_iconst (C : Cx G mi p s m args meth c) {z : Int} {x : Int32} (hd : decode (cM mi) pc = .ok (.iconst z, 1)) (hv : Int32.ofInt z = x) (k : Wc G mi p e s m args below meth c Qf (pc + 1) ls (.int x :: st) cs ns T I J R) : Wc G mi p e s m args below meth c Qf pc ls st cs ns T I J R := by
  obtain ⟨hx, hb, hml, hown, hts, hK, hini⟩ := C
  intro H locs lsr ad hR hS hL hs hc hn
  exact lv_iconst hx hb hd hv (k H locs lsr ad hR hS hL (okS_cons (okV_int _ _) hs) hc hn)
theorem s_bipush (C : Cx G mi p s m args meth c) {z : Int} {x : Int32} (hd : decode (cM mi) pc = .ok (.bipush z, 2)) (hv : (Int8.ofInt z).toInt32 = x) (k : Wc G mi p e s m args below meth c Qf (pc + 2) ls (.int x :: st) cs ns T I J R) : Wc G mi p e s m args below meth c Qf pc ls st cs ns T I J R := by
  obtain ⟨hx, hb, hml, hown, hts, hK, hini⟩ := C
  intro H locs lsr ad hR hS hL hs hc hn
  exact lv_bipush hx hb hd hv (k H locs lsr ad hR hS hL (okS_cons (okV_int _ _) hs) hc hn)
theorem s_sipush (C : Cx G mi p s m args meth c) {z : Int} {x : Int32} (hd : decode (cM mi) pc = .ok (.sipush z, 3)) (hv : (Int16.ofInt z).toInt32 = x) (k : Wc G mi p e s m args below meth c Qf (pc + 3) ls (.int x :: st) cs ns T I J R) : Wc G mi p e s m args below meth c Qf pc ls st cs ns T I J R := by
  obtain ⟨hx, hb, hml, hown, hts, hK, hini⟩ := C
  intro H locs lsr ad hR hS hL hs hc hn
  exact lv_sipush hx hb hd hv (k H locs lsr ad hR hS hL (okS_cons (okV_int _ _) hs) hc hn)
theorem s_lconst (C : Cx G mi p s m args meth c) {z : Fin 2} {x : Int64} (hd : decode (cM mi) pc = .ok (.lconst z, 1)) (hv : Int64.ofNat (z : Nat) = x) (k : Wc G mi p e s m args below meth c Qf (pc + 1) ls (.long x :: st) cs ns T I J R) : Wc G mi p e s m args below meth c Qf pc ls st cs ns T I J R := by
  obtain ⟨hx, hb, hml, hown, hts, hK, hini⟩ := C
  intro H locs lsr ad hR hS hL hs hc hn
  exact lv_lconst hx hb hd hv (k H locs lsr ad hR hS hL (okS_cons (okV_long _ _) hs) hc hn)
theorem s_null (C : Cx G mi p s m args meth c) (hd : decode (cM mi) pc = .ok (.aconst_null, 1)) (k : Wc G mi p e s m args below meth c Qf (pc + 1) ls (.null :: st) cs ns T I J R) : Wc G mi p e s m args below meth c Qf pc ls st cs ns T I J R := by
  obtain ⟨hx, hb, hml, hown, hts, hK, hini⟩ := C
  intro H locs lsr ad hR hS hL hs hc hn
  exact lv_null hx hb hd (k H locs lsr ad hR hS hL (okS_cons (okV_null _) hs) hc hn)
theorem s_ldc (C : Cx G mi p s m args meth c) {i : Nat} {x : Int32} (hd : decode (cM mi) pc = .ok (.ldc i, 2)) (hw : Cond.constant (clN (oM mi)) i x ∈ T0) (k : Wc G mi p e s m args below meth c Qf (pc + 2) ls (.int x :: st) cs ns T I J R) : Wc G mi p e s m args below meth c Qf pc ls st cs ns T I J R := by
  obtain ⟨hx, hb, hml, hown, hts, hK, hini⟩ := C
  intro H locs lsr ad hR hS hL hs hc hn
  exact lv_ldc hx hb hown (hts _ hw) hd (k H locs lsr ad hR hS hL (okS_cons (okV_int _ _) hs) hc hn)
theorem s_ldc_w (C : Cx G mi p s m args meth c) {i : Nat} {x : Int32} (hd : decode (cM mi) pc = .ok (.ldc_w i, 3)) (hw : Cond.constant (clN (oM mi)) i x ∈ T0) (k : Wc G mi p e s m args below meth c Qf (pc + 3) ls (.int x :: st) cs ns T I J R) : Wc G mi p e s m args below meth c Qf pc ls st cs ns T I J R := by
  obtain ⟨hx, hb, hml, hown, hts, hK, hini⟩ := C
  intro H locs lsr ad hR hS hL hs hc hn
  exact lv_ldcw hx hb hown (hts _ hw) hd (k H locs lsr ad hR hS hL (okS_cons (okV_int _ _) hs) hc hn)
theorem s_ldc2 (C : Cx G mi p s m args meth c) {i : Nat} {x : Int64} (hd : decode (cM mi) pc = .ok (.ldc2_w i, 3)) (hw : Cond.constantLong (clN (oM mi)) i x ∈ T0) (k : Wc G mi p e s m args below meth c Qf (pc + 3) ls (.long x :: st) cs ns T I J R) : Wc G mi p e s m args below meth c Qf pc ls st cs ns T I J R := by
  obtain ⟨hx, hb, hml, hown, hts, hK, hini⟩ := C
  intro H locs lsr ad hR hS hL hs hc hn
  exact lv_ldc2 hx hb hown (hts _ hw) hd (k H locs lsr ad hR hS hL (okS_cons (okV_long _ _) hs) hc hn)
theorem s_iload (C : Cx G mi p s m args meth c) {i : Nat} {x : Int32} (hd : decode (cM mi) pc = .ok (.iload i, 2)) (hg : gl ls i = some (.int x)) (k : Wc G mi p e s m args below meth c Qf (pc + 2) ls (.int x :: st) cs ns T I J R) : Wc G mi p e s m args below meth c Qf pc ls st cs ns T I J R := by
  obtain ⟨hx, hb, hml, hown, hts, hK, hini⟩ := C
  intro H locs lsr ad hR hS hL hs hc hn
  exact lv_iload hx hb hd (hL.2.2 i _ hg).1 (k H locs lsr ad hR hS hL (okS_cons (okV_int _ _) hs) hc hn)
theorem s_iloadn (C : Cx G mi p s m args meth c) {z : Fin 4} {i : Nat} {x : Int32} (hd : decode (cM mi) pc = .ok (.iload_n z, 1)) (hi : (z : Nat) = i) (hg : gl ls i = some (.int x)) (k : Wc G mi p e s m args below meth c Qf (pc + 1) ls (.int x :: st) cs ns T I J R) : Wc G mi p e s m args below meth c Qf pc ls st cs ns T I J R := by
  obtain ⟨hx, hb, hml, hown, hts, hK, hini⟩ := C
  intro H locs lsr ad hR hS hL hs hc hn
  exact lv_iload_n hx hb hd hi (hL.2.2 i _ hg).1 (k H locs lsr ad hR hS hL (okS_cons (okV_int _ _) hs) hc hn)
theorem s_lload (C : Cx G mi p s m args meth c) {i : Nat} {x : Int64} (hd : decode (cM mi) pc = .ok (.lload i, 2)) (hg : gl ls i = some (.long x)) (k : Wc G mi p e s m args below meth c Qf (pc + 2) ls (.long x :: st) cs ns T I J R) : Wc G mi p e s m args below meth c Qf pc ls st cs ns T I J R := by
  obtain ⟨hx, hb, hml, hown, hts, hK, hini⟩ := C
  intro H locs lsr ad hR hS hL hs hc hn
  exact lv_lload hx hb hd (hL.2.2 i _ hg).1 (k H locs lsr ad hR hS hL (okS_cons (okV_long _ _) hs) hc hn)
theorem s_lloadn (C : Cx G mi p s m args meth c) {z : Fin 4} {i : Nat} {x : Int64} (hd : decode (cM mi) pc = .ok (.lload_n z, 1)) (hi : (z : Nat) = i) (hg : gl ls i = some (.long x)) (k : Wc G mi p e s m args below meth c Qf (pc + 1) ls (.long x :: st) cs ns T I J R) : Wc G mi p e s m args below meth c Qf pc ls st cs ns T I J R := by
  obtain ⟨hx, hb, hml, hown, hts, hK, hini⟩ := C
  intro H locs lsr ad hR hS hL hs hc hn
  exact lv_lload_n hx hb hd hi (hL.2.2 i _ hg).1 (k H locs lsr ad hR hS hL (okS_cons (okV_long _ _) hs) hc hn)
theorem s_aload (C : Cx G mi p s m args meth c) {i : Nat} {x : Nat} (hd : decode (cM mi) pc = .ok (.aload i, 2)) (hg : gl ls i = some (.ref x)) (k : Wc G mi p e s m args below meth c Qf (pc + 2) ls (.ref x :: st) cs ns T I J R) : Wc G mi p e s m args below meth c Qf pc ls st cs ns T I J R := by
  obtain ⟨hx, hb, hml, hown, hts, hK, hini⟩ := C
  intro H locs lsr ad hR hS hL hs hc hn
  exact lv_aload hx hb hd (hL.2.2 i _ hg).1 (k H locs lsr ad hR hS hL (okS_cons ((hL.2.2 _ _ hg).2) hs) hc hn)
theorem s_aloadn (C : Cx G mi p s m args meth c) {z : Fin 4} {i : Nat} {x : Nat} (hd : decode (cM mi) pc = .ok (.aload_n z, 1)) (hi : (z : Nat) = i) (hg : gl ls i = some (.ref x)) (k : Wc G mi p e s m args below meth c Qf (pc + 1) ls (.ref x :: st) cs ns T I J R) : Wc G mi p e s m args below meth c Qf pc ls st cs ns T I J R := by
  obtain ⟨hx, hb, hml, hown, hts, hK, hini⟩ := C
  intro H locs lsr ad hR hS hL hs hc hn
  exact lv_aload_n hx hb hd hi (hL.2.2 i _ hg).1 (k H locs lsr ad hR hS hL (okS_cons ((hL.2.2 _ _ hg).2) hs) hc hn)
theorem s_aloadN (C : Cx G mi p s m args meth c) {i : Nat} (hd : decode (cM mi) pc = .ok (.aload i, 2)) (hg : gl ls i = some (.null)) (k : Wc G mi p e s m args below meth c Qf (pc + 2) ls (.null :: st) cs ns T I J R) : Wc G mi p e s m args below meth c Qf pc ls st cs ns T I J R := by
  obtain ⟨hx, hb, hml, hown, hts, hK, hini⟩ := C
  intro H locs lsr ad hR hS hL hs hc hn
  exact lv_aloadN hx hb hd (hL.2.2 i _ hg).1 (k H locs lsr ad hR hS hL (okS_cons (okV_null _) hs) hc hn)
theorem s_aloadnN (C : Cx G mi p s m args meth c) {z : Fin 4} {i : Nat} (hd : decode (cM mi) pc = .ok (.aload_n z, 1)) (hi : (z : Nat) = i) (hg : gl ls i = some (.null)) (k : Wc G mi p e s m args below meth c Qf (pc + 1) ls (.null :: st) cs ns T I J R) : Wc G mi p e s m args below meth c Qf pc ls st cs ns T I J R := by
  obtain ⟨hx, hb, hml, hown, hts, hK, hini⟩ := C
  intro H locs lsr ad hR hS hL hs hc hn
  exact lv_aload_nN hx hb hd hi (hL.2.2 i _ hg).1 (k H locs lsr ad hR hS hL (okS_cons (okV_null _) hs) hc hn)
theorem s_istore (C : Cx G mi p s m args meth c) {i : Nat} {x : Int32} (hd : decode (cM mi) pc = .ok (.istore i, 2)) (hi : i < lM mi) (k : Wc G mi p e s m args below meth c Qf (pc + 2) (st1 ls i (.int x)) st cs ns T I J R) : Wc G mi p e s m args below meth c Qf pc ls (.int x :: st) cs ns T I J R := by
  obtain ⟨hx, hb, hml, hown, hts, hK, hini⟩ := C
  intro H locs lsr ad hR hS hL hs hc hn
  exact lv_istore hx hb hd hL.has hi rfl (fun ls2 h2 => k H locs ls2 ad hR hS (hL.st1 (okV_int _ _) h2) (okS_tl hs) hc hn)
theorem s_istoren (C : Cx G mi p s m args meth c) {z : Fin 4} {i : Nat} {x : Int32} (hd : decode (cM mi) pc = .ok (.istore_n z, 1)) (hz : (z : Nat) = i) (hi : i < lM mi) (k : Wc G mi p e s m args below meth c Qf (pc + 1) (st1 ls i (.int x)) st cs ns T I J R) : Wc G mi p e s m args below meth c Qf pc ls (.int x :: st) cs ns T I J R := by
  obtain ⟨hx, hb, hml, hown, hts, hK, hini⟩ := C
  intro H locs lsr ad hR hS hL hs hc hn
  exact lv_istore_n hx hb hd hz hL.has hi rfl (fun ls2 h2 => k H locs ls2 ad hR hS (hL.st1 (okV_int _ _) h2) (okS_tl hs) hc hn)
theorem s_lstore (C : Cx G mi p s m args meth c) {i : Nat} {x : Int64} (hd : decode (cM mi) pc = .ok (.lstore i, 2)) (hi : i + 1 < lM mi) (k : Wc G mi p e s m args below meth c Qf (pc + 2) (st2 ls i (.long x)) st cs ns T I J R) : Wc G mi p e s m args below meth c Qf pc ls (.long x :: st) cs ns T I J R := by
  obtain ⟨hx, hb, hml, hown, hts, hK, hini⟩ := C
  intro H locs lsr ad hR hS hL hs hc hn
  exact lv_lstore hx hb hd hL.has hi rfl (fun ls2 h2 => k H locs ls2 ad hR hS (hL.st2 (okV_long _ _) h2) (okS_tl hs) hc hn)
theorem s_lstoren (C : Cx G mi p s m args meth c) {z : Fin 4} {i : Nat} {x : Int64} (hd : decode (cM mi) pc = .ok (.lstore_n z, 1)) (hz : (z : Nat) = i) (hi : i + 1 < lM mi) (k : Wc G mi p e s m args below meth c Qf (pc + 1) (st2 ls i (.long x)) st cs ns T I J R) : Wc G mi p e s m args below meth c Qf pc ls (.long x :: st) cs ns T I J R := by
  obtain ⟨hx, hb, hml, hown, hts, hK, hini⟩ := C
  intro H locs lsr ad hR hS hL hs hc hn
  exact lv_lstore_n hx hb hd hz hL.has hi rfl (fun ls2 h2 => k H locs ls2 ad hR hS (hL.st2 (okV_long _ _) h2) (okS_tl hs) hc hn)
theorem s_astore (C : Cx G mi p s m args meth c) {i : Nat} {x : Nat} (hd : decode (cM mi) pc = .ok (.astore i, 2)) (hi : i < lM mi) (k : Wc G mi p e s m args below meth c Qf (pc + 2) (st1 ls i (.ref x)) st cs ns T I J R) : Wc G mi p e s m args below meth c Qf pc ls (.ref x :: st) cs ns T I J R := by
  obtain ⟨hx, hb, hml, hown, hts, hK, hini⟩ := C
  intro H locs lsr ad hR hS hL hs hc hn
  exact lv_astore hx hb hd hL.has hi rfl (fun ls2 h2 => k H locs ls2 ad hR hS (hL.st1 (okS_hd hs) h2) (okS_tl hs) hc hn)
theorem s_astoren (C : Cx G mi p s m args meth c) {z : Fin 4} {i : Nat} {x : Nat} (hd : decode (cM mi) pc = .ok (.astore_n z, 1)) (hz : (z : Nat) = i) (hi : i < lM mi) (k : Wc G mi p e s m args below meth c Qf (pc + 1) (st1 ls i (.ref x)) st cs ns T I J R) : Wc G mi p e s m args below meth c Qf pc ls (.ref x :: st) cs ns T I J R := by
  obtain ⟨hx, hb, hml, hown, hts, hK, hini⟩ := C
  intro H locs lsr ad hR hS hL hs hc hn
  exact lv_astore_n hx hb hd hz hL.has hi rfl (fun ls2 h2 => k H locs ls2 ad hR hS (hL.st1 (okS_hd hs) h2) (okS_tl hs) hc hn)
theorem s_astoreN (C : Cx G mi p s m args meth c) {i : Nat} (hd : decode (cM mi) pc = .ok (.astore i, 2)) (hi : i < lM mi) (k : Wc G mi p e s m args below meth c Qf (pc + 2) (st1 ls i (.null)) st cs ns T I J R) : Wc G mi p e s m args below meth c Qf pc ls (.null :: st) cs ns T I J R := by
  obtain ⟨hx, hb, hml, hown, hts, hK, hini⟩ := C
  intro H locs lsr ad hR hS hL hs hc hn
  exact lv_astoreN hx hb hd hL.has hi rfl (fun ls2 h2 => k H locs ls2 ad hR hS (hL.st1 (okV_null _) h2) (okS_tl hs) hc hn)
theorem s_astorenN (C : Cx G mi p s m args meth c) {z : Fin 4} {i : Nat} (hd : decode (cM mi) pc = .ok (.astore_n z, 1)) (hz : (z : Nat) = i) (hi : i < lM mi) (k : Wc G mi p e s m args below meth c Qf (pc + 1) (st1 ls i (.null)) st cs ns T I J R) : Wc G mi p e s m args below meth c Qf pc ls (.null :: st) cs ns T I J R := by
  obtain ⟨hx, hb, hml, hown, hts, hK, hini⟩ := C
  intro H locs lsr ad hR hS hL hs hc hn
  exact lv_astore_nN hx hb hd hz hL.has hi rfl (fun ls2 h2 => k H locs ls2 ad hR hS (hL.st1 (okV_null _) h2) (okS_tl hs) hc hn)
theorem s_iinc (C : Cx G mi p s m args meth c) {i : Nat} {z : Int} {x v : Int32} (hd : decode (cM mi) pc = .ok (.iinc i z, 3)) (hz : Int32.ofInt z = v) (hi : i < lM mi) (hg : gl ls i = some (.int x)) (k : Wc G mi p e s m args below meth c Qf (pc + 3) (st1 ls i (.int (x + v))) st cs ns T I J R) : Wc G mi p e s m args below meth c Qf pc ls st cs ns T I J R := by
  obtain ⟨hx, hb, hml, hown, hts, hK, hini⟩ := C
  intro H locs lsr ad hR hS hL hs hc hn
  have h9 := prs_mem ad ls 0 i _ hg
  rw [Nat.zero_add] at h9
  obtain ⟨j, hj⟩ := List.getElem?_of_mem h9
  exact lv_iinc hx hb hd hL.has hj (by rw [hz]) hi rfl (fun ls2 h2 => k H locs ls2 ad hR hS (hL.st1 (okV_int _ _) h2) hs hc hn)
theorem s_iadd (C : Cx G mi p s m args meth c) {x y : Int32} (hd : decode (cM mi) pc = .ok (.iadd, 1)) (k : Wc G mi p e s m args below meth c Qf (pc + 1) ls (.int (x + y) :: st) cs ns T I J R) : Wc G mi p e s m args below meth c Qf pc ls (.int y :: .int x :: st) cs ns T I J R := by
  obtain ⟨hx, hb, hml, hown, hts, hK, hini⟩ := C
  intro H locs lsr ad hR hS hL hs hc hn
  exact lv_iadd (rest := st.map (mv ad)) hx hb hd (k H locs lsr ad hR hS hL (okS_cons (okV_int _ _) (okS_tl (okS_tl hs))) hc hn)
theorem s_isub (C : Cx G mi p s m args meth c) {x y : Int32} (hd : decode (cM mi) pc = .ok (.isub, 1)) (k : Wc G mi p e s m args below meth c Qf (pc + 1) ls (.int (x - y) :: st) cs ns T I J R) : Wc G mi p e s m args below meth c Qf pc ls (.int y :: .int x :: st) cs ns T I J R := by
  obtain ⟨hx, hb, hml, hown, hts, hK, hini⟩ := C
  intro H locs lsr ad hR hS hL hs hc hn
  exact lv_isub (rest := st.map (mv ad)) hx hb hd (k H locs lsr ad hR hS hL (okS_cons (okV_int _ _) (okS_tl (okS_tl hs))) hc hn)
theorem s_imul (C : Cx G mi p s m args meth c) {x y : Int32} (hd : decode (cM mi) pc = .ok (.imul, 1)) (k : Wc G mi p e s m args below meth c Qf (pc + 1) ls (.int (x * y) :: st) cs ns T I J R) : Wc G mi p e s m args below meth c Qf pc ls (.int y :: .int x :: st) cs ns T I J R := by
  obtain ⟨hx, hb, hml, hown, hts, hK, hini⟩ := C
  intro H locs lsr ad hR hS hL hs hc hn
  exact lv_imul (rest := st.map (mv ad)) hx hb hd (k H locs lsr ad hR hS hL (okS_cons (okV_int _ _) (okS_tl (okS_tl hs))) hc hn)
theorem s_iand (C : Cx G mi p s m args meth c) {x y : Int32} (hd : decode (cM mi) pc = .ok (.iand, 1)) (k : Wc G mi p e s m args below meth c Qf (pc + 1) ls (.int (x &&& y) :: st) cs ns T I J R) : Wc G mi p e s m args below meth c Qf pc ls (.int y :: .int x :: st) cs ns T I J R := by
  obtain ⟨hx, hb, hml, hown, hts, hK, hini⟩ := C
  intro H locs lsr ad hR hS hL hs hc hn
  exact lv_iand (rest := st.map (mv ad)) hx hb hd (k H locs lsr ad hR hS hL (okS_cons (okV_int _ _) (okS_tl (okS_tl hs))) hc hn)
theorem s_ixor (C : Cx G mi p s m args meth c) {x y : Int32} (hd : decode (cM mi) pc = .ok (.ixor, 1)) (k : Wc G mi p e s m args below meth c Qf (pc + 1) ls (.int (x ^^^ y) :: st) cs ns T I J R) : Wc G mi p e s m args below meth c Qf pc ls (.int y :: .int x :: st) cs ns T I J R := by
  obtain ⟨hx, hb, hml, hown, hts, hK, hini⟩ := C
  intro H locs lsr ad hR hS hL hs hc hn
  exact lv_ixor (rest := st.map (mv ad)) hx hb hd (k H locs lsr ad hR hS hL (okS_cons (okV_int _ _) (okS_tl (okS_tl hs))) hc hn)
theorem s_idiv (C : Cx G mi p s m args meth c) {x y : Int32} (hd : decode (cM mi) pc = .ok (.idiv, 1)) (h0 : ¬ y = 0) (k : Wc G mi p e s m args below meth c Qf (pc + 1) ls (.int (x / y) :: st) cs ns T I J R) : Wc G mi p e s m args below meth c Qf pc ls (.int y :: .int x :: st) cs ns T I J R := by
  obtain ⟨hx, hb, hml, hown, hts, hK, hini⟩ := C
  intro H locs lsr ad hR hS hL hs hc hn
  exact lv_idiv (rest := st.map (mv ad)) hx hb hd h0 (k H locs lsr ad hR hS hL (okS_cons (okV_int _ _) (okS_tl (okS_tl hs))) hc hn)
theorem s_irem (C : Cx G mi p s m args meth c) {x y : Int32} (hd : decode (cM mi) pc = .ok (.irem, 1)) (h0 : ¬ y = 0) (k : Wc G mi p e s m args below meth c Qf (pc + 1) ls (.int (x - x / y * y) :: st) cs ns T I J R) : Wc G mi p e s m args below meth c Qf pc ls (.int y :: .int x :: st) cs ns T I J R := by
  obtain ⟨hx, hb, hml, hown, hts, hK, hini⟩ := C
  intro H locs lsr ad hR hS hL hs hc hn
  exact lv_irem (rest := st.map (mv ad)) hx hb hd h0 (k H locs lsr ad hR hS hL (okS_cons (okV_int _ _) (okS_tl (okS_tl hs))) hc hn)
theorem s_ladd (C : Cx G mi p s m args meth c) {x y : Int64} (hd : decode (cM mi) pc = .ok (.ladd, 1)) (k : Wc G mi p e s m args below meth c Qf (pc + 1) ls (.long (x + y) :: st) cs ns T I J R) : Wc G mi p e s m args below meth c Qf pc ls (.long y :: .long x :: st) cs ns T I J R := by
  obtain ⟨hx, hb, hml, hown, hts, hK, hini⟩ := C
  intro H locs lsr ad hR hS hL hs hc hn
  exact lv_ladd (rest := st.map (mv ad)) hx hb hd (k H locs lsr ad hR hS hL (okS_cons (okV_long _ _) (okS_tl (okS_tl hs))) hc hn)
theorem s_lsub (C : Cx G mi p s m args meth c) {x y : Int64} (hd : decode (cM mi) pc = .ok (.lsub, 1)) (k : Wc G mi p e s m args below meth c Qf (pc + 1) ls (.long (x - y) :: st) cs ns T I J R) : Wc G mi p e s m args below meth c Qf pc ls (.long y :: .long x :: st) cs ns T I J R := by
  obtain ⟨hx, hb, hml, hown, hts, hK, hini⟩ := C
  intro H locs lsr ad hR hS hL hs hc hn
  exact lv_lsub (rest := st.map (mv ad)) hx hb hd (k H locs lsr ad hR hS hL (okS_cons (okV_long _ _) (okS_tl (okS_tl hs))) hc hn)
theorem s_lmul (C : Cx G mi p s m args meth c) {x y : Int64} (hd : decode (cM mi) pc = .ok (.lmul, 1)) (k : Wc G mi p e s m args below meth c Qf (pc + 1) ls (.long (x * y) :: st) cs ns T I J R) : Wc G mi p e s m args below meth c Qf pc ls (.long y :: .long x :: st) cs ns T I J R := by
  obtain ⟨hx, hb, hml, hown, hts, hK, hini⟩ := C
  intro H locs lsr ad hR hS hL hs hc hn
  exact lv_lmul (rest := st.map (mv ad)) hx hb hd (k H locs lsr ad hR hS hL (okS_cons (okV_long _ _) (okS_tl (okS_tl hs))) hc hn)
theorem s_land (C : Cx G mi p s m args meth c) {x y : Int64} (hd : decode (cM mi) pc = .ok (.land, 1)) (k : Wc G mi p e s m args below meth c Qf (pc + 1) ls (.long (x &&& y) :: st) cs ns T I J R) : Wc G mi p e s m args below meth c Qf pc ls (.long y :: .long x :: st) cs ns T I J R := by
  obtain ⟨hx, hb, hml, hown, hts, hK, hini⟩ := C
  intro H locs lsr ad hR hS hL hs hc hn
  exact lv_land (rest := st.map (mv ad)) hx hb hd (k H locs lsr ad hR hS hL (okS_cons (okV_long _ _) (okS_tl (okS_tl hs))) hc hn)
theorem s_lor (C : Cx G mi p s m args meth c) {x y : Int64} (hd : decode (cM mi) pc = .ok (.lor, 1)) (k : Wc G mi p e s m args below meth c Qf (pc + 1) ls (.long (x ||| y) :: st) cs ns T I J R) : Wc G mi p e s m args below meth c Qf pc ls (.long y :: .long x :: st) cs ns T I J R := by
  obtain ⟨hx, hb, hml, hown, hts, hK, hini⟩ := C
  intro H locs lsr ad hR hS hL hs hc hn
  exact lv_lor (rest := st.map (mv ad)) hx hb hd (k H locs lsr ad hR hS hL (okS_cons (okV_long _ _) (okS_tl (okS_tl hs))) hc hn)
theorem s_ldiv (C : Cx G mi p s m args meth c) {x y : Int64} (hd : decode (cM mi) pc = .ok (.ldiv, 1)) (h0 : ¬ y = 0) (k : Wc G mi p e s m args below meth c Qf (pc + 1) ls (.long (x / y) :: st) cs ns T I J R) : Wc G mi p e s m args below meth c Qf pc ls (.long y :: .long x :: st) cs ns T I J R := by
  obtain ⟨hx, hb, hml, hown, hts, hK, hini⟩ := C
  intro H locs lsr ad hR hS hL hs hc hn
  exact lv_ldiv (rest := st.map (mv ad)) hx hb hd h0 (k H locs lsr ad hR hS hL (okS_cons (okV_long _ _) (okS_tl (okS_tl hs))) hc hn)
theorem s_lrem (C : Cx G mi p s m args meth c) {x y : Int64} (hd : decode (cM mi) pc = .ok (.lrem, 1)) (h0 : ¬ y = 0) (k : Wc G mi p e s m args below meth c Qf (pc + 1) ls (.long (x - x / y * y) :: st) cs ns T I J R) : Wc G mi p e s m args below meth c Qf pc ls (.long y :: .long x :: st) cs ns T I J R := by
  obtain ⟨hx, hb, hml, hown, hts, hK, hini⟩ := C
  intro H locs lsr ad hR hS hL hs hc hn
  exact lv_lrem (rest := st.map (mv ad)) hx hb hd h0 (k H locs lsr ad hR hS hL (okS_cons (okV_long _ _) (okS_tl (okS_tl hs))) hc hn)
theorem s_lcmp (C : Cx G mi p s m args meth c) {x y : Int64} (hd : decode (cM mi) pc = .ok (.lcmp, 1)) (k : Wc G mi p e s m args below meth c Qf (pc + 1) ls (.int (lg_cmp x y) :: st) cs ns T I J R) : Wc G mi p e s m args below meth c Qf pc ls (.long y :: .long x :: st) cs ns T I J R := by
  obtain ⟨hx, hb, hml, hown, hts, hK, hini⟩ := C
  intro H locs lsr ad hR hS hL hs hc hn
  exact W.lcmp (rest := st.map (mv ad)) hx hb hd (k H locs lsr ad hR hS hL (okS_cons (okV_int _ _) (okS_tl (okS_tl hs))) hc hn)
theorem s_lushr (C : Cx G mi p s m args meth c) {x : Int64} {y : Int32} (hd : decode (cM mi) pc = .ok (.lushr, 1)) (k : Wc G mi p e s m args below meth c Qf (pc + 1) ls (.long (x.toUInt64 >>> (y.toInt64.toUInt64 &&& Int64.toUInt64 63)).toInt64 :: st) cs ns T I J R) : Wc G mi p e s m args below meth c Qf pc ls (.int y :: .long x :: st) cs ns T I J R := by
  obtain ⟨hx, hb, hml, hown, hts, hK, hini⟩ := C
  intro H locs lsr ad hR hS hL hs hc hn
  exact lv_lushr (rest := st.map (mv ad)) hx hb hd rfl (k H locs lsr ad hR hS hL (okS_cons (okV_long _ _) (okS_tl (okS_tl hs))) hc hn)
theorem s_lshl (C : Cx G mi p s m args meth c) {x : Int64} {y : Int32} (hd : decode (cM mi) pc = .ok (.lshl, 1)) (k : Wc G mi p e s m args below meth c Qf (pc + 1) ls (.long (x <<< (y.toInt64 &&& 63)) :: st) cs ns T I J R) : Wc G mi p e s m args below meth c Qf pc ls (.int y :: .long x :: st) cs ns T I J R := by
  obtain ⟨hx, hb, hml, hown, hts, hK, hini⟩ := C
  intro H locs lsr ad hR hS hL hs hc hn
  exact lv_lshl (rest := st.map (mv ad)) hx hb hd rfl (k H locs lsr ad hR hS hL (okS_cons (okV_long _ _) (okS_tl (okS_tl hs))) hc hn)
theorem s_ineg (C : Cx G mi p s m args meth c) {x : Int32} (hd : decode (cM mi) pc = .ok (.ineg, 1)) (k : Wc G mi p e s m args below meth c Qf (pc + 1) ls (.int (-x) :: st) cs ns T I J R) : Wc G mi p e s m args below meth c Qf pc ls (.int x :: st) cs ns T I J R := by
  obtain ⟨hx, hb, hml, hown, hts, hK, hini⟩ := C
  intro H locs lsr ad hR hS hL hs hc hn
  exact lv_ineg (rest := st.map (mv ad)) hx hb hd (k H locs lsr ad hR hS hL (okS_cons (okV_int _ _) (okS_tl hs)) hc hn)
theorem s_i2b (C : Cx G mi p s m args meth c) {x : Int32} (hd : decode (cM mi) pc = .ok (.i2b, 1)) (k : Wc G mi p e s m args below meth c Qf (pc + 1) ls (.int (x.toInt8.toInt32) :: st) cs ns T I J R) : Wc G mi p e s m args below meth c Qf pc ls (.int x :: st) cs ns T I J R := by
  obtain ⟨hx, hb, hml, hown, hts, hK, hini⟩ := C
  intro H locs lsr ad hR hS hL hs hc hn
  exact lv_i2b (rest := st.map (mv ad)) hx hb hd rfl (k H locs lsr ad hR hS hL (okS_cons (okV_int _ _) (okS_tl hs)) hc hn)
theorem s_l2i (C : Cx G mi p s m args meth c) {x : Int64} (hd : decode (cM mi) pc = .ok (.l2i, 1)) (k : Wc G mi p e s m args below meth c Qf (pc + 1) ls (.int (x.toInt32) :: st) cs ns T I J R) : Wc G mi p e s m args below meth c Qf pc ls (.long x :: st) cs ns T I J R := by
  obtain ⟨hx, hb, hml, hown, hts, hK, hini⟩ := C
  intro H locs lsr ad hR hS hL hs hc hn
  exact lv_l2i (rest := st.map (mv ad)) hx hb hd rfl (k H locs lsr ad hR hS hL (okS_cons (okV_int _ _) (okS_tl hs)) hc hn)
theorem s_i2l (C : Cx G mi p s m args meth c) {x : Int32} (hd : decode (cM mi) pc = .ok (.i2l, 1)) (k : Wc G mi p e s m args below meth c Qf (pc + 1) ls (.long (x.toInt64) :: st) cs ns T I J R) : Wc G mi p e s m args below meth c Qf pc ls (.int x :: st) cs ns T I J R := by
  obtain ⟨hx, hb, hml, hown, hts, hK, hini⟩ := C
  intro H locs lsr ad hR hS hL hs hc hn
  exact lv_i2l (rest := st.map (mv ad)) hx hb hd rfl (k H locs lsr ad hR hS hL (okS_cons (okV_long _ _) (okS_tl hs)) hc hn)
theorem s_dupI (C : Cx G mi p s m args meth c) {x : Int32} (hd : decode (cM mi) pc = .ok (.dup, 1)) (k : Wc G mi p e s m args below meth c Qf (pc + 1) ls (.int x :: .int x :: st) cs ns T I J R) : Wc G mi p e s m args below meth c Qf pc ls (.int x :: st) cs ns T I J R := by
  obtain ⟨hx, hb, hml, hown, hts, hK, hini⟩ := C
  intro H locs lsr ad hR hS hL hs hc hn
  exact lv_dup (rest := st.map (mv ad)) hx hb hd rfl (k H locs lsr ad hR hS hL (okS_cons (okS_hd hs) hs) hc hn)
theorem s_popI (C : Cx G mi p s m args meth c) {x : Int32} (hd : decode (cM mi) pc = .ok (.pop, 1)) (k : Wc G mi p e s m args below meth c Qf (pc + 1) ls st cs ns T I J R) : Wc G mi p e s m args below meth c Qf pc ls (.int x :: st) cs ns T I J R := by
  obtain ⟨hx, hb, hml, hown, hts, hK, hini⟩ := C
  intro H locs lsr ad hR hS hL hs hc hn
  exact lv_pop (rest := st.map (mv ad)) hx hb hd (va := mv ad (.int x)) rfl (k H locs lsr ad hR hS hL (okS_tl hs) hc hn)
theorem s_dupR (C : Cx G mi p s m args meth c) {x : Nat} (hd : decode (cM mi) pc = .ok (.dup, 1)) (k : Wc G mi p e s m args below meth c Qf (pc + 1) ls (.ref x :: .ref x :: st) cs ns T I J R) : Wc G mi p e s m args below meth c Qf pc ls (.ref x :: st) cs ns T I J R := by
  obtain ⟨hx, hb, hml, hown, hts, hK, hini⟩ := C
  intro H locs lsr ad hR hS hL hs hc hn
  exact lv_dup (rest := st.map (mv ad)) hx hb hd rfl (k H locs lsr ad hR hS hL (okS_cons (okS_hd hs) hs) hc hn)
theorem s_popR (C : Cx G mi p s m args meth c) {x : Nat} (hd : decode (cM mi) pc = .ok (.pop, 1)) (k : Wc G mi p e s m args below meth c Qf (pc + 1) ls st cs ns T I J R) : Wc G mi p e s m args below meth c Qf pc ls (.ref x :: st) cs ns T I J R := by
  obtain ⟨hx, hb, hml, hown, hts, hK, hini⟩ := C
  intro H locs lsr ad hR hS hL hs hc hn
  exact lv_pop (rest := st.map (mv ad)) hx hb hd (va := mv ad (.ref x)) rfl (k H locs lsr ad hR hS hL (okS_tl hs) hc hn)
theorem s_dup2 (C : Cx G mi p s m args meth c) {x : Int32} {y : Nat} (hd : decode (cM mi) pc = .ok (.dup2, 1)) (k : Wc G mi p e s m args below meth c Qf (pc + 1) ls (.int x :: .ref y :: .int x :: .ref y :: st) cs ns T I J R) : Wc G mi p e s m args below meth c Qf pc ls (.int x :: .ref y :: st) cs ns T I J R := by
  obtain ⟨hx, hb, hml, hown, hts, hK, hini⟩ := C
  intro H locs lsr ad hR hS hL hs hc hn
  exact lv_dup2_11 (rest := st.map (mv ad)) hx hb hd rfl rfl (k H locs lsr ad hR hS hL (okS_cons (okS_hd hs) (okS_cons (okS_hd (okS_tl hs)) hs)) hc hn)
theorem s_icmp_eq (C : Cx G mi p s m args meth c) {x y : Int32} {off : Int} {t : Nat} {A B : Prop} (hd : decode (cM mi) pc = .ok (.if_icmp .eq off, 3)) (ht : (pc : Int) + off = (t : Int)) (hA : A → Wc G mi p e s m args below meth c Qf t ls st cs ns T I J R) (hB : B → Wc G mi p e s m args below meth c Qf (pc + 3) ls st cs ns T I J R) (h : brc .eq x y A B) : Wc G mi p e s m args below meth c Qf pc ls (.int y :: .int x :: st) cs ns T I J R := by
  obtain ⟨hx, hb, hml, hown, hts, hK, hini⟩ := C
  intro H locs lsr ad hR hS hL hs hc hn
  exact lv_icmp_eq (rest := st.map (mv ad)) hx hb hd ht (fun q => hA (h.1 q) H locs lsr ad hR hS hL (okS_tl (okS_tl hs)) hc hn) (fun q => hB (h.2 q) H locs lsr ad hR hS hL (okS_tl (okS_tl hs)) hc hn)
theorem s_if_eq (C : Cx G mi p s m args meth c) {x : Int32} {off : Int} {t : Nat} {A B : Prop} (hd : decode (cM mi) pc = .ok (.ifCond .eq off, 3)) (ht : (pc : Int) + off = (t : Int)) (hA : A → Wc G mi p e s m args below meth c Qf t ls st cs ns T I J R) (hB : B → Wc G mi p e s m args below meth c Qf (pc + 3) ls st cs ns T I J R) (h : brc .eq x 0 A B) : Wc G mi p e s m args below meth c Qf pc ls (.int x :: st) cs ns T I J R := by
  obtain ⟨hx, hb, hml, hown, hts, hK, hini⟩ := C
  intro H locs lsr ad hR hS hL hs hc hn
  exact lv_if_eq (rest := st.map (mv ad)) hx hb hd ht (fun q => hA (h.1 q) H locs lsr ad hR hS hL (okS_tl hs) hc hn) (fun q => hB (h.2 q) H locs lsr ad hR hS hL (okS_tl hs) hc hn)
theorem s_icmp_ne (C : Cx G mi p s m args meth c) {x y : Int32} {off : Int} {t : Nat} {A B : Prop} (hd : decode (cM mi) pc = .ok (.if_icmp .ne off, 3)) (ht : (pc : Int) + off = (t : Int)) (hA : A → Wc G mi p e s m args below meth c Qf t ls st cs ns T I J R) (hB : B → Wc G mi p e s m args below meth c Qf (pc + 3) ls st cs ns T I J R) (h : brc .ne x y A B) : Wc G mi p e s m args below meth c Qf pc ls (.int y :: .int x :: st) cs ns T I J R := by
  obtain ⟨hx, hb, hml, hown, hts, hK, hini⟩ := C
  intro H locs lsr ad hR hS hL hs hc hn
  exact lv_icmp_ne (rest := st.map (mv ad)) hx hb hd ht (fun q => hA (h.1 q) H locs lsr ad hR hS hL (okS_tl (okS_tl hs)) hc hn) (fun q => hB (h.2 q) H locs lsr ad hR hS hL (okS_tl (okS_tl hs)) hc hn)
theorem s_if_ne (C : Cx G mi p s m args meth c) {x : Int32} {off : Int} {t : Nat} {A B : Prop} (hd : decode (cM mi) pc = .ok (.ifCond .ne off, 3)) (ht : (pc : Int) + off = (t : Int)) (hA : A → Wc G mi p e s m args below meth c Qf t ls st cs ns T I J R) (hB : B → Wc G mi p e s m args below meth c Qf (pc + 3) ls st cs ns T I J R) (h : brc .ne x 0 A B) : Wc G mi p e s m args below meth c Qf pc ls (.int x :: st) cs ns T I J R := by
  obtain ⟨hx, hb, hml, hown, hts, hK, hini⟩ := C
  intro H locs lsr ad hR hS hL hs hc hn
  exact lv_if_ne (rest := st.map (mv ad)) hx hb hd ht (fun q => hA (h.1 q) H locs lsr ad hR hS hL (okS_tl hs) hc hn) (fun q => hB (h.2 q) H locs lsr ad hR hS hL (okS_tl hs) hc hn)
theorem s_icmp_lt (C : Cx G mi p s m args meth c) {x y : Int32} {off : Int} {t : Nat} {A B : Prop} (hd : decode (cM mi) pc = .ok (.if_icmp .lt off, 3)) (ht : (pc : Int) + off = (t : Int)) (hA : A → Wc G mi p e s m args below meth c Qf t ls st cs ns T I J R) (hB : B → Wc G mi p e s m args below meth c Qf (pc + 3) ls st cs ns T I J R) (h : brc .lt x y A B) : Wc G mi p e s m args below meth c Qf pc ls (.int y :: .int x :: st) cs ns T I J R := by
  obtain ⟨hx, hb, hml, hown, hts, hK, hini⟩ := C
  intro H locs lsr ad hR hS hL hs hc hn
  exact lv_icmp_lt (rest := st.map (mv ad)) hx hb hd ht (fun q => hA (h.1 q) H locs lsr ad hR hS hL (okS_tl (okS_tl hs)) hc hn) (fun q => hB (h.2 q) H locs lsr ad hR hS hL (okS_tl (okS_tl hs)) hc hn)
theorem s_if_lt (C : Cx G mi p s m args meth c) {x : Int32} {off : Int} {t : Nat} {A B : Prop} (hd : decode (cM mi) pc = .ok (.ifCond .lt off, 3)) (ht : (pc : Int) + off = (t : Int)) (hA : A → Wc G mi p e s m args below meth c Qf t ls st cs ns T I J R) (hB : B → Wc G mi p e s m args below meth c Qf (pc + 3) ls st cs ns T I J R) (h : brc .lt x 0 A B) : Wc G mi p e s m args below meth c Qf pc ls (.int x :: st) cs ns T I J R := by
  obtain ⟨hx, hb, hml, hown, hts, hK, hini⟩ := C
  intro H locs lsr ad hR hS hL hs hc hn
  exact lv_if_lt (rest := st.map (mv ad)) hx hb hd ht (fun q => hA (h.1 q) H locs lsr ad hR hS hL (okS_tl hs) hc hn) (fun q => hB (h.2 q) H locs lsr ad hR hS hL (okS_tl hs) hc hn)
theorem s_icmp_ge (C : Cx G mi p s m args meth c) {x y : Int32} {off : Int} {t : Nat} {A B : Prop} (hd : decode (cM mi) pc = .ok (.if_icmp .ge off, 3)) (ht : (pc : Int) + off = (t : Int)) (hA : A → Wc G mi p e s m args below meth c Qf t ls st cs ns T I J R) (hB : B → Wc G mi p e s m args below meth c Qf (pc + 3) ls st cs ns T I J R) (h : brc .ge x y A B) : Wc G mi p e s m args below meth c Qf pc ls (.int y :: .int x :: st) cs ns T I J R := by
  obtain ⟨hx, hb, hml, hown, hts, hK, hini⟩ := C
  intro H locs lsr ad hR hS hL hs hc hn
  exact lv_icmp_ge (rest := st.map (mv ad)) hx hb hd ht (fun q => hA (h.1 q) H locs lsr ad hR hS hL (okS_tl (okS_tl hs)) hc hn) (fun q => hB (h.2 q) H locs lsr ad hR hS hL (okS_tl (okS_tl hs)) hc hn)
theorem s_if_ge (C : Cx G mi p s m args meth c) {x : Int32} {off : Int} {t : Nat} {A B : Prop} (hd : decode (cM mi) pc = .ok (.ifCond .ge off, 3)) (ht : (pc : Int) + off = (t : Int)) (hA : A → Wc G mi p e s m args below meth c Qf t ls st cs ns T I J R) (hB : B → Wc G mi p e s m args below meth c Qf (pc + 3) ls st cs ns T I J R) (h : brc .ge x 0 A B) : Wc G mi p e s m args below meth c Qf pc ls (.int x :: st) cs ns T I J R := by
  obtain ⟨hx, hb, hml, hown, hts, hK, hini⟩ := C
  intro H locs lsr ad hR hS hL hs hc hn
  exact lv_if_ge (rest := st.map (mv ad)) hx hb hd ht (fun q => hA (h.1 q) H locs lsr ad hR hS hL (okS_tl hs) hc hn) (fun q => hB (h.2 q) H locs lsr ad hR hS hL (okS_tl hs) hc hn)
theorem s_icmp_gt (C : Cx G mi p s m args meth c) {x y : Int32} {off : Int} {t : Nat} {A B : Prop} (hd : decode (cM mi) pc = .ok (.if_icmp .gt off, 3)) (ht : (pc : Int) + off = (t : Int)) (hA : A → Wc G mi p e s m args below meth c Qf t ls st cs ns T I J R) (hB : B → Wc G mi p e s m args below meth c Qf (pc + 3) ls st cs ns T I J R) (h : brc .gt x y A B) : Wc G mi p e s m args below meth c Qf pc ls (.int y :: .int x :: st) cs ns T I J R := by
  obtain ⟨hx, hb, hml, hown, hts, hK, hini⟩ := C
  intro H locs lsr ad hR hS hL hs hc hn
  exact lv_icmp_gt (rest := st.map (mv ad)) hx hb hd ht (fun q => hA (h.1 q) H locs lsr ad hR hS hL (okS_tl (okS_tl hs)) hc hn) (fun q => hB (h.2 q) H locs lsr ad hR hS hL (okS_tl (okS_tl hs)) hc hn)
theorem s_if_gt (C : Cx G mi p s m args meth c) {x : Int32} {off : Int} {t : Nat} {A B : Prop} (hd : decode (cM mi) pc = .ok (.ifCond .gt off, 3)) (ht : (pc : Int) + off = (t : Int)) (hA : A → Wc G mi p e s m args below meth c Qf t ls st cs ns T I J R) (hB : B → Wc G mi p e s m args below meth c Qf (pc + 3) ls st cs ns T I J R) (h : brc .gt x 0 A B) : Wc G mi p e s m args below meth c Qf pc ls (.int x :: st) cs ns T I J R := by
  obtain ⟨hx, hb, hml, hown, hts, hK, hini⟩ := C
  intro H locs lsr ad hR hS hL hs hc hn
  exact lv_if_gt (rest := st.map (mv ad)) hx hb hd ht (fun q => hA (h.1 q) H locs lsr ad hR hS hL (okS_tl hs) hc hn) (fun q => hB (h.2 q) H locs lsr ad hR hS hL (okS_tl hs) hc hn)
theorem s_icmp_le (C : Cx G mi p s m args meth c) {x y : Int32} {off : Int} {t : Nat} {A B : Prop} (hd : decode (cM mi) pc = .ok (.if_icmp .le off, 3)) (ht : (pc : Int) + off = (t : Int)) (hA : A → Wc G mi p e s m args below meth c Qf t ls st cs ns T I J R) (hB : B → Wc G mi p e s m args below meth c Qf (pc + 3) ls st cs ns T I J R) (h : brc .le x y A B) : Wc G mi p e s m args below meth c Qf pc ls (.int y :: .int x :: st) cs ns T I J R := by
  obtain ⟨hx, hb, hml, hown, hts, hK, hini⟩ := C
  intro H locs lsr ad hR hS hL hs hc hn
  exact lv_icmp_le (rest := st.map (mv ad)) hx hb hd ht (fun q => hA (h.1 q) H locs lsr ad hR hS hL (okS_tl (okS_tl hs)) hc hn) (fun q => hB (h.2 q) H locs lsr ad hR hS hL (okS_tl (okS_tl hs)) hc hn)
theorem s_if_le (C : Cx G mi p s m args meth c) {x : Int32} {off : Int} {t : Nat} {A B : Prop} (hd : decode (cM mi) pc = .ok (.ifCond .le off, 3)) (ht : (pc : Int) + off = (t : Int)) (hA : A → Wc G mi p e s m args below meth c Qf t ls st cs ns T I J R) (hB : B → Wc G mi p e s m args below meth c Qf (pc + 3) ls st cs ns T I J R) (h : brc .le x 0 A B) : Wc G mi p e s m args below meth c Qf pc ls (.int x :: st) cs ns T I J R := by
  obtain ⟨hx, hb, hml, hown, hts, hK, hini⟩ := C
  intro H locs lsr ad hR hS hL hs hc hn
  exact lv_if_le (rest := st.map (mv ad)) hx hb hd ht (fun q => hA (h.1 q) H locs lsr ad hR hS hL (okS_tl hs) hc hn) (fun q => hB (h.2 q) H locs lsr ad hR hS hL (okS_tl hs) hc hn)
theorem s_goto (C : Cx G mi p s m args meth c) {off : Int} {t : Nat} (hd : decode (cM mi) pc = .ok (.goto off, 3)) (ht : (pc : Int) + off = (t : Int)) (k : Wc G mi p e s m args below meth c Qf t ls st cs ns T I J R) : Wc G mi p e s m args below meth c Qf pc ls st cs ns T I J R := by
  obtain ⟨hx, hb, hml, hown, hts, hK, hini⟩ := C
  intro H locs lsr ad hR hS hL hs hc hn
  exact lv_goto hx hb hd ht (k H locs lsr ad hR hS hL hs hc hn)
theorem s_ifnull (C : Cx G mi p s m args meth c) {x : Nat} {off : Int} (hd : decode (cM mi) pc = .ok (.ifnull off, 3)) (k : Wc G mi p e s m args below meth c Qf (pc + 3) ls st cs ns T I J R) : Wc G mi p e s m args below meth c Qf pc ls (.ref x :: st) cs ns T I J R := by
  obtain ⟨hx, hb, hml, hown, hts, hK, hini⟩ := C
  intro H locs lsr ad hR hS hL hs hc hn
  exact lv_ifnull (rest := st.map (mv ad)) hx hb hd (k H locs lsr ad hR hS hL (okS_tl hs) hc hn)
theorem s_ifnullN (C : Cx G mi p s m args meth c) {off : Int} {t : Nat} (hd : decode (cM mi) pc = .ok (.ifnull off, 3)) (ht : (pc : Int) + off = (t : Int)) (k : Wc G mi p e s m args below meth c Qf t ls st cs ns T I J R) : Wc G mi p e s m args below meth c Qf pc ls (.null :: st) cs ns T I J R := by
  obtain ⟨hx, hb, hml, hown, hts, hK, hini⟩ := C
  intro H locs lsr ad hR hS hL hs hc hn
  exact lv_ifnullN (rest := st.map (mv ad)) hx hb hd ht (k H locs lsr ad hR hS hL (okS_tl hs) hc hn)
theorem s_ifnonnull (C : Cx G mi p s m args meth c) {x : Nat} {off : Int} {t : Nat} (hd : decode (cM mi) pc = .ok (.ifnonnull off, 3)) (ht : (pc : Int) + off = (t : Int)) (k : Wc G mi p e s m args below meth c Qf t ls st cs ns T I J R) : Wc G mi p e s m args below meth c Qf pc ls (.ref x :: st) cs ns T I J R := by
  obtain ⟨hx, hb, hml, hown, hts, hK, hini⟩ := C
  intro H locs lsr ad hR hS hL hs hc hn
  exact lv_ifnonnull (rest := st.map (mv ad)) hx hb hd ht (k H locs lsr ad hR hS hL (okS_tl hs) hc hn)
theorem s_ifnonnullN (C : Cx G mi p s m args meth c) {off : Int} (hd : decode (cM mi) pc = .ok (.ifnonnull off, 3)) (k : Wc G mi p e s m args below meth c Qf (pc + 3) ls st cs ns T I J R) : Wc G mi p e s m args below meth c Qf pc ls (.null :: st) cs ns T I J R := by
  obtain ⟨hx, hb, hml, hown, hts, hK, hini⟩ := C
  intro H locs lsr ad hR hS hL hs hc hn
  exact lv_ifnonnullN (rest := st.map (mv ad)) hx hb hd (k H locs lsr ad hR hS hL (okS_tl hs) hc hn)
theorem swl_at {J9 : Nat → Prop} {pc : Nat} {x : Int} : ∀ (l : List Int) (i : Int), swl J9 pc x i l → ∀ (k : Nat) (off : Int), l[k]? = some off → x = i + k → 0 ≤ (pc : Int) + off ∧ J9 ((pc : Int) + off).toNat
  | [], i, _, k, off, hk, _ => by simp at hk
  | a :: l, i, h, 0, off, hk, hx => by
    simp only [List.getElem?_cons_zero, Option.some.injEq] at hk
    subst hk
    exact h.1 (by simpa using hx)
  | a :: l, i, h, k + 1, off, hk, hx => swl_at l (i + 1) h.2 k off (by simpa using hk) (by omega)
theorem s_table (C : Cx G mi p s m args meth c) {dflt lo hi : Int} {offs : Array Int} {len : Nat} {x : Int32} (hd : decode (cM mi) pc = .ok (.tableswitch dflt lo hi offs, len)) (h1 : x.toInt < lo ∨ hi < x.toInt → 0 ≤ (pc : Int) + dflt ∧ Wc G mi p e s m args below meth c Qf ((pc : Int) + dflt).toNat ls st cs ns T I J R) (h2 : hi = lo + offs.toList.length - 1) (h3 : swl (fun t => Wc G mi p e s m args below meth c Qf t ls st cs ns T I J R) pc x.toInt lo offs.toList) : Wc G mi p e s m args below meth c Qf pc ls (.int x :: st) cs ns T I J R := by
  obtain ⟨hx, hb, hml, hown, hts, hK, hini⟩ := C
  intro H locs lsr ad hR hS hL hs hc hn
  by_cases q : x.toInt < lo ∨ hi < x.toInt
  · exact lv_tableOut (rest := st.map (mv ad)) hx hb hd q (by have := (h1 q).1; omega) ((h1 q).2 H locs lsr ad hR hS hL (okS_tl hs) hc hn)
  · have q1 : ¬ x.toInt < lo := fun z => q (Or.inl z)
    have q2 : ¬ hi < x.toInt := fun z => q (Or.inr z)
    have q3 : (x.toInt - lo).toNat < offs.toList.length := by omega
    have q4 : offs.toList[(x.toInt - lo).toNat]? = some offs.toList[(x.toInt - lo).toNat] := List.getElem?_eq_getElem q3
    have q5 := swl_at _ _ h3 _ _ q4 (by omega)
    exact lv_tableIn (rest := st.map (mv ad)) hx hb hd q1 q2 (by rw [← Array.getElem?_toList]; exact q4) (by have := q5.1; omega) (q5.2 H locs lsr ad hR hS hL (okS_tl hs) hc hn)
theorem s_lookup (C : Cx G mi p s m args meth c) {dflt : Int} {ps : Array (Int × Int)} {len : Nat} {x : Int32} (hd : decode (cM mi) pc = .ok (.lookupswitch dflt ps, len)) (hp : (ps.toList.zip (ps.toList.drop 1)).all (fun (a, next) => a.1 < next.1) = true) (h1 : 0 ≤ (pc : Int) + Op.lookupswitch.offset ps.toList dflt x.toInt) (k : Wc G mi p e s m args below meth c Qf ((pc : Int) + Op.lookupswitch.offset ps.toList dflt x.toInt).toNat ls st cs ns T I J R) : Wc G mi p e s m args below meth c Qf pc ls (.int x :: st) cs ns T I J R := by
  obtain ⟨hx, hb, hml, hown, hts, hK, hini⟩ := C
  intro H locs lsr ad hR hS hL hs hc hn
  exact lv_lookup (rest := st.map (mv ad)) hx hb hd hp rfl (by omega) (k H locs lsr ad hR hS hL (okS_tl hs) hc hn)
end ROWS
