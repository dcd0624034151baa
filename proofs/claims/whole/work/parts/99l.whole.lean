/-! THE CLAIM OUT OF ONE WALK OF THE LAW'S BODY. Your part is whole_start (and what it stands on); all else here is the same for every law, but numbers. -/
def R_law : String := "TelegraphHouseLaw"
def lw_P (b : Addr) (xs : List Int32) (args : Array Value) (s : State) : Prop := args = #[.ref b] ∧ s.IntsAt b xs ∧ xs.length ≤ 3072 ∧ (Jvm.Cond.and given_1 narrow_1).before args s = true
def lw_Q (_ : Array Value) (s : State) (o : Outcome) (t : State) : Prop := o = .returned (some (.int 1)) ∧ Framed s o t [] 600000 7302250
def lw_Z (below : List Frame) (a : Array Value) (s : State) : State → Prop := fun t => ∃ o, t.status = .running ∧ Ended t below o ∧ lw_Q a s o t
/-- the law's own end, with 1 on the stack, nothing written that was there before, its room as the claim has it -/
theorem lw_ret {p : Program} {l : Launch} {e : Env} {s : State} {m : MethodId} {below : List Frame} {meth : Method} {c : Code} {b : Nat} (hx : p.tables.exec = Jvm.exec) (hb : c.code = code) (hr : meth.sig.returnType = ret) (hlocks : meth.locks = false) {pc : Nat} {H : Heap} {ls : Array Slot} (hdg : decode code pc = .ok (.ireturn, 1)) : W p l e room_1 s m #[Value.ref b] below meth c H [] 600000 7302250 (lw_Z below #[Value.ref b] s) (F0 m pc ls [.int 1]) := by
  intro T hT X
  obtain ⟨fs, hret, hrun, hended, hW, hframe⟩ := X.leave (v := some (.int 1)) (hlocks := hlocks) (fun h => by rw [hr] at h; cases h)
  have hmeth' : T.vm.method? m = some meth := X.method'
  refine ⟨T.setFrames fs, ?_, .returned (some (.int 1)), hrun, hended, rfl, ⟨_, rfl⟩, hW, hframe⟩
  jvm_step X.here [X.here.top, hx, hb, hdg, hmeth', hr, ret, narrow_b1]
  (try refine ⟨rfl, ?_⟩); (try refine ⟨rfl, ?_⟩)
  first | (intro acts; rw [hret _ acts rfl rfl rfl]) | rw [hret _ _ rfl rfl rfl]
  exact Steps.refl _
/-- what holds at the law's entry: the machine, the code, the tables' words (any of lw_tbl by 'hts w (by decide +kernel)'), the script of L ints xs at the cell b, what the Statement gives of the start (any of its parts by flat_of_before) -/
def lw_At (p : Program) (s : State) (m : MethodId) (meth : Method) (c : Code) (b L : Nat) (xs : Nat → Int32) : Prop :=
  p.tables.exec = Jvm.exec ∧ c.code = code ∧ meth.sig.returnType = ret ∧ c.maxLocals = 4 ∧ s.vm.findClass R_law = some m.cls ∧ (∀ w ∈ lw_tbl, w.before #[Value.ref b] s = true) ∧ va_X b L xs s s.heap ∧ b < s.heap.size ∧ meth.locks = false ∧ (Jvm.Cond.and given_1 narrow_1).before #[Value.ref b] s = true
theorem law_arr (ty : FieldType) {s : State} {args : Array Value} (hty : ∀ C, ty ≠ .object C) (h : (Cond.arrayClass ty).before args s = true) : ∃ cA : ClassId, ArrOfT s cA ty ∧ va_RA s cA ty := by
  obtain ⟨cA, kA, comp, h1, h2, h3⟩ := Cond.arrayClass_spec h
  refine ⟨cA, fun n z => ⟨fun k h => (by cases h), kA, h2, comp, h3⟩, ?_⟩
  cases ty with
  | object C => exact absurd rfl (hty C)
  | _ => exact h1
theorem law_over {C : String} {s : State} {args : Array Value} (h : (Cond.arrayOver (.object C)).before args s = true) : ∃ cA : ClassId, ArrOfT s cA (.object C) ∧ va_RA s cA (.object C) := by
  obtain ⟨comp, cA, kA, h0, -, h2, h3, h1⟩ := Cond.arrayOver_spec h
  exact ⟨cA, fun n z => ⟨fun k h => (by cases h), kA, h2, comp, h3⟩, kA, comp, h2, h3, h0, h1⟩
set_option maxRecDepth 100000 in
theorem law_kT : ∀ ci, ci < 13 → kT.any (fun q => decide (q.2.2.1 = ci)) = true := by decide +kernel
set_option maxRecDepth 100000 in
theorem law_nest : ∀ q ∈ nestL, Cond.methodLinkNest q.1 q.2.1 q.2.2.1 q.2.2.2 ∈ lw_tbl := by decide +kernel
theorem law_known {s : State} {args : Array Value} (hT : ∀ w ∈ T0, w.before args s = true) : ∃ (dC : Nat → ClassId) (dI : Nat → Nat → Nat), ∀ (k : Nat) (q : vw_C), vwCl[k]? = some q → u_Kn s q.1 q.2.1 q.2.2 (dC k) (dI k) := by
  have key : ∀ ci, ∃ x : ClassId × (Nat → Nat), ci < 13 → u_Kn s (clN ci) (TXf ci) (nfM ci) x.1 x.2 := fun ci => by
    by_cases h : ci < 13
    · obtain ⟨x, hx1, hx2⟩ := List.any_eq_true.mp (law_kT ci h)
      simp only [decide_eq_true_eq] at hx2
      have hx3 := List.all_eq_true.mp kT_ok _ hx1
      simp only [kOk, Bool.and_eq_true, decide_eq_true_eq] at hx3
      obtain ⟨⟨⟨w1, w2⟩, w3⟩, w4⟩ := hx3
      rw [hx2] at w2
      obtain ⟨c1, c2, c3, c4⟩ := cl_all ci h
      obtain ⟨cC, iS, hk⟩ := u_known (C := clN ci) (T := TXf ci) (N := nfM ci) hT c2 (hT _ (wAt_in w2))
      exact ⟨(cC, iS), fun _ => hk⟩
    · exact ⟨(0, fun _ => 0), fun z => absurd z h⟩
  refine ⟨fun k => (key k).choose.1, fun k => (key k).choose.2, fun k q hq => ?_⟩
  have hk : k < 13 := (List.getElem?_eq_some_iff.mp hq).1
  obtain ⟨c1, c2, c3, c4⟩ := cl_all k hk
  cases hq.symm.trans c1
  exact (key k).choose_spec hk
def law_I (xs : Nat → Int32) : MIy := fun a k => if a = 0 then nI (zc k) else if a = 1 then xs k else 0
def law_T (L : Nat) : TTy := fun a => if a = 0 then some (21, 4) else if a = 1 then some (21, L) else none
def law_Q : QQy := fun v _ _ _ _ => v = some (.int (nI 1))
/-- the table of cents, as the Statement gives it -/
theorem law_cents {s : State} {args : Array Value} (h : (Jvm.Cond.and given_1 narrow_1).before args s = true) : ∃ z : Nat, (Term.static "TelegraphHouse" "ZONE_CENTS" "[I").eval args s none [] s = some (.ref z) ∧ va_X z 4 (fun k => nI (zc k)) s s.heap ∧ z < s.heap.size := by
  have hs := flat_of_before _ h
  have harr : (Cond.arrayOf (.static "TelegraphHouse" "ZONE_CENTS" "[I") .int).before args s = true := hs _ (by decide +kernel)
  have hlen := va_eqt (hs (Cond.eq (.length (.static "TelegraphHouse" "ZONE_CENTS" "[I")) (.int 4)) (by decide +kernel))
  have g0 := va_eqt (hs (Cond.eq (.elem (.static "TelegraphHouse" "ZONE_CENTS" "[I") (.int 0)) (.int 3)) (by decide +kernel))
  have g1 := va_eqt (hs (Cond.eq (.elem (.static "TelegraphHouse" "ZONE_CENTS" "[I") (.int 1)) (.int 5)) (by decide +kernel))
  have g2 := va_eqt (hs (Cond.eq (.elem (.static "TelegraphHouse" "ZONE_CENTS" "[I") (.int 2)) (.int 9)) (by decide +kernel))
  have g3 := va_eqt (hs (Cond.eq (.elem (.static "TelegraphHouse" "ZONE_CENTS" "[I") (.int 3)) (.int 14)) (by decide +kernel))
  obtain ⟨z, hz, cell, h1, h2, h3, h4, h5, h6, -⟩ := va_Tof (A := fun _ => False) (N := 4) (f := fun k => .int (nI (zc k))) (by decide) harr hlen (fun j hj => by
    rcases (show j = 0 ∨ j = 1 ∨ j = 2 ∨ j = 3 by omega) with rfl | rfl | rfl | rfl
    · exact g0
    · exact g1
    · exact g2
    · exact g3) (fun _ _ h => h)
  refine ⟨z, hz, ⟨cell, h1, h2, h3, ?_, h6⟩, (Array.getElem?_eq_some_iff.mp h1).1⟩
  have hsz : cell.slots.size < 2 ^ 31 := by
    obtain ⟨a, c2, e1, e2, -⟩ := Term.length_spec hlen
    cases hz.symm.trans e1
    obtain ⟨e3, -, -, -⟩ := State.arrayAt?_spec e2
    cases h1.symm.trans e3
    simp only [Term.eval, Option.bind_eq_bind] at hlen
    have e1' := e1
    simp only [Term.eval, Option.bind_eq_bind] at e1'
    rw [e1'] at hlen
    simp only [Option.bind_some, e2] at hlen
    by_cases hlt : cell.slots.size < 2147483648
    · exact hlt
    · simp [hlt] at hlen
  have := congrArg Int32.toInt h5
  have a1 : (cell.slots.size.toInt32).toInt = cell.slots.size := nI_toInt hsz
  have a2 : (Int32.ofNat 4).toInt = 4 := by decide
  omega
/-- YOUR PART: from the entry, for every script of at most 3072 ints, the law comes to its end with true -/
theorem whole_start {p : Program} {e : Env} {s : State} {m : MethodId} {below : List Frame} {meth : Method} {c : Code} (l : Launch) {b L : Nat} {xs : Nat → Int32} (hL : L ≤ 3072) (C0 : lw_At p s m meth c b L xs) : W p l e room_1 s m #[Value.ref b] below meth c s.heap [] 0 0 (lw_Z below #[Value.ref b] s) (entryFrame m ([Value.ref b] : List Value).toArray 4) := by
  obtain ⟨hx, hb, hr, hml, hown, hts, hX, hbl, hlocks, hgv⟩ := C0
  have hT : ∀ w ∈ T0, w.before #[Value.ref b] s = true := fun w hw => hts w (List.mem_filter.mp hw).1
  obtain ⟨z, hz, hZX, hzl⟩ := law_cents hgv
  obtain ⟨dC, dI, hKn⟩ := law_known hT
  obtain ⟨a13, k13⟩ := law_arr .byte (fun _ h => by cases h) (hts (.arrayClass .byte) (by decide +kernel))
  obtain ⟨a14, k14⟩ := law_arr .int (fun _ h => by cases h) (hts (.arrayClass .int) (by decide +kernel))
  obtain ⟨a15, k15⟩ := law_arr .long (fun _ h => by cases h) (hts (.arrayClass .long) (by decide +kernel))
  obtain ⟨a16, k16⟩ := law_arr .boolean (fun _ h => by cases h) (hts (.arrayClass .boolean) (by decide +kernel))
  have o17 : (Cond.arrayOver (.object "TelegraphHouse$Book")).before #[Value.ref b] s = true := hts _ (by decide +kernel)
  have o18 : (Cond.arrayOver (.object "TelegraphHouse$Journey")).before #[Value.ref b] s = true := hts _ (by decide +kernel)
  have o19 : (Cond.arrayOver (.object "TelegraphHouse$Line")).before #[Value.ref b] s = true := hts _ (by decide +kernel)
  have o20 : (Cond.arrayOver (.object "TelegraphHouse$Message")).before #[Value.ref b] s = true := hts _ (by decide +kernel)
  obtain ⟨a17, k17⟩ := law_over o17
  obtain ⟨a18, k18⟩ := law_over o18
  obtain ⟨a19, k19⟩ := law_over o19
  obtain ⟨a20, k20⟩ := law_over o20
  obtain ⟨G, hG⟩ : ∃ G : GGy, G = (l, (dC, dI), fun k => if k = 13 then a13 else if k = 14 then a14 else if k = 15 then a15 else if k = 16 then a16 else if k = 17 then a17 else if k = 18 then a18 else if k = 19 then a19 else a20, s.heap.size, z) := ⟨_, rfl⟩
  have hK : KU G s := by
    subst hG
    refine ⟨⟨hKn, fun k q hq => ?_⟩, ⟨fun j q hq => va_Nw.of rfl (hts _ (law_nest q (List.mem_of_getElem? hq))), fun k h1 h2 => ?_⟩, va_Zref (hts (.laysStatic "TelegraphHouse" "ZONE_CENTS" "[I") (by decide +kernel)) (hts (.initialized "TelegraphHouse") (by decide +kernel)) hz (fun a ha => Nat.not_le.mpr ha)⟩
    · match k, hq with
      | 0, hq => cases hq; exact k13
      | 1, hq => cases hq; exact k14
      | 2, hq => cases hq; exact k15
      | 3, hq => cases hq; exact k16
      | 4, hq => cases hq; exact k17
      | 5, hq => cases hq; exact k18
      | 6, hq => cases hq; exact k19
      | 7, hq => cases hq; exact k20
      | k + 8, hq => simp [tyl] at hq
    · rcases (show k = 17 ∨ k = 18 ∨ k = 19 ∨ k = 20 by omega) with rfl | rfl | rfl | rfl
      · exact va_AO.of o17
      · exact va_AO.of o18
      · exact va_AO.of o19
      · exact va_AO.of o20
  have hbz : b ≠ z := by
    intro e9
    have q := flat_of_before _ hgv (Cond.not (Cond.eq (.arg 0) (.static "TelegraphHouse" "ZONE_CENTS" "[I"))) (by decide +kernel)
    have ha : (Term.arg 0).eval #[Value.ref b] s none [] s = some (.ref b) := rfl
    rw [← e9] at hz
    simp only [Cond.before, Cond.holds, Cond.value, ha, hz] at q
    simp at q
  have hG1 : g_l G = l := by rw [hG]
  have hG2 : g_b G = s.heap.size := by rw [hG]
  have hG3 : g_z G = z := by rw [hG]
  clear hG
  let ad : Nat → Nat := fun a => if a = 0 then z else b
  have hR : Rel G ad (law_T L) (law_I xs) (fun _ _ => 0) (fun _ _ => none) s.heap s := by
    have sp : ∀ a, law_T L a ≠ none → a = 0 ∨ a = 1 := fun a h => by
      unfold law_T at h
      by_cases h0 : a = 0
      · exact Or.inl h0
      · by_cases h1 : a = 1
        · exact Or.inr h1
        · rw [if_neg h0, if_neg h1] at h
          exact absurd rfl h
    refine ⟨fun a a' h1 h2 h3 => ?_, fun a kd n h1 => ?_, fun a k b' _ h => (by cases h), fun h => (by cases h), hG3.symm, (by rw [hG2]; exact Nat.le_refl _)⟩
    · rcases sp a h1 with rfl | rfl <;> rcases sp a' h2 with rfl | rfl
      · rfl
      · exact absurd (show z = b from h3).symm hbz
      · exact absurd (show b = z from h3) hbz
      · rfl
    · rcases sp a (by rw [h1]; exact fun h => by cases h) with rfl | rfl
      · cases (show some ((21 : Nat), (4 : Nat)) = some (kd, n) from h1)
        exact ⟨fun h => absurd h (by decide), hzl, (RC_x (Nat.le_refl 21)).mpr hZX⟩
      · cases (show some ((21 : Nat), L) = some (kd, n) from h1)
        exact ⟨fun h => absurd h (by decide), hbl, (RC_x (Nat.le_refl 21)).mpr hX⟩
  have law := c_law0 (G := G) (T := law_T L) (I := law_I xs) (J := fun _ _ => 0) (R := fun _ _ => none) (Q := law_Q) (xs := xs) (L := L) rfl rfl (fun y hy => by
      unfold law_T
      rw [if_neg (by omega), if_neg (by omega)]) hL (fun y k hy => by
      unfold law_I
      rw [if_neg (by omega), if_neg (by omega)]) (fun _ _ => rfl) (fun _ _ => rfl) (fun _ _ => rfl) rfl (fun _ _ _ _ => rfl)
  have C : Cx G 239 p s m #[Value.ref b] meth c := ⟨hx, hb, hml, hown, hT, hK, fun h => absurd h (by decide)⟩
  have hl := lv_entry ([.ref 1].map (mv ad)) (n := 4) (Nat.le_of_ble_eq_true rfl)
  have k9 := law p e s m #[Value.ref b] below meth c ad C hr hlocks s.heap [] _ ad hR va_S.rf ⟨hl.1, ⟨hl.2.1, Ext.rf _ ad⟩, fun i v hi => by
    obtain ⟨q1, q2⟩ := ent_of ad [.ref 1] 3 0 i v hi
    rw [Nat.zero_add] at q1
    refine ⟨hl.2.2 _ q1, ?_⟩
    rcases List.mem_singleton.mp q2 with rfl
    exact okV_ref (fun h => by cases h)⟩ (okS_nil _) (Nat.zero_le _) (Nat.zero_le _)
  rw [lg_entry_eq]
  intro T hTh X
  rw [hG1] at k9
  obtain ⟨t, h1, o, h2, h3, ⟨⟨v, ad', T', I', J', R', g1, -, -, -, g5⟩, -⟩, Lc, g6, g7⟩ := k9 T hTh X
  refine ⟨t, h1, o, h2, h3, ?_, ?_⟩
  · rw [g1, show v = some (.int (nI 1)) from g5]
    rfl
  · exact ⟨g6.1, g6.2.1, g6.2.2.weaken (fun y hy hlt => absurd hlt (Nat.not_lt.mpr (by have := g7 y hy; rw [hG2] at this; exact this))) (Nat.le_refl _) (Nat.le_refl _)⟩
set_option maxHeartbeats 4000000 in
theorem lw_walk (l : Launch) (b : Addr) (xs : List Int32) : MetFree l x (headSpec (Jvm.Cond.code x code maxLocals ret :: tables_1) room_1) (lw_P b xs) (fun _ _ _ _ _ => True) lw_Q := by
  refine MetFree.of_bodyS (code := code) (maxLocals := maxLocals) (ret := ret) (by decide) ?_ ?_
  · intro args s m h hn
    obtain ⟨meth, c, h1, h2, h3, h4, h5, h6, -, -⟩ := Cond.code_spec hn (atoms_spec (ws := Jvm.Cond.code x code maxLocals ret :: tables_1) h _ List.mem_cons_self)
    exact ⟨meth, c, h1, h2, h3, h4, h5, h6⟩
  · intro p e s m args below meth c s₁ B hml0 hP _
    obtain ⟨rfl, hx, hbd, hgv⟩ := hP
    obtain ⟨scr, harrAt, hlist, hof, hsmall⟩ := hx
    obtain ⟨hcb, hkn, -, -⟩ := State.arrayAt?_spec harrAt
    have hown : s.vm.findClass R_law = some m.cls := findClass_of_methodNamed B.named
    have hts0 : ∀ c ∈ (Jvm.Cond.code x code maxLocals ret :: tables_1), c.before #[Value.ref b] s = true := atoms_spec (ws := Jvm.Cond.code x code maxLocals ret :: tables_1) B.pre
    have hts : ∀ w ∈ lw_tbl, w.before #[Value.ref b] s = true := k2_hts_sels lw_privs (fun w hw => hts0 w (List.mem_cons_of_mem _ hw)) lw_privs_ok
    have hml : c.maxLocals = 4 := B.maxLocals_eq (hts0 _ List.mem_cons_self)
    have X₀ : Stand p l e room_1 s m #[Value.ref b] below meth c s₁ [] 0 0 := Stand.of_body B
    have hh0 : s₁.heap = s.heap := by rw [B.state]; rfl
    have hsz : scr.slots.size = xs.length := by rw [← Array.length_toList, hlist, List.length_map]
    have hval : ∀ j : Nat, j < xs.length → scr.slots[j]? = some (.int (xs.getD j 0)) := fun j hj => by
      rw [← Array.getElem?_toList, hlist]
      simp [hj]
    have hbl : b < s.heap.size := (Array.getElem?_eq_some_iff.mp hcb).1
    have hX : va_X b xs.length (fun j => xs.getD j 0) s s.heap := ⟨scr, hcb, hof, hkn, hsz, hval⟩
    have K : W p l e room_1 s m #[Value.ref b] below meth c s₁.heap [] 0 0 (lw_Z below #[Value.ref b] s) (entryFrame m ([Value.ref b] : List Value).toArray 4) := by
      rw [hh0]
      exact whole_start l hbd ⟨B.exec, B.bytes, B.returns, hml, hown, hts, hX, hbl, B.notSynchronized, hgv⟩
    obtain ⟨t, a1, o, b1, b2, b3⟩ := K s₁ rfl X₀
    exact ⟨t, o, a1, b1, b2, b3⟩
theorem lw_pre_spec {args : Array Value} {s : State} (h : (Jvm.Cond.and given_1 narrow_1).before args s = true) (hr : rest_1_c.before args s = true) : ∃ (b : Addr) (xs : List Int32), lw_P b xs args s := by
  have hs := flat_of_before _ h
  have hq := flat_of_before _ hr
  have hc : (Cond.count 1).before args s = true := hs _ (by decide +kernel)
  have harr : (Cond.arrayOf (.arg 0) .int).before args s = true := hs _ (by decide +kernel)
  have hle : (Cond.le (.length (.arg 0)) (.int 3072)).before args s = true := hs _ (by decide +kernel)
  have hlen : (Cond.isInt (.length (.arg 0))).before args s = true := hq _ (by decide +kernel)
  have hall : (Cond.all (.arg 0) (.isInt (.elem (.arg 0) (.index 0)))).before args s = true := hq _ (by decide +kernel)
  obtain ⟨b, xs, hb, hx⟩ := State.ints_of_pre rfl harr hlen hall
  have hsm : xs.length < 2 ^ 31 := hx.choose_spec.2.2.2
  have hev : (Term.length (.arg 0)).eval args s none [] s = some (.int xs.length.toInt32) := hx.length_eval hb
  have hv := Cond.le_ints hev (show (Term.int 3072).eval args s none [] s = some (.int 3072) from rfl)
  have hd : xs.length.toInt32 ≤ 3072 := by
    simpa [Cond.before, Cond.holds, hv] using hle
  have hN : xs.length ≤ 3072 := (Int32.ofNat_le_ofNat hsm (by decide)).mp (show Int32.ofNat xs.length ≤ Int32.ofNat 3072 from hd)
  exact ⟨b, xs, Cond.one_arg hc (show args[0]? = some (.ref b) from hb), hx, hN, h⟩
theorem lw_comes (l : Launch) : Comes l x (Jvm.Cond.code x code maxLocals ret :: tables_1) room_1 (fun tb e args s => Calls_1 tb e args s ∧ rest_1 tb e args s ∧ Pre_1 tb e args s)
    (fun _ _ args s o t => lw_Q args s o t) := by
  intro p e ha hc hk s m args below hf hfit hheap happ hpre
  obtain ⟨b, xs, hP⟩ := lw_pre_spec hpre.2.2 hpre.2.1
  obtain ⟨k, o, h1, h2, h3, hQ⟩ := lw_walk l b xs p e ha hc hk s m args below hf ((Spec.applies_iff_loose hf).mp happ).1 hP trivial
  exact ⟨k, o, h1, h2, h3, hQ⟩
theorem lw_frame {s t : State} {o : Outcome} {args : Array Value} (h : Framed s o t [] 600000 7302250) :
    Framed s o t (fieldLocs frame_1_writes args s ++ arrayLocs frame_1_arrays args s ++ staticLocs frame_1_statics s) 600000 7302250 := h
theorem lw_limb (L : Cond) (hL : ∀ (args : Array Value) (s t : State), L.after args s (.returned (some (.int 1))) t = true) :
    ArmFor flags0 classFile x code maxLocals ret World_1 tables_1 room_1 Calls_1 rest_1 Pre_1
      (fun tb e a s o t => postC L tb e a s o t ∧ Framed s o t (fieldLocs frame_1_writes a s ++ arrayLocs frame_1_arrays a s ++ staticLocs frame_1_statics s) 600000 7302250) := by
  intro l _ _ _ p e ha hc hk s m args below hf hfit hheap happ hpre
  obtain ⟨k, o, h1, h2, h3, rfl, hF⟩ := lw_comes l p e ha hc hk s m args below hf hfit hheap happ hpre
  exact ⟨k, _, h1, h2, h3, hL args s _, lw_frame hF⟩
theorem i_vc : Claimed_1_1 ∧ Claimed_1_2 := ⟨lw_limb limb_1_1 (fun args s t => by simp [limb_1_1, Cond.after, Cond.holds, Cond.value]), lw_limb limb_1_2 (fun args s t => Cond.after_iff.mpr (by
  first | (rw [show limb_1_2 = Cond.eq .result (.int 1) from rfl, Cond.eq_ints (x := 1) (y := 1) rfl rfl]; simp; done) | (simp [limb_1_2, Cond.value, Term.eval]; done)))⟩
