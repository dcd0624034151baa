/-! CALLS -/
def PcR (G : GGy) (ad : Nat → Nat) (as : List Value) (T : TTy) (I : MIy) (J : MJy) (R : MRy) : Array Value → State → Prop := fun v U => v = (as.map (mv ad)).toArray ∧ okS T as ∧ Rel G ad T I J R U.heap U ∧ KU G U
def QcR (G : GGy) (ad : Nat → Nat) (T : TTy) (Q : QQy) : Array Value → State → Outcome → State → Prop := fun _ st oc t => (∃ (v : Option Value) (ad' : Nat → Nat) (T' : TTy) (I' : MIy) (J' : MJy) (R' : MRy), oc = .returned (v.map (mv ad')) ∧ (∀ w, v = some w → okV T' w) ∧ Ext T ad T' ad' ∧ Rel G ad' T' I' J' R' t.heap t ∧ Q v T' I' J' R') ∧ va_F (fun q => g_b G ≤ q) st t
/-- the method b, called with as over the memory, returns, and what it gives and leaves has Q -/
def Run (G : GGy) : RNy := fun b as T I J R Q => ∀ ad : Nat → Nat, Met (g_l G) (yM b) (wsM b) (rmM b) (PcR G ad as T I J R) (QcR G ad T Q) (rmM b).cells (rmM b).slots (fun q => g_b G ≤ q)
theorem PcR.blind {G : GGy} {ad : Nat → Nat} {as : List Value} {T : TTy} {I : MIy} {J : MJy} {R : MRy} : FrameBlind (PcR G ad as T I J R) := fun a U g mk q =>
  ⟨q.1, q.2.1, q.2.2.1.moved (u := U.calling g mk a) (Vm.Alike.refl U.vm), va_K.moved (u := U) (U := U.calling g mk a) (Vm.Alike.refl U.vm) q.2.2.2.1,
    ⟨fun j x hx => va_Nw.same (u := U) (U := U.calling g mk a) rfl rfl (q.2.2.2.2.1.1 j x hx), fun k h1 h2 => va_AO.moved (u := U) (U := U.calling g mk a) (Vm.Alike.refl U.vm) (q.2.2.2.2.1.2 k h1 h2)⟩,
    q.2.2.2.2.2.moved (U := U.calling g mk a) (Vm.Alike.refl U.vm)⟩
theorem popN_of : ∀ (d : Nat) (acc st : List Value) (k : List Value → List Value → Prop), popN d acc st k → ∃ xs rest, st = xs ++ rest ∧ xs.length = d ∧ k (xs.reverse ++ acc) rest
  | 0, acc, st, k, h => ⟨[], st, rfl, rfl, h⟩
  | n + 1, acc, [], k, h => h.elim
  | n + 1, acc, v :: st, k, h => by
    obtain ⟨xs, rest, h1, h2, h3⟩ := popN_of n (v :: acc) st k h
    exact ⟨v :: xs, rest, by rw [h1]; rfl, by rw [List.length_cons, h2], by rw [List.reverse_cons, List.append_assoc]; exact h3⟩
theorem sL_sum (ad : Nat → Nat) : ∀ (n : Nat) (l : List Value), sL n l → ((l.map (mv ad)).map fun v => v.category).sum ≤ n
  | n, [], _ => by simp
  | 0, v :: l, h => by cases v <;> exact h.elim
  | n + 1, v :: l, h => by
    cases v with
    | int x =>
      have h : sL n l := h
      have h1 := sL_sum ad n l h
      simp only [List.map_cons, List.sum_cons]
      have e9 : (mv ad (.int x)).category = 1 := rfl
      omega
    | ref x =>
      have h : sL n l := h
      have h1 := sL_sum ad n l h
      simp only [List.map_cons, List.sum_cons]
      have e9 : (mv ad (.ref x)).category = 1 := rfl
      omega
    | null =>
      have h : sL n l := h
      have h1 := sL_sum ad n l h
      simp only [List.map_cons, List.sum_cons]
      have e9 : (mv ad .null).category = 1 := rfl
      omega
    | long x =>
      cases n with
      | zero => exact h.elim
      | succ n =>
        have h : sL n l := h
        have h1 := sL_sum ad n l h
        simp only [List.map_cons, List.sum_cons]
        have e9 : (mv ad (.long x)).category = 2 := rfl
        omega
    | _ => cases n <;> exact h.elim
theorem okS_rev {T : TTy} {xs rest : List Value} (h : okS T (xs ++ rest)) : okS T xs.reverse ∧ okS T rest :=
  ⟨fun v hv => h v (List.mem_append_left _ (List.mem_reverse.mp hv)), fun v hv => h v (List.mem_append_right _ hv)⟩
section CALL
variable {G : GGy} {mi : Nat} {p : Program} {e : Env} {s : State} {m : MethodId} {args : Array Value} {below : List Frame} {meth : Method} {c : Code} {Qf : (State → Prop) × TTy × (Nat → Nat)}
variable {pc : Nat} {ls : List (Option Value)} {st : List Value} {cs ns : Nat} {T : TTy} {I : MIy} {J : MJy} {R : MRy}
theorem call_ok {mc ms : Nat} {ad : Nat → Nat} {H : Heap} {locs : List Loc} {lsr : Array Slot} {st0 rest : List Value} {Q : QQy} {a : Array Value} {Rm : Room} (hr : va_Run p (g_l G) e Rm s m args below meth c H locs cs ns mc ms (F0 m pc lsr st0) rest (QcR G ad T Q a) (fun q => g_b G ≤ q)) (hS : va_S (fun q => g_b G ≤ q) s.heap H locs)
    (kk : ∀ (w : Option Value) (ad' : Nat → Nat) (T' : TTy) (I' : MIy) (J' : MJy) (R' : MRy) (H1 : Heap) (locs1 : List Loc), (∀ x, w = some x → okV T' x) → Ext T ad T' ad' → Rel G ad' T' I' J' R' H1 s → Q w T' I' J' R' → va_S (fun q => g_b G ≤ q) s.heap H1 locs1 → W p (g_l G) e Rm s m args below meth c H1 locs1 (cs + mc) (ns + ms) Qf.1 (F0 m (pc + 3) lsr ((w.map (mv ad')).toList ++ rest))) : W p (g_l G) e Rm s m args below meth c H locs cs ns Qf.1 (F0 m pc lsr st0) := by
  intro X hX Y
  obtain ⟨v, st₀, t, T', L, h0, X', hL, e1, e2, ⟨⟨w, ad', T2, I2, J2, R2, hv, hok, hE, hR, hq⟩, hz, hk⟩, st⟩ := hr X hX Y
  rw [h0] at hz hk
  have hvm : s.vm.Alike t.vm := by rw [← e2]; exact X'.warmed.alike
  have hv2 : v = w.map (mv ad') := Outcome.returned.inj hv
  subst hv2
  obtain ⟨t2, a1, b1⟩ := kk w ad' T2 I2 J2 R2 T'.heap (locs ++ L) hok hE (by rw [e1]; exact hR.moved hvm.symm) hq
    ⟨Nat.le_trans hS.1 (by rw [e1]; exact hz), fun q h1 h2 => by rw [e1, hk q (Nat.lt_of_lt_of_le h1 hS.1) h2]; exact hS.2.1 q h1 h2, fun q hq => by
      rcases List.mem_append.mp hq with h | h
      · exact hS.2.2 q h
      · exact hL q h⟩ T' rfl X'
  exact ⟨t2, st t2 a1, b1⟩
theorem good_app {x : List Cond} {b : Nat} (hb : b < 239) (h : ∀ w ∈ x, w ∈ T0) : GoodIn T0 (x ++ wsM b) := fun w hw => by
  have h1 : w ∈ T0 := by
    rcases List.mem_append.mp hw with q | q
    · exact h w q
    · rcases List.mem_cons.mp q with rfl | q
      · exact cw_in hb
      · exact q
  exact ⟨h1, T0_good w h1⟩
theorem good_ws {b : Nat} (hb : b < 239) : GoodIn T0 (wsM b) := fun w hw => by
  have h1 : w ∈ T0 := by
    rcases List.mem_cons.mp hw with rfl | q
    · exact cw_in hb
    · exact q
  exact ⟨h1, T0_good w h1⟩
/-- what the callee finds -/
theorem pre_ok {H : Heap} {locs : List Loc} {ad : Nat → Nat} {as : List Value} (hK : KU G s) (hR : Rel G ad T I J R H s) (hS : va_S (fun q => g_b G ≤ q) s.heap H locs) (ho : okS T as) : ∀ U : State, U.heap = H → s.WarmedH U.vm → PcR G ad as T I J R (as.map (mv ad)).toArray U := fun U hU hW =>
  ⟨rfl, ho, by rw [hU]; exact hR.moved hW.alike, hK.to hW (fun q h1 h2 => by rw [hU]; exact hS.2.1 q h1 h2)⟩
theorem vt_map (ad : Nat → Nat) (w : Option Value) (rest : List Value) : (vt w rest).map (mv ad) = (w.map (mv ad)).toList ++ rest.map (mv ad) := by cases w <;> rfl
theorem okS_vt {T : TTy} {w : Option Value} {rest : List Value} (h : ∀ x, w = some x → okV T x) (hr : okS T rest) : okS T (vt w rest) := by
  cases w with
  | none => exact hr
  | some x => exact okS_cons (h x rfl) hr
/-- behind the call -/
theorem back_ok {b : Nat} {ad : Nat → Nat} {H : Heap} {locs : List Loc} {lsr : Array Slot} {st0 rest : List Value} {Q : QQy} {a : Array Value} (hL : RL (lM mi, Qf.2) ad T ls lsr) (hrest : okS T rest) (hS : va_S (fun q => g_b G ≤ q) s.heap H locs) (hf : cs + (rmM b).cells ≤ (rmM mi).cells ∧ ns + (rmM b).slots ≤ (rmM mi).slots)
    (hr : va_Run p (g_l G) e (rmM mi) s m args below meth c H locs cs ns (rmM b).cells (rmM b).slots (F0 m pc lsr st0) (rest.map (mv ad)) (QcR G ad T Q a) (fun q => g_b G ≤ q)) (kk : ∀ w T' I' J' R', Q w T' I' J' R' → Wc G mi p e s m args below meth c Qf (pc + 3) ls (vt w rest) (cs + (rmM b).cells) (ns + (rmM b).slots) T' I' J' R') : W p (g_l G) e (rmM mi) s m args below meth c H locs cs ns Qf.1 (F0 m pc lsr st0) := by
  refine call_ok hr hS (fun w ad' T' I' J' R' H1 locs1 hok hE hR hq hS1 => ?_)
  have k9 := kk w T' I' J' R' hq H1 locs1 lsr ad' hR hS1 (hL.ext hE) (okS_vt hok (hrest.ext hE)) hf.1 hf.2
  rw [vt_map, map_ext hrest hE] at k9
  exact k9
theorem s_callV (C : Cx G mi p s m args meth c) {i b d : Nat} {as rest xs : List Value} {Q : QQy} (hd : decode (cM mi) pc = .ok (.invokevirtual i, 3)) (hP : P0 (oM mi, i, b)) (hb9 : b < 239) (ho : oM b < 13) (hrm : roomOk mi b = true) (hxs : st = xs ++ rest) (has : as = xs.reverse) (hnp : xs.length = npT b + 1) (h4 : sL 8 rest) (hO : isO (oM b) as T) (hf : cs + (rmM b).cells ≤ (rmM mi).cells ∧ ns + (rmM b).slots ≤ (rmM mi).slots) (hrun : Run G b as T I J R Q)
    (kk : ∀ w T' I' J' R', Q w T' I' J' R' → Wc G mi p e s m args below meth c Qf (pc + 3) ls (vt w rest) (cs + (rmM b).cells) (ns + (rmM b).slots) T' I' J' R') : Wc G mi p e s m args below meth c Qf pc ls st cs ns T I J R := by
  obtain ⟨hx, hb, hml, hown, hts, hK, hini⟩ := C
  intro H locs lsr ad hR hS hL hs hc hn
  subst hxs
  obtain ⟨o1, o2⟩ := okS_rev hs
  rw [← has] at o1
  have hlen : as.length = npT b + 1 := by rw [has, List.length_reverse, hnp]
  have hxr : xs = as.reverse := by rw [has, List.reverse_reverse]
  match as, hO with
  | .ref o :: As, hO =>
    have hO : T o = some (oM b, 0) := hO
    obtain ⟨cell, g1, g2, g3, g4⟩ := (RC_o ho).mp (hR.kd hO)
    obtain ⟨c1, c2, c3, c4⟩ := cl_all (oM b) ho
    obtain ⟨w1, w2, w3, w4, w5⟩ := hP
    have nm := cl_notMH (oM b) (by omega)
    obtain ⟨n1, n2⟩ := np_in hb9
    simp only [roomOk, Bool.and_eq_true, decide_eq_true_eq] at hrm
    refine back_ok (b := b) (rest := rest) (Q := Q) hL o2 hS hf (va_runV (As := As.map (mv ad)) (b := ad o) (C := clN (oM b)) (bytes := cM b) (maxL := lM b) (ret := rM b) (n := npT b) ⟨hx, hb, hml, hown, hts⟩ (hrun ad) (cwV (npT b) hts (good_app (x := [.methodLink (clN (oM mi)) i (yM b), .instanceMethod (yM b), .selects (clN (oM b)) (yM b) (yM b), .initialized (clN (oM b))]) hb9 (fun w hw => ?_)) rfl rfl rfl ⟨w5, by rw [w5]; exact nm.1, by rw [w5]; exact nm.2, n1⟩ hrm) ⟨PcR.blind, ⟨cell, g1, by rw [g3]; rfl, by rw [g2]; exact (hK.1.1 (oM b) _ c1).2.1⟩, pre_ok hK hR hS o1⟩ rfl ?_ hL.1 ?_ (lv_room (sL_sum ad 8 rest h4)) hd hf) kk
    · simp only [List.mem_cons, List.not_mem_nil, or_false] at hw
      rcases hw with rfl | rfl | rfl | rfl
      · exact w1
      · exact w2
      · exact w3
      · exact w4
    · rw [List.length_map]
      simpa using hlen
    · show (xs ++ rest).map (mv ad) = _
      rw [hxr, List.reverse_cons, List.map_append, List.map_append, List.map_reverse, List.append_assoc]
      rfl
theorem s_callS (C : Cx G mi p s m args meth c) {i b d : Nat} {as rest xs : List Value} {Q : QQy} (hd : decode (cM mi) pc = .ok (.invokestatic i, 3)) (hP : P1 (oM mi, i, b) ∨ P4 (oM mi, i, b)) (hb9 : b < 239) (ho : oM b < 16) (hrm : roomOk mi b = true) (hxs : st = xs ++ rest) (has : as = xs.reverse) (hnp : xs.length = npT b) (h4 : sL 8 rest) (hf : cs + (rmM b).cells ≤ (rmM mi).cells ∧ ns + (rmM b).slots ≤ (rmM mi).slots) (hrun : Run G b as T I J R Q)
    (kk : ∀ w T' I' J' R', Q w T' I' J' R' → Wc G mi p e s m args below meth c Qf (pc + 3) ls (vt w rest) (cs + (rmM b).cells) (ns + (rmM b).slots) T' I' J' R') : Wc G mi p e s m args below meth c Qf pc ls st cs ns T I J R := by
  obtain ⟨hx, hb, hml, hown, hts, hK, hini⟩ := C
  intro H locs lsr ad hR hS hL hs hc hn
  subst hxs
  obtain ⟨o1, o2⟩ := okS_rev hs
  rw [← has] at o1
  have hlen : as.length = npT b := by rw [has, List.length_reverse, hnp]
  have hxr : xs = as.reverse := by rw [has, List.reverse_reverse]
  have nm := cl_notMH (oM b) ho
  obtain ⟨n1, n2⟩ := np_in hb9
  simp only [roomOk, Bool.and_eq_true, decide_eq_true_eq] at hrm
  have hstk : (xs ++ rest).map (mv ad) = (as.map (mv ad)).reverse ++ rest.map (mv ad) := by rw [hxr, List.map_append, List.map_reverse]
  rcases hP with ⟨w1, w2, w3, w5⟩ | ⟨⟨j, hj⟩, w2, w3, w5⟩
  · refine back_ok (b := b) (rest := rest) (Q := Q) hL o2 hS hf (va_runS (As := as.map (mv ad)) (bytes := cM b) (maxL := lM b) (ret := rM b) (n := npT b) ⟨hx, hb, hml, hown, hts⟩ (hrun ad) (va_cwS (npT b) hts (good_app (x := [.methodLink (clN (oM mi)) i (yM b), .static (yM b), .initialized (yM b).cls]) hb9 (fun w hw => ?_)) rfl rfl rfl ⟨by rw [w5]; exact nm.1, by rw [w5]; exact nm.2, n1⟩ hrm) ⟨PcR.blind, pre_ok hK hR hS o1⟩ rfl (by rw [List.length_map]; exact hlen) hL.1 hstk (lv_room (sL_sum ad 8 rest h4)) hd hf) kk
    simp only [List.mem_cons, List.not_mem_nil, or_false] at hw
    rcases hw with rfl | rfl | rfl
    · exact w1
    · exact w2
    · rw [w5]; exact w3
  · have hnw : va_Nw (.methodLinkNest (clN (oM mi)) i (yM b) "TelegraphHouse") s := by
        have h9 := hK.2.1.1 j (clN (oM mi), i, yM b, "TelegraphHouse") hj
        exact h9
    have hi9 : (Cond.initialized (yM b).cls).before args s = true := hts _ (by rw [w5]; exact w3)
    have cn : va_CN (rmM mi) s args (clN (oM mi)) i (yM b) "TelegraphHouse" (cM b) (lM b) (rM b) (wsM b) (rmM b) (rmM b).cells (rmM b).slots (npT b) := va_cnB (ws' := T0) (npT b) hts (good_ws hb9) rfl rfl rfl hnw hi9 ⟨by rw [w5]; exact nm.1, by rw [w5]; exact nm.2, n1⟩ hrm
    exact back_ok (b := b) (rest := rest) (Q := Q) hL o2 hS hf (va_runSN (As := as.map (mv ad)) (host := "TelegraphHouse") (bytes := cM b) (maxL := lM b) (ret := rM b) (n := npT b) ⟨hx, hb, hml, hown, hts⟩ (hrun ad) ⟨cn, hts _ w2, trivial⟩ ⟨PcR.blind, pre_ok hK hR hS o1⟩ rfl (by rw [List.length_map]; exact hlen) hL.1 hstk (lv_room (sL_sum ad 8 rest h4)) hd hf) kk
theorem s_callI (C : Cx G mi p s m args meth c) {i b d : Nat} {as rest xs : List Value} {Q : QQy} (hd : decode (cM mi) pc = .ok (.invokespecial i, 3)) (hP : P2 (oM mi, i, b) ∨ P5 (oM mi, i, b)) (hb9 : b < 239) (ho : oM b < 13) (hrm : roomOk mi b = true) (hxs : st = xs ++ rest) (has : as = xs.reverse) (hnp : xs.length = npT b + 1) (h4 : sL 8 rest) (hO : isO (oM b) as T) (hf : cs + (rmM b).cells ≤ (rmM mi).cells ∧ ns + (rmM b).slots ≤ (rmM mi).slots) (hrun : Run G b as T I J R Q)
    (kk : ∀ w T' I' J' R', Q w T' I' J' R' → Wc G mi p e s m args below meth c Qf (pc + 3) ls (vt w rest) (cs + (rmM b).cells) (ns + (rmM b).slots) T' I' J' R') : Wc G mi p e s m args below meth c Qf pc ls st cs ns T I J R := by
  obtain ⟨hx, hb, hml, hown, hts, hK, hini⟩ := C
  intro H locs lsr ad hR hS hL hs hc hn
  subst hxs
  obtain ⟨o1, o2⟩ := okS_rev hs
  rw [← has] at o1
  have hlen : as.length = npT b + 1 := by rw [has, List.length_reverse, hnp]
  have hxr : xs = as.reverse := by rw [has, List.reverse_reverse]
  match as, hO with
  | .ref o :: As, hO =>
    have nm := cl_notMH (oM b) (by omega)
    obtain ⟨n1, n2⟩ := np_in hb9
    simp only [roomOk, Bool.and_eq_true, decide_eq_true_eq] at hrm
    have hl2 : (As.map (mv ad)).length = npT b := by
      rw [List.length_map]
      simpa using hlen
    have hstk : (xs ++ rest).map (mv ad) = (As.map (mv ad)).reverse ++ .ref (ad o) :: rest.map (mv ad) := by
      rw [hxr, List.reverse_cons, List.map_append, List.map_append, List.map_reverse, List.append_assoc]
      rfl
    rcases hP with ⟨w1, w2, w3, w5, w6, w7⟩ | ⟨⟨j, hj⟩, w2, w3, w5, w6, w7⟩
    · have hw0 : wsM b = Cond.code (yM b) (cM b) (lM b) none :: T0 := by rw [← w7]; rfl
      exact back_ok (b := b) (rest := rest) (Q := Q) hL o2 hS hf (va_runI (As := As.map (mv ad)) (b := ad o) (bytes := cM b) (maxL := lM b) (n := npT b) ⟨hx, hb, hml, hown, hts⟩ (hrun ad) (cwI (npT b) hts (good_ws hb9) hw0 rfl rfl (hts _ (by rw [w5]; exact w3)) (hts _ w1) (hts _ w2) w6 ⟨by rw [w5]; exact nm.1, by rw [w5]; exact nm.2, n1⟩ hrm) ⟨PcR.blind, pre_ok hK hR hS o1⟩ rfl hl2 hL.1 hstk (lv_room (sL_sum ad 8 rest h4)) hd hf) kk
    · have hw0 : wsM b = Cond.code (yM b) (cM b) (lM b) none :: T0 := by rw [← w7]; rfl
      have hnw : va_Nw (.methodLinkNest (clN (oM mi)) i (yM b) "TelegraphHouse") s := by
        have h9 := hK.2.1.1 j (clN (oM mi), i, yM b, "TelegraphHouse") hj
        exact h9
      have hi9 : (Cond.initialized (yM b).cls).before args s = true := hts _ (by rw [w5]; exact w3)
      have cn : va_CN (rmM mi) s args (clN (oM mi)) i (yM b) "TelegraphHouse" (cM b) (lM b) none (wsM b) (rmM b) (rmM b).cells (rmM b).slots (npT b) := va_cnB (ws' := T0) (npT b) hts (good_ws hb9) hw0 rfl rfl hnw hi9 ⟨by rw [w5]; exact nm.1, by rw [w5]; exact nm.2, n1⟩ hrm
      exact back_ok (b := b) (rest := rest) (Q := Q) hL o2 hS hf (va_runIN (As := As.map (mv ad)) (b := ad o) (host := "TelegraphHouse") (bytes := cM b) (maxL := lM b) (n := npT b) ⟨hx, hb, hml, hown, hts⟩ (hrun ad) ⟨cn, w6, hts _ w2⟩ ⟨PcR.blind, pre_ok hK hR hS o1⟩ rfl hl2 hL.1 hstk (lv_room (sL_sum ad 8 rest h4)) hd hf) kk
end CALL
