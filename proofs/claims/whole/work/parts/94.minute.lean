/-! A MINUTE, pure -/
abbrev NtS.sE (N : NtS) (lg : Nat → Nat → Int32) (L : Nat → LnS) (rn : Nat → Int32) (en : Nat → Nat) (jy : Nat → JnS) : NtS := (N.ns, lg, N.nl, L, rn, en, N.ck, N.jn, jy, N.sn, N.tu)
abbrev jLost (x : JnS) : JnS := (4, x.at9, x.ca, x.ls + nI 1, x.pr, x.tu, x.st, x.pm, x.pS, x.pL, false, x.sc)
abbrev jWait (x : JnS) : JnS := (1, nI (x.pS (x.st + 1)), x.ca, x.ls, x.pr, x.tu, x.st + 1, x.pm, x.pS, x.pL, x.dm, x.sc)
abbrev jCome (x : JnS) (ck : Nat) : JnS := (3, nI (x.pS (x.st + 1)), nI ck, x.ls, x.pr, x.tu, x.st + 1, x.pm, x.pS, x.pL, x.dm, x.sc)
abbrev jRun (x : JnS) (l : Nat) (d : Bool) : JnS := (2, nI l, x.ca, x.ls, x.pr, x.tu, x.st, x.pm, x.pS, x.pL, d, x.sc)
def erN (N : NtS) (l w : Nat) : NtS × Nat := match pick (N.rn (2 * l + w)) N.jn with
  | none => (N, 0)
  | some m => if N.en (2 * l + w) = N.ck then
      (if (N.jy m).dm = true then (N.sE N.lg N.L (uF N.rn (2 * l + w) (-9)) N.en (uF N.jy m (jLost (N.jy m))), 0)
      else if (N.jy m).st + 1 < (N.jy m).pm then (N.sE N.lg N.L (uF N.rn (2 * l + w) (-9)) N.en (uF N.jy m (jWait (N.jy m))), 0)
      else (N.sE (lgU N.lg ((N.jy m).pS ((N.jy m).st + 1)) 1 (nI 1)) N.L (uF N.rn (2 * l + w) (-9)) N.en (uF N.jy m (jCome (N.jy m) N.ck)), 1)) else (N, 0)
def bs1 (N : NtS) (l g m : Nat) (o : Option Nat) : Prop := wt1 N l g m = true ∧ match o with
  | none => True
  | some b => ahd (N.jy m) (N.jy b)
noncomputable def bsN (N : NtS) (l g : Nat) : Nat → Option Nat
  | 0 => none
  | m + 1 => cif (bs1 N l g m (bsN N l g m)) (some m) (bsN N l g m)
def lnDn (x : LnS) : LnS := if 0 < x.tz then (x.a, x.b, x.mi, x.op, x.sh, x.tz - nI 1) else x
noncomputable def brM (N : NtS) (l w m : Nat) : NtS := N.sE (lgU N.lg (lnSt (N.L l) w) 3 (nI 1)) (uF N.L l (lnDn (N.L l))) (uF N.rn (2 * l + w) (nI m)) (uF N.en (2 * l + w) (N.ck + (N.L l).mi)) (uF N.jy m (jRun (N.jy m) l (decide (0 < (N.L l).tz))))
noncomputable def brN (N : NtS) (l w : Nat) : NtS := match (if N.rn (2 * l + w) = (-9) then bsN N l (lnSt (N.L l) w) N.jn else none) with
  | none => N
  | some m => brM N l w m
def pmE (N : NtS) : Nat → NtS × Nat
  | 0 => (N, 0)
  | k + 1 => ((erN (pmE N k).1 (k / 2) (k % 2)).1, (pmE N k).2 + (erN (pmE N k).1 (k / 2) (k % 2)).2)
noncomputable def pmB (N : NtS) (hr : Nat) : Nat → NtS
  | 0 => N
  | k + 1 => cif (opn ((pmB N hr k).L (k / 2)) hr) (brN (pmB N hr k) (k / 2) (k % 2)) (pmB N hr k)
abbrev NtS.sC (N : NtS) (ck : Nat) : NtS := (N.ns, N.lg, N.nl, N.L, N.rn, N.en, ck, N.jn, N.jy, N.sn, N.tu)
noncomputable def pmN (N : NtS) : NtS × Nat := ((pmB (pmE N (2 * N.nl)).1 (N.ck / 60 % 24) (2 * N.nl)).sC (N.ck + 1), (pmE N (2 * N.nl)).2)
noncomputable def stN (N : NtS) : Nat → NtS × Nat
  | 0 => (N, 0)
  | n + 1 => ((pmN (stN N n).1).1, (stN N n).2 + (pmN (stN N n).1).2)
/-- what a minute leaves -/
def smN (N N' : NtS) : Prop := N'.ns = N.ns ∧ N'.nl = N.nl ∧ N'.jn = N.jn ∧ N'.tu = N.tu ∧ (∀ k, k < N.jn → (N'.jy k).sc = (N.jy k).sc ∧ ((N'.jy k).hw ≠ 0 → (N.jy k).hw ≠ 0) ∧ (N'.jy k).pS = (N.jy k).pS ∧ (N'.jy k).pm = (N.jy k).pm) ∧ ∀ l, (N'.L l).a = (N.L l).a ∧ (N'.L l).b = (N.L l).b ∧ (N'.L l).mi = (N.L l).mi ∧ (N'.L l).op = (N.L l).op ∧ (N'.L l).sh = (N.L l).sh
theorem smN.rf (N : NtS) : smN N N := ⟨rfl, rfl, rfl, rfl, fun _ _ => ⟨rfl, id, rfl, rfl⟩, fun _ => ⟨rfl, rfl, rfl, rfl, rfl⟩⟩
theorem smN.tr {A B C : NtS} (h : smN A B) (g : smN B C) : smN A C := by
  obtain ⟨h1, h2, h3, h4, h5, h6⟩ := h
  obtain ⟨g1, g2, g3, g4, g5, g6⟩ := g
  refine ⟨g1.trans h1, g2.trans h2, g3.trans h3, g4.trans h4, fun k hk => ?_, fun l => ?_⟩
  · obtain ⟨a1, a2, a3, a4⟩ := h5 k hk
    obtain ⟨b1, b2, b3, b4⟩ := g5 k (by omega)
    exact ⟨b1.trans a1, fun z => a2 (b2 z), b3.trans a3, b4.trans a4⟩
  · obtain ⟨a1, a2, a3, a4, a5⟩ := h6 l
    obtain ⟨b1, b2, b3, b4, b5⟩ := g6 l
    exact ⟨b1.trans a1, b2.trans a2, b3.trans a3, b4.trans a4, b5.trans a5⟩
theorem smN.pne {N N' : NtS} (h : smN N N') (p : pne N) : pne N' := fun m hm hw => by
  obtain ⟨h1, h2, h3, h4, h5, h6⟩ := h
  obtain ⟨a1, a2, a3, a4⟩ := h5 m (by omega)
  rw [a3, a4]
  exact p m (by omega) (a2 hw)
theorem vJn.cg {N N' : NtS} {x : JnS} (h : vJn N x) (e1 : N'.ns = N.ns) (e2 : N'.nl = N.nl) (e4 : N'.tu = N.tu) (e6 : ∀ l, (N'.L l).a = (N.L l).a ∧ (N'.L l).b = (N.L l).b) : vJn N' x := by
  unfold vJn at h ⊢
  rw [e1, e2, e4]
  obtain ⟨h1, h2, h3, h4⟩ := h
  refine ⟨h1, h2, fun z => ?_, h4⟩
  obtain ⟨a1, a2, a3, a4, a5, a6, a7⟩ := h3 z
  refine ⟨a1, a2, a3, a4, a5, a6, fun i hi => ?_⟩
  rw [(e6 _).1, (e6 _).2]
  exact a7 i hi
theorem lnSt_cg {x y : LnS} (h1 : x.a = y.a) (h2 : x.b = y.b) (w : Nat) : lnSt x w = lnSt y w := by
  unfold lnSt
  rw [h1, h2]
theorem vNt.sE {N : NtS} {lg : Nat → Nat → Int32} {L : Nat → LnS} {rn : Nat → Int32} {en : Nat → Nat} {m : Nat} {x : JnS} (v : vNt N) (hL : ∀ l, (L l).a = (N.L l).a ∧ (L l).b = (N.L l).b ∧ (L l).mi = (N.L l).mi ∧ (L l).op = (N.L l).op ∧ (L l).sh = (N.L l).sh) (hx : vJn N x) (hr : ∀ l w, l < N.nl → w < 2 → rn (2 * l + w) = (-9) ∨ ∃ k, k < N.jn ∧ rn (2 * l + w) = nI k ∧ en (2 * l + w) ≤ 6100 ∧ ((k ≠ m ∧ (N.jy k).hw = 2 ∧ (N.jy k).pL (N.jy k).st = l ∧ (N.jy k).pS (N.jy k).st = lnSt (N.L l) w) ∨ (k = m ∧ x.hw = 2 ∧ x.pL x.st = l ∧ x.pS x.st = lnSt (N.L l) w))) : vNt (N.sE lg L rn en (uF N.jy m x)) := by
  obtain ⟨v1, v2, v3, v4, v5, v6, v7⟩ := v
  refine ⟨v1, v2, v3, v4, fun l hl => ?_, fun k hk => ?_, fun l w hl hw => ?_⟩
  · obtain ⟨a1, a2, a3, a4, a5⟩ := hL l
    show vLn _ (L l)
    unfold vLn
    rw [a1, a2, a3, a4, a5]
    exact v5 l hl
  · show vJn _ (uF N.jy m x k)
    by_cases q : k = m
    · subst q
      rw [uF_at]
      exact hx.cg rfl rfl rfl (fun l => ⟨(hL l).1, (hL l).2.1⟩)
    · rw [uF_ne q]
      exact (v6 k hk).cg rfl rfl rfl (fun l => ⟨(hL l).1, (hL l).2.1⟩)
  · show rn (2 * l + w) = (-9) ∨ ∃ k, k < N.jn ∧ rn (2 * l + w) = nI k ∧ en (2 * l + w) ≤ 6100 ∧ (uF N.jy m x k).hw = 2 ∧ (uF N.jy m x k).pL (uF N.jy m x k).st = l ∧ (uF N.jy m x k).pS (uF N.jy m x k).st = lnSt (L l) w
    rw [lnSt_cg (hL l).1 (hL l).2.1]
    rcases hr l w hl hw with q | ⟨k, k1', k2', k3', q | q⟩
    · exact Or.inl q
    · refine Or.inr ⟨k, k1', k2', k3', ?_⟩
      rw [uF_ne q.1]
      exact q.2
    · refine Or.inr ⟨k, k1', k2', k3', ?_⟩
      obtain ⟨rfl, q2⟩ := q
      rw [uF_at]
      exact q2
theorem smN.sE {N : NtS} {lg : Nat → Nat → Int32} {L : Nat → LnS} {rn : Nat → Int32} {en : Nat → Nat} {m : Nat} {x : JnS} (hL : ∀ l, (L l).a = (N.L l).a ∧ (L l).b = (N.L l).b ∧ (L l).mi = (N.L l).mi ∧ (L l).op = (N.L l).op ∧ (L l).sh = (N.L l).sh) (h0 : (N.jy m).hw ≠ 0) (h1 : x.sc = (N.jy m).sc) (h2 : x.pS = (N.jy m).pS) (h3 : x.pm = (N.jy m).pm) : smN N (N.sE lg L rn en (uF N.jy m x)) := by
  refine ⟨rfl, rfl, rfl, rfl, fun k hk => ?_, hL⟩
  show (uF N.jy m x k).sc = _ ∧ ((uF N.jy m x k).hw ≠ 0 → _) ∧ (uF N.jy m x k).pS = _ ∧ (uF N.jy m x k).pm = _
  by_cases q : k = m
  · subst q
    rw [uF_at]
    exact ⟨h1, fun _ => h0, h2, h3⟩
  · rw [uF_ne q]
    exact ⟨rfl, id, rfl, rfl⟩
/-- who runs on a way -/
theorem vNt.rn {N : NtS} (v : vNt N) {l w m : Nat} (hl : l < N.nl) (hw : w < 2) (h : pick (N.rn (2 * l + w)) N.jn = some m) : m < N.jn ∧ N.rn (2 * l + w) = nI m ∧ N.en (2 * l + w) ≤ 6100 ∧ (N.jy m).hw = 2 ∧ (N.jy m).pL (N.jy m).st = l ∧ (N.jy m).pS (N.jy m).st = lnSt (N.L l) w := by
  have jm := v.2.2.1
  rcases v.2.2.2.2.2.2 l w hl hw with q | ⟨k, k1', k2', k3', k4', k5', k6'⟩
  · rw [q, pick_none (fun j hj e => absurd e.symm (z_m9 (by omega)))] at h
    cases h
  · rw [pick_some k1' (by omega) k2'] at h
    obtain rfl := Option.some.inj h
    exact ⟨k1', k2', k3', k4', k5', k6'⟩
theorem vNt.uq {N : NtS} (v : vNt N) {l w l' w' m : Nat} (hl : l < N.nl) (hw : w < 2) (hl' : l' < N.nl) (hw' : w' < 2) (h : N.rn (2 * l + w) = nI m) (h' : N.rn (2 * l' + w') = nI m) (hm : m < N.jn) : l = l' ∧ w = w' := by
  have jm := v.2.2.1
  obtain ⟨_, _, _, _, a1, a2⟩ := v.rn hl hw (pick_some hm (by omega) h)
  obtain ⟨_, _, _, _, b1, b2⟩ := v.rn hl' hw' (pick_some hm (by omega) h')
  have e : l = l' := a1.symm.trans b1
  subst e
  refine ⟨rfl, ?_⟩
  rw [a2] at b2
  have l3 := (v.2.2.2.2.1 l hl).2.2.1
  unfold lnSt at b2
  split at b2 <;> split at b2 <;> omega
theorem vNt.er0 {N : NtS} (v : vNt N) {l w m : Nat} {lg : Nat → Nat → Int32} {x : JnS} (hl : l < N.nl) (hw : w < 2) (h : pick (N.rn (2 * l + w)) N.jn = some m) (hx : vJn N x) : vNt (N.sE lg N.L (uF N.rn (2 * l + w) (-9)) N.en (uF N.jy m x)) := by
  obtain ⟨r1, r2, r3, r4, r5, r6⟩ := v.rn hl hw h
  refine v.sE (fun _ => ⟨rfl, rfl, rfl, rfl, rfl⟩) hx (fun l' w' hl' hw' => ?_)
  by_cases q : 2 * l' + w' = 2 * l + w
  · rw [q, uF_at]
    exact Or.inl rfl
  · rw [uF_ne q]
    rcases v.2.2.2.2.2.2 l' w' hl' hw' with z | ⟨k, k1', k2', k3', k4'⟩
    · exact Or.inl z
    · refine Or.inr ⟨k, k1', k2', k3', Or.inl ⟨fun e => ?_, k4'⟩⟩
      rw [e] at k2'
      obtain ⟨e1, e2⟩ := v.uq hl hw hl' hw' r2 k2' r1
      omega
theorem vJn.lost {N : NtS} {x : JnS} (h : vJn N x) (h2 : x.hw = 2) : vJn N (jLost x) := by
  obtain ⟨h1, h2', h3, h4, h5, h6⟩ := h
  exact ⟨(show 4 ≤ 4 by decide), fun z => absurd (show false = true from z) (by decide), fun _ => h3 (by omega), fun z => absurd (show 4 = 1 from z) (by decide), fun z => absurd (show 4 = 2 from z) (by decide), fun _ => (h5 h2).1⟩
theorem vJn.wait {N : NtS} {x : JnS} (h : vJn N x) (h2 : x.hw = 2) (hd : x.dm = false) (hs : x.st + 1 < x.pm) : vJn N (jWait x) := by
  obtain ⟨h1, h2', h3, h4, h5, h6⟩ := h
  obtain ⟨a1, a2, a3, a4, a5, a6, a7⟩ := h3 (by omega)
  exact ⟨(show 1 ≤ 4 by decide), fun z => absurd (show x.dm = true from z) (by rw [hd]; decide), fun _ => ⟨a1, a2, a3, a4, (show x.st + 1 ≤ x.pm by omega), a6, a7⟩, fun _ => ⟨hs, rfl⟩, fun z => absurd (show 1 = 2 from z) (by decide), fun z => absurd (show 1 = 4 from z) (by decide)⟩
theorem vJn.come {N : NtS} {x : JnS} {ck : Nat} (h : vJn N x) (h2 : x.hw = 2) (hd : x.dm = false) : vJn N (jCome x ck) := by
  obtain ⟨h1, h2', h3, h4, h5, h6⟩ := h
  obtain ⟨a1, a2, a3, a4, a5, a6, a7⟩ := h3 (by omega)
  have := (h5 h2).1
  exact ⟨(show 3 ≤ 4 by decide), fun z => absurd (show x.dm = true from z) (by rw [hd]; decide), fun _ => ⟨a1, a2, a3, a4, (show x.st + 1 ≤ x.pm by omega), a6, a7⟩, fun z => absurd (show 3 = 1 from z) (by decide), fun z => absurd (show 3 = 2 from z) (by decide), fun z => absurd (show 3 = 4 from z) (by decide)⟩
theorem vJn.run {N : NtS} {x : JnS} {l : Nat} {d : Bool} (h : vJn N x) (h1' : x.hw = 1) (hl : x.pL x.st = l) : vJn N (jRun x l d) := by
  obtain ⟨h1, h2', h3, h4, h5, h6⟩ := h
  exact ⟨(show 2 ≤ 4 by decide), fun _ => rfl, fun _ => h3 (by omega), fun z => absurd (show 2 = 1 from z) (by decide), fun _ => ⟨(h4 h1').1, by show nI l = nI (x.pL x.st); rw [hl]⟩, fun z => absurd (show 2 = 4 from z) (by decide)⟩
theorem er_ok {N : NtS} (v : vNt N) {l w : Nat} (hl : l < N.nl) (hw : w < 2) : vNt (erN N l w).1 ∧ smN N (erN N l w).1 ∧ (erN N l w).2 ≤ 1 ∧ (erN N l w).1.ck = N.ck := by
  unfold erN
  cases hp : pick (N.rn (2 * l + w)) N.jn with
  | none => exact ⟨v, smN.rf N, Nat.zero_le _, rfl⟩
  | some m =>
    dsimp only
    obtain ⟨r1, r2, r3, r4, r5, r6⟩ := v.rn hl hw hp
    have vj := v.2.2.2.2.2.1 m r1
    by_cases q : N.en (2 * l + w) = N.ck
    · rw [if_pos q]
      by_cases q2 : (N.jy m).dm = true
      · rw [if_pos q2]
        exact ⟨v.er0 hl hw hp (vj.lost r4), smN.sE (fun _ => ⟨rfl, rfl, rfl, rfl, rfl⟩) (by omega) rfl rfl rfl, Nat.zero_le _, rfl⟩
      · rw [if_neg q2]
        have q3 : (N.jy m).dm = false := by
          cases h : (N.jy m).dm with
          | false => rfl
          | true => exact absurd h q2
        by_cases q4 : (N.jy m).st + 1 < (N.jy m).pm
        · rw [if_pos q4]
          exact ⟨v.er0 hl hw hp (vj.wait r4 q3 q4), smN.sE (fun _ => ⟨rfl, rfl, rfl, rfl, rfl⟩) (by omega) rfl rfl rfl, Nat.zero_le _, rfl⟩
        · rw [if_neg q4]
          exact ⟨v.er0 hl hw hp (vj.come r4 q3), smN.sE (fun _ => ⟨rfl, rfl, rfl, rfl, rfl⟩) (by omega) rfl rfl rfl, Nat.le_refl _, rfl⟩
    · rw [if_neg q]
      exact ⟨v, smN.rf N, Nat.zero_le _, rfl⟩
theorem bsN_sp {N : NtS} {l g : Nat} : ∀ n, (bsN N l g n = none ∧ ∀ m, m < n → wt1 N l g m = false) ∨ ∃ m, bsN N l g n = some m ∧ m < n ∧ wt1 N l g m = true
  | 0 => Or.inl ⟨rfl, fun m hm => absurd hm (Nat.not_lt_zero m)⟩
  | n + 1 => by
    have ih := bsN_sp (N := N) (l := l) (g := g) n
    unfold bsN
    by_cases q : bs1 N l g n (bsN N l g n)
    · rw [cif_pos q]
      exact Or.inr ⟨n, rfl, by omega, q.1⟩
    · rw [cif_neg q]
      rcases ih with ⟨e, h⟩ | ⟨m, e, h1, h2⟩
      · refine Or.inl ⟨e, fun m hm => ?_⟩
        rcases Nat.lt_or_ge m n with z | z
        · exact h m z
        · obtain rfl : m = n := by omega
          cases hh : wt1 N l g m with
          | false => rfl
          | true =>
            rw [e] at q
            exact absurd ⟨hh, trivial⟩ q
      · exact Or.inr ⟨m, e, by omega, h2⟩
theorem wt1_sp {N : NtS} {l g m : Nat} (h : wt1 N l g m = true) : (N.jy m).hw = 1 ∧ (N.jy m).pS (N.jy m).st = g ∧ (N.jy m).pL (N.jy m).st = l := by
  unfold wt1 at h
  simp only [Bool.and_eq_true, beq_iff_eq] at h
  exact ⟨h.1.1, h.1.2, h.2⟩
theorem lnDn_ab (x : LnS) : (lnDn x).a = x.a ∧ (lnDn x).b = x.b ∧ (lnDn x).mi = x.mi ∧ (lnDn x).op = x.op ∧ (lnDn x).sh = x.sh := by
  unfold lnDn
  split <;> exact ⟨rfl, rfl, rfl, rfl, rfl⟩
theorem uD_ab {L : Nat → LnS} {l : Nat} (j : Nat) : (uF L l (lnDn (L l)) j).a = (L j).a ∧ (uF L l (lnDn (L l)) j).b = (L j).b ∧ (uF L l (lnDn (L l)) j).mi = (L j).mi ∧ (uF L l (lnDn (L l)) j).op = (L j).op ∧ (uF L l (lnDn (L l)) j).sh = (L j).sh := by
  by_cases q : j = l
  · subst q
    rw [uF_at]
    exact lnDn_ab _
  · rw [uF_ne q]
    exact ⟨rfl, rfl, rfl, rfl, rfl⟩
theorem brM_ok {N : NtS} (v : vNt N) {l w m : Nat} (hl : l < N.nl) (hw : w < 2) (hr : N.rn (2 * l + w) = (-9)) (hm : m < N.jn) (h : wt1 N l (lnSt (N.L l) w) m = true) : vNt (brM N l w m) ∧ smN N (brM N l w m) := by
  obtain ⟨h1, h2, h3⟩ := wt1_sp h
  have vj := v.2.2.2.2.2.1 m hm
  have vl := v.2.2.2.2.1 l hl
  refine ⟨v.sE uD_ab (vj.run h1 h3) (fun l' w' hl' hw' => ?_), smN.sE uD_ab (by omega) rfl rfl rfl⟩
  by_cases q : 2 * l' + w' = 2 * l + w
  · obtain rfl : l' = l := by omega
    obtain rfl : w' = w := by omega
    rw [uF_at, uF_at]
    refine Or.inr ⟨m, hm, rfl, ?_, Or.inr ⟨rfl, rfl, h3, h2⟩⟩
    have := v.2.2.2.1
    have := vl.2.2.2.2.1
    omega
  · rw [uF_ne q, uF_ne q]
    rcases v.2.2.2.2.2.2 l' w' hl' hw' with z | ⟨k, k1', k2', k3', k4', k5'⟩
    · exact Or.inl z
    · refine Or.inr ⟨k, k1', k2', k3', Or.inl ⟨fun e => ?_, k4', k5'⟩⟩
      rw [e] at k4'
      omega
theorem br_ok {N : NtS} (v : vNt N) {l w : Nat} (hl : l < N.nl) (hw : w < 2) : vNt (brN N l w) ∧ smN N (brN N l w) ∧ (brN N l w).ck = N.ck := by
  unfold brN
  by_cases hr : N.rn (2 * l + w) = (-9)
  · rw [if_pos hr]
    rcases bsN_sp (N := N) (l := l) (g := lnSt (N.L l) w) N.jn with ⟨e, _⟩ | ⟨m, e, h1, h2⟩
    · rw [e]
      exact ⟨v, smN.rf N, rfl⟩
    · rw [e]
      obtain ⟨a, b⟩ := brM_ok v hl hw hr h1 h2
      exact ⟨a, b, rfl⟩
  · rw [if_neg hr]
    exact ⟨v, smN.rf N, rfl⟩
theorem pmE_ok {N : NtS} (v : vNt N) : ∀ k, k ≤ 2 * N.nl → vNt (pmE N k).1 ∧ smN N (pmE N k).1 ∧ (pmE N k).2 ≤ k ∧ (pmE N k).1.ck = N.ck
  | 0, _ => ⟨v, smN.rf N, Nat.le_refl _, rfl⟩
  | k + 1, hk => by
    obtain ⟨a1, a2, a3, a4⟩ := pmE_ok v k (by omega)
    have e := a2.2.1
    obtain ⟨b1, b2, b3, b4⟩ := er_ok a1 (l := k / 2) (w := k % 2) (by omega) (by omega)
    exact ⟨b1, a2.tr b2, (show (pmE N k).2 + (erN (pmE N k).1 (k / 2) (k % 2)).2 ≤ k + 1 by omega), b4.trans a4⟩
theorem pmB_ok {N : NtS} (v : vNt N) {hr : Nat} : ∀ k, k ≤ 2 * N.nl → vNt (pmB N hr k) ∧ smN N (pmB N hr k) ∧ (pmB N hr k).ck = N.ck
  | 0, _ => ⟨v, smN.rf N, rfl⟩
  | k + 1, hk => by
    obtain ⟨a1, a2, a4⟩ := pmB_ok v (hr := hr) k (by omega)
    have e := a2.2.1
    unfold pmB
    by_cases q : opn ((pmB N hr k).L (k / 2)) hr
    · rw [cif_pos q]
      obtain ⟨b1, b2, b4⟩ := br_ok a1 (l := k / 2) (w := k % 2) (by omega) (by omega)
      exact ⟨b1, a2.tr b2, b4.trans a4⟩
    · rw [cif_neg q]
      exact ⟨a1, a2, a4⟩
theorem vNt.sC {N : NtS} {ck : Nat} (v : vNt N) (h : ck ≤ 6000) : vNt (N.sC ck) := by
  obtain ⟨v1, v2, v3, v4, v5, v6, v7⟩ := v
  exact ⟨v1, v2, v3, h, v5, v6, v7⟩
theorem pmN_ok {N : NtS} (v : vNt N) (h : N.ck + 1 ≤ 6000) : vNt (pmN N).1 ∧ smN N (pmN N).1 ∧ (pmN N).2 ≤ 24 ∧ (pmN N).1.ck = N.ck + 1 := by
  obtain ⟨a1, a2, a3, a4⟩ := pmE_ok v (2 * N.nl) (Nat.le_refl _)
  have e := a2.2.1
  obtain ⟨b1, b2, b4⟩ := pmB_ok a1 (hr := N.ck / 60 % 24) (2 * N.nl) (by omega)
  have hnl := v.2.1
  refine ⟨b1.sC h, ?_, (show (pmE N (2 * N.nl)).2 ≤ 24 by omega), rfl⟩
  exact a2.tr (b2.tr ⟨rfl, rfl, rfl, rfl, fun _ _ => ⟨rfl, id, rfl, rfl⟩, fun _ => ⟨rfl, rfl, rfl, rfl, rfl⟩⟩)
theorem stN_ok {N : NtS} (v : vNt N) : ∀ n, N.ck + n ≤ 6000 → vNt (stN N n).1 ∧ smN N (stN N n).1 ∧ (stN N n).2 ≤ 24 * n ∧ (stN N n).1.ck = N.ck + n
  | 0, _ => ⟨v, smN.rf N, Nat.le_refl _, rfl⟩
  | n + 1, h => by
    obtain ⟨a1, a2, a3, a4⟩ := stN_ok v n (by omega)
    obtain ⟨b1, b2, b3, b4⟩ := pmN_ok a1 (by omega)
    exact ⟨b1, a2.tr b2, (show (stN N n).2 + (pmN (stN N n).1).2 ≤ _ by omega), by rw [show (stN N (n + 1)).1 = (pmN (stN N n).1).1 from rfl, b4, a4]; omega⟩
noncomputable def xStep (s : AlS) (x : Int32) : Int32 × AlS := match pickR x 1 300 with
  | none => (-2, s)
  | some n => if s.nt.ck + n ≤ 6000 then (nI (stN s.nt n).2, s.sN (stN s.nt n).1) else (-4, s)
