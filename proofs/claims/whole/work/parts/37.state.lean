/-! THE STATE that the house and the model share -/
abbrev BkS := Nat × Nat × Nat × (Nat → List (List Nat)) × Bool
abbrev BkS.st (x : BkS) : Nat := x.1
abbrev BkS.sr (x : BkS) : Nat := x.2.1
abbrev BkS.pn (x : BkS) : Nat := x.2.2.1
abbrev BkS.ph (x : BkS) : Nat → List (List Nat) := x.2.2.2.1
abbrev BkS.cl (x : BkS) : Bool := x.2.2.2.2
abbrev FmS := Int32 × Nat × (Nat → Nat) × Nat × (Nat → Int32) × (Nat → Int32) × (Nat → Int32) × Nat × (Nat → Nat) × (Nat → Nat) × (Nat → Int32)
abbrev FmS.bk (x : FmS) : Int32 := x.1
abbrev FmS.gc (x : FmS) : Nat := x.2.1
abbrev FmS.c (x : FmS) : Nat → Nat := x.2.2.1
abbrev FmS.pc (x : FmS) : Nat := x.2.2.2.1
abbrev FmS.p0 (x : FmS) : Nat → Int32 := x.2.2.2.2.1
abbrev FmS.p1 (x : FmS) : Nat → Int32 := x.2.2.2.2.2.1
abbrev FmS.p2 (x : FmS) : Nat → Int32 := x.2.2.2.2.2.2.1
abbrev FmS.bc (x : FmS) : Nat := x.2.2.2.2.2.2.2.1
abbrev FmS.sa (x : FmS) : Nat → Nat := x.2.2.2.2.2.2.2.2.1
abbrev FmS.sb (x : FmS) : Nat → Nat := x.2.2.2.2.2.2.2.2.2.1
abbrev FmS.md (x : FmS) : Nat → Int32 := x.2.2.2.2.2.2.2.2.2.2
abbrev MgS := Nat × (Nat → Tok) × FmS
abbrev MgS.n (x : MgS) : Nat := x.1
abbrev MgS.tk (x : MgS) : Nat → Tok := x.2.1
abbrev MgS.f (x : MgS) : FmS := x.2.2
abbrev LnS := Nat × Nat × Nat × Nat × Nat × Int32
abbrev LnS.a (x : LnS) : Nat := x.1
abbrev LnS.b (x : LnS) : Nat := x.2.1
abbrev LnS.mi (x : LnS) : Nat := x.2.2.1
abbrev LnS.op (x : LnS) : Nat := x.2.2.2.1
abbrev LnS.sh (x : LnS) : Nat := x.2.2.2.2.1
abbrev LnS.tz (x : LnS) : Int32 := x.2.2.2.2.2
abbrev JnS := Nat × Int32 × Int32 × Int32 × Nat × Nat × Nat × Nat × (Nat → Nat) × (Nat → Nat) × Bool × Int32
abbrev JnS.hw (x : JnS) : Nat := x.1
abbrev JnS.at9 (x : JnS) : Int32 := x.2.1
abbrev JnS.ca (x : JnS) : Int32 := x.2.2.1
abbrev JnS.ls (x : JnS) : Int32 := x.2.2.2.1
abbrev JnS.pr (x : JnS) : Nat := x.2.2.2.2.1
abbrev JnS.tu (x : JnS) : Nat := x.2.2.2.2.2.1
abbrev JnS.st (x : JnS) : Nat := x.2.2.2.2.2.2.1
abbrev JnS.pm (x : JnS) : Nat := x.2.2.2.2.2.2.2.1
abbrev JnS.pS (x : JnS) : Nat → Nat := x.2.2.2.2.2.2.2.2.1
abbrev JnS.pL (x : JnS) : Nat → Nat := x.2.2.2.2.2.2.2.2.2.1
abbrev JnS.dm (x : JnS) : Bool := x.2.2.2.2.2.2.2.2.2.2.1
abbrev JnS.sc (x : JnS) : Int32 := x.2.2.2.2.2.2.2.2.2.2.2
abbrev NtS := Nat × (Nat → Nat → Int32) × Nat × (Nat → LnS) × (Nat → Int32) × (Nat → Nat) × Nat × Nat × (Nat → JnS) × Int32 × Nat
abbrev NtS.ns (x : NtS) : Nat := x.1
abbrev NtS.lg (x : NtS) : Nat → Nat → Int32 := x.2.1
abbrev NtS.nl (x : NtS) : Nat := x.2.2.1
abbrev NtS.L (x : NtS) : Nat → LnS := x.2.2.2.1
abbrev NtS.rn (x : NtS) : Nat → Int32 := x.2.2.2.2.1
abbrev NtS.en (x : NtS) : Nat → Nat := x.2.2.2.2.2.1
abbrev NtS.ck (x : NtS) : Nat := x.2.2.2.2.2.2.1
abbrev NtS.jn (x : NtS) : Nat := x.2.2.2.2.2.2.2.1
abbrev NtS.jy (x : NtS) : Nat → JnS := x.2.2.2.2.2.2.2.2.1
abbrev NtS.sn (x : NtS) : Int32 := x.2.2.2.2.2.2.2.2.2.1
abbrev NtS.tu (x : NtS) : Nat := x.2.2.2.2.2.2.2.2.2.2
abbrev AlS := Nat × (Nat → Nat) × Nat × (Nat → BkS) × Nat × (Nat → MgS) × NtS
abbrev AlS.tl (x : AlS) : Nat := x.1
abbrev AlS.tb (x : AlS) : Nat → Nat := x.2.1
abbrev AlS.nb (x : AlS) : Nat := x.2.2.1
abbrev AlS.bo (x : AlS) : Nat → BkS := x.2.2.2.1
abbrev AlS.nm (x : AlS) : Nat := x.2.2.2.2.1
abbrev AlS.ms (x : AlS) : Nat → MgS := x.2.2.2.2.2.1
abbrev AlS.nt (x : AlS) : NtS := x.2.2.2.2.2.2
/-! a book, in the house and in the model -/
def vBk (x : BkS) : Prop := x.st ≤ 5000 ∧ 1 ≤ x.sr ∧ x.sr ≤ 9 ∧ x.pn ≤ 30 ∧ (∀ p, p < x.pn → 1 ≤ (x.ph p).length ∧ (x.ph p).length ≤ 4 ∧ ∀ i, i < (x.ph p).length → okW ((x.ph p).getD i [])) ∧ ∀ p q, p < x.pn → q < x.pn → x.ph p = x.ph q → p = q
def CBk (T : TTy) (I : MIy) (J : MJy) (R : MRy) (b : Nat) (x : BkS) : Prop := BO T R b ∧ PH I J b x.pn x.ph ∧ I b 0 = nI x.st ∧ I b 1 = nI x.sr ∧ I b 6 = nI x.cl.toNat ∧ vBk x ∧ (x.cl = true → ∀ p, p < x.pn → I (b + 3) p = nI (sd (x.st + p * x.sr)))
def MBk (I : MIy) (J : MJy) (b : Nat) (x : BkS) : Prop := I 46 b = nI x.st ∧ I 47 b = nI x.sr ∧ I 48 b = nI x.cl.toNat ∧ I 49 b = nI x.pn ∧ (∀ p, p < x.pn → I 50 (30 * b + p) = nI (x.ph p).length ∧ ∀ i, i < (x.ph p).length → J 51 (4 * (30 * b + p) + i) = mT9 (.inr ((x.ph p).getD i []))) ∧ (x.cl = true → ∀ p, p < x.pn → I 52 (30 * b + p) = nI (sd (x.st + p * x.sr)))
/-! a form and a message -/
def vFm (x : FmS) : Prop := x.gc ≤ 80 ∧ (∀ j, x.c j < 26) ∧ x.pc ≤ 20 ∧ (x.bc = 0 ∨ x.bc = (x.gc + 7) / 8) ∧ ∀ k, k < x.bc → x.sa k < 101 ∧ x.sb k < 101
def CFm (T : TTy) (I : MIy) (R : MRy) (f : Nat) (x : FmS) : Prop := FO T R f ∧ I f 2 = x.bk ∧ I f 1 = nI x.gc ∧ LT I f x.c ∧ I f 6 = nI x.pc ∧ (∀ i, i < x.pc → I (f + 2) i = x.p0 i ∧ I (f + 3) i = x.p1 i ∧ I (f + 4) i = x.p2 i) ∧ I f 10 = nI x.bc ∧ (∀ k, k < x.bc → I (f + 5) k = nI (x.sa k) ∧ I (f + 6) k = nI (x.sb k) ∧ I (f + 7) k = x.md k) ∧ vFm x
def MFm (I : MIy) (m : Nat) (x : FmS) : Prop := I 34 m = x.bk ∧ I 39 m = nI x.gc ∧ (∀ j, j < 5 * x.gc → I 40 (400 * m + j) = nI (x.c j)) ∧ I 35 m = nI x.pc ∧ (∀ i, i < x.pc → I 36 (20 * m + i) = x.p0 i ∧ I 37 (20 * m + i) = x.p1 i ∧ I 38 (20 * m + i) = x.p2 i) ∧ I 41 m = nI x.bc ∧ ∀ k, k < x.bc → I 42 (10 * m + k) = nI (x.sa k) ∧ I 43 (10 * m + k) = nI (x.sb k) ∧ I 44 (10 * m + k) = x.md k
def vMg (x : MgS) : Prop := 1 ≤ x.n ∧ x.n ≤ 20 ∧ ∀ i, i < x.n → okT (x.tk i)
def CMg (T : TTy) (I : MIy) (J : MJy) (R : MRy) (m : Nat) (x : MgS) : Prop := MO T R m ∧ TK I J m x.n x.tk ∧ CFm T I R (m + 2) x.f ∧ vMg x
def MMg (I : MIy) (J : MJy) (m : Nat) (x : MgS) : Prop := I 31 m = nI x.n ∧ (∀ i, i < x.n → J 32 (20 * m + i) = mT9 (x.tk i) ∧ I 33 (20 * m + i) = nI (tL (x.tk i))) ∧ MFm I m x.f
/-! their frames -/
section FRAMES
variable {T T' : TTy} {I I' : MIy} {J J' : MJy} {R R' : MRy}
theorem BO.fr {b : Nat} (h : BO T R b) (hT : ∀ y, T y ≠ none → T' y = T y) (hR : R' b = R b) : BO T' R' b := by
  obtain ⟨a0, a1, a2, a3, a4, a5, a6⟩ := h
  have k : ∀ {y c}, T y = some c → T' y = some c := fun {y c} e => by rw [hT y (by rw [e]; exact fun z => by cases z)]; exact e
  unfold BO
  rw [hR]
  exact ⟨k a0, a1, k a2, a3, k a4, a5, k a6⟩
theorem FO.fr {f : Nat} (h : FO T R f) (hT : ∀ y, T y ≠ none → T' y = T y) (hR : R' f = R f) : FO T' R' f := by
  have k : ∀ {y c}, T y = some c → T' y = some c := fun {y c} e => by rw [hT y (by rw [e]; exact fun z => by cases z)]; exact e
  unfold FO at h ⊢
  rw [hR]
  obtain ⟨a0, a1, a2, a3, a4, a5, a6, a7, a8, a9, a10, a11, a12, a13, a14⟩ := h
  exact ⟨k a0, a1, k a2, a3, k a4, a5, k a6, a7, k a8, a9, k a10, a11, k a12, a13, k a14⟩
theorem MO.fr {m : Nat} (h : MO T R m) (hT : ∀ y, T y ≠ none → T' y = T y) (hR : ∀ y, m ≤ y → y < m + 10 → R' y = R y) : MO T' R' m := by
  obtain ⟨a0, a1, a2, a3, a4⟩ := h
  have k : ∀ {y c}, T y = some c → T' y = some c := fun {y c} e => by rw [hT y (by rw [e]; exact fun z => by cases z)]; exact e
  unfold MO
  rw [hR m (by omega) (by omega)]
  exact ⟨k a0, a1, k a2, a3, a4.fr hT (hR (m + 2) (by omega) (by omega))⟩
theorem PH.fr {b pn : Nat} {ph : Nat → List (List Nat)} (h : PH I J b pn ph) (h1 : I' b 5 = I b 5) (h2 : I' (b + 2) = I (b + 2)) (h3 : J' (b + 1) = J (b + 1)) : PH I' J' b pn ph := by
  unfold PH at h ⊢
  rw [h1, h2, h3]
  exact h
theorem CBk.fr {b : Nat} {x : BkS} (h : CBk T I J R b x) (hT : ∀ y, T y ≠ none → T' y = T y) (hI : ∀ y, b ≤ y → y < b + 4 → I' y = I y) (hJ : J' (b + 1) = J (b + 1)) (hR : R' b = R b) : CBk T' I' J' R' b x := by
  obtain ⟨a0, a1, a2, a3, a4, a5, a6⟩ := h
  have e0 := hI b (by omega) (by omega)
  refine ⟨a0.fr hT hR, a1.fr (by rw [e0]) (hI (b + 2) (by omega) (by omega)) hJ, by rw [e0]; exact a2, by rw [e0]; exact a3, by rw [e0]; exact a4, a5, fun q p hp => ?_⟩
  rw [hI (b + 3) (by omega) (by omega)]
  exact a6 q p hp
theorem MBk.fr {b : Nat} {x : BkS} (h : MBk I J b x) (hI : ∀ y, 46 ≤ y → y < 53 → I' y = I y) (hJ : J' 51 = J 51) : MBk I' J' b x := by
  unfold MBk at h ⊢
  rw [hI 46 (by decide) (by decide), hI 47 (by decide) (by decide), hI 48 (by decide) (by decide), hI 49 (by decide) (by decide), hI 50 (by decide) (by decide), hI 52 (by decide) (by decide), hJ]
  exact h
theorem CFm.fr {f : Nat} {x : FmS} (h : CFm T I R f x) (hT : ∀ y, T y ≠ none → T' y = T y) (hI : ∀ y, f ≤ y → y < f + 8 → I' y = I y) (hR : R' f = R f) : CFm T' I' R' f x := by
  obtain ⟨a0, a1⟩ := h
  refine ⟨a0.fr hT hR, ?_⟩
  unfold LT at a1 ⊢
  rw [hI f (by omega) (by omega), hI (f + 1) (by omega) (by omega), hI (f + 2) (by omega) (by omega), hI (f + 3) (by omega) (by omega), hI (f + 4) (by omega) (by omega), hI (f + 5) (by omega) (by omega), hI (f + 6) (by omega) (by omega), hI (f + 7) (by omega) (by omega)]
  exact a1
theorem CMg.fr {m : Nat} {x : MgS} (h : CMg T I J R m x) (hT : ∀ y, T y ≠ none → T' y = T y) (hI : ∀ y, m ≤ y → y < m + 10 → I' y = I y) (hJ : J' (m + 1) = J (m + 1)) (hR : ∀ y, m ≤ y → y < m + 10 → R' y = R y) : CMg T' I' J' R' m x := by
  obtain ⟨a0, a1, a2, a3⟩ := h
  refine ⟨a0.fr hT hR, ?_, a2.fr hT (fun y y1 y2 => hI y (by omega) (by omega)) (hR _ (by omega) (by omega)), a3⟩
  unfold TK at a1 ⊢
  rw [hI m (by omega) (by omega), hJ]
  exact a1
theorem MFm.fr {m : Nat} {x : FmS} (h : MFm I m x) (hI : ∀ y, 31 ≤ y → y < 45 → I' y = I y) : MFm I' m x := by
  unfold MFm at h ⊢
  rw [hI 34 (by decide) (by decide), hI 35 (by decide) (by decide), hI 36 (by decide) (by decide), hI 37 (by decide) (by decide), hI 38 (by decide) (by decide), hI 39 (by decide) (by decide), hI 40 (by decide) (by decide), hI 41 (by decide) (by decide), hI 42 (by decide) (by decide), hI 43 (by decide) (by decide), hI 44 (by decide) (by decide)]
  exact h
theorem MMg.fr {m : Nat} {x : MgS} (h : MMg I J m x) (hI : ∀ y, 31 ≤ y → y < 45 → I' y = I y) (hJ : J' 32 = J 32) : MMg I' J' m x := by
  obtain ⟨a0, a1, a2⟩ := h
  refine ⟨by rw [hI 31 (by decide) (by decide)]; exact a0, ?_, a2.fr hI⟩
  rw [hJ, hI 33 (by decide) (by decide)]
  exact a1
end FRAMES
/-! the net -/
def wt1 (N : NtS) (l s : Nat) (m : Nat) : Bool := (N.jy m).hw == 1 && (N.jy m).pS (N.jy m).st == s && (N.jy m).pL (N.jy m).st == l
def wcn (N : NtS) (l s : Nat) : Nat → Nat
  | 0 => 0
  | m + 1 => wcn N l s m + (wt1 N l s m).toNat
/-- where way w of a line begins -/
def lnSt (x : LnS) (w : Nat) : Nat := if w = 0 then x.a else x.b
def CLn (T : TTy) (I : MIy) (R : MRy) (l : Nat) (N : NtS) : Prop := T (200 + 4 * l) = some (5, 0) ∧ R (200 + 4 * l) 5 = some (200 + 4 * l + 1) ∧ T (200 + 4 * l + 1) = some (14, 2) ∧ R (200 + 4 * l) 6 = some (200 + 4 * l + 2) ∧ T (200 + 4 * l + 2) = some (14, 2) ∧ R (200 + 4 * l) 7 = some (200 + 4 * l + 3) ∧ T (200 + 4 * l + 3) = some (14, 2) ∧ I (200 + 4 * l) 0 = nI (N.L l).a ∧ I (200 + 4 * l) 1 = nI (N.L l).b ∧ I (200 + 4 * l) 2 = nI (N.L l).mi ∧ I (200 + 4 * l) 3 = nI (N.L l).op ∧ I (200 + 4 * l) 4 = nI (N.L l).sh ∧ I (200 + 4 * l) 8 = (N.L l).tz ∧ ∀ w, w < 2 → I (200 + 4 * l + 1) w = nI (wcn N l (lnSt (N.L l) w) N.jn) ∧ I (200 + 4 * l + 2) w = N.rn (2 * l + w) ∧ (N.rn (2 * l + w) ≠ (-9) → I (200 + 4 * l + 3) w = nI (N.en (2 * l + w)))
def CJn (T : TTy) (I : MIy) (R : MRy) (o : Nat) (x : JnS) : Prop := T o = some (4, 0) ∧ R o 0 = some (o + 1) ∧ T (o + 1) = some (8, 0) ∧ R (o + 1) 0 = some (o + 2) ∧ T (o + 2) = some (14, 8) ∧ R (o + 1) 1 = some (o + 3) ∧ T (o + 3) = some (14, 8) ∧ I o 2 = nI x.hw ∧ I o 3 = x.at9 ∧ I o 4 = x.ca ∧ I o 5 = x.ls ∧ I o 6 = nI x.dm.toNat ∧ (x.hw ≠ 0 → I o 1 = nI x.st ∧ I o 7 = nI x.pr ∧ I o 8 = nI (x.tu + 1) ∧ I o 9 = x.sc ∧ I (o + 1) 2 = nI x.pm ∧ (∀ i, i ≤ x.pm → I (o + 2) i = nI (x.pS i)) ∧ ∀ i, i < x.pm → I (o + 3) i = nI (x.pL i))
def vLn (N : NtS) (x : LnS) : Prop := x.a < N.ns ∧ x.b < N.ns ∧ x.a ≠ x.b ∧ 1 ≤ x.mi ∧ x.mi ≤ 60 ∧ x.op ≤ 23 ∧ x.sh ≤ 23
def vJn (N : NtS) (x : JnS) : Prop := x.hw ≤ 4 ∧ (x.dm = true → x.hw = 2) ∧ (x.hw ≠ 0 → 1 ≤ x.pm ∧ x.pm ≤ 7 ∧ x.pr ≤ 2 ∧ x.tu < N.tu ∧ x.st ≤ x.pm ∧ (∀ i, i ≤ x.pm → x.pS i < N.ns) ∧ (∀ i, i < x.pm → x.pL i < N.nl ∧ (((N.L (x.pL i)).a = x.pS i ∧ (N.L (x.pL i)).b = x.pS (i + 1)) ∨ ((N.L (x.pL i)).b = x.pS i ∧ (N.L (x.pL i)).a = x.pS (i + 1))))) ∧ (x.hw = 1 → x.st < x.pm ∧ x.at9 = nI (x.pS x.st)) ∧ (x.hw = 2 → x.st < x.pm ∧ x.at9 = nI (x.pL x.st)) ∧ (x.hw = 4 → x.st < x.pm)
def vNt (N : NtS) : Prop := N.ns ≤ 8 ∧ N.nl ≤ 12 ∧ N.jn ≤ 30 ∧ N.ck ≤ 6000 ∧ (∀ l, l < N.nl → vLn N (N.L l)) ∧ (∀ m, m < N.jn → vJn N (N.jy m)) ∧ ∀ l w, l < N.nl → w < 2 → N.rn (2 * l + w) = (-9) ∨ ∃ m, m < N.jn ∧ N.rn (2 * l + w) = nI m ∧ N.en (2 * l + w) ≤ 6100 ∧ (N.jy m).hw = 2 ∧ (N.jy m).pL (N.jy m).st = l ∧ (N.jy m).pS (N.jy m).st = lnSt (N.L l) w
def CNt (T : TTy) (I : MIy) (R : MRy) (N : NtS) : Prop := I 16 0 = nI N.ns ∧ (∀ s k, s < 8 → k < 4 → I 17 (s * 4 + k) = N.lg s k) ∧ I 16 3 = nI N.nl ∧ (∀ l, l < N.nl → R 18 l = some (200 + 4 * l) ∧ CLn T I R l N) ∧ I 16 5 = nI N.jn ∧ (∀ m, m < N.jn → R 19 m = some (1010 + 16 * m) ∧ CJn T I R (1010 + 16 * m) (N.jy m)) ∧ I 16 8 = nI N.ck ∧ I 16 9 = N.sn ∧ I 16 10 = nI N.tu ∧ vNt N
def MNt (I : MIy) (N : NtS) : Prop := I 24 37 = nI N.ns ∧ (∀ s, s < 8 → I 88 s = N.lg s 0 ∧ I 89 s = N.lg s 1 ∧ I 90 s = N.lg s 2 ∧ I 91 s = N.lg s 3) ∧ I 24 38 = nI N.nl ∧ (∀ l, l < N.nl → I 64 l = nI (N.L l).a ∧ I 65 l = nI (N.L l).b ∧ I 66 l = nI (N.L l).mi ∧ I 67 l = nI (N.L l).op ∧ I 68 l = nI (N.L l).sh ∧ I 69 l = (N.L l).tz) ∧ (∀ w, w < 2 * N.nl → I 70 w = N.rn w ∧ ∀ m, N.rn w = nI m → m < 30 → I 71 w = nI (N.en w) ∧ I 72 w = nI (N.jy m).dm.toNat) ∧ (∀ m, m < N.jn → I 74 m = nI (N.jy m).hw ∧ I 75 m = (N.jy m).at9 ∧ I 76 m = (N.jy m).ca ∧ I 77 m = (N.jy m).ls ∧ ((N.jy m).hw ≠ 0 → I 78 m = nI (N.jy m).pr ∧ I 79 m = nI (N.jy m).tu ∧ I 80 m = nI ((N.jy m).pS 0) ∧ I 81 m = nI ((N.jy m).pS (N.jy m).pm) ∧ I 82 m = nI (N.jy m).st ∧ I 83 m = nI (N.jy m).pm ∧ ∀ i, i < (N.jy m).pm → I 84 (8 * m + i) = nI ((N.jy m).pS (i + 1)) ∧ I 85 (8 * m + i) = nI ((N.jy m).pL i))) ∧ I 24 48 = nI N.ck ∧ I 24 61 = N.sn ∧ I 24 62 = nI N.tu
/-! all of it -/
def FRE (T : TTy) (nb nl nm : Nat) : Prop := (∀ b j, nb ≤ b → b < 3 → j < 4 → T (100 + 4 * b + j) = none) ∧ (∀ l j, nl ≤ l → l < 12 → j < 4 → T (200 + 4 * l + j) = none) ∧ ∀ m j, nm ≤ m → m < 30 → j < 16 → T (1000 + 16 * m + j) = none
def CBs (T : TTy) (I : MIy) (J : MJy) (R : MRy) (nb : Nat) (bo : Nat → BkS) : Prop := I 2 3 = nI nb ∧ nb ≤ 3 ∧ ∀ b, b < nb → R 8 b = some (100 + 4 * b) ∧ CBk T I J R (100 + 4 * b) (bo b)
def CMs (T : TTy) (I : MIy) (J : MJy) (R : MRy) (nm : Nat) (ms : Nat → MgS) : Prop := I 2 5 = nI nm ∧ nm ≤ 30 ∧ ∀ m, m < nm → R 9 m = some (1000 + 16 * m) ∧ CMg T I J R (1000 + 16 * m) (ms m)
def MBs (I : MIy) (J : MJy) (nb : Nat) (bo : Nat → BkS) : Prop := I 24 20 = nI nb ∧ (∀ b, b < nb → MBk I J b (bo b)) ∧ ∀ b, nb ≤ b → b < 3 → I 48 b = nI 0 ∧ I 49 b = nI 0
def MMs (I : MIy) (J : MJy) (nm : Nat) (ms : Nat → MgS) : Prop := I 24 5 = nI nm ∧ ∀ m, m < nm → MMg I J m (ms m)
/-- the book of a form -/
def vBo (s : AlS) (f : FmS) : Prop := (f.gc = 0 ∧ f.bk = (-9)) ∨ (f.gc ≠ 0 ∧ ∃ b, b < s.nb ∧ f.bk = nI b ∧ (s.bo b).cl = true)
def vAl (s : AlS) : Prop := s.nt.jn = s.nm ∧ ∀ m, m < s.nm → vBo s (s.ms m).f ∧ ((s.nt.jy m).hw ≠ 0 → (s.nt.jy m).sc = nI (cC (s.ms m).f.gc (s.ms m).n (s.ms m).tk))
def CIv (s : AlS) (T : TTy) (I : MIy) (J : MJy) (R : MRy) : Prop := SH T R ∧ FRE T s.nb s.nt.nl s.nm ∧ CTp I s.tl s.tb ∧ (∃ h, CSd I h) ∧ CBs T I J R s.nb s.bo ∧ CMs T I J R s.nm s.ms ∧ CNt T I R s.nt ∧ vAl s
def MIv (s : AlS) (I : MIy) (J : MJy) : Prop := MTp I s.tl s.tb ∧ (∃ k, MSd I k) ∧ MBs I J s.nb s.bo ∧ MMs I J s.nm s.ms ∧ MNt I s.nt
section FRAMES2
variable {T T' : TTy} {I I' : MIy} {J J' : MJy} {R R' : MRy}
theorem CTp.fr {tl : Nat} {tb : Nat → Nat} (h : CTp I tl tb) (h1 : I' 3 1 = I 3 1) (h2 : I' 4 = I 4) : CTp I' tl tb := by
  unfold CTp at h ⊢
  rw [h1, h2]
  exact h
theorem MTp.fr {tl : Nat} {tb : Nat → Nat} (h : MTp I tl tb) (h1 : I' 24 1 = I 24 1) (h2 : I' 25 = I 25) : MTp I' tl tb := by
  unfold MTp at h ⊢
  rw [h1, h2]
  exact h
theorem CSd.fr {h : Nat} (C : CSd I h) (h1 : I' 6 = I 6) (h2 : I' 7 = I 7) : CSd I' h := by
  unfold CSd at C ⊢
  rw [h1, h2]
  exact C
theorem MSd.fr {h : Nat} (C : MSd I h) (h1 : I' 24 29 = I 24 29) (h2 : I' 53 = I 53) : MSd I' h := by
  unfold MSd at C ⊢
  rw [h1, h2]
  exact C
theorem CBs.fr {nb : Nat} {bo : Nat → BkS} (h : CBs T I J R nb bo) (hT : ∀ y, T y ≠ none → T' y = T y) (h1 : I' 2 3 = I 2 3) (hI : ∀ y, 100 ≤ y → y < 112 → I' y = I y) (hJ : ∀ y, 100 ≤ y → y < 112 → J' y = J y) (hR : ∀ y, 100 ≤ y → y < 112 → R' y = R y) (h8 : ∀ b, b < nb → R' 8 b = R 8 b) : CBs T' I' J' R' nb bo := by
  obtain ⟨a, b, c⟩ := h
  refine ⟨by rw [h1]; exact a, b, fun k hk => ⟨by rw [h8 k hk]; exact (c k hk).1, (c k hk).2.fr hT (fun y y1 y2 => hI y (by omega) (by omega)) (hJ _ (by omega) (by omega)) (hR _ (by omega) (by omega))⟩⟩
theorem CMs.fr {nm : Nat} {ms : Nat → MgS} (h : CMs T I J R nm ms) (hT : ∀ y, T y ≠ none → T' y = T y) (h1 : I' 2 5 = I 2 5) (hI : ∀ m j, m < nm → j < 10 → I' (1000 + 16 * m + j) = I (1000 + 16 * m + j)) (hJ : ∀ m, m < nm → J' (1000 + 16 * m + 1) = J (1000 + 16 * m + 1)) (hR : ∀ m j, m < nm → j < 10 → R' (1000 + 16 * m + j) = R (1000 + 16 * m + j)) (h9 : ∀ m, m < nm → R' 9 m = R 9 m) : CMs T' I' J' R' nm ms := by
  obtain ⟨a, b, c⟩ := h
  refine ⟨by rw [h1]; exact a, b, fun k hk => ⟨by rw [h9 k hk]; exact (c k hk).1, (c k hk).2.fr hT (fun y y1 y2 => ?_) (hJ k hk) (fun y y1 y2 => ?_)⟩⟩
  · have e : y = 1000 + 16 * k + (y - (1000 + 16 * k)) := by omega
    rw [e]
    exact hI k _ hk (by omega)
  · have e : y = 1000 + 16 * k + (y - (1000 + 16 * k)) := by omega
    rw [e]
    exact hR k _ hk (by omega)
theorem CLn.fr {l : Nat} {N : NtS} (h : CLn T I R l N) (hT : ∀ y, T y ≠ none → T' y = T y) (hI : ∀ j, j < 4 → I' (200 + 4 * l + j) = I (200 + 4 * l + j)) (hR : R' (200 + 4 * l) = R (200 + 4 * l)) : CLn T' I' R' l N := by
  have k : ∀ {y c}, T y = some c → T' y = some c := fun {y c} e => by rw [hT y (by rw [e]; exact fun z => by cases z)]; exact e
  obtain ⟨a0, a1, a2, a3, a4, a5, a6, a7⟩ := h
  unfold CLn
  rw [hR, show I' (200 + 4 * l) = I (200 + 4 * l) from hI 0 (by decide), hI 1 (by decide), hI 2 (by decide), hI 3 (by decide)]
  exact ⟨k a0, a1, k a2, a3, k a4, a5, k a6, a7⟩
theorem CJn.fr {o : Nat} {x : JnS} (h : CJn T I R o x) (hT : ∀ y, T y ≠ none → T' y = T y) (hI : ∀ j, j < 4 → I' (o + j) = I (o + j)) (hR : R' o = R o) (hR2 : R' (o + 1) = R (o + 1)) : CJn T' I' R' o x := by
  have k : ∀ {y c}, T y = some c → T' y = some c := fun {y c} e => by rw [hT y (by rw [e]; exact fun z => by cases z)]; exact e
  obtain ⟨a0, a1, a2, a3, a4, a5, a6, a7⟩ := h
  unfold CJn
  rw [hR, hR2, show I' o = I o from hI 0 (by decide), hI 1 (by decide), hI 2 (by decide), hI 3 (by decide)]
  exact ⟨k a0, a1, k a2, a3, k a4, a5, k a6, a7⟩
theorem CNt.fr {N : NtS} (h : CNt T I R N) (hT : ∀ y, T y ≠ none → T' y = T y) (h16 : ∀ k, k = 0 ∨ k = 3 ∨ k = 5 ∨ k = 8 ∨ k = 9 ∨ k = 10 → I' 16 k = I 16 k) (h17 : I' 17 = I 17) (hL : ∀ l j, l < N.nl → j < 4 → I' (200 + 4 * l + j) = I (200 + 4 * l + j) ∧ R' (200 + 4 * l + j) = R (200 + 4 * l + j)) (hJ : ∀ m j, m < N.jn → j < 4 → I' (1010 + 16 * m + j) = I (1010 + 16 * m + j) ∧ R' (1010 + 16 * m + j) = R (1010 + 16 * m + j)) (h18 : ∀ l, l < N.nl → R' 18 l = R 18 l) (h19 : ∀ m, m < N.jn → R' 19 m = R 19 m) : CNt T' I' R' N := by
  obtain ⟨a0, a1, a2, a3, a4, a5, a6, a7, a8, a9⟩ := h
  refine ⟨by rw [h16 0 (by decide)]; exact a0, by rw [h17]; exact a1, by rw [h16 3 (by decide)]; exact a2, fun l hl => ⟨by rw [h18 l hl]; exact (a3 l hl).1, (a3 l hl).2.fr hT (fun j hj => (hL l j hl hj).1) (hL l 0 hl (by decide)).2⟩, by rw [h16 5 (by decide)]; exact a4, fun m hm => ⟨by rw [h19 m hm]; exact (a5 m hm).1, (a5 m hm).2.fr hT (fun j hj => (hJ m j hm hj).1) (hJ m 0 hm (by decide)).2 (hJ m 1 hm (by decide)).2⟩, by rw [h16 8 (by decide)]; exact a6, by rw [h16 9 (by decide)]; exact a7, by rw [h16 10 (by decide)]; exact a8, a9⟩
theorem MBs.fr {nb : Nat} {bo : Nat → BkS} (h : MBs I J nb bo) (h1 : I' 24 20 = I 24 20) (hI : ∀ y, 46 ≤ y → y < 53 → I' y = I y) (hJ : J' 51 = J 51) : MBs I' J' nb bo := by
  obtain ⟨a, b, c⟩ := h
  refine ⟨by rw [h1]; exact a, fun k hk => (b k hk).fr hI hJ, ?_⟩
  rw [hI 48 (by decide) (by decide), hI 49 (by decide) (by decide)]
  exact c
theorem MMs.fr {nm : Nat} {ms : Nat → MgS} (h : MMs I J nm ms) (h1 : I' 24 5 = I 24 5) (hI : ∀ y, 31 ≤ y → y < 45 → I' y = I y) (hJ : J' 32 = J 32) : MMs I' J' nm ms := by
  obtain ⟨a, b⟩ := h
  exact ⟨by rw [h1]; exact a, fun k hk => (b k hk).fr hI hJ⟩
theorem MNt.fr {N : NtS} (h : MNt I N) (h24 : ∀ k, k = 37 ∨ k = 38 ∨ k = 48 ∨ k = 61 ∨ k = 62 → I' 24 k = I 24 k) (hI : ∀ y, 64 ≤ y → y < 92 → I' y = I y) : MNt I' N := by
  unfold MNt at h ⊢
  rw [h24 37 (by decide), h24 38 (by decide), h24 48 (by decide), h24 61 (by decide), h24 62 (by decide), hI 64 (by decide) (by decide), hI 65 (by decide) (by decide), hI 66 (by decide) (by decide), hI 67 (by decide) (by decide), hI 68 (by decide) (by decide), hI 69 (by decide) (by decide), hI 70 (by decide) (by decide), hI 71 (by decide) (by decide), hI 72 (by decide) (by decide), hI 74 (by decide) (by decide), hI 75 (by decide) (by decide), hI 76 (by decide) (by decide), hI 77 (by decide) (by decide), hI 78 (by decide) (by decide), hI 79 (by decide) (by decide), hI 80 (by decide) (by decide), hI 81 (by decide) (by decide), hI 82 (by decide) (by decide), hI 83 (by decide) (by decide), hI 84 (by decide) (by decide), hI 85 (by decide) (by decide), hI 88 (by decide) (by decide), hI 89 (by decide) (by decide), hI 90 (by decide) (by decide), hI 91 (by decide) (by decide)]
  exact h
/-- what the model does leaves the house as it is -/
theorem CIv.fr {s : AlS} (h : CIv s T I J R) (hI : ∀ y, y < 24 ∨ 100 ≤ y → I' y = I y) (hJ : ∀ y, y < 24 ∨ 100 ≤ y → J' y = J y) : CIv s T I' J' R := by
  obtain ⟨a, b, c, ⟨k, d⟩, e, f, g, o⟩ := h
  refine ⟨a, b, c.fr (by rw [hI 3 (by omega)]) (hI 4 (by omega)), ⟨k, d.fr (hI 6 (by omega)) (hI 7 (by omega))⟩, e.fr (fun _ _ => rfl) (by rw [hI 2 (by omega)]) (fun y _ _ => hI y (by omega)) (fun y _ _ => hJ y (by omega)) (fun _ _ _ => rfl) (fun _ _ => rfl), f.fr (fun _ _ => rfl) (by rw [hI 2 (by omega)]) (fun m j _ _ => hI _ (by omega)) (fun m _ => hJ _ (by omega)) (fun _ _ _ _ => rfl) (fun _ _ => rfl), g.fr (fun _ _ => rfl) (fun k _ => by rw [hI 16 (by omega)]) (hI 17 (by omega)) (fun l j _ _ => ⟨hI _ (by omega), rfl⟩) (fun m j _ _ => ⟨hI _ (by omega), rfl⟩) (fun _ _ => rfl) (fun _ _ => rfl), o⟩
/-- what the house does leaves the model as it is -/
theorem MIv.fr {s : AlS} (h : MIv s I J) (hI : ∀ y, 24 ≤ y → y < 94 → I' y = I y) (hJ : ∀ y, 24 ≤ y → y < 94 → J' y = J y) : MIv s I' J' := by
  obtain ⟨a, ⟨k, b⟩, c, d, e⟩ := h
  refine ⟨a.fr (by rw [hI 24 (by omega) (by omega)]) (hI _ (by omega) (by omega)), ⟨k, b.fr (by rw [hI 24 (by omega) (by omega)]) (hI _ (by omega) (by omega))⟩, c.fr (by rw [hI 24 (by omega) (by omega)]) (fun y _ _ => hI y (by omega) (by omega)) (hJ _ (by omega) (by omega)), d.fr (by rw [hI 24 (by omega) (by omega)]) (fun y _ _ => hI y (by omega) (by omega)) (hJ _ (by omega) (by omega)), e.fr (fun k _ => by rw [hI 24 (by omega) (by omega)]) (fun y _ _ => hI y (by omega) (by omega))⟩
end FRAMES2
