/-! THE CHEAPEST WAYS: pure -/
theorem min_3 {x a b c : Nat} (h : x = min a (min b c)) : x = a ∨ x = b ∨ x = c := by omega
section PATHS
variable {L : Nat → LnS} {nl ns : Nat}
/-- a line joins two stations -/
def conn (x : LnS) (s t : Nat) : Prop := (x.a = s ∧ x.b = t) ∨ (x.b = s ∧ x.a = t)
def wtB (β : Nat) (x : LnS) : Nat := β * x.mi + 1
def rxL (β : Nat) (L : Nat → LnS) (V : Nat → Nat) (s : Nat) : Nat → Nat
  | 0 => V s
  | l + 1 => min (rxL β L V s l) (min (if (L l).a = s then wtB β (L l) + V (L l).b else V s) (if (L l).b = s then wtB β (L l) + V (L l).a else V s))
/-- the cost from s to g by ways of at most k lines -/
def dW (β inf : Nat) (L : Nat → LnS) (nl g : Nat) : Nat → Nat → Nat
  | 0, s => if s = g then 0 else inf
  | k + 1, s => rxL β L (dW β inf L nl g k) s nl
theorem rxL_le (β : Nat) (V : Nat → Nat) (s : Nat) : ∀ n, rxL β L V s n ≤ V s
  | 0 => Nat.le_refl _
  | n + 1 => Nat.le_trans (Nat.min_le_left _ _) (rxL_le β V s n)
theorem rxL_ed {β : Nat} {V : Nat → Nat} {s t l : Nat} (h : conn (L l) s t) : ∀ n, l < n → rxL β L V s n ≤ wtB β (L l) + V t
  | 0, hl => absurd hl (Nat.not_lt_zero l)
  | n + 1, hl => by
    rcases Nat.lt_or_ge l n with q | q
    · exact Nat.le_trans (Nat.min_le_left _ _) (rxL_ed h n q)
    · obtain rfl : l = n := by omega
      unfold rxL
      rcases h with ⟨h1, h2⟩ | ⟨h1, h2⟩
      · rw [if_pos h1, h2]
        omega
      · rw [if_pos h1, h2]
        omega
theorem rxL_ex {β : Nat} {V : Nat → Nat} {s : Nat} : ∀ n, rxL β L V s n = V s ∨ ∃ l t, l < n ∧ conn (L l) s t ∧ rxL β L V s n = wtB β (L l) + V t
  | 0 => Or.inl rfl
  | n + 1 => by
    have ih := rxL_ex (β := β) (V := V) (s := s) n
    have step : rxL β L V s (n + 1) = min (rxL β L V s n) (min (if (L n).a = s then wtB β (L n) + V (L n).b else V s) (if (L n).b = s then wtB β (L n) + V (L n).a else V s)) := rfl
    have c1 : (if (L n).a = s then wtB β (L n) + V (L n).b else V s) = V s ∨ ∃ t, conn (L n) s t ∧ (if (L n).a = s then wtB β (L n) + V (L n).b else V s) = wtB β (L n) + V t := by
      split
      · rename_i q
        exact Or.inr ⟨_, Or.inl ⟨q, rfl⟩, rfl⟩
      · exact Or.inl rfl
    have c2 : (if (L n).b = s then wtB β (L n) + V (L n).a else V s) = V s ∨ ∃ t, conn (L n) s t ∧ (if (L n).b = s then wtB β (L n) + V (L n).a else V s) = wtB β (L n) + V t := by
      split
      · rename_i q
        exact Or.inr ⟨_, Or.inr ⟨q, rfl⟩, rfl⟩
      · exact Or.inl rfl
    generalize (if (L n).a = s then wtB β (L n) + V (L n).b else V s) = x1 at step c1
    generalize (if (L n).b = s then wtB β (L n) + V (L n).a else V s) = x2 at step c2
    have m3 : rxL β L V s (n + 1) = rxL β L V s n ∨ rxL β L V s (n + 1) = x1 ∨ rxL β L V s (n + 1) = x2 := min_3 step
    rcases m3 with e | e | e
    · rcases ih with i | ⟨l, t, h1, h2, h3⟩
      · exact Or.inl (e.trans i)
      · exact Or.inr ⟨l, t, by omega, h2, e.trans h3⟩
    · rcases c1 with i | ⟨t, h2, h3⟩
      · exact Or.inl (e.trans i)
      · exact Or.inr ⟨n, t, by omega, h2, e.trans h3⟩
    · rcases c2 with i | ⟨t, h2, h3⟩
      · exact Or.inl (e.trans i)
      · exact Or.inr ⟨n, t, by omega, h2, e.trans h3⟩
variable {β inf g : Nat}
theorem dW_le (k s : Nat) : dW β inf L nl g (k + 1) s ≤ dW β inf L nl g k s := rxL_le _ _ _ _
theorem dW_mono (k s : Nat) : ∀ d, dW β inf L nl g (k + d) s ≤ dW β inf L nl g k s
  | 0 => Nat.le_refl _
  | d + 1 => Nat.le_trans (dW_le (k + d) s) (dW_mono k s d)
theorem dW_ed {k l s t : Nat} (hl : l < nl) (h : conn (L l) s t) : dW β inf L nl g (k + 1) s ≤ wtB β (L l) + dW β inf L nl g k t := rxL_ed h nl hl
theorem dW_ex (k s : Nat) : dW β inf L nl g (k + 1) s = dW β inf L nl g k s ∨ ∃ l t, l < nl ∧ conn (L l) s t ∧ dW β inf L nl g (k + 1) s = wtB β (L l) + dW β inf L nl g k t := rxL_ex nl
theorem dW_inf (k s : Nat) : dW β inf L nl g k s ≤ inf := by
  have h := dW_mono (β := β) (inf := inf) (L := L) (nl := nl) (g := g) 0 s k
  rw [Nat.zero_add] at h
  refine Nat.le_trans h ?_
  show (if s = g then 0 else inf) ≤ inf
  split <;> omega
theorem dW_g (k : Nat) : dW β inf L nl g k g = 0 := by
  have h := dW_mono (β := β) (inf := inf) (L := L) (nl := nl) (g := g) 0 g k
  rw [Nat.zero_add] at h
  have e : dW β inf L nl g 0 g = 0 := if_pos rfl
  omega
/-- an improvement late needs many stations -/
theorem dW_ch : ∀ k s, dW β inf L nl g (k + 1) s < dW β inf L nl g k s → ∃ f : Nat → Nat, f 0 = s ∧ (∀ i, i ≤ k → dW β inf L nl g (k + 1 - i) (f i) < dW β inf L nl g (k - i) (f i)) ∧ ∀ i, i ≤ k → (∃ l, l < nl ∧ conn (L l) (f i) (f (i + 1))) ∧ dW β inf L nl g (k - i) (f (i + 1)) < dW β inf L nl g (k + 1 - i) (f i)
  | 0, s, h => by
    rcases dW_ex (β := β) (inf := inf) (L := L) (nl := nl) (g := g) 0 s with e | ⟨l, t, h1, h2, h3⟩
    · omega
    · refine ⟨fun i => if i = 0 then s else t, rfl, fun i hi => ?_, fun i hi => ?_⟩
      · obtain rfl : i = 0 := by omega
        exact h
      · obtain rfl : i = 0 := by omega
        refine ⟨⟨l, h1, h2⟩, ?_⟩
        show dW β inf L nl g 0 t < dW β inf L nl g 1 s
        rw [h3]
        unfold wtB
        omega
  | k + 1, s, h => by
    rcases dW_ex (β := β) (inf := inf) (L := L) (nl := nl) (g := g) (k + 1) s with e | ⟨l, t, h1, h2, h3⟩
    · omega
    · have h4 : dW β inf L nl g (k + 1) t < dW β inf L nl g k t := by
        have a := dW_ed (β := β) (inf := inf) (g := g) (k := k) h1 h2
        omega
      obtain ⟨f, f0, f1, f2⟩ := dW_ch k t h4
      refine ⟨fun i => if i = 0 then s else f (i - 1), rfl, fun i hi => ?_, fun i hi => ?_⟩
      · rcases Nat.eq_zero_or_pos i with rfl | q
        · exact h
        · have e := f1 (i - 1) (by omega)
          rw [show k + 1 - (i - 1) = k + 1 + 1 - i by omega, show k - (i - 1) = k + 1 - i by omega] at e
          dsimp only
          rw [if_neg (by omega)]
          exact e
      · rcases Nat.eq_zero_or_pos i with rfl | q
        · dsimp only
          rw [if_pos rfl, if_neg (by omega), show 0 + 1 - 1 = 0 from rfl, f0]
          refine ⟨⟨l, h1, h2⟩, ?_⟩
          show dW β inf L nl g (k + 1) t < dW β inf L nl g (k + 1 + 1) s
          rw [h3]
          unfold wtB
          omega
        · obtain ⟨e1, e2⟩ := f2 (i - 1) (by omega)
          rw [show k + 1 - (i - 1) = k + 1 + 1 - i by omega, show k - (i - 1) = k + 1 - i by omega, show i - 1 + 1 = i by omega] at e2
          rw [show i - 1 + 1 = i by omega] at e1
          dsimp only
          rw [if_neg (by omega), if_neg (by omega), show i + 1 - 1 = i by omega]
          exact ⟨e1, e2⟩
theorem dW_lt {k i : Nat} {f : Nat → Nat} (h2 : ∀ i, i ≤ k → dW β inf L nl g (k - i) (f (i + 1)) < dW β inf L nl g (k + 1 - i) (f i)) : ∀ d, i + d ≤ k → dW β inf L nl g (k + 1 - (i + d + 1)) (f (i + d + 1)) < dW β inf L nl g (k + 1 - i) (f i)
  | 0, h => by
    have := h2 i (by omega)
    rw [show k + 1 - (i + 0 + 1) = k - i by omega]
    exact this
  | d + 1, h => by
    have ih := dW_lt h2 (i := i) d (by omega)
    have e := h2 (i + d + 1) (by omega)
    rw [show k - (i + d + 1) = k + 1 - (i + (d + 1) + 1) by omega] at e
    exact Nat.lt_trans e ih
theorem dW_stop (hv : ∀ l, l < nl → (L l).a < 8 ∧ (L l).b < 8) {k s : Nat} (hk : 7 ≤ k) : dW β inf L nl g (k + 1) s = dW β inf L nl g k s := by
  rcases Nat.lt_or_ge (dW β inf L nl g (k + 1) s) (dW β inf L nl g k s) with q | q
  · exfalso
    obtain ⟨f, f0, f1, f2⟩ := dW_ch k s q
    have hin : ∀ i, i < k + 2 → f i < 8 := fun i hi => by
      rcases Nat.lt_or_ge i (k + 1) with z | z
      · obtain ⟨l, l1, l2⟩ := (f2 i (by omega)).1
        have := hv l l1
        rcases l2 with ⟨a, b⟩ | ⟨a, b⟩ <;> omega
      · obtain rfl : i = k + 1 := by omega
        obtain ⟨l, l1, l2⟩ := (f2 k (by omega)).1
        have := hv l l1
        rcases l2 with ⟨a, b⟩ | ⟨a, b⟩ <;> omega
    have := fb_holes 8 (k + 2) f hin (fun i j hij hj e => ?_)
    · omega
    · have a := dW_lt (β := β) (inf := inf) (g := g) (k := k) (f := f) (i := i) (fun i hi => (f2 i hi).2) (j - i - 1) (by omega)
      rw [show i + (j - i - 1) + 1 = j by omega, ← e] at a
      have b := dW_mono (β := β) (inf := inf) (L := L) (nl := nl) (g := g) (k + 1 - j) (f i) (j - i)
      rw [show k + 1 - j + (j - i) = k + 1 - i by omega] at b
      omega
  · have := dW_le (β := β) (inf := inf) (L := L) (nl := nl) (g := g) k s
    omega
/-- an array that no line lowers is below all ways -/
theorem dW_fix {c : Nat → Nat} (hg : c g = 0) (hi : ∀ s, c s ≤ inf) (h : ∀ l s t, l < nl → conn (L l) s t → c s ≤ wtB β (L l) + c t) : ∀ k s, c s ≤ dW β inf L nl g k s
  | 0, s => by
    show c s ≤ if s = g then 0 else inf
    split
    · rename_i q
      subst q
      omega
    · exact hi s
  | k + 1, s => by
    have ih := dW_fix hg hi h k
    rcases dW_ex (β := β) (inf := inf) (L := L) (nl := nl) (g := g) k s with e | ⟨l, t, h1, h2, h3⟩
    · rw [e]
      exact ih s
    · rw [h3]
      have := h l s t h1 h2
      have := ih t
      omega
/-- a station from which there is a way has a line on a cheapest one -/
theorem dW_par : ∀ k s, s ≠ g → dW β inf L nl g k s < inf → ∃ l t, l < nl ∧ conn (L l) s t ∧ wtB β (L l) + dW β inf L nl g k t ≤ dW β inf L nl g k s
  | 0, s, h1, h2 => by
    have e : dW β inf L nl g 0 s = inf := if_neg h1
    omega
  | k + 1, s, h1, h2 => by
    rcases dW_ex (β := β) (inf := inf) (L := L) (nl := nl) (g := g) k s with e | ⟨l, t, l1, l2, l3⟩
    · obtain ⟨l, t, l1, l2, l3⟩ := dW_par k s h1 (by omega)
      have := dW_le (β := β) (inf := inf) (L := L) (nl := nl) (g := g) k t
      exact ⟨l, t, l1, l2, by omega⟩
    · have := dW_le (β := β) (inf := inf) (L := L) (nl := nl) (g := g) k t
      exact ⟨l, t, l1, l2, by omega⟩
/-- the same in two bases -/
def rel9 (k x y i1 i2 : Nat) : Prop := (i1 ≤ x ∧ i2 ≤ y) ∨ ∃ m h, h ≤ k ∧ m ≤ 60 * k ∧ x = 16 * m + h ∧ y = 1024 * m + h
theorem rel9_min {k x y x' y' i1 i2 : Nat} (hk : k ≤ 8) (b1 : 10000 ≤ i1) (b2 : 600000 ≤ i2) (h : rel9 k x y i1 i2) (h' : rel9 k x' y' i1 i2) : rel9 k (min x x') (min y y') i1 i2 := by
  rcases h with ⟨a1, a2⟩ | ⟨m, p, a1, a2, a3, a4⟩
  · rcases h' with ⟨c1, c2⟩ | ⟨m', p', c1, c2, c3, c4⟩
    · exact Or.inl ⟨by omega, by omega⟩
    · exact Or.inr ⟨m', p', c1, c2, by omega, by omega⟩
  · rcases h' with ⟨c1, c2⟩ | ⟨m', p', c1, c2, c3, c4⟩
    · exact Or.inr ⟨m, p, a1, a2, by omega, by omega⟩
    · rcases Nat.lt_or_ge x' x with q | q
      · exact Or.inr ⟨m', p', c1, c2, by omega, by omega⟩
      · exact Or.inr ⟨m, p, a1, a2, by omega, by omega⟩
theorem rel9_up {k x y i1 i2 : Nat} (h : rel9 k x y i1 i2) : rel9 (k + 1) x y i1 i2 := by
  rcases h with h | ⟨m, p, a1, a2, a3, a4⟩
  · exact Or.inl h
  · exact Or.inr ⟨m, p, by omega, by omega, a3, a4⟩
theorem rel9_wt {k x y i1 i2 : Nat} {z : LnS} (hz : z.mi ≤ 60) (h : rel9 k x y i1 i2) : rel9 (k + 1) (wtB 16 z + x) (wtB 1024 z + y) i1 i2 := by
  unfold wtB
  rcases h with ⟨a1, a2⟩ | ⟨m, p, a1, a2, a3, a4⟩
  · exact Or.inl ⟨by omega, by omega⟩
  · exact Or.inr ⟨m + z.mi, p + 1, by omega, by omega, by omega, by omega⟩
theorem rel9_rx {k i1 i2 : Nat} {V V' : Nat → Nat} (hk : k + 1 ≤ 8) (b1 : 10000 ≤ i1) (b2 : 600000 ≤ i2) (hm : ∀ l, l < nl → (L l).mi ≤ 60) (h : ∀ s, rel9 k (V s) (V' s) i1 i2) (s : Nat) : ∀ n, n ≤ nl → rel9 (k + 1) (rxL 16 L V s n) (rxL 1024 L V' s n) i1 i2
  | 0, _ => rel9_up (h s)
  | n + 1, hn => by
    refine rel9_min hk b1 b2 (rel9_rx hk b1 b2 hm h s n (by omega)) (rel9_min hk b1 b2 ?_ ?_)
    · split
      · exact rel9_wt (hm n (by omega)) (h _)
      · exact rel9_up (h s)
    · split
      · exact rel9_wt (hm n (by omega)) (h _)
      · exact rel9_up (h s)
theorem rel9_dW {i1 i2 : Nat} (b1 : 10000 ≤ i1) (b2 : 600000 ≤ i2) (hm : ∀ l, l < nl → (L l).mi ≤ 60) : ∀ k, k ≤ 8 → ∀ s, rel9 k (dW 16 i1 L nl g k s) (dW 1024 i2 L nl g k s) i1 i2
  | 0, _, s => by
    show rel9 0 (if s = g then 0 else i1) (if s = g then 0 else i2) i1 i2
    split
    · exact Or.inr ⟨0, 0, by omega, by omega, rfl, rfl⟩
    · exact Or.inl ⟨Nat.le_refl _, Nat.le_refl _⟩
  | k + 1, hk, s => rel9_rx hk b1 b2 hm (rel9_dW b1 b2 hm k (by omega)) s nl (Nat.le_refl _)
end PATHS
