/-! THE PATH, pure, and in the house -/
def oI (o : Option Nat) : Int32 := match o with
  | none => (-9)
  | some l => nI l
/-- the quickest of the first lines between two stations -/
def qkL (L : Nat → LnS) (s t : Nat) : Nat → Option Nat
  | 0 => none
  | l + 1 => if ((L l).a = s ∧ (L l).b = t) ∨ ((L l).b = s ∧ (L l).a = t) then (match qkL L s t l with
    | none => some l
    | some q => if (L l).mi < (L q).mi then some l else some q) else qkL L s t l
theorem qkL_sp {L : Nat → LnS} {s t : Nat} : ∀ n, (qkL L s t n = none ∧ ∀ l, l < n → ¬ conn (L l) s t) ∨ ∃ q, qkL L s t n = some q ∧ q < n ∧ conn (L q) s t ∧ (∀ l, l < n → conn (L l) s t → (L q).mi ≤ (L l).mi) ∧ ∀ l, l < q → conn (L l) s t → (L q).mi < (L l).mi
  | 0 => Or.inl ⟨rfl, fun l hl => absurd hl (Nat.not_lt_zero l)⟩
  | n + 1 => by
    have ih := qkL_sp (L := L) (s := s) (t := t) n
    unfold qkL
    by_cases c : conn (L n) s t
    · have c' : ((L n).a = s ∧ (L n).b = t) ∨ ((L n).b = s ∧ (L n).a = t) := c
      rw [if_pos c']
      rcases ih with ⟨e, h⟩ | ⟨q, e, q1, q2, q3, q4⟩
      · rw [e]
        refine Or.inr ⟨n, rfl, by omega, c, fun l hl hc => ?_, fun l hl hc => absurd hc (h l hl)⟩
        rcases Nat.lt_or_ge l n with z | z
        · exact absurd hc (h l z)
        · obtain rfl : l = n := by omega
          exact Nat.le_refl _
      · rw [e]
        dsimp only
        by_cases w : (L n).mi < (L q).mi
        · rw [if_pos w]
          refine Or.inr ⟨n, rfl, by omega, c, fun l hl hc => ?_, fun l hl hc => ?_⟩
          · rcases Nat.lt_or_ge l n with z | z
            · have := q3 l z hc
              omega
            · obtain rfl : l = n := by omega
              exact Nat.le_refl _
          · have := q3 l hl hc
            omega
        · rw [if_neg w]
          refine Or.inr ⟨q, rfl, by omega, q2, fun l hl hc => ?_, q4⟩
          rcases Nat.lt_or_ge l n with z | z
          · exact q3 l z hc
          · obtain rfl : l = n := by omega
            omega
    · have c' : ¬ (((L n).a = s ∧ (L n).b = t) ∨ ((L n).b = s ∧ (L n).a = t)) := c
      rw [if_neg c']
      rcases ih with ⟨e, h⟩ | ⟨q, e, q1, q2, q3, q4⟩
      · refine Or.inl ⟨e, fun l hl => ?_⟩
        rcases Nat.lt_or_ge l n with z | z
        · exact h l z
        · obtain rfl : l = n := by omega
          exact c
      · refine Or.inr ⟨q, e, by omega, q2, fun l hl hc => ?_, q4⟩
        rcases Nat.lt_or_ge l n with z | z
        · exact q3 l z hc
        · obtain rfl : l = n := by omega
          exact absurd hc c
/-- station t is on a cheapest way from s to g -/
def lead9 (N : NtS) (g s t : Nat) : Prop := ∃ l, l < N.nl ∧ conn (N.L l) s t ∧ wtB 16 (N.L l) + csN N g t = csN N g s
/-- the next station -/
noncomputable def nxS (N : NtS) (g s : Nat) : Nat → Option Nat
  | 0 => none
  | t + 1 => match nxS N g s t with
    | some x => some x
    | none => cif (lead9 N g s t) (some t) none
theorem nxS_none {N : NtS} {g s : Nat} : ∀ n, (∀ t, t < n → ¬ lead9 N g s t) → nxS N g s n = none
  | 0, _ => rfl
  | n + 1, h => by
    unfold nxS
    rw [nxS_none n (fun t ht => h t (by omega))]
    exact cif_neg (h n (by omega))
theorem nxS_some {N : NtS} {g s t : Nat} (h1 : lead9 N g s t) (h2 : ∀ q, q < t → ¬ lead9 N g s q) : ∀ n, t < n → nxS N g s n = some t
  | 0, h => absurd h (Nat.not_lt_zero t)
  | n + 1, h => by
    unfold nxS
    rcases Nat.lt_or_ge t n with q | q
    · rw [nxS_some h1 h2 n q]
    · obtain rfl : t = n := by omega
      rw [nxS_none t h2]
      exact cif_pos h1
theorem nxS_ex {N : NtS} {g s : Nat} : ∀ n, (nxS N g s n = none ∧ ∀ t, t < n → ¬ lead9 N g s t) ∨ ∃ t, nxS N g s n = some t ∧ t < n ∧ lead9 N g s t ∧ ∀ q, q < t → ¬ lead9 N g s q
  | 0 => Or.inl ⟨rfl, fun t ht => absurd ht (Nat.not_lt_zero t)⟩
  | n + 1 => by
    rcases nxS_ex (N := N) (g := g) (s := s) n with ⟨e, h⟩ | ⟨t, e, h1, h2, h3⟩
    · by_cases c : lead9 N g s n
      · exact Or.inr ⟨n, nxS_some c h _ (by omega), by omega, c, h⟩
      · refine Or.inl ⟨nxS_none _ (fun t ht => ?_), fun t ht => ?_⟩
        · rcases Nat.lt_or_ge t n with z | z
          · exact h t z
          · obtain rfl : t = n := by omega
            exact c
        · rcases Nat.lt_or_ge t n with z | z
          · exact h t z
          · obtain rfl : t = n := by omega
            exact c
    · exact Or.inr ⟨t, nxS_some h2 h3 _ (by omega), by omega, h2, h3⟩
/-- the stations and lines of THE PATH -/
noncomputable def rtS (N : NtS) (g a : Nat) : Nat → Nat
  | 0 => a
  | i + 1 => (nxS N g (rtS N g a i) N.ns).getD 0
noncomputable def rtL (N : NtS) (g a i : Nat) : Nat := (qkL N.L (rtS N g a i) (rtS N g a (i + 1)) N.nl).getD 0
theorem nx_sp {N : NtS} (v : vNt N) {g s : Nat} (h1 : s ≠ g) (h2 : csN N g s < 1000000) : ∃ t q, nxS N g s N.ns = some t ∧ t < N.ns ∧ lead9 N g s t ∧ (∀ u, u < t → ¬ lead9 N g s u) ∧ qkL N.L s t N.nl = some q ∧ q < N.nl ∧ conn (N.L q) s t ∧ wtB 16 (N.L q) + csN N g t = csN N g s ∧ ∀ l, l < q → conn (N.L l) s t → ¬ wtB 16 (N.L l) + csN N g t = csN N g s := by
  obtain ⟨l, t, l1, l2, l3⟩ := cs_par v h1 h2
  have lv := v.2.2.2.2.1 l l1
  have tn : t < N.ns := by
    have a1 := lv.1
    have a2 := lv.2.1
    rcases l2 with ⟨_, e⟩ | ⟨_, e⟩ <;> omega
  rcases nxS_ex (N := N) (g := g) (s := s) N.ns with ⟨_, h⟩ | ⟨u, e, u1, u2', u3⟩
  · exact absurd ⟨l, l1, l2, l3⟩ (h t tn)
  · obtain ⟨k, k1', k2', k3'⟩ := u2'
    rcases qkL_sp (L := N.L) (s := s) (t := u) N.nl with ⟨_, h⟩ | ⟨q, q0, q1, q2, q3, q4⟩
    · exact absurd k2' (h k k1')
    · refine ⟨u, q, e, u1, ⟨k, k1', k2', k3'⟩, u3, q0, q1, q2, ?_, fun l hl hc z => ?_⟩
      · have a := q3 k k1' k2'
        have b := cs_ed (g := g) v q1 q2
        unfold wtB at *
        omega
      · have a := q4 l hl hc
        have b := cs_ed (g := g) v q1 q2
        unfold wtB at *
        omega
/-- THE PATH has as many lines as its cost says -/
theorem rt_sp {N : NtS} (v : vNt N) {g a : Nat} (ha : a < N.ns) (hf : csN N g a < 1000000) : ∀ i, i ≤ csN N g a % 16 → rtS N g a i < N.ns ∧ csN N g (rtS N g a i) < 1000000 ∧ csN N g (rtS N g a i) % 16 = csN N g a % 16 - i ∧ (i < csN N g a % 16 → rtS N g a i ≠ g ∧ nxS N g (rtS N g a i) N.ns = some (rtS N g a (i + 1)) ∧ qkL N.L (rtS N g a i) (rtS N g a (i + 1)) N.nl = some (rtL N g a i) ∧ rtL N g a i < N.nl ∧ conn (N.L (rtL N g a i)) (rtS N g a i) (rtS N g a (i + 1)))
  | 0, h => by
    refine ⟨ha, hf, (Nat.sub_zero _).symm, fun hi => ?_⟩
    have ne : rtS N g a 0 ≠ g := fun e => by
      have e' : a = g := e
      rw [e', cs_g] at hi
      exact absurd hi (Nat.not_lt_zero 0)
    obtain ⟨t, q, x1, x2, x3, x4, x5, x6, x7, x8, x9⟩ := nx_sp v ne hf
    have e1 : rtS N g a (0 + 1) = t := by
      show (nxS N g (rtS N g a 0) N.ns).getD 0 = t
      rw [x1]
      rfl
    have e2 : rtL N g a 0 = q := by
      unfold rtL
      rw [e1, x5]
      rfl
    rw [e2, e1]
    exact ⟨ne, x1, x5, x6, x7⟩
  | i + 1, h => by
    obtain ⟨y1, y2, y3, y4⟩ := rt_sp v ha hf i (by omega)
    obtain ⟨z1, z2, z3, z4, z5⟩ := y4 (by omega)
    obtain ⟨t', q', w1, w2, w3, w4, w5, w6, w7, w8, w9⟩ := nx_sp v z1 y2
    rw [z2] at w1
    have et : rtS N g a (i + 1) = t' := Option.some.inj w1
    have a1 : rtS N g a (i + 1) < N.ns := by rw [et]; exact w2
    have a2 : csN N g (rtS N g a (i + 1)) < 1000000 := by
      rw [et]
      unfold wtB at w8
      omega
    have a3 : csN N g (rtS N g a (i + 1)) % 16 = csN N g a % 16 - (i + 1) := by
      rw [et]
      unfold wtB at w8
      rcases cs_rel (g := g) v t' with ⟨c1, _⟩ | ⟨m, p, c1, c2, c3, _⟩
      · rw [et] at a2
        omega
      · omega
    refine ⟨a1, a2, a3, fun hi => ?_⟩
    have ne : rtS N g a (i + 1) ≠ g := fun e => by
      rw [e, cs_g] at a3
      omega
    obtain ⟨t, q, x1, x2, x3, x4, x5, x6, x7, x8, x9⟩ := nx_sp v ne a2
    have e1 : rtS N g a (i + 1 + 1) = t := by
      show (nxS N g (rtS N g a (i + 1)) N.ns).getD 0 = t
      rw [x1]
      rfl
    have e2 : rtL N g a (i + 1) = q := by
      unfold rtL
      rw [e1, x5]
      rfl
    rw [e2, e1]
    exact ⟨ne, x1, x5, x6, x7⟩
theorem rt_end {N : NtS} (v : vNt N) {g a : Nat} (ha : a < N.ns) (hf : csN N g a < 1000000) : rtS N g a (csN N g a % 16) = g := by
  obtain ⟨y1, y2, y3, y4⟩ := rt_sp v ha hf (csN N g a % 16) (Nat.le_refl _)
  rw [Nat.sub_self] at y3
  rcases Nat.decEq (rtS N g a (csN N g a % 16)) g with ne | e
  · exfalso
    obtain ⟨t, q, x1, x2, x3, x4, x5, x6, x7, x8, x9⟩ := nx_sp v ne y2
    unfold wtB at x8
    rcases cs_rel (g := g) v t with ⟨c1, _⟩ | ⟨m, p, c1, c2, c3, _⟩
    · omega
    · omega
  · exact e
