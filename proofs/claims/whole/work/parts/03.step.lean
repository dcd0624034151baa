/-! LOCALS -/
def gl : List (Option Value) → Nat → Option Value
  | [], _ => none
  | x :: _, 0 => x
  | _ :: L, i + 1 => gl L i
def k1 : Option Value → Option Value
  | some (.long _) => none
  | some (.double _) => none
  | x => x
def st1 : List (Option Value) → Nat → Value → List (Option Value)
  | [], _, _ => []
  | _ :: L, 0, v => some v :: L
  | x :: L, 1, v => k1 x :: st1 L 0 v
  | x :: L, i + 2, v => x :: st1 L (i + 1) v
def st2 : List (Option Value) → Nat → Value → List (Option Value)
  | [], _, _ => []
  | [_], 0, _ => [none]
  | _ :: _ :: L, 0, v => some v :: none :: L
  | x :: L, 1, v => k1 x :: st2 L 0 v
  | x :: L, i + 2, v => x :: st2 L (i + 1) v
def ent : List Value → Nat → List (Option Value)
  | [], k => List.replicate k none
  | .long x :: vs, k => some (.long x) :: none :: ent vs k
  | .double _ :: _, _ => []
  | v :: vs, k => some v :: ent vs k
def prs (ad : Nat → Nat) : Nat → List (Option Value) → List (Nat × Value)
  | _, [] => []
  | i, some v :: L => (i, mv ad v) :: prs ad (i + 1) L
  | i, none :: L => prs ad (i + 1) L
theorem prs_mem (ad : Nat → Nat) : ∀ (L : List (Option Value)) (i j : Nat) (v : Value), gl L j = some v → (i + j, mv ad v) ∈ prs ad i L
  | [], i, j, v, h => by cases h
  | x :: L, i, 0, v, h => by
    have h : x = some v := h
    subst h
    exact List.mem_cons_self
  | some w :: L, i, j + 1, v, h => by
    have := prs_mem ad L (i + 1) j v h
    rw [show i + 1 + j = i + (j + 1) by omega] at this
    exact List.mem_cons_of_mem _ this
  | none :: L, i, j + 1, v, h => by
    have := prs_mem ad L (i + 1) j v h
    rw [show i + 1 + j = i + (j + 1) by omega] at this
    exact this
theorem prs_of (ad : Nat → Nat) : ∀ (L : List (Option Value)) (i : Nat) (q : Nat × Value), q ∈ prs ad i L → ∃ j v, gl L j = some v ∧ q = (i + j, mv ad v)
  | [], i, q, h => by cases h
  | some w :: L, i, q, h => by
    rcases List.mem_cons.mp h with e | h
    · exact ⟨0, w, rfl, by rw [e]; rfl⟩
    · obtain ⟨j, v, h1, h2⟩ := prs_of ad L (i + 1) q h
      exact ⟨j + 1, v, h1, by rw [h2, show i + 1 + j = i + (j + 1) by omega]⟩
  | none :: L, i, q, h => by
    obtain ⟨j, v, h1, h2⟩ := prs_of ad L (i + 1) q h
    exact ⟨j + 1, v, h1, by rw [h2, show i + 1 + j = i + (j + 1) by omega]⟩
def RL (X : Nat × TTy × (Nat → Nat)) (ad : Nat → Nat) (T : TTy) (L : List (Option Value)) (ls : Array Slot) : Prop :=
  ls.size = X.1 ∧ (lv_wf ls ∧ Ext X.2.1 X.2.2 T ad) ∧ ∀ i v, gl L i = some v → ls[i]? = some (.val (mv ad v)) ∧ okV T v
theorem RL.has {nL : Nat × TTy × (Nat → Nat)} {ad : Nat → Nat} {T : TTy} {L : List (Option Value)} {ls : Array Slot} (h : RL nL ad T L ls) : lv_has ls nL.1 (prs ad 0 L) := by
  refine ⟨h.1, h.2.1.1, fun q hq => ?_⟩
  obtain ⟨j, v, h1, rfl⟩ := prs_of ad L 0 q hq
  rw [Nat.zero_add]
  exact (h.2.2 j v h1).1
theorem RL.ext {nL : Nat × TTy × (Nat → Nat)} {ad ad' : Nat → Nat} {T T' : TTy} {L : List (Option Value)} {ls : Array Slot} (h : RL nL ad T L ls) (g : Ext T ad T' ad') : RL nL ad' T' L ls :=
  ⟨h.1, ⟨h.2.1.1, h.2.1.2.tr g⟩, fun i v hv => ⟨by rw [mv_ext (h.2.2 i v hv).2 g]; exact (h.2.2 i v hv).1, (h.2.2 i v hv).2.ext g⟩⟩
theorem k1_of {x : Option Value} {w : Value} (h : k1 x = some w) : x = some w ∧ ¬ w.category = 2 := by
  cases x with
  | none => cases h
  | some v => cases v <;> first | (cases h; done) | (cases h; exact ⟨rfl, by decide⟩) | (cases h; exact ⟨rfl, by simp [Value.category]⟩)
theorem st1_of : ∀ (L : List (Option Value)) (i j : Nat) (v w : Value), gl (st1 L i v) j = some w → (j = i ∧ w = v) ∨ (j ≠ i ∧ gl L j = some w ∧ ¬ (j + 1 = i ∧ w.category = 2))
  | [], i, j, v, w, h => by cases i <;> cases h
  | x :: L, 0, 0, v, w, h => by
    have h : some v = some w := h
    cases h
    exact Or.inl ⟨rfl, rfl⟩
  | x :: L, 0, j + 1, v, w, h => Or.inr ⟨by omega, h, fun q => by omega⟩
  | x :: L, 1, 0, v, w, h => by
    obtain ⟨h1, h2⟩ := k1_of h
    exact Or.inr ⟨by omega, h1, fun q => h2 q.2⟩
  | x :: L, 1, j + 1, v, w, h => by
    rcases st1_of L 0 j v w h with ⟨a, b⟩ | ⟨a, b, c⟩
    · exact Or.inl ⟨by omega, b⟩
    · exact Or.inr ⟨by omega, b, fun q => by omega⟩
  | x :: L, i + 2, 0, v, w, h => Or.inr ⟨by omega, h, fun q => by omega⟩
  | x :: L, i + 2, j + 1, v, w, h => by
    rcases st1_of L (i + 1) j v w h with ⟨a, b⟩ | ⟨a, b, c⟩
    · exact Or.inl ⟨by omega, b⟩
    · exact Or.inr ⟨by omega, b, fun q => c ⟨by omega, q.2⟩⟩
theorem st2_of : ∀ (L : List (Option Value)) (i j : Nat) (v w : Value), gl (st2 L i v) j = some w → (j = i ∧ w = v) ∨ (j ≠ i ∧ j ≠ i + 1 ∧ gl L j = some w ∧ ¬ (j + 1 = i ∧ w.category = 2))
  | [], i, j, v, w, h => by cases i <;> cases h
  | [x], 0, 0, v, w, h => by cases h
  | [x], 0, j + 1, v, w, h => by cases h
  | x :: y :: L, 0, 0, v, w, h => by
    have h : some v = some w := h
    cases h
    exact Or.inl ⟨rfl, rfl⟩
  | x :: y :: L, 0, 1, v, w, h => by cases h
  | x :: y :: L, 0, j + 2, v, w, h => Or.inr ⟨by omega, by omega, h, fun q => by omega⟩
  | x :: L, 1, 0, v, w, h => by
    have h : k1 x = some w := by
      cases L <;> exact h
    obtain ⟨h1, h2⟩ := k1_of h
    exact Or.inr ⟨by omega, by omega, h1, fun q => h2 q.2⟩
  | x :: L, 1, j + 1, v, w, h => by
    have h : gl (st2 L 0 v) j = some w := by
      cases L <;> exact h
    rcases st2_of L 0 j v w h with ⟨a, b⟩ | ⟨a, a2, b, c⟩
    · exact Or.inl ⟨by omega, b⟩
    · exact Or.inr ⟨by omega, by omega, b, fun q => by omega⟩
  | x :: L, i + 2, 0, v, w, h => by
    have h : x = some w := by
      cases L <;> exact h
    exact Or.inr ⟨by omega, by omega, h, fun q => by omega⟩
  | x :: L, i + 2, j + 1, v, w, h => by
    have h : gl (st2 L (i + 1) v) j = some w := by
      cases L <;> exact h
    rcases st2_of L (i + 1) j v w h with ⟨a, b⟩ | ⟨a, a2, b, c⟩
    · exact Or.inl ⟨by omega, b⟩
    · exact Or.inr ⟨by omega, by omega, b, fun q => c ⟨by omega, q.2⟩⟩
theorem RL.st1 {nL : Nat × TTy × (Nat → Nat)} {ad : Nat → Nat} {T : TTy} {L : List (Option Value)} {ls ls' : Array Slot} {i : Nat} {v : Value} (h : RL nL ad T L ls) (hv : okV T v) (g : lv_has ls' nL.1 ((i, mv ad v) :: (prs ad 0 L).filter (fun q => !(q.1 == i) && !(q.1 + 1 == i && q.2.category == 2)))) : RL nL ad T (st1 L i v) ls' := by
  refine ⟨g.1, ⟨g.2.1, h.2.1.2⟩, fun j w hj => ?_⟩
  rcases st1_of L i j v w hj with ⟨rfl, rfl⟩ | ⟨a, b, c⟩
  · exact ⟨g.2.2 _ List.mem_cons_self, hv⟩
  · refine ⟨g.2.2 (j, mv ad w) (List.mem_cons_of_mem _ (List.mem_filter.mpr ⟨?_, ?_⟩)), (h.2.2 j w b).2⟩
    · have := prs_mem ad L 0 j w b
      rwa [Nat.zero_add] at this
    · simp only [Bool.and_eq_true, Bool.not_eq_true', beq_eq_false_iff_ne, ne_eq, Bool.and_eq_false_iff, mv_cat]
      exact ⟨a, (Decidable.em (j + 1 = i)).elim (fun q => Or.inr (fun z => c ⟨q, z⟩)) Or.inl⟩
theorem RL.st2 {nL : Nat × TTy × (Nat → Nat)} {ad : Nat → Nat} {T : TTy} {L : List (Option Value)} {ls ls' : Array Slot} {i : Nat} {v : Value} (h : RL nL ad T L ls) (hv : okV T v) (g : lv_has ls' nL.1 ((i, mv ad v) :: (prs ad 0 L).filter (fun q => !(q.1 == i) && (!(q.1 == i + 1) && !(q.1 + 1 == i && q.2.category == 2))))) : RL nL ad T (st2 L i v) ls' := by
  refine ⟨g.1, ⟨g.2.1, h.2.1.2⟩, fun j w hj => ?_⟩
  rcases st2_of L i j v w hj with ⟨rfl, rfl⟩ | ⟨a, a2, b, c⟩
  · exact ⟨g.2.2 _ List.mem_cons_self, hv⟩
  · refine ⟨g.2.2 (j, mv ad w) (List.mem_cons_of_mem _ (List.mem_filter.mpr ⟨?_, ?_⟩)), (h.2.2 j w b).2⟩
    · have := prs_mem ad L 0 j w b
      rwa [Nat.zero_add] at this
    · simp only [Bool.and_eq_true, Bool.not_eq_true', beq_eq_false_iff_ne, ne_eq, Bool.and_eq_false_iff, mv_cat]
      exact ⟨a, a2, (Decidable.em (j + 1 = i)).elim (fun q => Or.inr (fun z => c ⟨q, z⟩)) Or.inl⟩
theorem gl_rep (n j : Nat) : gl (List.replicate n none) j = none := by
  induction n generalizing j with
  | zero => rfl
  | succ n ih => cases j with
    | zero => rfl
    | succ j => exact ih j
theorem ent_of (ad : Nat → Nat) : ∀ (vs : List Value) (n i j : Nat) (v : Value), gl (ent vs n) j = some v → (i + j, mv ad v) ∈ lv_args i (vs.map (mv ad)) ∧ v ∈ vs
  | [], n, i, j, v, h => by
    rw [show ent [] n = List.replicate n none from rfl, gl_rep] at h
    cases h
  | w :: vs, n, i, j, v, h => by
    have one : ¬ w.category = 2 → gl (some w :: ent vs n) j = some v → (i + j, mv ad v) ∈ lv_args i ((w :: vs).map (mv ad)) ∧ v ∈ w :: vs := by
      intro hc h
      cases j with
      | zero =>
        have h : some w = some v := h
        cases h
        exact ⟨List.mem_cons_self, List.mem_cons_self⟩
      | succ j =>
        obtain ⟨a, b⟩ := ent_of ad vs n (i + 1) j v h
        rw [show i + 1 + j = i + (j + 1) by omega] at a
        refine ⟨List.mem_cons_of_mem _ ?_, List.mem_cons_of_mem _ b⟩
        rw [if_neg (by rw [mv_cat]; exact hc)]
        exact a
    cases w with
    | long x =>
      have h : gl (some (.long x) :: none :: ent vs n) j = some v := h
      match j, h with
      | 0, h =>
        have h : some (Value.long x) = some v := h
        cases h
        exact ⟨List.mem_cons_self, List.mem_cons_self⟩
      | 1, h => cases h
      | j + 2, h =>
        obtain ⟨a, b⟩ := ent_of ad vs n (i + 2) j v h
        rw [show i + 2 + j = i + (j + 2) by omega] at a
        exact ⟨List.mem_cons_of_mem _ a, List.mem_cons_of_mem _ b⟩
    | double x =>
      have h : gl [] j = some v := h
      cases h
    | int x => exact one (by simp [Value.category]) h
    | float x => exact one (by simp [Value.category]) h
    | null => exact one (by simp [Value.category]) h
    | ref x => exact one (by simp [Value.category]) h
    | retAddr x => exact one (by simp [Value.category]) h
