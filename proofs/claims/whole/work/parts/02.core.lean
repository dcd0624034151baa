/-! THE MEMORY: names of cells, what each name's cell is, and what it holds; and how a heap of the machine shows it -/
abbrev TTy : Type := Nat → Option (Nat × Nat)
abbrev MIy : Type := Nat → Nat → Int32
abbrev MJy : Type := Nat → Nat → Int64
abbrev MRy : Type := Nat → Nat → Option Nat
/-- launch; kinds' numbers and slots; kinds of arrays; the first address of ours; the address of the table of cents -/
abbrev GGy : Type := Launch × va_G × (Nat → ClassId) × Nat × Nat
abbrev g_l (G : GGy) : Launch := G.1
abbrev g_D (G : GGy) : va_G := G.2.1
abbrev g_A (G : GGy) : Nat → ClassId := G.2.2.1
abbrev g_b (G : GGy) : Nat := G.2.2.2.1
abbrev g_z (G : GGy) : Nat := G.2.2.2.2
def u2 {α : Type} (f : Nat → Nat → α) (a k : Nat) (v : α) : Nat → Nat → α := fun b j => if b = a then (if j = k then v else f a j) else f b j
def r0 {α : Type} (f : Nat → Nat → α) (a : Nat) (v : α) : Nat → Nat → α := fun b j => if b = a then v else f b j
def uT (T : TTy) (a : Nat) (x : Nat × Nat) : TTy := fun b => if b = a then some x else T b
theorem u2_row {α : Type} {f : Nat → Nat → α} {a k : Nat} {v : α} {b : Nat} (h : b ≠ a) : u2 f a k v b = f b := by
  funext j
  simp [u2, h]
theorem u2_at {α : Type} (f : Nat → Nat → α) (a k : Nat) (v : α) : u2 f a k v a k = v := by simp [u2]
theorem u2_ne {α : Type} {f : Nat → Nat → α} {a k : Nat} {v : α} {b j : Nat} (h : ¬ (b = a ∧ j = k)) : u2 f a k v b j = f b j := by
  by_cases hb : b = a
  · subst hb
    have hj : ¬ j = k := fun e => h ⟨rfl, e⟩
    simp [u2, hj]
  · simp [u2, hb]
theorem r0_row {α : Type} {f : Nat → Nat → α} {a : Nat} {v : α} {b : Nat} (h : b ≠ a) : r0 f a v b = f b := by
  funext j
  simp [r0, h]
theorem r0_at {α : Type} (f : Nat → Nat → α) (a : Nat) (v : α) (j : Nat) : r0 f a v a j = v := by simp [r0]
theorem uT_at (T : TTy) (a : Nat) (x : Nat × Nat) : uT T a x a = some x := by simp [uT]
theorem uT_ne {T : TTy} {a : Nat} {x : Nat × Nat} {b : Nat} (h : b ≠ a) : uT T a x b = T b := by simp [uT, h]
def fkt : FieldType → Nat
  | .int => 0
  | .long => 1
  | .boolean => 3
  | .object _ => 2
  | .array _ => 2
  | _ => 4
def tyf (ci : Nat) : Nat → FieldType := ([tyX0, tyX1, tyX2, tyX3, tyX4, tyX5, tyX6, tyX7, tyX8, tyX9, tyX10, tyX11, tyX12] : List (Nat → FieldType)).getD ci tyX0
def nfM (ci : Nat) : Nat := (vwCl.getD ci (RX0, TX0, 7)).2.2
def fk (ci k : Nat) : Nat := fkt (tyf ci k)
theorem cl_all : ∀ ci, ci < 13 → vwCl[ci]? = some (clN ci, TXf ci, nfM ci) ∧ (∀ w ∈ u_ws (clN ci) (TXf ci) (nfM ci), w ∈ T0) ∧ (∀ k, k < nfM ci → parseFieldDescriptor ((TXf ci) k).2.2.1 = some (tyf ci k)) ∧ (∀ a, a < nfM ci → ∀ b, b < nfM ci → a ≠ b → ((TXf ci) a).2.1 ≠ ((TXf ci) b).2.1) := by
  intro ci h
  match ci, h with
  | 0, _ => exact ⟨rfl, inX0, tyX0_ok, nmX0⟩
  | 1, _ => exact ⟨rfl, inX1, tyX1_ok, nmX1⟩
  | 2, _ => exact ⟨rfl, inX2, tyX2_ok, nmX2⟩
  | 3, _ => exact ⟨rfl, inX3, tyX3_ok, nmX3⟩
  | 4, _ => exact ⟨rfl, inX4, tyX4_ok, nmX4⟩
  | 5, _ => exact ⟨rfl, inX5, tyX5_ok, nmX5⟩
  | 6, _ => exact ⟨rfl, inX6, tyX6_ok, nmX6⟩
  | 7, _ => exact ⟨rfl, inX7, tyX7_ok, nmX7⟩
  | 8, _ => exact ⟨rfl, inX8, tyX8_ok, nmX8⟩
  | 9, _ => exact ⟨rfl, inX9, tyX9_ok, nmX9⟩
  | 10, _ => exact ⟨rfl, inX10, tyX10_ok, nmX10⟩
  | 11, _ => exact ⟨rfl, inX11, tyX11_ok, nmX11⟩
  | 12, _ => exact ⟨rfl, inX12, tyX12_ok, nmX12⟩
/-- what a field holds, in the machine -/
def fv (ad : Nat → Nat) (I : MIy) (J : MJy) (R : MRy) (ci a k : Nat) : Value := match fk ci k with
  | 1 => .long (J a k)
  | 2 => va_rf ((R a k).map ad)
  | _ => .int (I a k)
def mv (ad : Nat → Nat) : Value → Value
  | .ref k => .ref (ad k)
  | v => v
theorem mv_ref (ad : Nat → Nat) (k : Nat) : mv ad (.ref k) = .ref (ad k) := rfl
theorem mv_int (ad : Nat → Nat) (x : Int32) : mv ad (.int x) = .int x := rfl
theorem mv_long (ad : Nat → Nat) (x : Int64) : mv ad (.long x) = .long x := rfl
theorem mv_null (ad : Nat → Nat) : mv ad .null = .null := rfl
theorem mv_cat (ad : Nat → Nat) (v : Value) : (mv ad v).category = v.category := by cases v <;> rfl
theorem mv_rf (ad : Nat → Nat) (r : Option Nat) : mv ad (va_rf r) = va_rf (r.map ad) := by cases r <;> rfl
def okV (T : TTy) (v : Value) : Prop := ∀ k, v = .ref k → T k ≠ none
def okS (T : TTy) (st : List Value) : Prop := ∀ v ∈ st, okV T v
theorem okV_int (T : TTy) (x : Int32) : okV T (.int x) := fun _ h => by cases h
theorem okV_long (T : TTy) (x : Int64) : okV T (.long x) := fun _ h => by cases h
theorem okV_null (T : TTy) : okV T .null := fun _ h => by cases h
theorem okV_ref {T : TTy} {k : Nat} (h : T k ≠ none) : okV T (.ref k) := fun _ e => by cases e; exact h
theorem okS_nil (T : TTy) : okS T [] := fun _ h => by cases h
theorem okS_cons {T : TTy} {v : Value} {st : List Value} (h : okV T v) (hs : okS T st) : okS T (v :: st) := fun w hw => by
  rcases List.mem_cons.mp hw with rfl | h2
  · exact h
  · exact hs w h2
theorem okS_tl {T : TTy} {v : Value} {st : List Value} (h : okS T (v :: st)) : okS T st := fun w hw => h w (List.mem_cons_of_mem _ hw)
theorem okS_hd {T : TTy} {v : Value} {st : List Value} (h : okS T (v :: st)) : okV T v := h v List.mem_cons_self
theorem okS_ref {T : TTy} {k : Nat} {st : List Value} (h : okS T (.ref k :: st)) : T k ≠ none := okS_hd h k rfl
/-- a cell of the machine shows a name's cell -/
def RC (G : GGy) (ad : Nat → Nat) (I : MIy) (J : MJy) (R : MRy) (H : Heap) (s : State) (a kd n : Nat) : Prop :=
  if kd < 13 then t_OB (ad a) ((g_D G).1 kd) (nfM kd) ((g_D G).2 kd) H (fun k => fv ad I J R kd a k)
  else if kd = 15 then H[ad a]? = some (arrV (g_A G kd) n (fun j => .long (J a j)))
  else if kd < 17 then H[ad a]? = some (arrV (g_A G kd) n (fun j => .int (I a j)))
  else if kd < 21 then H[ad a]? = some (arrV (g_A G kd) n (fun j => va_rf ((R a j).map ad)))
  else va_X (ad a) n (I a) s H
def Rel (G : GGy) (ad : Nat → Nat) (T : TTy) (I : MIy) (J : MJy) (R : MRy) (H : Heap) (s : State) : Prop :=
  (∀ a b, T a ≠ none → T b ≠ none → ad a = ad b → a = b) ∧
  (∀ a kd n, T a = some (kd, n) → (kd < 21 → g_b G ≤ ad a) ∧ ad a < H.size ∧ RC G ad I J R H s a kd n) ∧
  (∀ a k b, T a ≠ none → R a k = some b → T b ≠ none) ∧ T 0 ≠ none ∧ ad 0 = g_z G ∧ g_b G ≤ H.size
theorem fv_cong {ad ad' : Nat → Nat} {I I' : MIy} {J J' : MJy} {R R' : MRy} {ci a k : Nat} (hI : I' a k = I a k) (hJ : J' a k = J a k) (hR : (R' a k).map ad' = (R a k).map ad) : fv ad' I' J' R' ci a k = fv ad I J R ci a k := by
  unfold fv
  rw [hI, hJ, hR]
theorem RC.cong {G : GGy} {ad ad' : Nat → Nat} {I I' : MIy} {J J' : MJy} {R R' : MRy} {H H1 : Heap} {s : State} {a kd n : Nat} (h : RC G ad I J R H s a kd n) (hq : H1[ad a]? = H[ad a]?) (ha : ad' a = ad a) (hI : ∀ k, I' a k = I a k) (hJ : ∀ k, J' a k = J a k) (hR : ∀ k, (R' a k).map ad' = (R a k).map ad) : RC G ad' I' J' R' H1 s a kd n := by
  unfold RC at h ⊢
  rw [ha]
  split at h
  · rename_i hk
    rw [if_pos hk]
    exact (h.kept hq).to (fun k _ => (fv_cong (hI k) (hJ k) (hR k)).symm)
  · rename_i hk
    rw [if_neg hk]
    split at h
    · rename_i hk
      rw [if_pos hk, hq, h]
      congr 2
      funext j
      rw [hJ j]
    · rename_i hk
      rw [if_neg hk]
      split at h
      · rename_i hk
        rw [if_pos hk, hq, h]
        congr 2
        funext j
        rw [hI j]
      · rename_i hk
        rw [if_neg hk]
        split at h
        · rename_i hk
          rw [if_pos hk, hq, h]
          congr 2
          funext j
          rw [hR j]
        · rename_i hk
          rw [if_neg hk]
          have e : I' a = I a := funext hI
          rw [e]
          exact h.kept hq
theorem RC.moved {G : GGy} {ad : Nat → Nat} {I : MIy} {J : MJy} {R : MRy} {H : Heap} {s u : State} {a kd n : Nat} (hvm : s.vm.Alike u.vm) (h : RC G ad I J R H s a kd n) : RC G ad I J R H u a kd n := by
  unfold RC at h ⊢
  split at h
  · rename_i hk
    rw [if_pos hk]
    exact h
  · rename_i hk
    rw [if_neg hk]
    split at h
    · rename_i hk
      rw [if_pos hk]
      exact h
    · rename_i hk
      rw [if_neg hk]
      split at h
      · rename_i hk
        rw [if_pos hk]
        exact h
      · rename_i hk
        rw [if_neg hk]
        split at h
        · rename_i hk
          rw [if_pos hk]
          exact h
        · rename_i hk
          rw [if_neg hk]
          exact h.moved hvm
theorem Rel.moved {G : GGy} {ad : Nat → Nat} {T : TTy} {I : MIy} {J : MJy} {R : MRy} {H : Heap} {s u : State} (hvm : s.vm.Alike u.vm) (h : Rel G ad T I J R H s) : Rel G ad T I J R H u :=
  ⟨h.1, fun a kd n ht => ⟨(h.2.1 a kd n ht).1, (h.2.1 a kd n ht).2.1, (h.2.1 a kd n ht).2.2.moved hvm⟩, h.2.2⟩
/-- a write to one cell -/
theorem Rel.upd {G : GGy} {ad : Nat → Nat} {T : TTy} {I I' : MIy} {J J' : MJy} {R R' : MRy} {H H1 : Heap} {s : State} (h : Rel G ad T I J R H s) {a kd n : Nat} (hT : T a = some (kd, n)) (hI : ∀ b, b ≠ a → I' b = I b) (hJ : ∀ b, b ≠ a → J' b = J b) (hR : ∀ b, b ≠ a → R' b = R b) (z : H1.size = H.size) (oq : ∀ q : Nat, q ≠ ad a → H1[q]? = H[q]?) (hc : RC G ad I' J' R' H1 s a kd n) (hr : ∀ k b, R' a k = some b → T b ≠ none) : Rel G ad T I' J' R' H1 s := by
  obtain ⟨h1, h2, h3, h4, h5, h6⟩ := h
  have hTa : T a ≠ none := by rw [hT]; exact fun e => by cases e
  refine ⟨h1, fun b kd' n' hb => ?_, fun b k b' hb hk => ?_, h4, h5, by rw [z]; exact h6⟩
  · by_cases e : b = a
    · subst e
      rw [hT] at hb
      cases hb
      exact ⟨(h2 b kd n hT).1, by rw [z]; exact (h2 b kd n hT).2.1, hc⟩
    · have g := h2 b kd' n' hb
      have hne : ad b ≠ ad a := fun q => e (h1 b a (by rw [hb]; exact fun e => by cases e) hTa q)
      refine ⟨g.1, by rw [z]; exact g.2.1, g.2.2.cong (oq _ hne) rfl (fun k => by rw [hI b e]) (fun k => by rw [hJ b e]) (fun k => by rw [hR b e])⟩
  · by_cases e : b = a
    · subst e
      exact hr k b' hk
    · rw [hR b e] at hk
      exact h3 b k b' hb hk
def Ext (T : TTy) (ad : Nat → Nat) (T' : TTy) (ad' : Nat → Nat) : Prop := ∀ a, T a ≠ none → T' a = T a ∧ ad' a = ad a
theorem Ext.rf (T : TTy) (ad : Nat → Nat) : Ext T ad T ad := fun _ _ => ⟨rfl, rfl⟩
theorem Ext.tr {T1 T2 T3 : TTy} {a1 a2 a3 : Nat → Nat} (h : Ext T1 a1 T2 a2) (g : Ext T2 a2 T3 a3) : Ext T1 a1 T3 a3 := fun a ha => by
  have e1 := h a ha
  have e2 := g a (by rw [e1.1]; exact ha)
  exact ⟨e2.1.trans e1.1, e2.2.trans e1.2⟩
theorem okV.ext {T T' : TTy} {ad ad' : Nat → Nat} {v : Value} (h : okV T v) (g : Ext T ad T' ad') : okV T' v := fun k e => by
  rw [(g k (h k e)).1]
  exact h k e
theorem okS.ext {T T' : TTy} {ad ad' : Nat → Nat} {st : List Value} (h : okS T st) (g : Ext T ad T' ad') : okS T' st := fun v hv => (h v hv).ext g
theorem mv_ext {T T' : TTy} {ad ad' : Nat → Nat} {v : Value} (h : okV T v) (g : Ext T ad T' ad') : mv ad' v = mv ad v := by
  cases v with
  | ref k => show Value.ref _ = Value.ref _; rw [(g k (h k rfl)).2]
  | _ => rfl
theorem map_ext {T T' : TTy} {ad ad' : Nat → Nat} {st : List Value} (h : okS T st) (g : Ext T ad T' ad') : st.map (mv ad') = st.map (mv ad) := List.map_congr_left (fun v hv => mv_ext (h v hv) g)
/-- a new cell -/
theorem Rel.new {G : GGy} {ad : Nat → Nat} {T : TTy} {I I' : MIy} {J J' : MJy} {R R' : MRy} {H H1 : Heap} {s : State} (h : Rel G ad T I J R H s) {q kd n : Nat} (hq : T q = none) (hI : ∀ b, b ≠ q → I' b = I b) (hJ : ∀ b, b ≠ q → J' b = J b) (hR : ∀ b, b ≠ q → R' b = R b) (z : H1.size = H.size + 1) (oq : ∀ x : Nat, x < H.size → H1[x]? = H[x]?) (hc : RC G (va_up ad q H.size) I' J' R' H1 s q kd n) (hr : ∀ k, R' q k = none) : Rel G (va_up ad q H.size) (uT T q (kd, n)) I' J' R' H1 s ∧ Ext T ad (uT T q (kd, n)) (va_up ad q H.size) := by
  obtain ⟨h1, h2, h3, h4, h5, h6⟩ := h
  have nq : ∀ b, T b ≠ none → b ≠ q := fun b hb e => hb (by rw [e]; exact hq)
  have hE : Ext T ad (uT T q (kd, n)) (va_up ad q H.size) := fun b hb => ⟨uT_ne (nq b hb), va_up_ne _ _ (nq b hb)⟩
  have lt : ∀ b, T b ≠ none → ad b < H.size := fun b hb => by
    cases e : T b with
    | none => exact absurd e hb
    | some x => exact (h2 b x.1 x.2 (by rw [e])).2.1
  have dom : ∀ b, uT T q (kd, n) b ≠ none → b = q ∨ (b ≠ q ∧ T b ≠ none) := fun b hb => by
    by_cases e : b = q
    · exact Or.inl e
    · rw [uT_ne e] at hb
      exact Or.inr ⟨e, hb⟩
  refine ⟨⟨fun a b ha hb e => ?_, fun b kd' n' hb => ?_, fun b k b' hb hk => ?_, ?_, ?_, by omega⟩, hE⟩
  · rcases dom a ha with qa | ⟨ea, ha2⟩ <;> rcases dom b hb with qb | ⟨eb, hb2⟩
    · rw [qa, qb]
    · rw [qa, va_up_self, va_up_ne _ _ eb] at e
      have := lt b hb2
      omega
    · rw [qb, va_up_self, va_up_ne _ _ ea] at e
      have := lt a ha2
      omega
    · rw [va_up_ne _ _ ea, va_up_ne _ _ eb] at e
      exact h1 a b ha2 hb2 e
  · by_cases e : b = q
    · subst e
      rw [uT_at] at hb
      cases hb
      rw [va_up_self]
      exact ⟨fun _ => h6, by omega, hc⟩
    · rw [uT_ne e] at hb
      have g := h2 b kd' n' hb
      have hb0 : T b ≠ none := by rw [hb]; exact fun e => by cases e
      rw [va_up_ne _ _ e]
      refine ⟨g.1, by have := g.2.1; omega, g.2.2.cong (oq _ g.2.1) (va_up_ne _ _ e) (fun k => by rw [hI b e]) (fun k => by rw [hJ b e]) (fun k => ?_)⟩
      rw [hR b e]
      cases er : R b k with
      | none => rfl
      | some c =>
        have := h3 b k c hb0 er
        show some _ = some _
        rw [va_up_ne _ _ (nq c this)]
  · by_cases e : b = q
    · subst e
      rw [hr k] at hk
      cases hk
    · rw [uT_ne e] at hb
      rw [hR b e] at hk
      have := h3 b k b' hb hk
      rw [uT_ne (nq b' this)]
      exact this
  · rw [uT_ne (nq 0 h4)]
    exact h4
  · rw [va_up_ne _ _ (nq 0 h4)]
    exact h5
