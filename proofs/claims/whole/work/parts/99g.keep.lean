/-! WHAT THE LAW'S LOOP KEEPS -/
/-- what was there when the method began is there still -/
theorem AT.ext {G : GGy} {b : Nat} {T00 : TTy} {Q : QQy} {pc : Nat} {ls : List (Option Value)} {st : List Value} {cs ns : Nat} {T : TTy} {I : MIy} {J : MJy} {R : MRy} (h : (∀ a, T00 a ≠ none → T a = T00 a) → AT G b T00 Q pc ls st cs ns T I J R) : AT G b T00 Q pc ls st cs ns T I J R :=
  fun p e s m args below meth c ad00 C hr hl H locs lsr ad hR hS hL hs hc hn => h (fun a ha => (hL.2.1.2 a ha).1) p e s m args below meth c ad00 C hr hl H locs lsr ad hR hS hL hs hc hn
def KP (s : AlS) (p : Int32 × AlS) : Prop := pne p.2.nt ∧ p.2.nt.tu ≤ s.nt.tu + 31
section KEEP
variable {s : AlS}
theorem kp_feed {N : Nat} (pe : pne s.nt) : KP s (xFeed s N) := by
  unfold xFeed
  repeat' split
  all_goals exact ⟨pe, Nat.le_add_right _ _⟩
theorem kp_cut {x : Int32} (pe : pne s.nt) : KP s (xCut s x) := by
  unfold xCut
  repeat' split
  all_goals exact ⟨pe, Nat.le_add_right _ _⟩
theorem kp_message (pe : pne s.nt) : KP s (xMessage s) := by
  unfold xMessage
  repeat' split
  all_goals first | exact ⟨pe, Nat.le_add_right _ _⟩ | skip
  refine ⟨fun m hm hw => ?_, Nat.le_add_right _ _⟩
  have hm' : m < s.nt.jn + 1 := hm
  by_cases z : m = s.nt.jn
  · subst z
    exact absurd (show ((uF s.nt.jy s.nt.jn jsN0) s.nt.jn).hw = 0 by rw [uF_at]; rfl) hw
  · have hw' : ((uF s.nt.jy s.nt.jn jsN0) m).hw ≠ 0 := hw
    show ((uF s.nt.jy s.nt.jn jsN0) m).pS 0 ≠ ((uF s.nt.jy s.nt.jn jsN0) m).pS ((uF s.nt.jy s.nt.jn jsN0) m).pm
    rw [uF_ne z] at hw' ⊢
    exact pe m (by omega) hw'
theorem kp_book {a b : Int32} (pe : pne s.nt) : KP s (xBook s a b) := by
  unfold xBook
  repeat' split
  all_goals exact ⟨pe, Nat.le_add_right _ _⟩
theorem kp_phrase {x : Int32} (pe : pne s.nt) : KP s (xPhrase s x) := by
  unfold xPhrase
  repeat' split
  all_goals first | exact ⟨pe, Nat.le_add_right _ _⟩ | skip
  unfold xPh2 cif
  repeat' split
  all_goals exact ⟨pe, Nat.le_add_right _ _⟩
theorem kp_close {x : Int32} (pe : pne s.nt) : KP s (xClose s x) := by
  unfold xClose
  repeat' split
  all_goals exact ⟨pe, Nat.le_add_right _ _⟩
theorem kp_groupOf {x k : Int32} (pe : pne s.nt) : KP s (xGroupOf s x k) := by
  unfold xGroupOf
  repeat' split
  all_goals exact ⟨pe, Nat.le_add_right _ _⟩
theorem kp_sound {x : Int32} (pe : pne s.nt) : KP s (xSound s x) := by
  unfold xSound
  repeat' split
  all_goals exact ⟨pe, Nat.le_add_right _ _⟩
theorem kp_dist {x : Int32} (pe : pne s.nt) : KP s (xDist s x) := by
  unfold xDist
  repeat' split
  all_goals exact ⟨pe, Nat.le_add_right _ _⟩
theorem kp_about {x w : Int32} (pe : pne s.nt) : KP s (xAbout s x w) := by
  unfold xAbout
  split
  all_goals exact ⟨pe, Nat.le_add_right _ _⟩
theorem kp_part {x i w : Int32} (pe : pne s.nt) : KP s (xPart s x i w) := by
  unfold xPart
  split
  rotate_left
  split
  all_goals exact ⟨pe, Nat.le_add_right _ _⟩
theorem kp_group {x i : Int32} (pe : pne s.nt) : KP s (xGroup s x i) := by
  unfold xGroup
  split
  rotate_left
  split
  all_goals exact ⟨pe, Nat.le_add_right _ _⟩
theorem kp_sum {x i w : Int32} (pe : pne s.nt) : KP s (xSum s x i w) := by
  unfold xSum
  split
  rotate_left
  split
  all_goals exact ⟨pe, Nat.le_add_right _ _⟩
theorem kp_mended {x i : Int32} (pe : pne s.nt) : KP s (xMended s x i) := by
  unfold xMended
  split
  rotate_left
  split
  all_goals exact ⟨pe, Nat.le_add_right _ _⟩
theorem kp_charge {x z : Int32} {u n r : Nat} (pe : pne s.nt) : KP s (xCharge s x z u n r) := by
  unfold xCharge
  repeat' split
  all_goals exact ⟨pe, Nat.le_add_right _ _⟩
theorem kp_clock (pe : pne s.nt) : KP s (xClock s) := ⟨pe, Nat.le_add_right _ _⟩
theorem kp_where {x w : Int32} (pe : pne s.nt) : KP s (xWhere s x w) := by
  unfold xWhere
  split
  all_goals exact ⟨pe, Nat.le_add_right _ _⟩
theorem kp_ledger {x w : Int32} (pe : pne s.nt) : KP s (xLedger s x w) := by
  unfold xLedger
  repeat' split
  all_goals exact ⟨pe, Nat.le_add_right _ _⟩
theorem kp_station (pe : pne s.nt) : KP s (xStation s) := by
  unfold xStation
  split
  all_goals exact ⟨pe, Nat.le_add_right _ _⟩
theorem kp_lose {x : Int32} (pe : pne s.nt) : KP s (xLose s x) := by
  unfold xLose
  split
  all_goals exact ⟨pe, Nat.le_add_right _ _⟩
theorem kp_count {w : Int32} (pe : pne s.nt) : KP s (xCount s w) := ⟨pe, Nat.le_add_right _ _⟩
theorem kp_line {a b m o c : Int32} (pe : pne s.nt) : KP s (xLine s a b m o c) := by
  unfold xLine
  repeat' split
  all_goals exact ⟨pe, Nat.le_add_right _ _⟩
theorem kp_hurt {x k p l : Int32} (pe : pne s.nt) : KP s (xHurt s x k p l) := by
  unfold xHurt
  repeat' split
  all_goals exact ⟨pe, Nat.le_add_right _ _⟩
theorem kp_swap {x k p : Int32} (pe : pne s.nt) : KP s (xSwap s x k p) := by
  unfold xSwap
  split
  rotate_left
  split
  rotate_left
  split
  all_goals exact ⟨pe, Nat.le_add_right _ _⟩
theorem kp_guard {x : Int32} (pe : pne s.nt) : KP s (xGuard s x) := by
  unfold xGuard
  repeat' split
  all_goals exact ⟨pe, Nat.le_add_right _ _⟩
theorem kp_mend {x : Int32} (pe : pne s.nt) : KP s (xMend s x) := by
  unfold xMend
  repeat' split
  all_goals exact ⟨pe, Nat.le_add_right _ _⟩
theorem kp_condense {x y : Int32} (pe : pne s.nt) : KP s (xCondense s x y) := by
  unfold xCondense
  repeat' split
  all_goals exact ⟨pe, Nat.le_add_right _ _⟩
theorem kp_best {x : Int32} (pe : pne s.nt) : KP s (xBest s x) := by
  unfold xBest
  split
  all_goals exact ⟨pe, Nat.le_add_right _ _⟩
theorem kp_expands {x : Int32} (pe : pne s.nt) : KP s (xExpands s x) := by
  unfold xExpands
  repeat' split
  all_goals exact ⟨pe, Nat.le_add_right _ _⟩
theorem kp_path {a b i : Int32} (pe : pne s.nt) : KP s (xPath s a b i) := by
  unfold xPath
  repeat' split
  all_goals exact ⟨pe, Nat.le_add_right _ _⟩
theorem kp_far {a b : Int32} (pe : pne s.nt) : KP s (xFar s a b) := by
  unfold xFar
  repeat' split
  all_goals exact ⟨pe, Nat.le_add_right _ _⟩
theorem kp_queue {x k : Int32} (pe : pne s.nt) : KP s (xQueue s x k) := by
  unfold xQueue
  split
  all_goals exact ⟨pe, Nat.le_add_right _ _⟩
theorem pick_lt {x : Int32} {k n : Nat} (h : pick x k = some n) : n < k := by
  unfold pick at h
  split at h
  · rename_i q
    cases h
    omega
  · cases h
theorem kp_send {x a b p : Int32} (pe : pne s.nt) (v : vNt s.nt) : KP s (xSend s x a b p) := by
  unfold xSend
  split
  · exact ⟨pe, Nat.le_add_right _ _⟩
  split
  · exact ⟨pe, Nat.le_add_right _ _⟩
  rename_i i hi
  split
  · exact ⟨pe, Nat.le_add_right _ _⟩
  split
  · exact ⟨pe, Nat.le_add_right _ _⟩
  split
  · rename_i q
    exact ⟨pne.out v pe (pick_lt hi) q.2.1 q.2.2, by show s.nt.tu + 1 ≤ _; omega⟩
  · exact ⟨pe, Nat.le_add_right _ _⟩
theorem kp_ask {x : Int32} (pe : pne s.nt) (v : vNt s.nt) : KP s (xAsk s x) := by
  unfold xAsk
  split
  · exact ⟨pe, Nat.le_add_right _ _⟩
  · rename_i g hg
    obtain ⟨a1, a2, a3, a4, a5, a6, a7, a8⟩ := askL_ok v pe (pick_lt hg) s.nt.jn (Nat.le_refl _)
    have hn := v.2.2.1
    exact ⟨a2, Nat.le_trans a7 (by omega)⟩
theorem kp_step {x : Int32} (pe : pne s.nt) (v : vNt s.nt) : KP s (xStep s x) := by
  unfold xStep
  split
  · exact ⟨pe, Nat.le_add_right _ _⟩
  split
  · rename_i q
    obtain ⟨a1, a2, a3, a4⟩ := stN_ok v _ q
    exact ⟨a2.pne pe, by rw [show (s.sN (stN s.nt _).1).nt.tu = s.nt.tu from a2.2.2.2.1]; omega⟩
  · exact ⟨pe, Nat.le_add_right _ _⟩
end KEEP
section LAW0
variable {G : GGy} {T : TTy} {I : MIy} {J : MJy} {R : MRy} {s : AlS}
/-- what the loop keeps -/
def LIv (xs : Nat → Int32) (s : AlS) (j : Nat) (T : TTy) (I : MIy) (J : MJy) (R : MRy) : Prop := CIv s T I J R ∧ MIv s I J ∧ ZCm I ∧ I 1 = xs ∧ pne s.nt ∧ s.nt.tu ≤ 31 * j
/-- what is known of the state alone -/
def PVs (s : AlS) : Prop := s.nm ≤ 30 ∧ s.nb ≤ 3 ∧ (∀ m, m < s.nm → vMg (s.ms m) ∧ vFm (s.ms m).f) ∧ (∀ c, c < s.nb → vBk (s.bo c)) ∧ vNt s.nt ∧ s.nt.jn = s.nm ∧ (∀ m, m < s.nm → vBo s (s.ms m).f) ∧ ∀ m, m < s.nm → (s.nt.jy m).hw ≠ 0 → (s.nt.jy m).sc = nI (cC (s.ms m).f.gc (s.ms m).n (s.ms m).tk)
theorem CIv.pv (C : CIv s T I J R) : PVs s := by
  obtain ⟨S, F, Ct, Cs, Cb, Cm, Cn, o⟩ := C
  exact ⟨Cm.2.1, Cb.2.1, fun m hm => ⟨(Cm.2.2 m hm).2.2.2.2, (Cm.2.2 m hm).2.2.2.1.2.2.2.2.2.2.2.2⟩, fun c hc => (Cb.2.2 c hc).2.2.2.2.2.2.1, Cn.2.2.2.2.2.2.2.2.2, o.1, fun m hm => (o.2 m hm).1, fun m hm => (o.2 m hm).2⟩
/-- behind the house's call, ahead of the model's -/
def MdV (xs : Nat → Int32) (s : AlS) (p : Int32 × AlS) (T : TTy) (I : MIy) (J : MJy) (R : MRy) : Prop := CIv p.2 T I J R ∧ MIv s I J ∧ ZCm I ∧ I 1 = xs
theorem LIv.mid {xs : Nat → Int32} {j : Nat} {p : Int32 × AlS} {T' : TTy} {I' : MIy} {J' : MJy} {R' : MRy} (V : LIv xs s j T I J R) (C : CIv p.2 T' I' J' R') (fr : ∀ y, y < 2 ∨ 24 ≤ y → y < 94 → I' y = I y ∧ J' y = J y) : MdV xs s p T' I' J' R' :=
  ⟨C, V.2.1.fr (fun y h1 h2 => (fr y (Or.inr h1) h2).1) (fun y h1 h2 => (fr y (Or.inr h1) h2).2), fun k hk => by rw [(fr 0 (by omega) (by omega)).1]; exact V.2.2.1 k hk, by rw [(fr 1 (by omega) (by omega)).1]; exact V.2.2.2.1⟩
theorem MdV.fin {xs : Nat → Int32} {j : Nat} {p : Int32 × AlS} {I' : MIy} {J' : MJy} (V : MdV xs s p T I J R) (hj : s.nt.tu ≤ 31 * j) (k : KP s p) (M : MIv p.2 I' J') (fr : ∀ y, y < 24 ∨ 100 ≤ y → I' y = I y ∧ J' y = J y) : LIv xs p.2 (j + 1) T I' J' R :=
  ⟨V.1.fr (fun y h => (fr y h).1) (fun y h => (fr y h).2), M, fun k hk => by rw [(fr 0 (by omega)).1]; exact V.2.2.1 k hk, by rw [(fr 1 (by omega)).1]; exact V.2.2.2, k.1, by have := k.2; omega⟩
theorem lN_all (v : Int64) : ∃ N : Nat, N < 2 ^ 64 ∧ v = lN N := ⟨v.toBitVec.toNat, v.toBitVec.isLt, by
  unfold lN
  apply Int64.toBitVec_inj.mp
  simp⟩
end LAW0
