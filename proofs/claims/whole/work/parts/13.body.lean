/-! A METHOD'S CONTRACT FROM ITS BODY -/
def rk (b : Nat) : Nat := match rM b with
  | some .int => 0
  | some .boolean => 1
  | some .long => 2
  | some (.object _) => 3
  | none => 4
  | _ => 5
/-- the end of a method whose answer is of kind k -/
def rtQ (k : Nat) (Q : QQy) : RTy := fun v _ _ T I J R => match k, v with
  | 0, some (.int x) => Q (some (.int x)) T I J R
  | 1, some (.int x) => (x = 0 ∨ x = 1) ∧ Q (some (.int x)) T I J R
  | 2, some (.long x) => Q (some (.long x)) T I J R
  | 3, some (.ref x) => Q (some (.ref x)) T I J R
  | 3, some .null => Q (some .null) T I J R
  | 4, none => Q none T I J R
  | _, _ => False
/-- at pc of method b, on the way to Q -/
def AT (G : GGy) (b : Nat) (T00 : TTy) (Q : QQy) (pc : Nat) : KKy := fun ls st cs ns T I J R => ∀ (p : Program) (e : Env) (s : State) (m : MethodId) (args : Array Value) (below : List Frame) (meth : Method) (c : Code) (ad00 : Nat → Nat), Cx G b p s m args meth c → meth.sig.returnType = rM b → meth.locks = false → Wc G b p e s m args below meth c (MQ below (QcR G ad00 T00 Q) args s (rmM b).cells (rmM b).slots (fun q => g_b G ≤ q), T00, ad00) pc ls st cs ns T I J R
theorem rt_ok {G : GGy} {b k : Nat} (hk : rk b = k) {T00 : TTy} {Q : QQy} {p : Program} {e : Env} {s : State} {m : MethodId} {args : Array Value} {below : List Frame} {meth : Method} {c : Code} {ad00 : Nat → Nat} (C : Cx G b p s m args meth c) (hr : meth.sig.returnType = rM b) (hlocks : meth.locks = false) :
    ∀ pc ins v, decode (cM b) pc = .ok (ins, 1) → retI ins v → ∀ ls cs ns T I J R, rtQ k Q v cs ns T I J R → Wc G b p e s m args below meth c (MQ below (QcR G ad00 T00 Q) args s (rmM b).cells (rmM b).slots (fun q => g_b G ≤ q), T00, ad00) pc ls v.toList cs ns T I J R := by
  obtain ⟨hx, hb, hml, hown, hts, hK, hini⟩ := C
  intro pc ins v hd hi ls cs ns T I J R h H locs lsr ad hR hS hL hs hc hn
  have hq : Q v T I J R → ∀ t : State, t.heap = H → s.WarmedH t.vm → QcR G ad00 T00 Q args s (.returned (v.map (mv ad))) t := fun hQ t ht hW =>
    ⟨⟨v, ad, T, I, J, R, rfl, fun w hw => hs w (by rw [hw]; exact List.mem_cons_self), hL.2.1.2, by rw [ht]; exact hR.moved hW.alike, hQ⟩, hS.F ht⟩
  refine W.widen (k := (rmM b).cells) (n := (rmM b).slots) hc hn ?_
  subst hk
  unfold rk at h
  cases hM : rM b with
  | none =>
    rw [hM] at h hr
    match v, h with
    | none, h =>
      cases ins <;> first | exact hi.elim | exact W.vret hx hb hr (hq h) hS.2.2 hd
  | some ty =>
    rw [hM] at h hr
    cases ty with
    | int =>
      match v, h with
      | some (.int x), h =>
        cases ins <;> first | exact hi.elim | exact W.iret hx hb hr (hq h) hS.2.2 hd
    | boolean =>
      match v, h with
      | some (.int x), h =>
        have hz : narrow .boolean (.int x) = .int x := by rcases h.1 with rfl | rfl <;> rfl
        cases ins <;> first | exact hi.elim | exact W.zret hx hb hr hz (hq h.2) hS.2.2 hd
    | long =>
      match v, h with
      | some (.long x), h =>
        cases ins <;> first | exact hi.elim | exact W.lret hx hb hr (hq h) hS.2.2 hd
    | object n =>
      match v, h with
      | some (.ref x), h =>
        cases ins <;> first | exact hi.elim | exact W.aret hx hb hr (Or.inl ⟨n, rfl⟩) (Or.inr ⟨_, rfl⟩) (hq h) hS.2.2 hd
      | some .null, h =>
        cases ins <;> first | exact hi.elim | exact W.aret hx hb hr (Or.inl ⟨n, rfl⟩) (Or.inl rfl) (hq h) hS.2.2 hd
    | _ => exact False.elim h
/-- a stretch -/
theorem AT.go {G : GGy} {b : Nat} {T00 : TTy} {Q : QQy} {B : List (Nat × List EEy)} (hB : okB b B = true) (k : Nat) (hk : rk b = k) (cut : List Nat) (f pc : Nat) {ls : List (Option Value)} {st : List Value} {cs ns : Nat} {T : TTy} {I : MIy} {J : MJy} {R : MRy} (h : wpk (rmM b).cells (rmM b).slots (Run G) (AT G b T00 Q) (rtQ k Q) B cut f pc (bk B pc) ls st cs ns T I J R) : AT G b T00 Q pc ls st cs ns T I J R :=
  fun p e s m args below meth c ad00 C hr hl => wpk_ok C hB (fun t ls st cs ns T I J R q => q p e s m args below meth c ad00 C hr hl) (rt_ok hk C hr hl) f pc _ (okB_at hB pc) _ _ _ _ _ _ _ _ h
def wlen : List Value → Nat
  | [] => 0
  | .long _ :: vs => wlen vs + 2
  | .double _ :: vs => wlen vs + 2
  | _ :: vs => wlen vs + 1
theorem wlen_sl (ad : Nat → Nat) : ∀ vs : List Value, (lg_sl (vs.map (mv ad))).length = wlen vs
  | [] => rfl
  | v :: vs => by
    have ih := wlen_sl ad vs
    cases v <;> simp [lg_sl, wlen, mv, Value.category] at ih ⊢ <;> omega
theorem ce_0 : ∀ b ∈ ([0, 1, 2, 3, 4, 5, 6, 7, 8, 9, 10, 11, 12, 13, 14, 15] : List Nat), (yM b).cls = clN (oM b) := List.forall_mem_cons.mpr ⟨rfl, List.forall_mem_cons.mpr ⟨rfl, List.forall_mem_cons.mpr ⟨rfl, List.forall_mem_cons.mpr ⟨rfl, List.forall_mem_cons.mpr ⟨rfl, List.forall_mem_cons.mpr ⟨rfl, List.forall_mem_cons.mpr ⟨rfl, List.forall_mem_cons.mpr ⟨rfl, List.forall_mem_cons.mpr ⟨rfl, List.forall_mem_cons.mpr ⟨rfl, List.forall_mem_cons.mpr ⟨rfl, List.forall_mem_cons.mpr ⟨rfl, List.forall_mem_cons.mpr ⟨rfl, List.forall_mem_cons.mpr ⟨rfl, List.forall_mem_cons.mpr ⟨rfl, List.forall_mem_cons.mpr ⟨rfl, fun _ h => absurd h List.not_mem_nil⟩⟩⟩⟩⟩⟩⟩⟩⟩⟩⟩⟩⟩⟩⟩⟩
theorem ce_1 : ∀ b ∈ ([16, 17, 18, 19, 20, 21, 22, 23, 24, 25, 26, 27, 28, 29, 30, 31] : List Nat), (yM b).cls = clN (oM b) := List.forall_mem_cons.mpr ⟨rfl, List.forall_mem_cons.mpr ⟨rfl, List.forall_mem_cons.mpr ⟨rfl, List.forall_mem_cons.mpr ⟨rfl, List.forall_mem_cons.mpr ⟨rfl, List.forall_mem_cons.mpr ⟨rfl, List.forall_mem_cons.mpr ⟨rfl, List.forall_mem_cons.mpr ⟨rfl, List.forall_mem_cons.mpr ⟨rfl, List.forall_mem_cons.mpr ⟨rfl, List.forall_mem_cons.mpr ⟨rfl, List.forall_mem_cons.mpr ⟨rfl, List.forall_mem_cons.mpr ⟨rfl, List.forall_mem_cons.mpr ⟨rfl, List.forall_mem_cons.mpr ⟨rfl, List.forall_mem_cons.mpr ⟨rfl, fun _ h => absurd h List.not_mem_nil⟩⟩⟩⟩⟩⟩⟩⟩⟩⟩⟩⟩⟩⟩⟩⟩
theorem ce_2 : ∀ b ∈ ([32, 33, 34, 35, 36, 37, 38, 39, 40, 41, 42, 43, 44, 45, 46, 47] : List Nat), (yM b).cls = clN (oM b) := List.forall_mem_cons.mpr ⟨rfl, List.forall_mem_cons.mpr ⟨rfl, List.forall_mem_cons.mpr ⟨rfl, List.forall_mem_cons.mpr ⟨rfl, List.forall_mem_cons.mpr ⟨rfl, List.forall_mem_cons.mpr ⟨rfl, List.forall_mem_cons.mpr ⟨rfl, List.forall_mem_cons.mpr ⟨rfl, List.forall_mem_cons.mpr ⟨rfl, List.forall_mem_cons.mpr ⟨rfl, List.forall_mem_cons.mpr ⟨rfl, List.forall_mem_cons.mpr ⟨rfl, List.forall_mem_cons.mpr ⟨rfl, List.forall_mem_cons.mpr ⟨rfl, List.forall_mem_cons.mpr ⟨rfl, List.forall_mem_cons.mpr ⟨rfl, fun _ h => absurd h List.not_mem_nil⟩⟩⟩⟩⟩⟩⟩⟩⟩⟩⟩⟩⟩⟩⟩⟩
theorem ce_3 : ∀ b ∈ ([48, 49, 50, 51, 52, 53, 54, 55, 56, 57, 58, 59, 60, 61, 62, 63] : List Nat), (yM b).cls = clN (oM b) := List.forall_mem_cons.mpr ⟨rfl, List.forall_mem_cons.mpr ⟨rfl, List.forall_mem_cons.mpr ⟨rfl, List.forall_mem_cons.mpr ⟨rfl, List.forall_mem_cons.mpr ⟨rfl, List.forall_mem_cons.mpr ⟨rfl, List.forall_mem_cons.mpr ⟨rfl, List.forall_mem_cons.mpr ⟨rfl, List.forall_mem_cons.mpr ⟨rfl, List.forall_mem_cons.mpr ⟨rfl, List.forall_mem_cons.mpr ⟨rfl, List.forall_mem_cons.mpr ⟨rfl, List.forall_mem_cons.mpr ⟨rfl, List.forall_mem_cons.mpr ⟨rfl, List.forall_mem_cons.mpr ⟨rfl, List.forall_mem_cons.mpr ⟨rfl, fun _ h => absurd h List.not_mem_nil⟩⟩⟩⟩⟩⟩⟩⟩⟩⟩⟩⟩⟩⟩⟩⟩
theorem ce_4 : ∀ b ∈ ([64, 65, 66, 67, 68, 69, 70, 71, 72, 73, 74, 75, 76, 77, 78, 79] : List Nat), (yM b).cls = clN (oM b) := List.forall_mem_cons.mpr ⟨rfl, List.forall_mem_cons.mpr ⟨rfl, List.forall_mem_cons.mpr ⟨rfl, List.forall_mem_cons.mpr ⟨rfl, List.forall_mem_cons.mpr ⟨rfl, List.forall_mem_cons.mpr ⟨rfl, List.forall_mem_cons.mpr ⟨rfl, List.forall_mem_cons.mpr ⟨rfl, List.forall_mem_cons.mpr ⟨rfl, List.forall_mem_cons.mpr ⟨rfl, List.forall_mem_cons.mpr ⟨rfl, List.forall_mem_cons.mpr ⟨rfl, List.forall_mem_cons.mpr ⟨rfl, List.forall_mem_cons.mpr ⟨rfl, List.forall_mem_cons.mpr ⟨rfl, List.forall_mem_cons.mpr ⟨rfl, fun _ h => absurd h List.not_mem_nil⟩⟩⟩⟩⟩⟩⟩⟩⟩⟩⟩⟩⟩⟩⟩⟩
theorem ce_5 : ∀ b ∈ ([80, 81, 82, 83, 84, 85, 86, 87, 88, 89, 90, 91, 92, 93, 94, 95] : List Nat), (yM b).cls = clN (oM b) := List.forall_mem_cons.mpr ⟨rfl, List.forall_mem_cons.mpr ⟨rfl, List.forall_mem_cons.mpr ⟨rfl, List.forall_mem_cons.mpr ⟨rfl, List.forall_mem_cons.mpr ⟨rfl, List.forall_mem_cons.mpr ⟨rfl, List.forall_mem_cons.mpr ⟨rfl, List.forall_mem_cons.mpr ⟨rfl, List.forall_mem_cons.mpr ⟨rfl, List.forall_mem_cons.mpr ⟨rfl, List.forall_mem_cons.mpr ⟨rfl, List.forall_mem_cons.mpr ⟨rfl, List.forall_mem_cons.mpr ⟨rfl, List.forall_mem_cons.mpr ⟨rfl, List.forall_mem_cons.mpr ⟨rfl, List.forall_mem_cons.mpr ⟨rfl, fun _ h => absurd h List.not_mem_nil⟩⟩⟩⟩⟩⟩⟩⟩⟩⟩⟩⟩⟩⟩⟩⟩
theorem ce_6 : ∀ b ∈ ([96, 97, 98, 99, 100, 101, 102, 103, 104, 105, 106, 107, 108, 109, 110, 111] : List Nat), (yM b).cls = clN (oM b) := List.forall_mem_cons.mpr ⟨rfl, List.forall_mem_cons.mpr ⟨rfl, List.forall_mem_cons.mpr ⟨rfl, List.forall_mem_cons.mpr ⟨rfl, List.forall_mem_cons.mpr ⟨rfl, List.forall_mem_cons.mpr ⟨rfl, List.forall_mem_cons.mpr ⟨rfl, List.forall_mem_cons.mpr ⟨rfl, List.forall_mem_cons.mpr ⟨rfl, List.forall_mem_cons.mpr ⟨rfl, List.forall_mem_cons.mpr ⟨rfl, List.forall_mem_cons.mpr ⟨rfl, List.forall_mem_cons.mpr ⟨rfl, List.forall_mem_cons.mpr ⟨rfl, List.forall_mem_cons.mpr ⟨rfl, List.forall_mem_cons.mpr ⟨rfl, fun _ h => absurd h List.not_mem_nil⟩⟩⟩⟩⟩⟩⟩⟩⟩⟩⟩⟩⟩⟩⟩⟩
theorem ce_7 : ∀ b ∈ ([112, 113, 114, 115, 116, 117, 118, 119, 120, 121, 122, 123, 124, 125, 126, 127] : List Nat), (yM b).cls = clN (oM b) := List.forall_mem_cons.mpr ⟨rfl, List.forall_mem_cons.mpr ⟨rfl, List.forall_mem_cons.mpr ⟨rfl, List.forall_mem_cons.mpr ⟨rfl, List.forall_mem_cons.mpr ⟨rfl, List.forall_mem_cons.mpr ⟨rfl, List.forall_mem_cons.mpr ⟨rfl, List.forall_mem_cons.mpr ⟨rfl, List.forall_mem_cons.mpr ⟨rfl, List.forall_mem_cons.mpr ⟨rfl, List.forall_mem_cons.mpr ⟨rfl, List.forall_mem_cons.mpr ⟨rfl, List.forall_mem_cons.mpr ⟨rfl, List.forall_mem_cons.mpr ⟨rfl, List.forall_mem_cons.mpr ⟨rfl, List.forall_mem_cons.mpr ⟨rfl, fun _ h => absurd h List.not_mem_nil⟩⟩⟩⟩⟩⟩⟩⟩⟩⟩⟩⟩⟩⟩⟩⟩
theorem ce_8 : ∀ b ∈ ([128, 129, 130, 131, 132, 133, 134, 135, 136, 137, 138, 139, 140, 141, 142, 143] : List Nat), (yM b).cls = clN (oM b) := List.forall_mem_cons.mpr ⟨rfl, List.forall_mem_cons.mpr ⟨rfl, List.forall_mem_cons.mpr ⟨rfl, List.forall_mem_cons.mpr ⟨rfl, List.forall_mem_cons.mpr ⟨rfl, List.forall_mem_cons.mpr ⟨rfl, List.forall_mem_cons.mpr ⟨rfl, List.forall_mem_cons.mpr ⟨rfl, List.forall_mem_cons.mpr ⟨rfl, List.forall_mem_cons.mpr ⟨rfl, List.forall_mem_cons.mpr ⟨rfl, List.forall_mem_cons.mpr ⟨rfl, List.forall_mem_cons.mpr ⟨rfl, List.forall_mem_cons.mpr ⟨rfl, List.forall_mem_cons.mpr ⟨rfl, List.forall_mem_cons.mpr ⟨rfl, fun _ h => absurd h List.not_mem_nil⟩⟩⟩⟩⟩⟩⟩⟩⟩⟩⟩⟩⟩⟩⟩⟩
theorem ce_9 : ∀ b ∈ ([144, 145, 146, 147, 148, 149, 150, 151, 152, 153, 154, 155, 156, 157, 158, 159] : List Nat), (yM b).cls = clN (oM b) := List.forall_mem_cons.mpr ⟨rfl, List.forall_mem_cons.mpr ⟨rfl, List.forall_mem_cons.mpr ⟨rfl, List.forall_mem_cons.mpr ⟨rfl, List.forall_mem_cons.mpr ⟨rfl, List.forall_mem_cons.mpr ⟨rfl, List.forall_mem_cons.mpr ⟨rfl, List.forall_mem_cons.mpr ⟨rfl, List.forall_mem_cons.mpr ⟨rfl, List.forall_mem_cons.mpr ⟨rfl, List.forall_mem_cons.mpr ⟨rfl, List.forall_mem_cons.mpr ⟨rfl, List.forall_mem_cons.mpr ⟨rfl, List.forall_mem_cons.mpr ⟨rfl, List.forall_mem_cons.mpr ⟨rfl, List.forall_mem_cons.mpr ⟨rfl, fun _ h => absurd h List.not_mem_nil⟩⟩⟩⟩⟩⟩⟩⟩⟩⟩⟩⟩⟩⟩⟩⟩
theorem ce_10 : ∀ b ∈ ([160, 161, 162, 163, 164, 165, 166, 167, 168, 169, 170, 171, 172, 173, 174, 175] : List Nat), (yM b).cls = clN (oM b) := List.forall_mem_cons.mpr ⟨rfl, List.forall_mem_cons.mpr ⟨rfl, List.forall_mem_cons.mpr ⟨rfl, List.forall_mem_cons.mpr ⟨rfl, List.forall_mem_cons.mpr ⟨rfl, List.forall_mem_cons.mpr ⟨rfl, List.forall_mem_cons.mpr ⟨rfl, List.forall_mem_cons.mpr ⟨rfl, List.forall_mem_cons.mpr ⟨rfl, List.forall_mem_cons.mpr ⟨rfl, List.forall_mem_cons.mpr ⟨rfl, List.forall_mem_cons.mpr ⟨rfl, List.forall_mem_cons.mpr ⟨rfl, List.forall_mem_cons.mpr ⟨rfl, List.forall_mem_cons.mpr ⟨rfl, List.forall_mem_cons.mpr ⟨rfl, fun _ h => absurd h List.not_mem_nil⟩⟩⟩⟩⟩⟩⟩⟩⟩⟩⟩⟩⟩⟩⟩⟩
theorem ce_11 : ∀ b ∈ ([176, 177, 178, 179, 180, 181, 182, 183, 184, 185, 186, 187, 188, 189, 190, 191] : List Nat), (yM b).cls = clN (oM b) := List.forall_mem_cons.mpr ⟨rfl, List.forall_mem_cons.mpr ⟨rfl, List.forall_mem_cons.mpr ⟨rfl, List.forall_mem_cons.mpr ⟨rfl, List.forall_mem_cons.mpr ⟨rfl, List.forall_mem_cons.mpr ⟨rfl, List.forall_mem_cons.mpr ⟨rfl, List.forall_mem_cons.mpr ⟨rfl, List.forall_mem_cons.mpr ⟨rfl, List.forall_mem_cons.mpr ⟨rfl, List.forall_mem_cons.mpr ⟨rfl, List.forall_mem_cons.mpr ⟨rfl, List.forall_mem_cons.mpr ⟨rfl, List.forall_mem_cons.mpr ⟨rfl, List.forall_mem_cons.mpr ⟨rfl, List.forall_mem_cons.mpr ⟨rfl, fun _ h => absurd h List.not_mem_nil⟩⟩⟩⟩⟩⟩⟩⟩⟩⟩⟩⟩⟩⟩⟩⟩
theorem ce_12 : ∀ b ∈ ([192, 193, 194, 195, 196, 197, 198, 199, 200, 201, 202, 203, 204, 205, 206, 207] : List Nat), (yM b).cls = clN (oM b) := List.forall_mem_cons.mpr ⟨rfl, List.forall_mem_cons.mpr ⟨rfl, List.forall_mem_cons.mpr ⟨rfl, List.forall_mem_cons.mpr ⟨rfl, List.forall_mem_cons.mpr ⟨rfl, List.forall_mem_cons.mpr ⟨rfl, List.forall_mem_cons.mpr ⟨rfl, List.forall_mem_cons.mpr ⟨rfl, List.forall_mem_cons.mpr ⟨rfl, List.forall_mem_cons.mpr ⟨rfl, List.forall_mem_cons.mpr ⟨rfl, List.forall_mem_cons.mpr ⟨rfl, List.forall_mem_cons.mpr ⟨rfl, List.forall_mem_cons.mpr ⟨rfl, List.forall_mem_cons.mpr ⟨rfl, List.forall_mem_cons.mpr ⟨rfl, fun _ h => absurd h List.not_mem_nil⟩⟩⟩⟩⟩⟩⟩⟩⟩⟩⟩⟩⟩⟩⟩⟩
theorem ce_13 : ∀ b ∈ ([208, 209, 210, 211, 212, 213, 214, 215, 216, 217, 218, 219, 220, 221, 222, 223] : List Nat), (yM b).cls = clN (oM b) := List.forall_mem_cons.mpr ⟨rfl, List.forall_mem_cons.mpr ⟨rfl, List.forall_mem_cons.mpr ⟨rfl, List.forall_mem_cons.mpr ⟨rfl, List.forall_mem_cons.mpr ⟨rfl, List.forall_mem_cons.mpr ⟨rfl, List.forall_mem_cons.mpr ⟨rfl, List.forall_mem_cons.mpr ⟨rfl, List.forall_mem_cons.mpr ⟨rfl, List.forall_mem_cons.mpr ⟨rfl, List.forall_mem_cons.mpr ⟨rfl, List.forall_mem_cons.mpr ⟨rfl, List.forall_mem_cons.mpr ⟨rfl, List.forall_mem_cons.mpr ⟨rfl, List.forall_mem_cons.mpr ⟨rfl, List.forall_mem_cons.mpr ⟨rfl, fun _ h => absurd h List.not_mem_nil⟩⟩⟩⟩⟩⟩⟩⟩⟩⟩⟩⟩⟩⟩⟩⟩
theorem ce_14 : ∀ b ∈ ([224, 225, 226, 227, 228, 229, 230, 231, 232, 233, 234, 235, 236, 237, 238] : List Nat), (yM b).cls = clN (oM b) := List.forall_mem_cons.mpr ⟨rfl, List.forall_mem_cons.mpr ⟨rfl, List.forall_mem_cons.mpr ⟨rfl, List.forall_mem_cons.mpr ⟨rfl, List.forall_mem_cons.mpr ⟨rfl, List.forall_mem_cons.mpr ⟨rfl, List.forall_mem_cons.mpr ⟨rfl, List.forall_mem_cons.mpr ⟨rfl, List.forall_mem_cons.mpr ⟨rfl, List.forall_mem_cons.mpr ⟨rfl, List.forall_mem_cons.mpr ⟨rfl, List.forall_mem_cons.mpr ⟨rfl, List.forall_mem_cons.mpr ⟨rfl, List.forall_mem_cons.mpr ⟨rfl, List.forall_mem_cons.mpr ⟨rfl, fun _ h => absurd h List.not_mem_nil⟩⟩⟩⟩⟩⟩⟩⟩⟩⟩⟩⟩⟩⟩⟩
theorem cls_eq {b : Nat} (h : b < 239) : (yM b).cls = clN (oM b) := by
  rcases (show b / 16 = 0 ∨ b / 16 = 1 ∨ b / 16 = 2 ∨ b / 16 = 3 ∨ b / 16 = 4 ∨ b / 16 = 5 ∨ b / 16 = 6 ∨ b / 16 = 7 ∨ b / 16 = 8 ∨ b / 16 = 9 ∨ b / 16 = 10 ∨ b / 16 = 11 ∨ b / 16 = 12 ∨ b / 16 = 13 ∨ b / 16 = 14 by omega) with e | e | e | e | e | e | e | e | e | e | e | e | e | e | e
  · exact ce_0 b (by simp only [List.mem_cons, List.not_mem_nil, or_false]; omega)
  · exact ce_1 b (by simp only [List.mem_cons, List.not_mem_nil, or_false]; omega)
  · exact ce_2 b (by simp only [List.mem_cons, List.not_mem_nil, or_false]; omega)
  · exact ce_3 b (by simp only [List.mem_cons, List.not_mem_nil, or_false]; omega)
  · exact ce_4 b (by simp only [List.mem_cons, List.not_mem_nil, or_false]; omega)
  · exact ce_5 b (by simp only [List.mem_cons, List.not_mem_nil, or_false]; omega)
  · exact ce_6 b (by simp only [List.mem_cons, List.not_mem_nil, or_false]; omega)
  · exact ce_7 b (by simp only [List.mem_cons, List.not_mem_nil, or_false]; omega)
  · exact ce_8 b (by simp only [List.mem_cons, List.not_mem_nil, or_false]; omega)
  · exact ce_9 b (by simp only [List.mem_cons, List.not_mem_nil, or_false]; omega)
  · exact ce_10 b (by simp only [List.mem_cons, List.not_mem_nil, or_false]; omega)
  · exact ce_11 b (by simp only [List.mem_cons, List.not_mem_nil, or_false]; omega)
  · exact ce_12 b (by simp only [List.mem_cons, List.not_mem_nil, or_false]; omega)
  · exact ce_13 b (by simp only [List.mem_cons, List.not_mem_nil, or_false]; omega)
  · exact ce_14 b (by simp only [List.mem_cons, List.not_mem_nil, or_false]; omega)
/-- a method's contract, from its first instruction on -/
theorem Run.body {G : GGy} {b : Nat} (hb : b < 239) {as : List Value} {T : TTy} {I : MIy} {J : MJy} {R : MRy} {Q : QQy} (n : Nat) (hw : wlen as ≤ lM b) (h : AT G b T Q 0 (ent as n) [] 0 0 T I J R) : Run G b as T I J R Q := by
  intro ad
  refine va_MetF (cc := cM b) (maxL := lM b) (ret := rM b) (np_in hb).2 rfl ?_
  intro p e s m args below meth c s₁ Bd hml hv
  obtain ⟨rfl, ho, hR, hK⟩ := hv
  have hts := atoms_spec (ws := wsM b) Bd.pre
  have hl := lv_entry (as.map (mv ad)) (n := lM b) (by rw [wlen_sl]; exact hw)
  have hcls : s.vm.findClass (yM b).cls = some m.cls := findClass_of_methodNamed Bd.named
  have C : Cx G b p s m (as.map (mv ad)).toArray meth c := ⟨Bd.exec, Bd.bytes, hml, by rw [← cls_eq hb]; exact hcls, fun w hw => hts w (List.mem_cons_of_mem _ hw), hK, fun e => by rw [← e]; exact (name_of_methodNamed Bd.named Bd.method).1⟩
  have k9 := h p e s m _ below meth c ad C Bd.returns Bd.notSynchronized s.heap [] _ ad hR va_S.rf ⟨hl.1, ⟨hl.2.1, Ext.rf T ad⟩, fun i v hi => by
    obtain ⟨a, b2⟩ := ent_of ad as n 0 i v hi
    rw [Nat.zero_add] at a
    exact ⟨hl.2.2 _ a, ho v b2⟩⟩ (okS_nil T) (Nat.zero_le _) (Nat.zero_le _)
  rw [lg_entry_eq]
  exact k9
