section CON
variable {G : GGy} {T : TTy} {I : MIy} {J : MJy} {R : MRy} {Q : QQy}
theorem c_within {n lo hi : Int32} (h : Q (some (.int (if lo ≤ n ∧ n ≤ hi then nI 1 else nI 0))) T I J R) : Run G 153 [.int n, .int lo, .int hi] T I J R Q := by
  refine Run.body (by decide) 0 (Nat.le_of_ble_eq_true rfl) ?_
  refine AT.go okB153 1 rfl [] 30 0 ?_
  simp only [B153, wpk, bk, stp, inv, pI, pII, pL, pLL, pIL, pR, pIR, pIIR, pLIR, pRIR, pCp, popN, vt, sL, brc, lda, ldi, ldl, sta, gf, pfd, tyI, tyIs, tyB, tyQ, tyN, nbk, ekd, elOk, isO, swl, vNat, vI, gl, k1, st1, st2, ent, rtQ, va_rf, List.replicate, List.mem_cons, List.not_mem_nil, or_false, or_self, ↓reduceIte, Nat.reduceAdd, Nat.reduceEqDiff, true_and, and_true, reduceCtorEq, OfNat.ofNat_ne_zero, OfNat.zero_ne_ofNat, OfNat.ofNat_ne_one, OfNat.one_ne_ofNat, zero_ne_one, one_ne_zero]
  trace_state
  sorry
theorem c_letterAt {f L : Nat} {k pl : Int32} (hT : T f = some (3, 0)) (hR : R f 0 = some L) (hL : T L = some (14, 400)) (h : Q (some (.int 0)) T I J R) : Run G 31 [.ref f, .int k, .int pl] T I J R Q := by
  refine Run.body (by decide) 1 (Nat.le_of_ble_eq_true rfl) ?_
  refine AT.go okB31 0 rfl [] 30 0 ?_
  simp only [B31, wpk, bk, stp, inv, pI, pII, pL, pLL, pIL, pR, pIR, pIIR, pLIR, pRIR, pCp, popN, vt, sL, brc, lda, ldi, ldl, sta, gf, pfd, tyI, tyIs, tyB, tyQ, tyN, nbk, ekd, elOk, isO, swl, vNat, vI, gl, k1, st1, st2, ent, rtQ, va_rf, List.replicate, List.mem_cons, List.not_mem_nil, or_false, or_self, ↓reduceIte, Nat.reduceAdd, Nat.reduceEqDiff, true_and, and_true, reduceCtorEq, OfNat.ofNat_ne_zero, OfNat.zero_ne_ofNat, OfNat.ofNat_ne_one, OfNat.one_ne_ofNat, zero_ne_one, one_ne_zero, hT, hR, hL]
  trace_state
  sorry
end CON
