/-! ===== a property goes ===== -/
section
variable {n : Nat} {d : Nat} {b : Nat} {m : Nat} {deep : Int32} {res : Int64} {thr : Int32} {thn : Int64} {CL : Nat → Nat} {cStr : Nat → Int32} {cOp : Nat → Int32} {cA : Nat → Int32} {cB : Nat → Int32} {OK : Nat → Nat} {oKin : Nat → Int32} {oOpen : Nat → Int32} {pVal : Nat → Int64} {aOut : Nat → Int32} {aVar : Nat → Int64} {FC : Nat → Nat} {FA : Nat → Nat} {FP : Nat → Nat} {FH : Nat → Nat} {FT : Nat → Nat} {fSelf : Nat → Int64} {stk : Nat → Int64} {TA : Nat → Nat} {TH : Nat → Nat} {xFc : Nat → Int32} {xFs : Nat → Int32} {xPc : Nat → Int32} {xKo : Nat → Int32} {xPk : Nat → Int32} {tw : Nat → Bool} {te : Nat → Bool} {tc : Nat → Bool} {xSet : Nat → Int64} {S : Nat → Nat} {XH : Nat → Nat} {xHeld : Nat → Int64} {xArg : Nat → Int64} {yCo : Nat → Int32} {yAr : Nat → Int32} {M : Nat → Nat} {yPair : Nat → Int32} {ySeen : Nat → Int32} {ySet : Nat → Int64} {yStay : Nat → Int32} {yArg : Nat → Int64} {yHan : Nat → Int32} {yKept : Nat → Int64} {yGiven : Int32}
variable {o k i : Nat} {L : List Nat}
theorem ob_rem38 (ho : o < 32) (hk : k < 32) (hl : L.length ≤ 32) (hx : ∀ p x, L[p]? = some x → xKo (32 * o + p) = nI x ∧ x < 32) :
    ∀ j p kept ko', j + p = L.length → ob_rm o k L xKo p kept ko' → ∃ kept' ko'', ob_rm o k L xKo L.length kept' ko'' ∧
      ∀ post : SX → Prop, post (nI n, nI d, nI b, deep, res, thr, thn, (fun zz => nI (CL zz)), cStr, cOp, cA, cB, (fun zz => nI (OK zz)), oKin, oOpen, xFc, xFs, (upd xPc o (nI kept')), ko'', xPk, (fun zz => ob_xa (tw zz) (te zz) (tc zz)), pVal, xSet, (fun zz => nI (S zz)), aOut, aVar, (fun zz => nI (FC zz)), (fun zz => nI (FP zz)), (fun zz => nI (FA zz)), (fun zz => nI (FH zz)), (fun zz => nI (XH zz)), (fun zz => nI (FT zz)), fSelf, xHeld, stk, (fun zz => nI (TA zz)), (fun zz => nI (TH zz)), xArg) → wX_removeProperty_38 post (nI o) (nI k) (nI L.length) (nI n) (nI d) (nI b) deep res thr thn (j + 1) (nI kept) (nI p) (fun zz => nI (CL zz)) cStr cOp cA cB (fun zz => nI (OK zz)) oKin oOpen xFc xFs xPc ko' xPk (fun zz => ob_xa (tw zz) (te zz) (tc zz)) pVal xSet (fun zz => nI (S zz)) aOut aVar (fun zz => nI (FC zz)) (fun zz => nI (FP zz)) (fun zz => nI (FA zz)) (fun zz => nI (FH zz)) (fun zz => nI (XH zz)) (fun zz => nI (FT zz)) fSelf xHeld stk (fun zz => nI (TA zz)) (fun zz => nI (TH zz)) xArg
  | 0, p, kept, ko', e, h => by
    have e' : p = L.length := by omega
    subst e'
    refine ⟨kept, ko', h, fun post hp => ?_⟩
    unfold wX_removeProperty_38
    have hle : L.length ≤ L.length := Nat.le_refl _
    simp (disch := first | omega | decide) only [hle, forall_eq, not_true, not_false_iff, false_implies, true_implies, true_and, and_true, ob_sub1, Nat.add_sub_cancel, nI_1, ob_ix, ob_iy, ob_ix24, ob_iy24, ob_ix10, ob_iy10, ob_ix4, ob_iy4, ob_ix3, ob_iy3, ob_s1, ob_s2, ob_s3, ob_s4, ob_ltl, ob_lel, ob_eql, ob_ltr, ob_ler, ob_uN, Nat.add_one_ne_zero, ob_xs3, ob_lnn, ob_ltn, ob_eqn, Nat.not_lt_zero, Nat.zero_le, Nat.reduceEqDiff, Nat.reduceLeDiff, Nat.reduceLT, ob_eqll, Int32.reduceLT, Int32.reduceLE, eq_self_iff_true]
    exact hp
  | j + 1, p, kept, ko', e, h => by
    have hlt : p < L.length := by omega
    obtain ⟨hx1, hx2⟩ := hx p L[p] (List.getElem?_eq_getElem hlt)
    have hq : L[p]? = some L[p] := List.getElem?_eq_getElem hlt
    have hko : ko' (32 * o + p) = nI L[p] := by rw [h.2.2.2.1 p (Nat.le_refl _) (by omega)]; exact hx1
    have hkp : kept ≤ p := h.2.1
    have hnle : ¬ L.length ≤ p := by omega
    by_cases z : L[p] = k
    · obtain ⟨kept', ko'', h1, h2⟩ := ob_rem38 ho hk hl hx j (p + 1) kept ko' (by omega) (ob_rm_k (by rw [hq, z]) h)
      refine ⟨kept', ko'', h1, fun post hp => ?_⟩
      unfold wX_removeProperty_38
      simp (disch := first | omega | decide) only [hnle, hko, z, forall_eq, not_true, not_false_iff, false_implies, true_implies, true_and, and_true, ob_sub1, Nat.add_sub_cancel, nI_1, ob_ix, ob_iy, ob_ix24, ob_iy24, ob_ix10, ob_iy10, ob_ix4, ob_iy4, ob_ix3, ob_iy3, ob_s1, ob_s2, ob_s3, ob_s4, ob_ltl, ob_lel, ob_eql, ob_ltr, ob_ler, ob_uN, Nat.add_one_ne_zero, ob_xs3, ob_lnn, ob_ltn, ob_eqn, Nat.not_lt_zero, Nat.zero_le, Nat.reduceEqDiff, Nat.reduceLeDiff, Nat.reduceLT, ob_eqll, Int32.reduceLT, Int32.reduceLE, eq_self_iff_true]
      exact h2 post hp
    · obtain ⟨kept', ko'', h1, h2⟩ := ob_rem38 ho hk hl hx j (p + 1) (kept + 1) _ (by omega) (ob_rm_n hq z hl h)
      refine ⟨kept', ko'', h1, fun post hp => ?_⟩
      unfold wX_removeProperty_38
      simp (disch := first | omega | decide) only [hnle, hko, z, forall_eq, not_true, not_false_iff, false_implies, true_implies, true_and, and_true, ob_sub1, Nat.add_sub_cancel, nI_1, ob_ix, ob_iy, ob_ix24, ob_iy24, ob_ix10, ob_iy10, ob_ix4, ob_iy4, ob_ix3, ob_iy3, ob_s1, ob_s2, ob_s3, ob_s4, ob_ltl, ob_lel, ob_eql, ob_ltr, ob_ler, ob_uN, Nat.add_one_ne_zero, ob_xs3, ob_lnn, ob_ltn, ob_eqn, Nat.not_lt_zero, Nat.zero_le, Nat.reduceEqDiff, Nat.reduceLeDiff, Nat.reduceLT, ob_eqll, Int32.reduceLT, Int32.reduceLE, eq_self_iff_true]
      exact h2 post hp
theorem ob_remX (hP : ob_gP n m M pVal xPk tw xSet yPair ySet) (hL : ob_gL n M xPc xKo) (hn : n ≤ 32) (ho : o < n) (hk : k < 32) :
    ∃ (xPc' : Nat → Int32) (xKo' : Nat → Int32), ob_gL n (ob_um M (32 * o + k) 0) xPc' xKo' ∧ ∀ post : SX → Prop, post (nI n, nI d, nI b, deep, res, thr, thn, (fun zz => nI (CL zz)), cStr, cOp, cA, cB, (fun zz => nI (OK zz)), oKin, oOpen, xFc, xFs, xPc', xKo', (upd xPk (32 * o + k) 0), (fun zz => ob_xa (tw zz) (te zz) (tc zz)), pVal, xSet, (fun zz => nI (S zz)), aOut, aVar, (fun zz => nI (FC zz)), (fun zz => nI (FP zz)), (fun zz => nI (FA zz)), (fun zz => nI (FH zz)), (fun zz => nI (XH zz)), (fun zz => nI (FT zz)), fSelf, xHeld, stk, (fun zz => nI (TA zz)), (fun zz => nI (TH zz)), xArg) → wpX_removeProperty post (nI n, nI d, nI b, deep, res, thr, thn, (fun zz => nI (CL zz)), cStr, cOp, cA, cB, (fun zz => nI (OK zz)), oKin, oOpen, xFc, xFs, xPc, xKo, xPk, (fun zz => ob_xa (tw zz) (te zz) (tc zz)), pVal, xSet, (fun zz => nI (S zz)), aOut, aVar, (fun zz => nI (FC zz)), (fun zz => nI (FP zz)), (fun zz => nI (FA zz)), (fun zz => nI (FH zz)), (fun zz => nI (XH zz)), (fun zz => nI (FT zz)), fSelf, xHeld, stk, (fun zz => nI (TA zz)), (fun zz => nI (TH zz)), xArg) (nI o) (nI k) := by
  have hsl := ob_sl_0 (hP.2.2 (32 * o + k) (by omega))
  by_cases z : xPk (32 * o + k) = 0
  · refine ⟨xPc, xKo, by rw [ob_um_i (hsl.mp z)]; exact hL, fun post hp => ?_⟩
    rw [ob_ui z] at hp
    unfold wpX_removeProperty
    simp (disch := first | omega | decide) only [z, forall_eq, not_true, not_false_iff, false_implies, true_implies, true_and, and_true, ob_sub1, Nat.add_sub_cancel, nI_1, ob_ix, ob_iy, ob_ix24, ob_iy24, ob_ix10, ob_iy10, ob_ix4, ob_iy4, ob_ix3, ob_iy3, ob_s1, ob_s2, ob_s3, ob_s4, ob_ltl, ob_lel, ob_eql, ob_ltr, ob_ler, ob_uN, Nat.add_one_ne_zero, ob_xs3, ob_lnn, ob_ltn, ob_eqn, Nat.not_lt_zero, Nat.zero_le, Nat.reduceEqDiff, Nat.reduceLeDiff, Nat.reduceLT, ob_eqll, Int32.reduceLT, Int32.reduceLE, eq_self_iff_true]
    exact hp
  · obtain ⟨L, h1, h2, h3⟩ := hL o ho
    have hl := ob_ord_len h3
    have hx : ∀ p x, L[p]? = some x → xKo (32 * o + p) = nI x ∧ x < 32 := fun p x hpx => ⟨h2 p x hpx, ((h3.2 x).mp (List.mem_of_getElem? hpx)).1⟩
    obtain ⟨kept', ko'', g1, g2⟩ := ob_rem38 (n := n) (d := d) (b := b) (deep := deep) (res := res) (thr := thr) (thn := thn) (CL := CL) (cStr := cStr) (cOp := cOp) (cA := cA) (cB := cB) (OK := OK) (oKin := oKin) (oOpen := oOpen) (pVal := pVal) (aOut := aOut) (aVar := aVar) (FC := FC) (FA := FA) (FP := FP) (FH := FH) (FT := FT) (fSelf := fSelf) (stk := stk) (TA := TA) (TH := TH) (xFc := xFc) (xFs := xFs) (xPc := xPc) (xKo := xKo) (xPk := upd xPk (32 * o + k) 0) (tw := tw) (te := te) (tc := tc) (xSet := xSet) (S := S) (XH := XH) (xHeld := xHeld) (xArg := xArg) (by omega) hk hl hx L.length 0 0 xKo (by omega) ob_rm_0
    refine ⟨upd xPc o (nI kept'), ko'', ob_gL_del hL ho h1 h3 hk g1, fun post hp => ?_⟩
    unfold wpX_removeProperty
    simp (disch := first | omega | decide) only [z, h1, forall_eq, not_true, not_false_iff, false_implies, true_implies, true_and, and_true, ob_sub1, Nat.add_sub_cancel, nI_1, ob_ix, ob_iy, ob_ix24, ob_iy24, ob_ix10, ob_iy10, ob_ix4, ob_iy4, ob_ix3, ob_iy3, ob_s1, ob_s2, ob_s3, ob_s4, ob_ltl, ob_lel, ob_eql, ob_ltr, ob_ler, ob_uN, Nat.add_one_ne_zero, ob_xs3, ob_lnn, ob_ltn, ob_eqn, Nat.not_lt_zero, Nat.zero_le, Nat.reduceEqDiff, Nat.reduceLeDiff, Nat.reduceLT, ob_eqll, Int32.reduceLT, Int32.reduceLE, eq_self_iff_true]
    exact ⟨L.length + 1, g2 post hp⟩
/-- removal keeps the slots' group -/
theorem ob_gP_del (hP : ob_gP n m M pVal xPk tw xSet yPair ySet) : ob_gP n m (ob_um M i 0) pVal (upd xPk i 0) tw xSet yPair ySet := by
  refine ob_gP_c (i := i) hP (fun j => ?_) (fun j hj => ?_) (fun j hj hne => ?_) (fun _ => ?_)
  · unfold ob_um
    have := hP.1 j
    split <;> omega
  · unfold ob_um
    split
    · rfl
    · exact hP.2.1 j hj
  · exact ⟨ob_um_n _ _ hne, rfl, pk_un hne, rfl, rfl, rfl, rfl⟩
  · rw [ob_um_s, pk_us]
    exact Or.inl ⟨rfl, rfl⟩
theorem ob_gY_del (hY : ob_gY n OK M tc pVal yPair) (hi : ∀ q, q < n → OK q = 1 → i ≠ 32 * q + 16) : ob_gY n OK (ob_um M i 0) tc pVal yPair := by
  intro q hq h1
  obtain ⟨a1, a2, a3, l, a4, a5, a6⟩ := hY q hq h1
  refine ⟨by rw [ob_um_n _ _ (fun z => hi q hq h1 z.symm)]; exact a1, a2, a3, l, a4, a5, fun j hj hj2 => ?_⟩
  unfold ob_um
  split
  · rfl
  · exact a6 j hj hj2
end
