/-! ===== GET ===== -/
theorem ob_objU (o : Nat) (h : o < 2 ^ 31) : ¬ lN (17179869184 + o) = 8589934592 := by
  rw [show (8589934592 : Int64) = lN 8589934592 from rfl, pk_lEQ (by omega) (by omega)]
  omega
theorem ob_objNu (o : Nat) (h : o < 2 ^ 31) : ¬ lN (17179869184 + o) = 8589934593 := by
  rw [show (8589934593 : Int64) = lN 8589934593 from rfl, pk_lEQ (by omega) (by omega)]
  omega
section
variable {n : Nat} {d : Nat} {b : Nat} {m : Nat} {deep : Int32} {res : Int64} {thr : Int32} {thn : Int64} {CL : Nat → Nat} {cStr : Nat → Int32} {cOp : Nat → Int32} {cA : Nat → Int32} {cB : Nat → Int32} {OK : Nat → Nat} {oKin : Nat → Int32} {oOpen : Nat → Int32} {pVal : Nat → Int64} {aOut : Nat → Int32} {aVar : Nat → Int64} {FC : Nat → Nat} {FA : Nat → Nat} {FP : Nat → Nat} {FH : Nat → Nat} {FT : Nat → Nat} {fSelf : Nat → Int64} {stk : Nat → Int64} {TA : Nat → Nat} {TH : Nat → Nat} {xFc : Nat → Int32} {xFs : Nat → Int32} {xPc : Nat → Int32} {xKo : Nat → Int32} {xPk : Nat → Int32} {tw : Nat → Bool} {te : Nat → Bool} {tc : Nat → Bool} {xSet : Nat → Int64} {S : Nat → Nat} {XH : Nat → Nat} {xHeld : Nat → Int64} {xArg : Nat → Int64} {yCo : Nat → Int32} {yAr : Nat → Int32} {M : Nat → Nat} {yPair : Nat → Int32} {ySeen : Nat → Int32} {ySet : Nat → Int64} {yStay : Nat → Int32} {yArg : Nat → Int64} {yHan : Nat → Int32} {yKept : Nat → Int64} {yGiven : Int32}
variable {k B w : Nat}
theorem ob_fetch {base : Int64} (R : ob_R n d b m res thr thn CL cOp cA cB OK oKin pVal aOut aVar FC FA FP FH FT fSelf stk TA TH xFc xFs xPc xKo xPk tw tc xSet S XH xHeld yCo yAr M yPair ySet yStay yHan yKept) (hres : res = 8589934592) (hb : ob_V n base) (hk : k < 32) (hm : m ≤ B) (hB : B < 2 ^ 31) (hw : 4 * d + ob_hs XH d ≤ w) :
    ∃ u' v', ob_S b B (w + 4) u' v' ∧ (∀ post : SX → Prop, post u' → wpX_getValue post (nI n, nI d, nI b, deep, res, thr, thn, (fun zz => nI (CL zz)), cStr, cOp, cA, cB, (fun zz => nI (OK zz)), oKin, oOpen, xFc, xFs, xPc, xKo, xPk, (fun zz => ob_xa (tw zz) (te zz) (tc zz)), pVal, xSet, (fun zz => nI (S zz)), aOut, aVar, (fun zz => nI (FC zz)), (fun zz => nI (FP zz)), (fun zz => nI (FA zz)), (fun zz => nI (FH zz)), (fun zz => nI (XH zz)), (fun zz => nI (FT zz)), fSelf, xHeld, stk, (fun zz => nI (TA zz)), (fun zz => nI (TH zz)), xArg) base (nI k)) ∧ (∀ post : SY → Prop, post v' → wpY_fetch post (nI n, nI m, yGiven, nI d, deep, nI b, thr, thn, res, cStr, (fun zz => nI (CL zz)), cOp, cA, cB, (fun zz => nI (OK zz)), oKin, yCo, yAr, oOpen, (fun zz => nI (M zz)), (fun zz => ob_yf (tw zz) (te zz) (tc zz)), yPair, ySeen, pVal, ySet, (fun zz => ob_th (S zz)), yStay, aOut, aVar, yArg, (fun zz => nI (FC zz)), (fun zz => nI (FA zz)), (fun zz => nI (FP zz)), (fun zz => nI (FH zz)), yHan, (fun zz => nI (FT zz)), (fun zz => nI (TA zz)), (fun zz => nI (TH zz)), fSelf, yKept, stk) base (nI k)) := by
  have hn : n ≤ 32 := R.2.1.1.2
  have hTY : (base = 8589934592 ∨ base = 8589934593) → base < 17179869184 → ∃ u' v', ob_S b B (w + 4) u' v' ∧ (∀ post : SX → Prop, post u' → wpX_getValue post (nI n, nI d, nI b, deep, res, thr, thn, (fun zz => nI (CL zz)), cStr, cOp, cA, cB, (fun zz => nI (OK zz)), oKin, oOpen, xFc, xFs, xPc, xKo, xPk, (fun zz => ob_xa (tw zz) (te zz) (tc zz)), pVal, xSet, (fun zz => nI (S zz)), aOut, aVar, (fun zz => nI (FC zz)), (fun zz => nI (FP zz)), (fun zz => nI (FA zz)), (fun zz => nI (FH zz)), (fun zz => nI (XH zz)), (fun zz => nI (FT zz)), fSelf, xHeld, stk, (fun zz => nI (TA zz)), (fun zz => nI (TH zz)), xArg) base (nI k)) ∧ (∀ post : SY → Prop, post v' → wpY_fetch post (nI n, nI m, yGiven, nI d, deep, nI b, thr, thn, res, cStr, (fun zz => nI (CL zz)), cOp, cA, cB, (fun zz => nI (OK zz)), oKin, yCo, yAr, oOpen, (fun zz => nI (M zz)), (fun zz => ob_yf (tw zz) (te zz) (tc zz)), yPair, ySeen, pVal, ySet, (fun zz => ob_th (S zz)), yStay, aOut, aVar, yArg, (fun zz => nI (FC zz)), (fun zz => nI (FA zz)), (fun zz => nI (FP zz)), (fun zz => nI (FH zz)), yHan, (fun zz => nI (FT zz)), (fun zz => nI (TA zz)), (fun zz => nI (TH zz)), fSelf, yKept, stk) base (nI k)) := by
    intro hbs hlt
    refine ⟨_, _, ob_S_mk (deep := deep) (cStr := cStr) (oOpen := oOpen) (te := te) (xArg := xArg) (ySeen := ySeen) (yArg := yArg) (yGiven := 0) (ob_raise R (ob_V_Ty n)) hm (by omega), fun post hp => ?_, fun post hp => ?_⟩
    · unfold wpX_getValue wX_getValue_16
      rcases hbs with h | h
      · exact br_t h hp
      · by_cases hU : base = 8589934592
        · exact br_t hU hp
        · exact br_f hU (br_t h hp)
    · unfold wpY_fetch
      refine ob_isoF hlt _ (br_t rfl ?_)
      unfold wY_fetch_20 wY_fetch_43
      rcases hbs with h | h
      · exact br_t h hp
      · by_cases hU : base = 8589934592
        · exact br_t hU hp
        · exact br_f hU (br_t h hp)
  by_cases hU : base = 8589934592
  · exact hTY (Or.inl hU) (by rw [hU]; decide)
  by_cases hN : base = 8589934593
  · exact hTY (Or.inr hN) (by rw [hN]; decide)
  have hnone : (∀ post : SX → Prop, wpX_push post (nI n, nI d, nI b, deep, res, thr, thn, (fun zz => nI (CL zz)), cStr, cOp, cA, cB, (fun zz => nI (OK zz)), oKin, oOpen, xFc, xFs, xPc, xKo, xPk, (fun zz => ob_xa (tw zz) (te zz) (tc zz)), pVal, xSet, (fun zz => nI (S zz)), aOut, aVar, (fun zz => nI (FC zz)), (fun zz => nI (FP zz)), (fun zz => nI (FA zz)), (fun zz => nI (FH zz)), (fun zz => nI (XH zz)), (fun zz => nI (FT zz)), fSelf, xHeld, stk, (fun zz => nI (TA zz)), (fun zz => nI (TH zz)), xArg) 8589934592 → wpX_getValue post (nI n, nI d, nI b, deep, res, thr, thn, (fun zz => nI (CL zz)), cStr, cOp, cA, cB, (fun zz => nI (OK zz)), oKin, oOpen, xFc, xFs, xPc, xKo, xPk, (fun zz => ob_xa (tw zz) (te zz) (tc zz)), pVal, xSet, (fun zz => nI (S zz)), aOut, aVar, (fun zz => nI (FC zz)), (fun zz => nI (FP zz)), (fun zz => nI (FA zz)), (fun zz => nI (FH zz)), (fun zz => nI (XH zz)), (fun zz => nI (FT zz)), fSelf, xHeld, stk, (fun zz => nI (TA zz)), (fun zz => nI (TH zz)), xArg) base (nI k)) → (∀ post : SY → Prop, wY_fetch_20 post base (-1) (nI n) (nI m) yGiven (nI d) deep (nI b) thr thn res cStr (fun zz => nI (CL zz)) cOp cA cB (fun zz => nI (OK zz)) oKin yCo yAr oOpen (fun zz => nI (M zz)) (fun zz => ob_yf (tw zz) (te zz) (tc zz)) yPair ySeen pVal ySet (fun zz => ob_th (S zz)) yStay aOut aVar yArg (fun zz => nI (FC zz)) (fun zz => nI (FA zz)) (fun zz => nI (FP zz)) (fun zz => nI (FH zz)) yHan (fun zz => nI (FT zz)) (fun zz => nI (TA zz)) (fun zz => nI (TH zz)) fSelf yKept stk → wpY_fetch post (nI n, nI m, yGiven, nI d, deep, nI b, thr, thn, res, cStr, (fun zz => nI (CL zz)), cOp, cA, cB, (fun zz => nI (OK zz)), oKin, yCo, yAr, oOpen, (fun zz => nI (M zz)), (fun zz => ob_yf (tw zz) (te zz) (tc zz)), yPair, ySeen, pVal, ySet, (fun zz => ob_th (S zz)), yStay, aOut, aVar, yArg, (fun zz => nI (FC zz)), (fun zz => nI (FA zz)), (fun zz => nI (FP zz)), (fun zz => nI (FH zz)), yHan, (fun zz => nI (FT zz)), (fun zz => nI (TA zz)), (fun zz => nI (TH zz)), fSelf, yKept, stk) base (nI k)) →
      ∃ u' v', ob_S b B (w + 4) u' v' ∧ (∀ post : SX → Prop, post u' → wpX_getValue post (nI n, nI d, nI b, deep, res, thr, thn, (fun zz => nI (CL zz)), cStr, cOp, cA, cB, (fun zz => nI (OK zz)), oKin, oOpen, xFc, xFs, xPc, xKo, xPk, (fun zz => ob_xa (tw zz) (te zz) (tc zz)), pVal, xSet, (fun zz => nI (S zz)), aOut, aVar, (fun zz => nI (FC zz)), (fun zz => nI (FP zz)), (fun zz => nI (FA zz)), (fun zz => nI (FH zz)), (fun zz => nI (XH zz)), (fun zz => nI (FT zz)), fSelf, xHeld, stk, (fun zz => nI (TA zz)), (fun zz => nI (TH zz)), xArg) base (nI k)) ∧ (∀ post : SY → Prop, post v' → wpY_fetch post (nI n, nI m, yGiven, nI d, deep, nI b, thr, thn, res, cStr, (fun zz => nI (CL zz)), cOp, cA, cB, (fun zz => nI (OK zz)), oKin, yCo, yAr, oOpen, (fun zz => nI (M zz)), (fun zz => ob_yf (tw zz) (te zz) (tc zz)), yPair, ySeen, pVal, ySet, (fun zz => ob_th (S zz)), yStay, aOut, aVar, yArg, (fun zz => nI (FC zz)), (fun zz => nI (FA zz)), (fun zz => nI (FP zz)), (fun zz => nI (FH zz)), yHan, (fun zz => nI (FT zz)), (fun zz => nI (TA zz)), (fun zz => nI (TH zz)), fSelf, yKept, stk) base (nI k)) := by
    intro hX hY
    obtain ⟨res', thr', thn', FH', stk', R2, hXp, hYp⟩ := ob_push (deep := deep) (cStr := cStr) (oOpen := oOpen) (te := te) (xArg := xArg) (ySeen := ySeen) (yArg := yArg) (yGiven := 0) R (ob_V_U n)
    refine ⟨_, _, ob_S_mk (deep := deep) (cStr := cStr) (oOpen := oOpen) (te := te) (xArg := xArg) (ySeen := ySeen) (yArg := yArg) (yGiven := 0) R2 hm (by omega), fun post hp => hX post (hXp _ hp), fun post hp => hY post ?_⟩
    unfold wY_fetch_20
    refine br_f hU (br_f hN (br_t (by decide) ?_))
    unfold wY_fetch_82
    refine br_f (by decide) ?_
    unfold wY_fetch_101
    exact hYp _ hp
  rcases ob_cls hb with hl | ⟨o, ho, rfl⟩
  · refine hnone (fun post hp => ?_) (fun post hp => ?_)
    · unfold wpX_getValue
      refine br_f hU (br_f hN (ob_objN hl _ ?_))
      exact ob_findN _ (br_f (by decide) hp)
    · unfold wpY_fetch
      exact ob_isoF hl _ (br_t rfl hp)
  · obtain ⟨r, hr, hXl, hYl⟩ := ob_look (n := n) (d := d) (b := b) (m := m) (deep := deep) (res := res) (thr := thr) (thn := thn) (CL := CL) (cStr := cStr) (cOp := cOp) (cA := cA) (cB := cB) (OK := OK) (oKin := oKin) (oOpen := oOpen) (pVal := pVal) (aOut := aOut) (aVar := aVar) (FC := FC) (FA := FA) (FP := FP) (FH := FH) (FT := FT) (fSelf := fSelf) (stk := stk) (TA := TA) (TH := TH) (xFc := xFc) (xFs := xFs) (xPc := xPc) (xKo := xKo) (xPk := xPk) (tw := tw) (te := te) (tc := tc) (xSet := xSet) (S := S) (XH := XH) (xHeld := xHeld) (xArg := xArg) (yCo := yCo) (yAr := yAr) (M := M) (yPair := yPair) (ySeen := ySeen) (ySet := ySet) (yStay := yStay) (yArg := yArg) (yHan := yHan) (yKept := yKept) (yGiven := yGiven) R.2.1 R.2.2.1 (by omega) hk ho
    rcases hr with rfl | ⟨q, hq, hM, rfl⟩
    · refine hnone (fun post hp => ?_) (fun post hp => ?_)
      · unfold wpX_getValue
        refine br_f hU (br_f hN (ob_objO hn ho _ ?_))
        exact hXl _ (br_f (by decide) hp)
      · unfold wpY_fetch
        refine ob_isoT o (by omega) _ (br_f (by decide) ?_)
        unfold wpY_number
        rw [ob_numb]
        exact hYl _ hp
    · have hi : 32 * q + k < 1024 := by omega
      have hs := R.2.2.1.2.2 (32 * q + k) (by omega)
      rcases hs with ⟨h0, _⟩ | ⟨_, hv, hs⟩
      · exact absurd h0 hM
      by_cases hpush : yPair (32 * q + k) = 0 ∨ pVal (32 * q + k) = 8589934592
      · obtain ⟨res', thr', thn', FH', stk', R2, hXp, hYp⟩ := ob_push (deep := deep) (cStr := cStr) (oOpen := oOpen) (te := te) (xArg := xArg) (ySeen := ySeen) (yArg := yArg) (yGiven := 0) R hv
        refine ⟨_, _, ob_S_mk (deep := deep) (cStr := cStr) (oOpen := oOpen) (te := te) (xArg := xArg) (ySeen := ySeen) (yArg := yArg) (yGiven := 0) R2 hm (by omega), fun post hp => ?_, fun post hp => ?_⟩
        · have h80 : wX_getValue_80 post (nI (32 * q + k)) (nI n) (nI d) (nI b) deep res thr thn (fun zz => nI (CL zz)) cStr cOp cA cB (fun zz => nI (OK zz)) oKin oOpen xFc xFs xPc xKo xPk (fun zz => ob_xa (tw zz) (te zz) (tc zz)) pVal xSet (fun zz => nI (S zz)) aOut aVar (fun zz => nI (FC zz)) (fun zz => nI (FP zz)) (fun zz => nI (FA zz)) (fun zz => nI (FH zz)) (fun zz => nI (XH zz)) (fun zz => nI (FT zz)) fSelf xHeld stk (fun zz => nI (TA zz)) (fun zz => nI (TH zz)) xArg := by
            unfold wX_getValue_80
            simp (disch := first | omega | decide) only [forall_eq, not_true, not_false_iff, false_implies, true_implies, true_and, and_true, ob_sub1, Nat.add_sub_cancel, nI_1, ob_ix, ob_iy, ob_ix24, ob_iy24, ob_ix10, ob_iy10, ob_ix4, ob_iy4, ob_ix3, ob_iy3, ob_s1, ob_s2, ob_s3, ob_s4, ob_ltl, ob_lel, ob_eql, ob_ltr, ob_ler, ob_uN, Nat.add_one_ne_zero, ob_xs3, ob_lnn, ob_ltn, ob_eqn, Nat.not_lt_zero, Nat.zero_le, Nat.reduceEqDiff, Nat.reduceLeDiff, Nat.reduceLT, ob_eqll, Int32.reduceLT, Int32.reduceLE, eq_self_iff_true]
            exact hXp _ hp
          unfold wpX_getValue
          refine br_f hU (br_f hN (ob_objO hn ho _ ?_))
          refine hXl _ ?_
          simp (disch := first | omega | decide) only [forall_eq, not_true, not_false_iff, false_implies, true_implies, true_and, and_true, ob_sub1, Nat.add_sub_cancel, nI_1, ob_ix, ob_iy, ob_ix24, ob_iy24, ob_ix10, ob_iy10, ob_ix4, ob_iy4, ob_ix3, ob_iy3, ob_s1, ob_s2, ob_s3, ob_s4, ob_ltl, ob_lel, ob_eql, ob_ltr, ob_ler, ob_uN, Nat.add_one_ne_zero, ob_xs3, ob_lnn, ob_ltn, ob_eqn, Nat.not_lt_zero, Nat.zero_le, Nat.reduceEqDiff, Nat.reduceLeDiff, Nat.reduceLT, ob_eqll, Int32.reduceLT, Int32.reduceLE, eq_self_iff_true]
          by_cases h1 : xPk (32 * q + k) = 1
          · exact br_t h1 h80
          · refine br_f h1 (br_t ?_ h80)
            rcases hpush with h | h
            · rcases hs with ⟨_, h2⟩ | ⟨h2, _⟩
              · exact absurd h2 h1
              · exact absurd (h.symm.trans h2) (by decide)
            · exact h
        · have h82 : wY_fetch_82 post (nI (32 * q + k)) (nI n) (nI m) 0 (nI d) deep (nI b) thr thn res cStr (fun zz => nI (CL zz)) cOp cA cB (fun zz => nI (OK zz)) oKin yCo yAr oOpen (fun zz => nI (M zz)) (fun zz => ob_yf (tw zz) (te zz) (tc zz)) yPair ySeen pVal ySet (fun zz => ob_th (S zz)) yStay aOut aVar yArg (fun zz => nI (FC zz)) (fun zz => nI (FA zz)) (fun zz => nI (FP zz)) (fun zz => nI (FH zz)) yHan (fun zz => nI (FT zz)) (fun zz => nI (TA zz)) (fun zz => nI (TH zz)) fSelf yKept stk := by
            unfold wY_fetch_82 wY_fetch_101
            simp (disch := first | omega | decide) only [forall_eq, not_true, not_false_iff, false_implies, true_implies, true_and, and_true, ob_sub1, Nat.add_sub_cancel, nI_1, ob_ix, ob_iy, ob_ix24, ob_iy24, ob_ix10, ob_iy10, ob_ix4, ob_iy4, ob_ix3, ob_iy3, ob_s1, ob_s2, ob_s3, ob_s4, ob_ltl, ob_lel, ob_eql, ob_ltr, ob_ler, ob_uN, Nat.add_one_ne_zero, ob_xs3, ob_lnn, ob_ltn, ob_eqn, Nat.not_lt_zero, Nat.zero_le, Nat.reduceEqDiff, Nat.reduceLeDiff, Nat.reduceLT, ob_eqll, Int32.reduceLT, Int32.reduceLE, eq_self_iff_true]
            exact hYp _ hp
          unfold wpY_fetch
          refine ob_isoT o (by omega) _ (br_f (by decide) ?_)
          unfold wpY_number
          rw [ob_numb]
          refine hYl _ ?_
          unfold wY_fetch_20
          refine br_f hU (br_f hN ?_)
          simp (disch := first | omega | decide) only [forall_eq, not_true, not_false_iff, false_implies, true_implies, true_and, and_true, ob_sub1, Nat.add_sub_cancel, nI_1, ob_ix, ob_iy, ob_ix24, ob_iy24, ob_ix10, ob_iy10, ob_ix4, ob_iy4, ob_ix3, ob_iy3, ob_s1, ob_s2, ob_s3, ob_s4, ob_ltl, ob_lel, ob_eql, ob_ltr, ob_ler, ob_uN, Nat.add_one_ne_zero, ob_xs3, ob_lnn, ob_ltn, ob_eqn, Nat.not_lt_zero, Nat.zero_le, Nat.reduceEqDiff, Nat.reduceLeDiff, Nat.reduceLT, ob_eqll, Int32.reduceLT, Int32.reduceLE, eq_self_iff_true]
          by_cases h1 : yPair (32 * q + k) = 0
          · exact br_t h1 h82
          · refine br_f h1 (br_t ?_ h82)
            rcases hpush with h | h
            · exact absurd h h1
            · exact h
      · have hp1 : ¬ yPair (32 * q + k) = 0 := fun z => hpush (Or.inl z)
        have hp2 : ¬ pVal (32 * q + k) = 8589934592 := fun z => hpush (Or.inr z)
        have hp3 : ¬ xPk (32 * q + k) = 1 := by
          rcases hs with ⟨h2, _⟩ | ⟨_, h2, _⟩
          · exact absurd h2 hp1
          · rw [h2]; decide
        obtain ⟨d', deep', thr', thn', S', aOut', aVar', FC', FA', FP', FH', FT', fSelf', XH', yHan', xHeld', yKept', yStay', R2, hw2, hXe, hYe⟩ := ob_enter (self := lN (17179869184 + o)) (held := 8589934592) (kept := 0) (c := 0) (t := 0) (deep := deep) (cStr := cStr) (oOpen := oOpen) (te := te) (xArg := xArg) (ySeen := ySeen) (yArg := yArg) R hres hv hb (by decide) (fun z => absurd rfl z) (by decide) (fun k hk => absurd hk (by omega))
        refine ⟨_, _, ob_S_mk (deep := deep') (cStr := cStr) (oOpen := oOpen) (te := te) (xArg := xArg) (ySeen := ySeen) (yArg := yArg) (yGiven := 0) R2 hm (by omega), fun post hp => ?_, fun post hp => ?_⟩
        · unfold wpX_getValue
          refine br_f hU (br_f hN (ob_objO hn ho _ ?_))
          refine hXl _ ?_
          simp (disch := first | omega | decide) only [hp2, hp3, forall_eq, not_true, not_false_iff, false_implies, true_implies, true_and, and_true, ob_sub1, Nat.add_sub_cancel, nI_1, ob_ix, ob_iy, ob_ix24, ob_iy24, ob_ix10, ob_iy10, ob_ix4, ob_iy4, ob_ix3, ob_iy3, ob_s1, ob_s2, ob_s3, ob_s4, ob_ltl, ob_lel, ob_eql, ob_ltr, ob_ler, ob_uN, Nat.add_one_ne_zero, ob_xs3, ob_lnn, ob_ltn, ob_eqn, Nat.not_lt_zero, Nat.zero_le, Nat.reduceEqDiff, Nat.reduceLeDiff, Nat.reduceLT, ob_eqll, Int32.reduceLT, Int32.reduceLE, eq_self_iff_true]
          exact hXe _ hp
        · unfold wpY_fetch
          refine ob_isoT o (by omega) _ (br_f (by decide) ?_)
          unfold wpY_number
          rw [ob_numb]
          refine hYl _ ?_
          unfold wY_fetch_20
          refine br_f hU (br_f hN ?_)
          simp (disch := first | omega | decide) only [hp1, hp2, forall_eq, not_true, not_false_iff, false_implies, true_implies, true_and, and_true, ob_sub1, Nat.add_sub_cancel, nI_1, ob_ix, ob_iy, ob_ix24, ob_iy24, ob_ix10, ob_iy10, ob_ix4, ob_iy4, ob_ix3, ob_iy3, ob_s1, ob_s2, ob_s3, ob_s4, ob_ltl, ob_lel, ob_eql, ob_ltr, ob_ler, ob_uN, Nat.add_one_ne_zero, ob_xs3, ob_lnn, ob_ltn, ob_eqn, Nat.not_lt_zero, Nat.zero_le, Nat.reduceEqDiff, Nat.reduceLeDiff, Nat.reduceLT, ob_eqll, Int32.reduceLT, Int32.reduceLE, eq_self_iff_true]
          exact hYe _ hp
end
