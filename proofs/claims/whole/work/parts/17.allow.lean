/-! ===== what may be done: isForbidden and allows ===== -/
def ob_alw (sV sG sS sW sE sC oW oE oC w e c pair eqV eqS : Bool) : Bool :=
  c || (!(sC && oC) && !(sE && (oE != e)) && (if pair then !(sV || sW) && (!sG || eqV) && (!sS || eqS) else !(sG || sS) && (w || (!(sW && oW) && (!sV || eqV)))))
section
variable {n : Nat} {d : Nat} {b : Nat} {m : Nat} {deep : Int32} {res : Int64} {thr : Int32} {thn : Int64} {CL : Nat → Nat} {cStr : Nat → Int32} {cOp : Nat → Int32} {cA : Nat → Int32} {cB : Nat → Int32} {OK : Nat → Nat} {oKin : Nat → Int32} {oOpen : Nat → Int32} {pVal : Nat → Int64} {aOut : Nat → Int32} {aVar : Nat → Int64} {FC : Nat → Nat} {FA : Nat → Nat} {FP : Nat → Nat} {FH : Nat → Nat} {FT : Nat → Nat} {fSelf : Nat → Int64} {stk : Nat → Int64} {TA : Nat → Nat} {TH : Nat → Nat} {xFc : Nat → Int32} {xFs : Nat → Int32} {xPc : Nat → Int32} {xKo : Nat → Int32} {xPk : Nat → Int32} {tw : Nat → Bool} {te : Nat → Bool} {tc : Nat → Bool} {xSet : Nat → Int64} {S : Nat → Nat} {XH : Nat → Nat} {xHeld : Nat → Int64} {xArg : Nat → Int64} {yCo : Nat → Int32} {yAr : Nat → Int32} {M : Nat → Nat} {yPair : Nat → Int32} {ySeen : Nat → Int32} {ySet : Nat → Int64} {yStay : Nat → Int32} {yArg : Nat → Int64} {yHan : Nat → Int32} {yKept : Nat → Int64} {yGiven : Int32}
variable {o k i : Nat} {sV sG sS sW sE sC oW oE oC pW pE pC : Bool} {v w wy : Int64}
theorem ob_forbX (ho : o < 32) (hk : k < 32) (hpk : xPk (32 * o + k) = 1 ∨ xPk (32 * o + k) = 2) (post : Int32 → Prop)
    (hp : post (ob_01 (!ob_alw sV sG sS sW sE sC oW oE oC (tw (32 * o + k)) (te (32 * o + k)) (tc (32 * o + k)) (decide (xPk (32 * o + k) = 2)) (decide (v = pVal (32 * o + k))) (decide (w = xSet (32 * o + k)))))) :
    wpX_isForbidden post (nI n, nI d, nI b, deep, res, thr, thn, (fun zz => nI (CL zz)), cStr, cOp, cA, cB, (fun zz => nI (OK zz)), oKin, oOpen, xFc, xFs, xPc, xKo, xPk, (fun zz => ob_xa (tw zz) (te zz) (tc zz)), pVal, xSet, (fun zz => nI (S zz)), aOut, aVar, (fun zz => nI (FC zz)), (fun zz => nI (FP zz)), (fun zz => nI (FA zz)), (fun zz => nI (FH zz)), (fun zz => nI (XH zz)), (fun zz => nI (FT zz)), fSelf, xHeld, stk, (fun zz => nI (TA zz)), (fun zz => nI (TH zz)), xArg) (nI o) (nI k) (ob_xs sV sG sS sW sE sC oW oE oC) v w := by
  have hpk0 : ¬ xPk (32 * o + k) = 0 := by
    rcases hpk with h | h <;> rw [h] <;> decide
  unfold wpX_isForbidden
  simp (disch := first | omega | decide) only [hpk0, ob_xso, forall_eq, not_true, not_false_iff, false_implies, true_implies, true_and, and_true, ob_sub1, Nat.add_sub_cancel, nI_1, ob_ix, ob_iy, ob_ix24, ob_iy24, ob_ix10, ob_iy10, ob_ix4, ob_iy4, ob_ix3, ob_iy3, ob_s1, ob_s2, ob_s3, ob_s4, ob_ltl, ob_lel, ob_eql, ob_ltr, ob_ler, ob_uN, Nat.add_one_ne_zero, ob_xs3, ob_lnn, ob_ltn, ob_eqn, Nat.not_lt_zero, Nat.zero_le, Nat.reduceEqDiff, Nat.reduceLeDiff, Nat.reduceLT, ob_eqll, Int32.reduceLT, Int32.reduceLE, eq_self_iff_true]
  unfold ob_alw at hp
  generalize htc : tc (32 * o + k) = c at hp ⊢
  generalize htw : tw (32 * o + k) = a at hp ⊢
  generalize hte : te (32 * o + k) = b' at hp ⊢
  cases c
  · refine br_t ((ob_xaC _ _ _).mpr rfl) ?_
    by_cases hC : (sC && oC) = true
    · rw [hC] at hp ⊢
      exact br_f (fun z => absurd ((ob_xaC _ _ _).mp z) (by decide)) hp
    · have hC' : (sC && oC) = false := by simpa using hC
      rw [hC'] at hp ⊢
      refine br_t ((ob_xaC _ _ _).mpr rfl) ?_
      have h94 : (sE && (oE != b')) = false → wX_isForbidden_94 post (ob_xs sV sG sS sW sE sC oW oE oC) v w (nI (32 * o + k)) (xPk (32 * o + k)) (ob_xa a b' false) (ob_xa (sW && oW) (sE && oE) false) (nI n) (nI d) (nI b) deep res thr thn (fun zz => nI (CL zz)) cStr cOp cA cB (fun zz => nI (OK zz)) oKin oOpen xFc xFs xPc xKo xPk (fun zz => ob_xa (tw zz) (te zz) (tc zz)) pVal xSet (fun zz => nI (S zz)) aOut aVar (fun zz => nI (FC zz)) (fun zz => nI (FP zz)) (fun zz => nI (FA zz)) (fun zz => nI (FH zz)) (fun zz => nI (XH zz)) (fun zz => nI (FT zz)) fSelf xHeld stk (fun zz => nI (TA zz)) (fun zz => nI (TH zz)) xArg := by
        intro hE
        rw [hE] at hp
        unfold wX_isForbidden_94
        simp (disch := first | omega | decide) only [forall_eq, not_true, not_false_iff, false_implies, true_implies, true_and, and_true, ob_sub1, Nat.add_sub_cancel, nI_1, ob_ix, ob_iy, ob_ix24, ob_iy24, ob_ix10, ob_iy10, ob_ix4, ob_iy4, ob_ix3, ob_iy3, ob_s1, ob_s2, ob_s3, ob_s4, ob_ltl, ob_lel, ob_eql, ob_ltr, ob_ler, ob_uN, Nat.add_one_ne_zero, ob_xs3, ob_lnn, ob_ltn, ob_eqn, Nat.not_lt_zero, Nat.zero_le, Nat.reduceEqDiff, Nat.reduceLeDiff, Nat.reduceLT, ob_eqll, Int32.reduceLT, Int32.reduceLE, eq_self_iff_true]
        have h112 : ∀ z0 : Int32, (z0 = 0 ∧ decide (v = pVal (32 * o + k)) = true ∨ z0 = 1 ∧ decide (v = pVal (32 * o + k)) = false) → wX_isForbidden_112 post (ob_xs sV sG sS sW sE sC oW oE oC) w (nI (32 * o + k)) (xPk (32 * o + k)) (ob_xa a b' false) (ob_xa (sW && oW) (sE && oE) false) z0 (nI n) (nI d) (nI b) deep res thr thn (fun zz => nI (CL zz)) cStr cOp cA cB (fun zz => nI (OK zz)) oKin oOpen xFc xFs xPc xKo xPk (fun zz => ob_xa (tw zz) (te zz) (tc zz)) pVal xSet (fun zz => nI (S zz)) aOut aVar (fun zz => nI (FC zz)) (fun zz => nI (FP zz)) (fun zz => nI (FA zz)) (fun zz => nI (FH zz)) (fun zz => nI (XH zz)) (fun zz => nI (FT zz)) fSelf xHeld stk (fun zz => nI (TA zz)) (fun zz => nI (TH zz)) xArg := by
          intro z0 hz
          unfold wX_isForbidden_112
          rcases hpk with h | h
          · rw [h] at hp ⊢
            refine br_f (by decide) ?_
            cases hA : (sG || sS)
            · rw [hA] at hp
              refine br_t ((ob_xsA _ _ _ _ _ _ _ _ _).mpr (by simpa using hA)) ?_
              cases a
              · refine br_t ((ob_xaW _ _ _).mpr rfl) ?_
                cases hW : (sW && oW)
                · rw [hW] at hp
                  refine br_t ((ob_xaW _ _ _).mpr rfl) ?_
                  cases sV
                  · exact br_t ((ob_xsV _ _ _ _ _ _ _ _ _).mpr rfl) hp
                  · refine br_f (fun z => absurd ((ob_xsV _ _ _ _ _ _ _ _ _).mp z) (by decide)) ?_
                    rcases hz with ⟨rfl, hz⟩ | ⟨rfl, hz⟩
                    · rw [hz] at hp
                      exact br_t rfl hp
                    · rw [hz] at hp
                      exact br_f (by decide) hp
                · rw [hW] at hp
                  exact br_f (fun z => absurd ((ob_xaW _ _ _).mp z) (by decide)) hp
              · exact br_f (fun z => absurd ((ob_xaW _ _ _).mp z) (by decide)) hp
            · rw [hA] at hp
              refine br_f (fun z => ?_) hp
              have := (ob_xsA _ _ _ _ _ _ _ _ _).mp z
              simp [this.1, this.2] at hA
          · rw [h] at hp ⊢
            refine br_t rfl ?_
            have h166 : ∀ x13 z1 : Int32, (x13 = 0 ∧ (!sG || decide (v = pVal (32 * o + k))) = true ∨ x13 = 1 ∧ (!sG || decide (v = pVal (32 * o + k))) = false) → (z1 = 0 ∧ (!sS || decide (w = xSet (32 * o + k))) = true ∨ z1 = 1 ∧ (!sS || decide (w = xSet (32 * o + k))) = false) →
                wX_isForbidden_166 post (ob_xs sV sG sS sW sE sC oW oE oC) x13 z1 (nI n) (nI d) (nI b) deep res thr thn (fun zz => nI (CL zz)) cStr cOp cA cB (fun zz => nI (OK zz)) oKin oOpen xFc xFs xPc xKo xPk (fun zz => ob_xa (tw zz) (te zz) (tc zz)) pVal xSet (fun zz => nI (S zz)) aOut aVar (fun zz => nI (FC zz)) (fun zz => nI (FP zz)) (fun zz => nI (FA zz)) (fun zz => nI (FH zz)) (fun zz => nI (XH zz)) (fun zz => nI (FT zz)) fSelf xHeld stk (fun zz => nI (TA zz)) (fun zz => nI (TH zz)) xArg := by
              intro x13 z1 h13 h1
              unfold wX_isForbidden_166
              cases hD : (sV || sW)
              · rw [hD] at hp
                refine br_t ((ob_xsD _ _ _ _ _ _ _ _ _).mpr (by simpa using hD)) ?_
                rcases h13 with ⟨rfl, h13⟩ | ⟨rfl, h13⟩
                · rw [h13] at hp
                  refine br_t rfl ?_
                  rcases h1 with ⟨rfl, h1⟩ | ⟨rfl, h1⟩
                  · rw [h1] at hp
                    exact br_t rfl hp
                  · rw [h1] at hp
                    exact br_f (by decide) hp
                · rw [h13] at hp
                  exact br_f (by decide) hp
              · rw [hD] at hp
                refine br_f (fun z => ?_) hp
                have := (ob_xsD _ _ _ _ _ _ _ _ _).mp z
                simp [this.1, this.2] at hD
            have h138 : ∀ x13 : Int32, (x13 = 0 ∧ (!sG || decide (v = pVal (32 * o + k))) = true ∨ x13 = 1 ∧ (!sG || decide (v = pVal (32 * o + k))) = false) → wX_isForbidden_138 post (ob_xs sV sG sS sW sE sC oW oE oC) w (nI (32 * o + k)) x13 (nI n) (nI d) (nI b) deep res thr thn (fun zz => nI (CL zz)) cStr cOp cA cB (fun zz => nI (OK zz)) oKin oOpen xFc xFs xPc xKo xPk (fun zz => ob_xa (tw zz) (te zz) (tc zz)) pVal xSet (fun zz => nI (S zz)) aOut aVar (fun zz => nI (FC zz)) (fun zz => nI (FP zz)) (fun zz => nI (FA zz)) (fun zz => nI (FH zz)) (fun zz => nI (XH zz)) (fun zz => nI (FT zz)) fSelf xHeld stk (fun zz => nI (TA zz)) (fun zz => nI (TH zz)) xArg := by
              intro x13 h13
              unfold wX_isForbidden_138 wX_isForbidden_165
              cases hS : sS
              · subst hS
                exact br_t ((ob_xsS _ _ _ _ _ _ _ _ _).mpr rfl) (h166 x13 0 h13 (Or.inl ⟨rfl, rfl⟩))
              · subst hS
                refine br_f (fun z => absurd ((ob_xsS _ _ _ _ _ _ _ _ _).mp z) (by decide)) ?_
                simp (disch := first | omega | decide) only [forall_eq, not_true, not_false_iff, false_implies, true_implies, true_and, and_true, ob_sub1, Nat.add_sub_cancel, nI_1, ob_ix, ob_iy, ob_ix24, ob_iy24, ob_ix10, ob_iy10, ob_ix4, ob_iy4, ob_ix3, ob_iy3, ob_s1, ob_s2, ob_s3, ob_s4, ob_ltl, ob_lel, ob_eql, ob_ltr, ob_ler, ob_uN, Nat.add_one_ne_zero, ob_xs3, ob_lnn, ob_ltn, ob_eqn, Nat.not_lt_zero, Nat.zero_le, Nat.reduceEqDiff, Nat.reduceLeDiff, Nat.reduceLT, ob_eqll, Int32.reduceLT, Int32.reduceLE, eq_self_iff_true]
                by_cases hq : w = xSet (32 * o + k)
                · exact br_t hq (h166 x13 0 h13 (Or.inl ⟨rfl, by simp [hq]⟩))
                · exact br_f hq (h166 x13 1 h13 (Or.inr ⟨rfl, by simp [hq]⟩))
            unfold wX_isForbidden_137
            cases hG : sG
            · subst hG
              exact br_t ((ob_xsG _ _ _ _ _ _ _ _ _).mpr rfl) (h138 0 (Or.inl ⟨rfl, rfl⟩))
            · subst hG
              refine br_f (fun z => absurd ((ob_xsG _ _ _ _ _ _ _ _ _).mp z) (by decide)) ?_
              rcases hz with ⟨rfl, hz⟩ | ⟨rfl, hz⟩
              · exact br_t rfl (h138 0 (Or.inl ⟨rfl, by rw [hz]; rfl⟩))
              · exact br_f (by decide) (h138 1 (Or.inr ⟨rfl, by rw [hz]; rfl⟩))
        by_cases hq : v = pVal (32 * o + k)
        · exact br_t hq (h112 0 (Or.inl ⟨rfl, by simp [hq]⟩))
        · exact br_f hq (h112 1 (Or.inr ⟨rfl, by simp [hq]⟩))
      cases hE : sE
      · subst hE
        exact br_t ((ob_xsE _ _ _ _ _ _ _ _ _).mpr rfl) (h94 rfl)
      · subst hE
        refine br_f (fun z => absurd ((ob_xsE _ _ _ _ _ _ _ _ _).mp z) (by decide)) ?_
        by_cases hq : oE = b'
        · exact br_t ((ob_xaEE _ _ _ _ _ _).mpr (by simpa using hq)) (h94 (by simp [hq]))
        · refine br_f (fun z => hq (by simpa using (ob_xaEE _ _ _ _ _ _).mp z)) ?_
          have hE2 : (oE != b') = true := by simpa using hq
          rw [hE2] at hp
          exact hp
  · exact br_f (fun z => absurd ((ob_xaC _ _ _).mp z) (by decide)) hp
theorem ob_alwY (hpo : ob_po sW sE sC oW oE oC pW pE pC) (hi : i < 1024) (hpr : yPair i = 0 ∨ yPair i = 1) (post : Int32 → Prop)
    (hp : post (ob_01 (ob_alw sV sG sS sW sE sC oW oE oC (tw i) (te i) (tc i) (decide (yPair i = 1)) (decide (v = pVal i)) (decide (wy = ySet i))))) :
    wpY_allows post (nI n, nI m, yGiven, nI d, deep, nI b, thr, thn, res, cStr, (fun zz => nI (CL zz)), cOp, cA, cB, (fun zz => nI (OK zz)), oKin, yCo, yAr, oOpen, (fun zz => nI (M zz)), (fun zz => ob_yf (tw zz) (te zz) (tc zz)), yPair, ySeen, pVal, ySet, (fun zz => ob_th (S zz)), yStay, aOut, aVar, yArg, (fun zz => nI (FC zz)), (fun zz => nI (FA zz)), (fun zz => nI (FP zz)), (fun zz => nI (FH zz)), yHan, (fun zz => nI (FT zz)), (fun zz => nI (TA zz)), (fun zz => nI (TH zz)), fSelf, yKept, stk) (nI i) (ob_ys sV sG sS sW sE sC) (ob_yf pW pE pC) v wy := by
  have h25 : wY_allows_25 post (nI i) (ob_ys sV sG sS sW sE sC) (ob_yf pW pE pC) v wy (ob_01 (sV || sW)) (ob_01 (sG || sS)) (nI n) (nI m) yGiven (nI d) deep (nI b) thr thn res cStr (fun zz => nI (CL zz)) cOp cA cB (fun zz => nI (OK zz)) oKin yCo yAr oOpen (fun zz => nI (M zz)) (fun zz => ob_yf (tw zz) (te zz) (tc zz)) yPair ySeen pVal ySet (fun zz => ob_th (S zz)) yStay aOut aVar yArg (fun zz => nI (FC zz)) (fun zz => nI (FA zz)) (fun zz => nI (FP zz)) (fun zz => nI (FH zz)) yHan (fun zz => nI (FT zz)) (fun zz => nI (TA zz)) (fun zz => nI (TH zz)) fSelf yKept stk := by
    unfold wY_allows_25
    simp (disch := first | omega | decide) only [forall_eq, not_true, not_false_iff, false_implies, true_implies, true_and, and_true, ob_sub1, Nat.add_sub_cancel, nI_1, ob_ix, ob_iy, ob_ix24, ob_iy24, ob_ix10, ob_iy10, ob_ix4, ob_iy4, ob_ix3, ob_iy3, ob_s1, ob_s2, ob_s3, ob_s4, ob_ltl, ob_lel, ob_eql, ob_ltr, ob_ler, ob_uN, Nat.add_one_ne_zero, ob_xs3, ob_lnn, ob_ltn, ob_eqn, Nat.not_lt_zero, Nat.zero_le, Nat.reduceEqDiff, Nat.reduceLeDiff, Nat.reduceLT, ob_eqll, Int32.reduceLT, Int32.reduceLE, eq_self_iff_true]
    unfold ob_alw at hp
    generalize htc : tc i = c at hp ⊢
    generalize htw : tw i = a at hp ⊢
    generalize hte : te i = b' at hp ⊢
    cases c
    · refine br_t ((ob_yfC _ _ _).mpr rfl) ?_
      by_cases hC : (sC && oC) = true
      · rw [hC] at hp
        exact br_f (fun z => absurd ((ob_ysC _ _ _ _ _ _ _ _ _).mp z) (by rw [ob_po2 hpo.2.2, hC]; decide)) hp
      have hC' : (sC && oC) = false := by simpa using hC
      rw [hC'] at hp
      refine br_t ((ob_ysC _ _ _ _ _ _ _ _ _).mpr ((ob_po2 hpo.2.2).trans hC')) ?_
      by_cases hE : (sE && (oE != b')) = true
      · rw [hE] at hp
        exact br_f (fun z => absurd ((ob_ysE _ _ _ _ _ _ _ _ _ _ _ _).mp z) (by rw [ob_po3 hpo.2.1, hE]; decide)) hp
      have hE' : (sE && (oE != b')) = false := by simpa using hE
      rw [hE'] at hp
      refine br_t ((ob_ysE _ _ _ _ _ _ _ _ _ _ _ _).mpr ((ob_po3 hpo.2.1).trans hE')) ?_
      rcases hpr with h | h
      · rw [h] at hp
        have h80 : wY_allows_80 post (nI i) (ob_ys sV sG sS sW sE sC) (ob_yf pW pE pC) v wy (ob_01 (sG || sS)) (nI n) (nI m) yGiven (nI d) deep (nI b) thr thn res cStr (fun zz => nI (CL zz)) cOp cA cB (fun zz => nI (OK zz)) oKin yCo yAr oOpen (fun zz => nI (M zz)) (fun zz => ob_yf (tw zz) (te zz) (tc zz)) yPair ySeen pVal ySet (fun zz => ob_th (S zz)) yStay aOut aVar yArg (fun zz => nI (FC zz)) (fun zz => nI (FA zz)) (fun zz => nI (FP zz)) (fun zz => nI (FH zz)) yHan (fun zz => nI (FT zz)) (fun zz => nI (TA zz)) (fun zz => nI (TH zz)) fSelf yKept stk := by
          unfold wY_allows_80
          cases hA : (sG || sS)
          · rw [hA] at hp
            refine br_t rfl ?_
            unfold wY_allows_96
            simp (disch := first | omega | decide) only [h, htw, hte, htc, forall_eq, not_true, not_false_iff, false_implies, true_implies, true_and, and_true, ob_sub1, Nat.add_sub_cancel, nI_1, ob_ix, ob_iy, ob_ix24, ob_iy24, ob_ix10, ob_iy10, ob_ix4, ob_iy4, ob_ix3, ob_iy3, ob_s1, ob_s2, ob_s3, ob_s4, ob_ltl, ob_lel, ob_eql, ob_ltr, ob_ler, ob_uN, Nat.add_one_ne_zero, ob_xs3, ob_lnn, ob_ltn, ob_eqn, Nat.not_lt_zero, Nat.zero_le, Nat.reduceEqDiff, Nat.reduceLeDiff, Nat.reduceLT, ob_eqll, Int32.reduceLT, Int32.reduceLE, eq_self_iff_true]
            cases a
            · refine br_t ((ob_yfW _ _ _).mpr rfl) ?_
              cases hW : (sW && oW)
              · rw [hW] at hp
                refine br_t ((ob_ysW _ _ _ _ _ _ _ _ _).mpr ((ob_po2 hpo.1).trans hW)) ?_
                cases sV
                · exact br_t ((ob_ysV _ _ _ _ _ _).mpr rfl) hp
                · refine br_f (fun z => absurd ((ob_ysV _ _ _ _ _ _).mp z) (by decide)) ?_
                  by_cases hq : v = pVal i
                  · rw [decide_eq_true hq] at hp
                    exact br_t hq hp
                  · rw [decide_eq_false hq] at hp
                    exact br_f hq hp
              · rw [hW] at hp
                exact br_f (fun z => absurd ((ob_ysW _ _ _ _ _ _ _ _ _).mp z) (by rw [ob_po2 hpo.1, hW]; decide)) hp
            · exact br_f (fun z => absurd ((ob_yfW _ _ _).mp z) (by decide)) hp
          · rw [hA] at hp
            refine br_f (by decide) ?_
            simp (disch := first | omega | decide) only [h, forall_eq, not_true, not_false_iff, false_implies, true_implies, true_and, and_true, ob_sub1, Nat.add_sub_cancel, nI_1, ob_ix, ob_iy, ob_ix24, ob_iy24, ob_ix10, ob_iy10, ob_ix4, ob_iy4, ob_ix3, ob_iy3, ob_s1, ob_s2, ob_s3, ob_s4, ob_ltl, ob_lel, ob_eql, ob_ltr, ob_ler, ob_uN, Nat.add_one_ne_zero, ob_xs3, ob_lnn, ob_ltn, ob_eqn, Nat.not_lt_zero, Nat.zero_le, Nat.reduceEqDiff, Nat.reduceLeDiff, Nat.reduceLT, ob_eqll, Int32.reduceLT, Int32.reduceLE, eq_self_iff_true]
            exact hp
        cases hD : (sV || sW)
        · exact br_t rfl h80
        · refine br_f (by decide) ?_
          exact br_t h h80
      · rw [h] at hp
        have h10 : ¬ yPair i = 0 := by rw [h]; decide
        have h96 : (sV || sW) = false → wY_allows_96 post (nI i) (ob_ys sV sG sS sW sE sC) (ob_yf pW pE pC) v wy (nI n) (nI m) yGiven (nI d) deep (nI b) thr thn res cStr (fun zz => nI (CL zz)) cOp cA cB (fun zz => nI (OK zz)) oKin yCo yAr oOpen (fun zz => nI (M zz)) (fun zz => ob_yf (tw zz) (te zz) (tc zz)) yPair ySeen pVal ySet (fun zz => ob_th (S zz)) yStay aOut aVar yArg (fun zz => nI (FC zz)) (fun zz => nI (FA zz)) (fun zz => nI (FP zz)) (fun zz => nI (FH zz)) yHan (fun zz => nI (FT zz)) (fun zz => nI (TA zz)) (fun zz => nI (TH zz)) fSelf yKept stk := by
          intro hD
          rw [hD] at hp
          have h123 : (!sG || decide (v = pVal i)) = true → wY_allows_123 post (nI i) (ob_ys sV sG sS sW sE sC) wy (nI n) (nI m) yGiven (nI d) deep (nI b) thr thn res cStr (fun zz => nI (CL zz)) cOp cA cB (fun zz => nI (OK zz)) oKin yCo yAr oOpen (fun zz => nI (M zz)) (fun zz => ob_yf (tw zz) (te zz) (tc zz)) yPair ySeen pVal ySet (fun zz => ob_th (S zz)) yStay aOut aVar yArg (fun zz => nI (FC zz)) (fun zz => nI (FA zz)) (fun zz => nI (FP zz)) (fun zz => nI (FH zz)) yHan (fun zz => nI (FT zz)) (fun zz => nI (TA zz)) (fun zz => nI (TH zz)) fSelf yKept stk := by
            intro hg
            rw [hg] at hp
            unfold wY_allows_123
            cases sS
            · exact br_t ((ob_ysS _ _ _ _ _ _).mpr rfl) hp
            · refine br_f (fun z => absurd ((ob_ysS _ _ _ _ _ _).mp z) (by decide)) ?_
              simp (disch := first | omega | decide) only [forall_eq, not_true, not_false_iff, false_implies, true_implies, true_and, and_true, ob_sub1, Nat.add_sub_cancel, nI_1, ob_ix, ob_iy, ob_ix24, ob_iy24, ob_ix10, ob_iy10, ob_ix4, ob_iy4, ob_ix3, ob_iy3, ob_s1, ob_s2, ob_s3, ob_s4, ob_ltl, ob_lel, ob_eql, ob_ltr, ob_ler, ob_uN, Nat.add_one_ne_zero, ob_xs3, ob_lnn, ob_ltn, ob_eqn, Nat.not_lt_zero, Nat.zero_le, Nat.reduceEqDiff, Nat.reduceLeDiff, Nat.reduceLT, ob_eqll, Int32.reduceLT, Int32.reduceLE, eq_self_iff_true]
              by_cases hq : wy = ySet i
              · rw [decide_eq_true hq] at hp
                exact br_t hq hp
              · rw [decide_eq_false hq] at hp
                exact br_f hq hp
          unfold wY_allows_96
          simp (disch := first | omega | decide) only [h10, forall_eq, not_true, not_false_iff, false_implies, true_implies, true_and, and_true, ob_sub1, Nat.add_sub_cancel, nI_1, ob_ix, ob_iy, ob_ix24, ob_iy24, ob_ix10, ob_iy10, ob_ix4, ob_iy4, ob_ix3, ob_iy3, ob_s1, ob_s2, ob_s3, ob_s4, ob_ltl, ob_lel, ob_eql, ob_ltr, ob_ler, ob_uN, Nat.add_one_ne_zero, ob_xs3, ob_lnn, ob_ltn, ob_eqn, Nat.not_lt_zero, Nat.zero_le, Nat.reduceEqDiff, Nat.reduceLeDiff, Nat.reduceLT, ob_eqll, Int32.reduceLT, Int32.reduceLE, eq_self_iff_true]
          cases sG
          · exact br_t ((ob_ysG _ _ _ _ _ _).mpr rfl) (h123 rfl)
          · refine br_f (fun z => absurd ((ob_ysG _ _ _ _ _ _).mp z) (by decide)) ?_
            by_cases hq : v = pVal i
            · exact br_t hq (h123 (by simp [hq]))
            · rw [decide_eq_false hq] at hp
              exact br_f hq hp
        have h80 : (sV || sW) = false → wY_allows_80 post (nI i) (ob_ys sV sG sS sW sE sC) (ob_yf pW pE pC) v wy (ob_01 (sG || sS)) (nI n) (nI m) yGiven (nI d) deep (nI b) thr thn res cStr (fun zz => nI (CL zz)) cOp cA cB (fun zz => nI (OK zz)) oKin yCo yAr oOpen (fun zz => nI (M zz)) (fun zz => ob_yf (tw zz) (te zz) (tc zz)) yPair ySeen pVal ySet (fun zz => ob_th (S zz)) yStay aOut aVar yArg (fun zz => nI (FC zz)) (fun zz => nI (FA zz)) (fun zz => nI (FP zz)) (fun zz => nI (FH zz)) yHan (fun zz => nI (FT zz)) (fun zz => nI (TA zz)) (fun zz => nI (TH zz)) fSelf yKept stk := by
          intro hD
          unfold wY_allows_80
          cases hA : (sG || sS)
          · exact br_t rfl (h96 hD)
          · refine br_f (by decide) ?_
            simp (disch := first | omega | decide) only [h10, forall_eq, not_true, not_false_iff, false_implies, true_implies, true_and, and_true, ob_sub1, Nat.add_sub_cancel, nI_1, ob_ix, ob_iy, ob_ix24, ob_iy24, ob_ix10, ob_iy10, ob_ix4, ob_iy4, ob_ix3, ob_iy3, ob_s1, ob_s2, ob_s3, ob_s4, ob_ltl, ob_lel, ob_eql, ob_ltr, ob_ler, ob_uN, Nat.add_one_ne_zero, ob_xs3, ob_lnn, ob_ltn, ob_eqn, Nat.not_lt_zero, Nat.zero_le, Nat.reduceEqDiff, Nat.reduceLeDiff, Nat.reduceLT, ob_eqll, Int32.reduceLT, Int32.reduceLE, eq_self_iff_true]
            exact h96 hD
        cases hD : (sV || sW)
        · exact br_t rfl (h80 hD)
        · rw [hD] at hp
          refine br_f (by decide) ?_
          exact br_f h10 hp
    · exact br_f (fun z => absurd ((ob_yfC _ _ _).mp z) (by decide)) hp
  unfold wpY_allows
  have h11 : wY_allows_11 post (nI i) (ob_ys sV sG sS sW sE sC) (ob_yf pW pE pC) v wy (ob_01 (sV || sW)) (nI n) (nI m) yGiven (nI d) deep (nI b) thr thn res cStr (fun zz => nI (CL zz)) cOp cA cB (fun zz => nI (OK zz)) oKin yCo yAr oOpen (fun zz => nI (M zz)) (fun zz => ob_yf (tw zz) (te zz) (tc zz)) yPair ySeen pVal ySet (fun zz => ob_th (S zz)) yStay aOut aVar yArg (fun zz => nI (FC zz)) (fun zz => nI (FA zz)) (fun zz => nI (FP zz)) (fun zz => nI (FH zz)) yHan (fun zz => nI (FT zz)) (fun zz => nI (TA zz)) (fun zz => nI (TH zz)) fSelf yKept stk := by
    unfold wY_allows_11
    cases hA : (sG || sS)
    · rw [hA] at h25
      exact br_t ((ob_ysA _ _ _ _ _ _).mpr (by simpa using hA)) h25
    · rw [hA] at h25
      refine br_f (fun z => ?_) h25
      have := (ob_ysA _ _ _ _ _ _).mp z
      simp [this.1, this.2] at hA
  cases hD : (sV || sW)
  · rw [hD] at h11
    exact br_t ((ob_ysD _ _ _ _ _ _).mpr (by simpa using hD)) h11
  · rw [hD] at h11
    refine br_f (fun z => ?_) h11
    have := (ob_ysD _ _ _ _ _ _).mp z
    simp [this.1, this.2] at hD
end
