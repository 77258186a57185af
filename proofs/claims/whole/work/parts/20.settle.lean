/-! ===== DEFINE: defineProperty and settle ===== -/
theorem ob_lN16 {v : Int64} (h0 : ¬ v < 0) (h : v ≤ 16) : ∃ l, l ≤ 16 ∧ v = lN l := by
  obtain ⟨l, hl, rfl⟩ := pk_lOf h0
  exact ⟨l, (pk_lLE (b := 16) hl (by decide)).mp h, rfl⟩
theorem ob_lNnum {l : Nat} (h : l < 2 ^ 31) : lN l = (lN l).toInt32.toInt64 := by
  rw [lN_i, nI_l h]
theorem ob_lNV (n : Nat) {l : Nat} (h : l < 2 ^ 31) : ob_V n (lN l) := Or.inl (ob_lNnum h)
theorem ob_isnT {l : Nat} (h : l < 2 ^ 31) (post : Int32 → Prop) (hp : post 1) : wpY_isNumber post (lN l) := by
  unfold wpY_isNumber
  exact br_t (ob_lNnum h) hp
section
variable {n : Nat} {d : Nat} {b : Nat} {m : Nat} {deep : Int32} {res : Int64} {thr : Int32} {thn : Int64} {CL : Nat → Nat} {cStr : Nat → Int32} {cOp : Nat → Int32} {cA : Nat → Int32} {cB : Nat → Int32} {OK : Nat → Nat} {oKin : Nat → Int32} {oOpen : Nat → Int32} {pVal : Nat → Int64} {aOut : Nat → Int32} {aVar : Nat → Int64} {FC : Nat → Nat} {FA : Nat → Nat} {FP : Nat → Nat} {FH : Nat → Nat} {FT : Nat → Nat} {fSelf : Nat → Int64} {stk : Nat → Int64} {TA : Nat → Nat} {TH : Nat → Nat} {xFc : Nat → Int32} {xFs : Nat → Int32} {xPc : Nat → Int32} {xKo : Nat → Int32} {xPk : Nat → Int32} {tw : Nat → Bool} {te : Nat → Bool} {tc : Nat → Bool} {xSet : Nat → Int64} {S : Nat → Nat} {XH : Nat → Nat} {xHeld : Nat → Int64} {xArg : Nat → Int64} {yCo : Nat → Int32} {yAr : Nat → Int32} {M : Nat → Nat} {yPair : Nat → Int32} {ySeen : Nat → Int32} {ySet : Nat → Int64} {yStay : Nat → Int32} {yArg : Nat → Int64} {yHan : Nat → Int32} {yKept : Nat → Int64} {yGiven : Int32}
variable {o k i l : Nat} {sV sG sS sW sE sC oW oE oC pW pE pC : Bool} {v w wy : Int64}
/-- the array's group behind a store -/
theorem ob_gY_st {M' : Nat → Nat} {pVal' : Nat → Int64} {yPair' : Nat → Int32} {tc' : Nat → Bool} (hY : ob_gY n OK M tc pVal yPair) (hk : k < 32)
    (ho : ∀ j, j ≠ 32 * o + k → M' j = M j ∧ pVal' j = pVal j ∧ yPair' j = yPair j ∧ tc' j = tc j) (hM : M' (32 * o + k) ≠ 0)
    (h16 : OK o = 1 → k = 16 → yPair' (32 * o + 16) = 0 ∧ tc' (32 * o + 16) = false ∧ ∃ l', l' ≤ 16 ∧ pVal' (32 * o + 16) = lN l' ∧ ∀ q, l' ≤ q → q < 16 → M (32 * o + q) = 0)
    (hlt : OK o = 1 → k < 16 → ∀ l, l ≤ 16 → pVal (32 * o + 16) = lN l → k < l) : ob_gY n OK M' tc' pVal' yPair' := by
  intro q hq h1
  obtain ⟨a1, a2, a3, l, a4, a5, a6⟩ := hY q hq h1
  by_cases z : q = o
  · subst z
    by_cases y : k = 16
    · subst y
      obtain ⟨b1, b2, l', b3, b4, b5⟩ := h16 h1 rfl
      exact ⟨hM, b1, b2, l', b3, b4, fun j hj hj2 => by rw [(ho _ (by omega)).1]; exact b5 j hj hj2⟩
    · obtain ⟨c1, c2, c3, c4⟩ := ho (32 * q + 16) (by omega)
      refine ⟨by rw [c1]; exact a1, by rw [c3]; exact a2, by rw [c4]; exact a3, l, a4, by rw [c2]; exact a5, fun j hj hj2 => ?_⟩
      by_cases x : j = k
      · have := hlt h1 (by omega) l a4 a5
        omega
      · rw [(ho _ (by omega)).1]
        exact a6 j hj hj2
  · obtain ⟨c1, c2, c3, c4⟩ := ho (32 * q + 16) (by omega)
    refine ⟨by rw [c1]; exact a1, by rw [c3]; exact a2, by rw [c4]; exact a3, l, a4, by rw [c2]; exact a5, fun j hj hj2 => ?_⟩
    rw [(ho _ (by omega)).1]
    exact a6 j hj hj2
/-- an element beyond the length: LENGTH follows -/
theorem ob_gY_gr {M' : Nat → Nat} {pVal' : Nat → Int64} {yPair' : Nat → Int32} {tc' : Nat → Bool} (hY : ob_gY n OK M tc pVal yPair) (hk : k < 16) (hl : l ≤ k) (hlv : pVal (32 * o + 16) = lN l)
    (ho : ∀ j, j ≠ 32 * o + k → M' j = M j ∧ pVal' j = pVal j ∧ yPair' j = yPair j ∧ tc' j = tc j) : ob_gY n OK M' tc' (vp_updL pVal' (32 * o + 16) (lN (k + 1))) yPair' := by
  intro q hq h1
  obtain ⟨a1, a2, a3, l2, a4, a5, a6⟩ := hY q hq h1
  obtain ⟨c1, c2, c3, c4⟩ := ho (32 * q + 16) (by omega)
  by_cases z : q = o
  · subst z
    have e : l2 = l := (pk_lEQ (by omega) (by omega)).mp (a5.symm.trans hlv)
    subst e
    refine ⟨by rw [c1]; exact a1, by rw [c3]; exact a2, by rw [c4]; exact a3, k + 1, by omega, pk_uLs, fun j hj hj2 => ?_⟩
    rw [(ho _ (by omega)).1]
    exact a6 j (by omega) hj2
  · refine ⟨by rw [c1]; exact a1, by rw [c3]; exact a2, by rw [c4]; exact a3, l2, a4, by rw [pk_uLn (by omega), c2]; exact a5, fun j hj hj2 => ?_⟩
    rw [(ho _ (by omega)).1]
    exact a6 j hj hj2
/-- is it forbidden? both sides -/
theorem ob_fb (hpo : ob_po sW sE sC oW oE oC pW pE pC) (hO : ob_gO n OK oKin) (hP : ob_gP n m M pVal xPk tw xSet yPair ySet) (ho : o < n) (hk : k < 32) (hm : m < 2 ^ 31) (hw : sS = true → w = wy) : ∃ fb : Bool,
    (fb = false → M (32 * o + k) ≠ 0 → ∃ eqS, ob_alw sV sG sS sW sE sC oW oE oC (tw (32 * o + k)) (te (32 * o + k)) (tc (32 * o + k)) (decide (yPair (32 * o + k) = 1)) (decide (v = pVal (32 * o + k))) eqS = true) ∧
    (fb = true → M (32 * o + k) ≠ 0 → yPair (32 * o + k) = 0 → ∀ eqS, ob_alw sV sG sS sW sE sC oW oE oC (tw (32 * o + k)) (te (32 * o + k)) (tc (32 * o + k)) false (decide (v = pVal (32 * o + k))) eqS = false) ∧
    (∀ post : Int32 → Prop, post (ob_01 fb) → wpX_isForbidden post (nI n, nI d, nI b, deep, res, thr, thn, (fun zz => nI (CL zz)), cStr, cOp, cA, cB, (fun zz => nI (OK zz)), oKin, oOpen, xFc, xFs, xPc, xKo, xPk, (fun zz => ob_xa (tw zz) (te zz) (tc zz)), pVal, xSet, (fun zz => nI (S zz)), aOut, aVar, (fun zz => nI (FC zz)), (fun zz => nI (FP zz)), (fun zz => nI (FA zz)), (fun zz => nI (FH zz)), (fun zz => nI (XH zz)), (fun zz => nI (FT zz)), fSelf, xHeld, stk, (fun zz => nI (TA zz)), (fun zz => nI (TH zz)), xArg) (nI o) (nI k) (ob_xs sV sG sS sW sE sC oW oE oC) v w) ∧
    (∀ (post : Int32 → SY → Prop) (x10 x12 : Int32), (fb = true → post 0 (nI n, nI m, yGiven, nI d, deep, nI b, thr, thn, res, cStr, (fun zz => nI (CL zz)), cOp, cA, cB, (fun zz => nI (OK zz)), oKin, yCo, yAr, oOpen, (fun zz => nI (M zz)), (fun zz => ob_yf (tw zz) (te zz) (tc zz)), yPair, ySeen, pVal, ySet, (fun zz => ob_th (S zz)), yStay, aOut, aVar, yArg, (fun zz => nI (FC zz)), (fun zz => nI (FA zz)), (fun zz => nI (FP zz)), (fun zz => nI (FH zz)), yHan, (fun zz => nI (FT zz)), (fun zz => nI (TA zz)), (fun zz => nI (TH zz)), fSelf, yKept, stk)) → (fb = false → wY_settle_201 post (nI k) (ob_ys sV sG sS sW sE sC) (ob_yf pW pE pC) v wy (nI (32 * o + k)) x10 x12 (nI n) (nI m) yGiven (nI d) deep (nI b) thr thn res cStr (fun zz => nI (CL zz)) cOp cA cB (fun zz => nI (OK zz)) oKin yCo yAr oOpen (fun zz => nI (M zz)) (fun zz => ob_yf (tw zz) (te zz) (tc zz)) yPair ySeen pVal ySet (fun zz => ob_th (S zz)) yStay aOut aVar yArg (fun zz => nI (FC zz)) (fun zz => nI (FA zz)) (fun zz => nI (FP zz)) (fun zz => nI (FH zz)) yHan (fun zz => nI (FT zz)) (fun zz => nI (TA zz)) (fun zz => nI (TH zz)) fSelf yKept stk) → wY_settle_161 post (nI o) (nI k) (ob_ys sV sG sS sW sE sC) (ob_yf pW pE pC) v wy (nI (32 * o + k)) x10 x12 (nI n) (nI m) yGiven (nI d) deep (nI b) thr thn res cStr (fun zz => nI (CL zz)) cOp cA cB (fun zz => nI (OK zz)) oKin yCo yAr oOpen (fun zz => nI (M zz)) (fun zz => ob_yf (tw zz) (te zz) (tc zz)) yPair ySeen pVal ySet (fun zz => ob_th (S zz)) yStay aOut aVar yArg (fun zz => nI (FC zz)) (fun zz => nI (FA zz)) (fun zz => nI (FP zz)) (fun zz => nI (FH zz)) yHan (fun zz => nI (FT zz)) (fun zz => nI (TA zz)) (fun zz => nI (TH zz)) fSelf yKept stk) := by
  have hn := hO.1.2
  have hMm := hP.1 (32 * o + k)
  rcases hP.2.2 (32 * o + k) (by omega) with ⟨h0, hpk⟩ | ⟨hM, hv, hs⟩
  · refine ⟨decide (oOpen o = 0), fun _ h => absurd h0 h, fun _ h => absurd h0 h, fun post hp => ?_, fun post x10 x12 hT hF => ?_⟩
    · unfold wpX_isForbidden
      simp (disch := first | omega | decide) only [hpk, forall_eq, not_true, not_false_iff, false_implies, true_implies, true_and, and_true, ob_sub1, Nat.add_sub_cancel, nI_1, ob_ix, ob_iy, ob_ix24, ob_iy24, ob_ix10, ob_iy10, ob_ix4, ob_iy4, ob_ix3, ob_iy3, ob_s1, ob_s2, ob_s3, ob_s4, ob_ltl, ob_lel, ob_eql, ob_ltr, ob_ler, ob_uN, Nat.add_one_ne_zero, ob_xs3, ob_lnn, ob_ltn, ob_eqn, Nat.not_lt_zero, Nat.zero_le, Nat.reduceEqDiff, Nat.reduceLeDiff, Nat.reduceLT, ob_eqll, Int32.reduceLT, Int32.reduceLE, eq_self_iff_true]
      by_cases z : oOpen o = 0
      · rw [decide_eq_true z] at hp
        exact br_t z hp
      · rw [decide_eq_false z] at hp
        exact br_f z hp
    · unfold wY_settle_161
      simp (disch := first | omega | decide) only [h0, forall_eq, not_true, not_false_iff, false_implies, true_implies, true_and, and_true, ob_sub1, Nat.add_sub_cancel, nI_1, ob_ix, ob_iy, ob_ix24, ob_iy24, ob_ix10, ob_iy10, ob_ix4, ob_iy4, ob_ix3, ob_iy3, ob_s1, ob_s2, ob_s3, ob_s4, ob_ltl, ob_lel, ob_eql, ob_ltr, ob_ler, ob_uN, Nat.add_one_ne_zero, ob_xs3, ob_lnn, ob_ltn, ob_eqn, Nat.not_lt_zero, Nat.zero_le, Nat.reduceEqDiff, Nat.reduceLeDiff, Nat.reduceLT, ob_eqll, Int32.reduceLT, Int32.reduceLE, eq_self_iff_true]
      by_cases z : oOpen o = 0
      · exact br_t z (hT (decide_eq_true z))
      · exact br_f z (hF (decide_eq_false z))
  · have hpr : yPair (32 * o + k) = 0 ∨ yPair (32 * o + k) = 1 := by
      rcases hs with h | h
      · exact Or.inl h.1
      · exact Or.inr h.1
    have hpkk : xPk (32 * o + k) = 1 ∨ xPk (32 * o + k) = 2 := by
      rcases hs with h | h
      · exact Or.inl h.2
      · exact Or.inr h.2.1
    have hpp : decide (xPk (32 * o + k) = 2) = decide (yPair (32 * o + k) = 1) := by
      rcases hs with ⟨h1, h2⟩ | ⟨h1, h2, _⟩
      · rw [h1, h2]; decide
      · rw [h1, h2]; decide
    have hss : ob_alw sV sG sS sW sE sC oW oE oC (tw (32 * o + k)) (te (32 * o + k)) (tc (32 * o + k)) (decide (yPair (32 * o + k) = 1)) (decide (v = pVal (32 * o + k))) (decide (w = xSet (32 * o + k))) = ob_alw sV sG sS sW sE sC oW oE oC (tw (32 * o + k)) (te (32 * o + k)) (tc (32 * o + k)) (decide (yPair (32 * o + k) = 1)) (decide (v = pVal (32 * o + k))) (decide (wy = ySet (32 * o + k))) := by
      rcases hs with ⟨h1, h2⟩ | ⟨h1, h2, h3, h4, _⟩
      · rw [h1]; rfl
      · cases hS : sS
        · rw [h1]; unfold ob_alw; simp
        · rw [hw hS, h4]
    refine ⟨!ob_alw sV sG sS sW sE sC oW oE oC (tw (32 * o + k)) (te (32 * o + k)) (tc (32 * o + k)) (decide (yPair (32 * o + k) = 1)) (decide (v = pVal (32 * o + k))) (decide (wy = ySet (32 * o + k))), fun h _ => ⟨_, by simpa using h⟩, fun h _ h0 eqS => ?_, fun post hp => ?_, fun post x10 x12 hT hF => ?_⟩
    · rw [h0] at h
      have h2 : ob_alw sV sG sS sW sE sC oW oE oC (tw (32 * o + k)) (te (32 * o + k)) (tc (32 * o + k)) false (decide (v = pVal (32 * o + k))) (decide (wy = ySet (32 * o + k))) = false := by simpa using h
      exact h2
    · refine ob_forbX (by omega) hk hpkk post ?_
      rw [hpp, hss]
      exact hp
    · unfold wY_settle_161
      simp (disch := first | omega | decide) only [hM, forall_eq, not_true, not_false_iff, false_implies, true_implies, true_and, and_true, ob_sub1, Nat.add_sub_cancel, nI_1, ob_ix, ob_iy, ob_ix24, ob_iy24, ob_ix10, ob_iy10, ob_ix4, ob_iy4, ob_ix3, ob_iy3, ob_s1, ob_s2, ob_s3, ob_s4, ob_ltl, ob_lel, ob_eql, ob_ltr, ob_ler, ob_uN, Nat.add_one_ne_zero, ob_xs3, ob_lnn, ob_ltn, ob_eqn, Nat.not_lt_zero, Nat.zero_le, Nat.reduceEqDiff, Nat.reduceLeDiff, Nat.reduceLT, ob_eqll, Int32.reduceLT, Int32.reduceLE, eq_self_iff_true]
      refine ob_alwY hpo (by omega) hpr _ ?_
      cases ha : ob_alw sV sG sS sW sE sC oW oE oC (tw (32 * o + k)) (te (32 * o + k)) (tc (32 * o + k)) (decide (yPair (32 * o + k) = 1)) (decide (v = pVal (32 * o + k))) (decide (wy = ySet (32 * o + k)))
      · exact br_t rfl (hT (by rw [ha]; rfl))
      · exact br_f (by decide) (hF (by rw [ha]; rfl))
end
