/-! ===== of, own ===== -/
theorem ob_cP_s (p : Nat → Bool) (j : Nat) : (List.range (j + 1)).countP p = (List.range j).countP p + (if p j then 1 else 0) := by
  rw [List.range_succ, List.countP_append, List.countP_singleton]
theorem ob_cP_le (p : Nat → Bool) (j : Nat) : (List.range j).countP p ≤ j := by
  have := List.countP_le_length (p := p) (l := List.range j)
  rwa [List.length_range] at this
theorem ob_fl1 : ∀ w e c : Bool, ((((ob_yf w e c / 2) - (ob_yf w e c / 2) / 2 * 2) + (((ob_yf w e c / 16) - (ob_yf w e c / 16) / 2 * 2) * 2)) + (((ob_yf w e c / 32) - (ob_yf w e c / 32) / 2 * 2) * 4)) = ob_xa w e c := by decide +kernel
section
variable {n : Nat} {d : Nat} {b : Nat} {m : Nat} {deep : Int32} {res : Int64} {thr : Int32} {thn : Int64} {CL : Nat → Nat} {cStr : Nat → Int32} {cOp : Nat → Int32} {cA : Nat → Int32} {cB : Nat → Int32} {OK : Nat → Nat} {oKin : Nat → Int32} {oOpen : Nat → Int32} {pVal : Nat → Int64} {aOut : Nat → Int32} {aVar : Nat → Int64} {FC : Nat → Nat} {FA : Nat → Nat} {FP : Nat → Nat} {FH : Nat → Nat} {FT : Nat → Nat} {fSelf : Nat → Int64} {stk : Nat → Int64} {TA : Nat → Nat} {TH : Nat → Nat} {xFc : Nat → Int32} {xFs : Nat → Int32} {xPc : Nat → Int32} {xKo : Nat → Int32} {xPk : Nat → Int32} {tw : Nat → Bool} {te : Nat → Bool} {tc : Nat → Bool} {xSet : Nat → Int64} {S : Nat → Nat} {XH : Nat → Nat} {xHeld : Nat → Int64} {xArg : Nat → Int64} {yCo : Nat → Int32} {yAr : Nat → Int32} {M : Nat → Nat} {yPair : Nat → Int32} {ySeen : Nat → Int32} {ySet : Nat → Int64} {yStay : Nat → Int32} {yArg : Nat → Int64} {yHan : Nat → Int32} {yKept : Nat → Int64} {yGiven : Int32}
variable {o k : Nat} {x2 x3 : Int32}
/-- the reference counts the properties of o -/
theorem ob_ofY (ho : o < 32) (hm : ∀ j, M j ≤ m) (hm2 : m < 2 ^ 31) (post : Int32 → Prop) (hp : wY_of_33 post (nI o) x2 (nI n) (nI m) yGiven (nI d) deep (nI b) thr thn res cStr (fun zz => nI (CL zz)) cOp cA cB (fun zz => nI (OK zz)) oKin yCo yAr oOpen (fun zz => nI (M zz)) (fun zz => ob_yf (tw zz) (te zz) (tc zz)) yPair ySeen pVal ySet (fun zz => ob_th (S zz)) yStay aOut aVar yArg (fun zz => nI (FC zz)) (fun zz => nI (FA zz)) (fun zz => nI (FP zz)) (fun zz => nI (FH zz)) yHan (fun zz => nI (FT zz)) (fun zz => nI (TA zz)) (fun zz => nI (TH zz)) fSelf yKept stk 1 (nI ((List.range 32).countP (fun k => decide (M (32 * o + k) ≠ 0)))) (nI (32 * o + 32))) :
    ∀ t j, t + j = 32 → wY_of_33 post (nI o) x2 (nI n) (nI m) yGiven (nI d) deep (nI b) thr thn res cStr (fun zz => nI (CL zz)) cOp cA cB (fun zz => nI (OK zz)) oKin yCo yAr oOpen (fun zz => nI (M zz)) (fun zz => ob_yf (tw zz) (te zz) (tc zz)) yPair ySeen pVal ySet (fun zz => ob_th (S zz)) yStay aOut aVar yArg (fun zz => nI (FC zz)) (fun zz => nI (FA zz)) (fun zz => nI (FP zz)) (fun zz => nI (FH zz)) yHan (fun zz => nI (FT zz)) (fun zz => nI (TA zz)) (fun zz => nI (TH zz)) fSelf yKept stk (t + 1) (nI ((List.range j).countP (fun k => decide (M (32 * o + k) ≠ 0)))) (nI (32 * o + j))
  | 0, j, e => by
    have e' : j = 32 := by omega
    subst e'
    exact hp
  | t + 1, j, e => by
    have ih := ob_ofY ho hm hm2 post hp t (j + 1) (by omega)
    have e2 : 32 * nI o + 32 = nI (32 * o + 32) := ob_iy o 32
    have hle := ob_cP_le (fun k => decide (M (32 * o + k) ≠ 0)) j
    have hMm := hm (32 * o + j)
    have hn : ¬ 32 * o + 32 ≤ 32 * o + j := by omega
    rw [ob_cP_s] at ih
    unfold wY_of_33
    rw [e2]
    by_cases z : M (32 * o + j) = 0
    · have hz : M (32 * o + j) ≤ 0 := by omega
      rw [show (if decide (M (32 * o + j) ≠ 0) = true then 1 else 0) = 0 from by simp [z]] at ih
      simp (disch := first | omega | decide) only [hn, hz, forall_eq, not_true, not_false_iff, false_implies, true_implies, true_and, and_true, ob_sub1, Nat.add_sub_cancel, nI_1, ob_ix, ob_iy, ob_ix24, ob_iy24, ob_ix10, ob_iy10, ob_ix4, ob_iy4, ob_ix3, ob_iy3, ob_s1, ob_s2, ob_s3, ob_s4, ob_ltl, ob_lel, ob_eql, ob_ltr, ob_ler, ob_uN, Nat.add_one_ne_zero, ob_xs3, ob_lnn, ob_ltn, ob_eqn, Nat.not_lt_zero, Nat.zero_le, Nat.reduceEqDiff, Nat.reduceLeDiff, Nat.reduceLT, ob_eqll, Int32.reduceLT, Int32.reduceLE, eq_self_iff_true]
      exact ih
    · have hz : ¬ M (32 * o + j) ≤ 0 := by omega
      rw [show (if decide (M (32 * o + j) ≠ 0) = true then 1 else 0) = 1 from by simp [z]] at ih
      simp (disch := first | omega | decide) only [hn, hz, forall_eq, not_true, not_false_iff, false_implies, true_implies, true_and, and_true, ob_sub1, Nat.add_sub_cancel, nI_1, ob_ix, ob_iy, ob_ix24, ob_iy24, ob_ix10, ob_iy10, ob_ix4, ob_iy4, ob_ix3, ob_iy3, ob_s1, ob_s2, ob_s3, ob_s4, ob_ltl, ob_lel, ob_eql, ob_ltr, ob_ler, ob_uN, Nat.add_one_ne_zero, ob_xs3, ob_lnn, ob_ltn, ob_eqn, Nat.not_lt_zero, Nat.zero_le, Nat.reduceEqDiff, Nat.reduceLeDiff, Nat.reduceLT, ob_eqll, Int32.reduceLT, Int32.reduceLE, eq_self_iff_true]
      exact ih
/-- the reference counts the properties of o that came before -/
theorem ob_ownY {i : Nat} (ho : o < 32) (hi : i < 1024) (hm : ∀ j, M j ≤ m) (hm2 : m < 2 ^ 31) (post : Int64 → Prop) (hp : wY_own_61 post (nI o) x3 (nI i) (nI n) (nI m) yGiven (nI d) deep (nI b) thr thn res cStr (fun zz => nI (CL zz)) cOp cA cB (fun zz => nI (OK zz)) oKin yCo yAr oOpen (fun zz => nI (M zz)) (fun zz => ob_yf (tw zz) (te zz) (tc zz)) yPair ySeen pVal ySet (fun zz => ob_th (S zz)) yStay aOut aVar yArg (fun zz => nI (FC zz)) (fun zz => nI (FA zz)) (fun zz => nI (FP zz)) (fun zz => nI (FH zz)) yHan (fun zz => nI (FT zz)) (fun zz => nI (TA zz)) (fun zz => nI (TH zz)) fSelf yKept stk 1 (nI ((List.range 32).countP (fun k => decide (M (32 * o + k) ≠ 0 ∧ M (32 * o + k) < M i)))) (nI (32 * o + 32))) :
    ∀ t j, t + j = 32 → wY_own_61 post (nI o) x3 (nI i) (nI n) (nI m) yGiven (nI d) deep (nI b) thr thn res cStr (fun zz => nI (CL zz)) cOp cA cB (fun zz => nI (OK zz)) oKin yCo yAr oOpen (fun zz => nI (M zz)) (fun zz => ob_yf (tw zz) (te zz) (tc zz)) yPair ySeen pVal ySet (fun zz => ob_th (S zz)) yStay aOut aVar yArg (fun zz => nI (FC zz)) (fun zz => nI (FA zz)) (fun zz => nI (FP zz)) (fun zz => nI (FH zz)) yHan (fun zz => nI (FT zz)) (fun zz => nI (TA zz)) (fun zz => nI (TH zz)) fSelf yKept stk (t + 1) (nI ((List.range j).countP (fun k => decide (M (32 * o + k) ≠ 0 ∧ M (32 * o + k) < M i)))) (nI (32 * o + j))
  | 0, j, e => by
    have e' : j = 32 := by omega
    subst e'
    exact hp
  | t + 1, j, e => by
    have ih := ob_ownY ho hi hm hm2 post hp t (j + 1) (by omega)
    have e2 : 32 * nI o + 32 = nI (32 * o + 32) := ob_iy o 32
    have hle := ob_cP_le (fun k => decide (M (32 * o + k) ≠ 0 ∧ M (32 * o + k) < M i)) j
    have hMm := hm (32 * o + j)
    have hMi := hm i
    have hn : ¬ 32 * o + 32 ≤ 32 * o + j := by omega
    rw [ob_cP_s] at ih
    unfold wY_own_61
    rw [e2]
    by_cases z : M (32 * o + j) = 0
    · have hz : M (32 * o + j) ≤ 0 := by omega
      rw [show (if decide (M (32 * o + j) ≠ 0 ∧ M (32 * o + j) < M i) = true then 1 else 0) = 0 from by simp [z]] at ih
      simp (disch := first | omega | decide) only [hn, hz, forall_eq, not_true, not_false_iff, false_implies, true_implies, true_and, and_true, ob_sub1, Nat.add_sub_cancel, nI_1, ob_ix, ob_iy, ob_ix24, ob_iy24, ob_ix10, ob_iy10, ob_ix4, ob_iy4, ob_ix3, ob_iy3, ob_s1, ob_s2, ob_s3, ob_s4, ob_ltl, ob_lel, ob_eql, ob_ltr, ob_ler, ob_uN, Nat.add_one_ne_zero, ob_xs3, ob_lnn, ob_ltn, ob_eqn, Nat.not_lt_zero, Nat.zero_le, Nat.reduceEqDiff, Nat.reduceLeDiff, Nat.reduceLT, ob_eqll, Int32.reduceLT, Int32.reduceLE, eq_self_iff_true]
      exact ih
    · have hz : ¬ M (32 * o + j) ≤ 0 := by omega
      by_cases y : M i ≤ M (32 * o + j)
      · rw [show (if decide (M (32 * o + j) ≠ 0 ∧ M (32 * o + j) < M i) = true then 1 else 0) = 0 from by rw [if_neg]; simp; omega] at ih
        simp (disch := first | omega | decide) only [hn, hz, y, forall_eq, not_true, not_false_iff, false_implies, true_implies, true_and, and_true, ob_sub1, Nat.add_sub_cancel, nI_1, ob_ix, ob_iy, ob_ix24, ob_iy24, ob_ix10, ob_iy10, ob_ix4, ob_iy4, ob_ix3, ob_iy3, ob_s1, ob_s2, ob_s3, ob_s4, ob_ltl, ob_lel, ob_eql, ob_ltr, ob_ler, ob_uN, Nat.add_one_ne_zero, ob_xs3, ob_lnn, ob_ltn, ob_eqn, Nat.not_lt_zero, Nat.zero_le, Nat.reduceEqDiff, Nat.reduceLeDiff, Nat.reduceLT, ob_eqll, Int32.reduceLT, Int32.reduceLE, eq_self_iff_true]
        exact ih
      · rw [show (if decide (M (32 * o + j) ≠ 0 ∧ M (32 * o + j) < M i) = true then 1 else 0) = 1 from by rw [if_pos]; simp; omega] at ih
        simp (disch := first | omega | decide) only [hn, hz, y, forall_eq, not_true, not_false_iff, false_implies, true_implies, true_and, and_true, ob_sub1, Nat.add_sub_cancel, nI_1, ob_ix, ob_iy, ob_ix24, ob_iy24, ob_ix10, ob_iy10, ob_ix4, ob_iy4, ob_ix3, ob_iy3, ob_s1, ob_s2, ob_s3, ob_s4, ob_ltl, ob_lel, ob_eql, ob_ltr, ob_ler, ob_uN, Nat.add_one_ne_zero, ob_xs3, ob_lnn, ob_ltn, ob_eqn, Nat.not_lt_zero, Nat.zero_le, Nat.reduceEqDiff, Nat.reduceLeDiff, Nat.reduceLT, ob_eqll, Int32.reduceLT, Int32.reduceLE, eq_self_iff_true]
        exact ih
/-- the component looks for the key's place -/
theorem ob_plX {L : List Nat} {p : Nat} (ho : o < 32) (hl : L.length ≤ 32) (hx : ∀ p x, L[p]? = some x → xKo (32 * o + p) = nI x ∧ x < 32) (hk : k < 32) (hnd : L.Nodup) (hp : L[p]? = some k) (post : Int32 → Prop) (hpost : post (nI p)) :
    ∀ t j, t + j = p → wX_placeInOrder_10 post (nI o) (nI k) (nI L.length) (nI n) (nI d) (nI b) deep res thr thn (fun zz => nI (CL zz)) cStr cOp cA cB (fun zz => nI (OK zz)) oKin oOpen xFc xFs xPc xKo xPk (fun zz => ob_xa (tw zz) (te zz) (tc zz)) pVal xSet (fun zz => nI (S zz)) aOut aVar (fun zz => nI (FC zz)) (fun zz => nI (FP zz)) (fun zz => nI (FA zz)) (fun zz => nI (FH zz)) (fun zz => nI (XH zz)) (fun zz => nI (FT zz)) fSelf xHeld stk (fun zz => nI (TA zz)) (fun zz => nI (TH zz)) xArg (t + 1) (nI j)
  | 0, j, e => by
    have e' : j = p := by omega
    subst e'
    obtain ⟨hlt, _⟩ := List.getElem?_eq_some_iff.mp hp
    obtain ⟨h1, h2⟩ := hx j k hp
    have hn : ¬ L.length ≤ j := by omega
    unfold wX_placeInOrder_10
    simp (disch := first | omega | decide) only [hn, h1, forall_eq, not_true, not_false_iff, false_implies, true_implies, true_and, and_true, ob_sub1, Nat.add_sub_cancel, nI_1, ob_ix, ob_iy, ob_ix24, ob_iy24, ob_ix10, ob_iy10, ob_ix4, ob_iy4, ob_ix3, ob_iy3, ob_s1, ob_s2, ob_s3, ob_s4, ob_ltl, ob_lel, ob_eql, ob_ltr, ob_ler, ob_uN, Nat.add_one_ne_zero, ob_xs3, ob_lnn, ob_ltn, ob_eqn, Nat.not_lt_zero, Nat.zero_le, Nat.reduceEqDiff, Nat.reduceLeDiff, Nat.reduceLT, ob_eqll, Int32.reduceLT, Int32.reduceLE, eq_self_iff_true]
    exact hpost
  | t + 1, j, e => by
    have ih := ob_plX ho hl hx hk hnd hp post hpost t (j + 1) (by omega)
    obtain ⟨hlt, hke⟩ := List.getElem?_eq_some_iff.mp hp
    have hjl : j < L.length := by omega
    obtain ⟨h1, h2⟩ := hx j L[j] (List.getElem?_eq_getElem hjl)
    have hn : ¬ L.length ≤ j := by omega
    have hne : ¬ L[j] = k := by
      intro z
      exact (List.pairwise_iff_getElem.mp hnd) j p hjl hlt (by omega) (z.trans hke.symm)
    unfold wX_placeInOrder_10
    simp (disch := first | omega | decide) only [hn, h1, hne, forall_eq, not_true, not_false_iff, false_implies, true_implies, true_and, and_true, ob_sub1, Nat.add_sub_cancel, nI_1, ob_ix, ob_iy, ob_ix24, ob_iy24, ob_ix10, ob_iy10, ob_ix4, ob_iy4, ob_ix3, ob_iy3, ob_s1, ob_s2, ob_s3, ob_s4, ob_ltl, ob_lel, ob_eql, ob_ltr, ob_ler, ob_uN, Nat.add_one_ne_zero, ob_xs3, ob_lnn, ob_ltn, ob_eqn, Nat.not_lt_zero, Nat.zero_le, Nat.reduceEqDiff, Nat.reduceLeDiff, Nat.reduceLT, ob_eqll, Int32.reduceLT, Int32.reduceLE, eq_self_iff_true]
    exact ih
end
theorem i_vc_of {k : Nat} {u : SX} {v : SY} (I : i_Rel k u v) (hk : k + 6 ≤ 3072) (v1 : Int32) (v2 : Int32) : wpX_of (fun r => wpY_of (fun r' => r' = r ∧ i_Rel (k + 6) u v) v v1 v2) u v1 v2 := by
  have J := i_up I
  obtain ⟨n, b, m, deep, res, thr, thn, CL, cStr, cOp, cA, cB, OK, oKin, oOpen, pVal, aOut, aVar, FC, FA, FP, FH, FT, fSelf, stk, TA, TH, xFc, xFs, xPc, xKo, xPk, tw, te, tc, xSet, S, XH, xHeld, xArg, yCo, yAr, M, yPair, ySeen, ySet, yStay, yArg, yHan, yKept, yGiven, rfl, rfl, R, hm⟩ := I
  have h3 := R.2.1.1
  unfold wpX_of
  rcases ob_isO R.2.1 v1 with ⟨o, ho, rfl⟩ | h
  · obtain ⟨L, hl1, hl2, hl3⟩ := R.2.2.2.1 o ho
    have hin : vp_in (nI o) 32 := vp_in_nI (by omega) (by decide)
    have hcl : (nI o).toNatClampNeg = o := ob_cl (by omega)
    have hYin : ∀ P : Int32 → Prop, P 1 → wpY_in P (nI o) 0 (nI n - 1) := by
      intro P hP
      rw [ob_sub1 (by omega)]
      exact ob_inT (b := 0) (by omega) (by omega) (by omega) _ hP
    refine br_f (nI_pos (by omega)) (br_t (nI_lt ho (by omega)) ?_)
    rcases pk_ix v2 (n := 4) (by decide) with h | h | ⟨q, hq, rfl⟩
    · refine br_t h ?_
      unfold wpY_of
      exact hYin _ (br_f (by decide) (ob_inF (Or.inl h) _ (br_t rfl ⟨rfl, J⟩)))
    · have h0 : ¬ v2 < 0 := fun z => absurd (Int32.lt_of_le_of_lt h z) (by decide)
      have h4 : 3 < v2 := Int32.lt_of_lt_of_le (by decide) h
      refine br_f h0 (br_t h4 ?_)
      unfold wpY_of
      exact hYin _ (br_f (by decide) (ob_inF (Or.inr h4) _ (br_t rfl ⟨rfl, J⟩)))
    · have hY : ∀ post : Int32 → Prop, ((nI q = 0 → (vp_in (nI o) 32 ∧ (post (nI (OK o))))) ∧ (¬ nI q = 0 → (((nI q = 1 → (vp_in (nI o) 32 ∧ (post (oKin o)))) ∧ (¬ nI q = 1 → (((nI q = 2 → (vp_in (nI o) 32 ∧ ((((oOpen o) = 0 → (post 0)) ∧ (¬ (oOpen o) = 0 → (post 1)))))) ∧ (¬ nI q = 2 → (post (nI L.length)))))))))) → wpY_of post (nI n, nI m, yGiven, nI 0, deep, nI b, thr, thn, res, cStr, (fun zz => nI (CL zz)), cOp, cA, cB, (fun zz => nI (OK zz)), oKin, yCo, yAr, oOpen, (fun zz => nI (M zz)), (fun zz => ob_yf (tw zz) (te zz) (tc zz)), yPair, ySeen, pVal, ySet, (fun zz => ob_th (S zz)), yStay, aOut, aVar, yArg, (fun zz => nI (FC zz)), (fun zz => nI (FA zz)), (fun zz => nI (FP zz)), (fun zz => nI (FH zz)), yHan, (fun zz => nI (FT zz)), (fun zz => nI (TA zz)), (fun zz => nI (TH zz)), fSelf, yKept, stk) (nI o) (nI q) := by
        intro post hp
        unfold wpY_of
        refine hYin _ (br_f (by decide) (ob_inT (b := 0) (c := 3) (by omega) (by omega) (by decide) _ (br_f (by decide) ?_)))
        refine nm_r (e' := nI (32 * o)) (pk_mul 32 o) ⟨33, ?_⟩
        refine ob_ofY (by omega) R.2.2.1.1 (by omega) post ?_ 32 0 rfl
        rw [ob_ord_cnt hl3]
        unfold wY_of_33
        rw [show 32 * nI o + 32 = nI (32 * o + 32) from ob_iy o 32, hcl]
        exact br_t (Int32.le_refl _) hp
      refine br_f (nI_pos (by omega)) (br_f (nI_nlt (a := 3) (by omega) (by decide)) ?_)
      have hc4 : q = 0 ∨ q = 1 ∨ q = 2 ∨ q = 3 := by omega
      rw [hcl]
      rcases hc4 with rfl | rfl | rfl | rfl
      · exact br_t rfl ⟨hin, hY _ (br_t rfl ⟨hin, rfl, J⟩)⟩
      · exact br_f (by decide) (br_t rfl ⟨hin, hY _ (br_f (by decide) (br_t rfl ⟨hin, rfl, J⟩))⟩)
      · refine br_f (by decide) (br_f (by decide) (br_t rfl ⟨hin, ?_⟩))
        by_cases ho0 : oOpen o = 0
        · exact br_t ho0 (hY _ (br_f (by decide) (br_f (by decide) (br_t rfl ⟨hin, br_t ho0 ⟨rfl, J⟩⟩))))
        · exact br_f ho0 (hY _ (br_f (by decide) (br_f (by decide) (br_t rfl ⟨hin, br_f ho0 ⟨rfl, J⟩⟩))))
      · refine br_f (by decide) (br_f (by decide) (br_f (by decide) (br_t rfl ⟨hin, ?_⟩)))
        rw [hl1]
        exact hY _ (br_f (by decide) (br_f (by decide) (br_f (by decide) ⟨rfl, J⟩)))
  · have hYn : ∀ post : Int32 → Prop, post (-1) → wpY_of post (nI n, nI m, yGiven, nI 0, deep, nI b, thr, thn, res, cStr, (fun zz => nI (CL zz)), cOp, cA, cB, (fun zz => nI (OK zz)), oKin, yCo, yAr, oOpen, (fun zz => nI (M zz)), (fun zz => ob_yf (tw zz) (te zz) (tc zz)), yPair, ySeen, pVal, ySet, (fun zz => ob_th (S zz)), yStay, aOut, aVar, yArg, (fun zz => nI (FC zz)), (fun zz => nI (FA zz)), (fun zz => nI (FP zz)), (fun zz => nI (FH zz)), yHan, (fun zz => nI (FT zz)), (fun zz => nI (TA zz)), (fun zz => nI (TH zz)), fSelf, yKept, stk) v1 v2 := by
      intro post hp
      unfold wpY_of
      exact ob_inF (h.imp id (ob_nle1 (by omega) (by omega))) _ (br_t rfl hp)
    by_cases h0 : v1 < 0
    · exact br_t h0 (hYn _ ⟨rfl, J⟩)
    · exact br_f h0 (br_f (Int32.not_lt.mpr (h.resolve_left h0)) (hYn _ ⟨rfl, J⟩))
