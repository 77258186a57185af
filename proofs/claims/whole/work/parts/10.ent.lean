/-! ===== a call begins ===== -/
def ob_cnt (S : Nat → Nat) : Nat → Nat
  | 0 => 0
  | k + 1 => ob_cnt S k + (if S k = 0 then 0 else 1)
theorem ob_cnt_le (S : Nat → Nat) : ∀ k, ob_cnt S k ≤ k
  | 0 => Nat.le_refl _
  | k + 1 => by
    have := ob_cnt_le S k
    show ob_cnt S k + _ ≤ _
    split <;> omega
theorem ob_cnt_all {S : Nat → Nat} : ∀ {k}, (∀ a, a < k → S a ≠ 0) → ob_cnt S k = k
  | 0, _ => rfl
  | k + 1, h => by
    show ob_cnt S k + _ = _
    rw [ob_cnt_all (fun a ha => h a (by omega)), if_neg (h k (by omega))]
theorem ob_cnt_lt {S : Nat → Nat} {a : Nat} (h : S a = 0) : ∀ {k}, a < k → ob_cnt S k < k
  | 0, h0 => absurd h0 (by omega)
  | k + 1, h1 => by
    show ob_cnt S k + _ < _
    have h2 := ob_cnt_le S k
    by_cases e : a = k
    · subst e
      rw [if_pos h]
      omega
    · have := ob_cnt_lt h (k := k) (by omega)
      split <;> omega
theorem ob_free (S : Nat → Nat) : ∀ k, (∀ a, a < k → S a ≠ 0) ∨ ∃ a, a < k ∧ S a = 0 ∧ ∀ q, q < a → S q ≠ 0
  | 0 => Or.inl (fun a h => absurd h (by omega))
  | k + 1 => by
    rcases ob_free S k with h | ⟨a, h1, h2, h3⟩
    · by_cases z : S k = 0
      · exact Or.inr ⟨k, by omega, z, h⟩
      · exact Or.inl (fun a ha => by
          by_cases y : a = k
          · rw [y]; exact z
          · exact h a (by omega))
    · exact Or.inr ⟨a, by omega, h2, h3⟩
theorem ob_th0 (s : Nat) : (ob_th s = 0) = (s = 0) := by
  unfold ob_th
  split
  · rename_i h; simp [h]
  · rename_i h; simp [h]
section
variable {n : Nat} {d : Nat} {b : Nat} {m : Nat} {deep : Int32} {res : Int64} {thr : Int32} {thn : Int64} {CL : Nat → Nat} {cStr : Nat → Int32} {cOp : Nat → Int32} {cA : Nat → Int32} {cB : Nat → Int32} {OK : Nat → Nat} {oKin : Nat → Int32} {oOpen : Nat → Int32} {pVal : Nat → Int64} {aOut : Nat → Int32} {aVar : Nat → Int64} {FC : Nat → Nat} {FA : Nat → Nat} {FP : Nat → Nat} {FH : Nat → Nat} {FT : Nat → Nat} {fSelf : Nat → Int64} {stk : Nat → Int64} {TA : Nat → Nat} {TH : Nat → Nat} {xFc : Nat → Int32} {xFs : Nat → Int32} {xPc : Nat → Int32} {xKo : Nat → Int32} {xPk : Nat → Int32} {tw : Nat → Bool} {te : Nat → Bool} {tc : Nat → Bool} {xSet : Nat → Int64} {S : Nat → Nat} {XH : Nat → Nat} {xHeld : Nat → Int64} {xArg : Nat → Int64} {yCo : Nat → Int32} {yAr : Nat → Int32} {M : Nat → Nat} {yPair : Nat → Int32} {ySeen : Nat → Int32} {ySet : Nat → Int64} {yStay : Nat → Int32} {yArg : Nat → Int64} {yHan : Nat → Int32} {yKept : Nat → Int64} {yGiven : Int32}
variable {e a : Nat}
theorem ob_freeX1 (ha : a < 24) (h0 : S a = 0) (h : ∀ q, q < a → S q ≠ 0) (hS : ∀ q, q < 24 → S q ≤ 2) (post : Int32 → Prop) (hp : post (nI a)) : ∀ j k, j + k = a → wX_freeActivation_2 post (nI n) (nI d) (nI b) deep res thr thn (fun zz => nI (CL zz)) cStr cOp cA cB (fun zz => nI (OK zz)) oKin oOpen xFc xFs xPc xKo xPk (fun zz => ob_xa (tw zz) (te zz) (tc zz)) pVal xSet (fun zz => nI (S zz)) aOut aVar (fun zz => nI (FC zz)) (fun zz => nI (FP zz)) (fun zz => nI (FA zz)) (fun zz => nI (FH zz)) (fun zz => nI (XH zz)) (fun zz => nI (FT zz)) fSelf xHeld stk (fun zz => nI (TA zz)) (fun zz => nI (TH zz)) xArg (j + 1) (nI k)
  | 0, k, e => by
    have e' : k = a := by omega
    subst e'
    unfold wX_freeActivation_2
    have h1 : ¬ 24 ≤ k := by omega
    simp (disch := first | omega | decide) only [h0, h1, forall_eq, not_true, not_false_iff, false_implies, true_implies, true_and, and_true, ob_sub1, Nat.add_sub_cancel, nI_1, ob_ix, ob_iy, ob_ix24, ob_iy24, ob_ix10, ob_iy10, ob_ix4, ob_iy4, ob_ix3, ob_iy3, ob_s1, ob_s2, ob_s3, ob_s4, ob_ltl, ob_lel, ob_eql, ob_ltr, ob_ler, ob_uN, Nat.add_one_ne_zero, ob_xs3, ob_lnn, ob_ltn, ob_eqn, Nat.not_lt_zero, Nat.zero_le, Nat.reduceEqDiff, Nat.reduceLeDiff, Nat.reduceLT, ob_eqll, Int32.reduceLT, Int32.reduceLE, eq_self_iff_true]
    exact hp
  | j + 1, k, e => by
    have h1 : ¬ 24 ≤ k := by omega
    have h2 := h k (by omega)
    have h3 := hS k (by omega)
    unfold wX_freeActivation_2
    simp (disch := first | omega | decide) only [h2, h1, forall_eq, not_true, not_false_iff, false_implies, true_implies, true_and, and_true, ob_sub1, Nat.add_sub_cancel, nI_1, ob_ix, ob_iy, ob_ix24, ob_iy24, ob_ix10, ob_iy10, ob_ix4, ob_iy4, ob_ix3, ob_iy3, ob_s1, ob_s2, ob_s3, ob_s4, ob_ltl, ob_lel, ob_eql, ob_ltr, ob_ler, ob_uN, Nat.add_one_ne_zero, ob_xs3, ob_lnn, ob_ltn, ob_eqn, Nat.not_lt_zero, Nat.zero_le, Nat.reduceEqDiff, Nat.reduceLeDiff, Nat.reduceLT, ob_eqll, Int32.reduceLT, Int32.reduceLE, eq_self_iff_true]
    exact ob_freeX1 ha h0 h hS post hp j (k + 1) (by omega)
theorem ob_freeX (ha : a < 24) (h0 : S a = 0) (h : ∀ q, q < a → S q ≠ 0) (hS : ∀ q, q < 24 → S q ≤ 2) (post : Int32 → Prop) (hp : post (nI a)) : wpX_freeActivation post (nI n, nI d, nI b, deep, res, thr, thn, (fun zz => nI (CL zz)), cStr, cOp, cA, cB, (fun zz => nI (OK zz)), oKin, oOpen, xFc, xFs, xPc, xKo, xPk, (fun zz => ob_xa (tw zz) (te zz) (tc zz)), pVal, xSet, (fun zz => nI (S zz)), aOut, aVar, (fun zz => nI (FC zz)), (fun zz => nI (FP zz)), (fun zz => nI (FA zz)), (fun zz => nI (FH zz)), (fun zz => nI (XH zz)), (fun zz => nI (FT zz)), fSelf, xHeld, stk, (fun zz => nI (TA zz)), (fun zz => nI (TH zz)), xArg) :=
  ⟨a + 1, ob_freeX1 ha h0 h hS post hp a 0 (by omega)⟩
theorem ob_freeN1 (h : ∀ q, q < 24 → S q ≠ 0) (hS : ∀ q, q < 24 → S q ≤ 2) (post : Int32 → Prop) (hp : post (-1)) : ∀ j k, j + k = 24 → wX_freeActivation_2 post (nI n) (nI d) (nI b) deep res thr thn (fun zz => nI (CL zz)) cStr cOp cA cB (fun zz => nI (OK zz)) oKin oOpen xFc xFs xPc xKo xPk (fun zz => ob_xa (tw zz) (te zz) (tc zz)) pVal xSet (fun zz => nI (S zz)) aOut aVar (fun zz => nI (FC zz)) (fun zz => nI (FP zz)) (fun zz => nI (FA zz)) (fun zz => nI (FH zz)) (fun zz => nI (XH zz)) (fun zz => nI (FT zz)) fSelf xHeld stk (fun zz => nI (TA zz)) (fun zz => nI (TH zz)) xArg (j + 1) (nI k)
  | 0, k, e => by
    have e' : k = 24 := by omega
    subst e'
    unfold wX_freeActivation_2
    exact br_t (by decide) hp
  | j + 1, k, e => by
    have h1 : ¬ 24 ≤ k := by omega
    have h2 := h k (by omega)
    have h3 := hS k (by omega)
    unfold wX_freeActivation_2
    simp (disch := first | omega | decide) only [h2, h1, forall_eq, not_true, not_false_iff, false_implies, true_implies, true_and, and_true, ob_sub1, Nat.add_sub_cancel, nI_1, ob_ix, ob_iy, ob_ix24, ob_iy24, ob_ix10, ob_iy10, ob_ix4, ob_iy4, ob_ix3, ob_iy3, ob_s1, ob_s2, ob_s3, ob_s4, ob_ltl, ob_lel, ob_eql, ob_ltr, ob_ler, ob_uN, Nat.add_one_ne_zero, ob_xs3, ob_lnn, ob_ltn, ob_eqn, Nat.not_lt_zero, Nat.zero_le, Nat.reduceEqDiff, Nat.reduceLeDiff, Nat.reduceLT, ob_eqll, Int32.reduceLT, Int32.reduceLE, eq_self_iff_true]
    exact ob_freeN1 h hS post hp j (k + 1) (by omega)
theorem ob_freeN (h : ∀ q, q < 24 → S q ≠ 0) (hS : ∀ q, q < 24 → S q ≤ 2) (post : Int32 → Prop) (hp : post (-1)) : wpX_freeActivation post (nI n, nI d, nI b, deep, res, thr, thn, (fun zz => nI (CL zz)), cStr, cOp, cA, cB, (fun zz => nI (OK zz)), oKin, oOpen, xFc, xFs, xPc, xKo, xPk, (fun zz => ob_xa (tw zz) (te zz) (tc zz)), pVal, xSet, (fun zz => nI (S zz)), aOut, aVar, (fun zz => nI (FC zz)), (fun zz => nI (FP zz)), (fun zz => nI (FA zz)), (fun zz => nI (FH zz)), (fun zz => nI (XH zz)), (fun zz => nI (FT zz)), fSelf, xHeld, stk, (fun zz => nI (TA zz)), (fun zz => nI (TH zz)), xArg) :=
  ⟨25, ob_freeN1 h hS post hp 24 0 (by omega)⟩
theorem ob_actsY1 (post : Int32 → Prop) (hp : post (nI (ob_cnt S 24))) : ∀ j k, j + k = 24 → wY_activations_4 post (nI n) (nI m) yGiven (nI d) deep (nI b) thr thn res cStr (fun zz => nI (CL zz)) cOp cA cB (fun zz => nI (OK zz)) oKin yCo yAr oOpen (fun zz => nI (M zz)) (fun zz => ob_yf (tw zz) (te zz) (tc zz)) yPair ySeen pVal ySet (fun zz => ob_th (S zz)) yStay aOut aVar yArg (fun zz => nI (FC zz)) (fun zz => nI (FA zz)) (fun zz => nI (FP zz)) (fun zz => nI (FH zz)) yHan (fun zz => nI (FT zz)) (fun zz => nI (TA zz)) (fun zz => nI (TH zz)) fSelf yKept stk (j + 1) (nI (ob_cnt S k)) (nI k)
  | 0, k, e => by
    have e' : k = 24 := by omega
    subst e'
    unfold wY_activations_4
    exact br_t (by decide) hp
  | j + 1, k, e => by
    have h1 : ¬ 24 ≤ k := by omega
    have ih := ob_actsY1 post hp j (k + 1) (by omega)
    have hc : ob_cnt S (k + 1) = ob_cnt S k + (if S k = 0 then 0 else 1) := rfl
    unfold wY_activations_4
    by_cases z : S k = 0
    · rw [hc, if_pos z] at ih
      simp (disch := first | omega | decide) only [h1, ob_th0, z, forall_eq, not_true, not_false_iff, false_implies, true_implies, true_and, and_true, ob_sub1, Nat.add_sub_cancel, nI_1, ob_ix, ob_iy, ob_ix24, ob_iy24, ob_ix10, ob_iy10, ob_ix4, ob_iy4, ob_ix3, ob_iy3, ob_s1, ob_s2, ob_s3, ob_s4, ob_ltl, ob_lel, ob_eql, ob_ltr, ob_ler, ob_uN, Nat.add_one_ne_zero, ob_xs3, ob_lnn, ob_ltn, ob_eqn, Nat.not_lt_zero, Nat.zero_le, Nat.reduceEqDiff, Nat.reduceLeDiff, Nat.reduceLT, ob_eqll, Int32.reduceLT, Int32.reduceLE, eq_self_iff_true]
      exact ih
    · rw [hc, if_neg z] at ih
      simp (disch := first | omega | decide) only [h1, ob_th0, z, forall_eq, not_true, not_false_iff, false_implies, true_implies, true_and, and_true, ob_sub1, Nat.add_sub_cancel, nI_1, ob_ix, ob_iy, ob_ix24, ob_iy24, ob_ix10, ob_iy10, ob_ix4, ob_iy4, ob_ix3, ob_iy3, ob_s1, ob_s2, ob_s3, ob_s4, ob_ltl, ob_lel, ob_eql, ob_ltr, ob_ler, ob_uN, Nat.add_one_ne_zero, ob_xs3, ob_lnn, ob_ltn, ob_eqn, Nat.not_lt_zero, Nat.zero_le, Nat.reduceEqDiff, Nat.reduceLeDiff, Nat.reduceLT, ob_eqll, Int32.reduceLT, Int32.reduceLE, eq_self_iff_true]
      exact ih
theorem ob_actsY (post : Int32 → Prop) (hp : post (nI (ob_cnt S 24))) : wpY_activations post (nI n, nI m, yGiven, nI d, deep, nI b, thr, thn, res, cStr, (fun zz => nI (CL zz)), cOp, cA, cB, (fun zz => nI (OK zz)), oKin, yCo, yAr, oOpen, (fun zz => nI (M zz)), (fun zz => ob_yf (tw zz) (te zz) (tc zz)), yPair, ySeen, pVal, ySet, (fun zz => ob_th (S zz)), yStay, aOut, aVar, yArg, (fun zz => nI (FC zz)), (fun zz => nI (FA zz)), (fun zz => nI (FP zz)), (fun zz => nI (FH zz)), yHan, (fun zz => nI (FT zz)), (fun zz => nI (TA zz)), (fun zz => nI (TH zz)), fSelf, yKept, stk) :=
  ⟨25, ob_actsY1 post hp 24 0 (by omega)⟩
theorem ob_actsX1 (hS : ∀ q, q < 24 → S q ≤ 2) (post : Int32 → Prop) (hp : post (nI (ob_cnt S 24))) : ∀ j k, j + k = 24 → wX_countActivations_4 post (nI n) (nI d) (nI b) deep res thr thn (fun zz => nI (CL zz)) cStr cOp cA cB (fun zz => nI (OK zz)) oKin oOpen xFc xFs xPc xKo xPk (fun zz => ob_xa (tw zz) (te zz) (tc zz)) pVal xSet (fun zz => nI (S zz)) aOut aVar (fun zz => nI (FC zz)) (fun zz => nI (FP zz)) (fun zz => nI (FA zz)) (fun zz => nI (FH zz)) (fun zz => nI (XH zz)) (fun zz => nI (FT zz)) fSelf xHeld stk (fun zz => nI (TA zz)) (fun zz => nI (TH zz)) xArg (j + 1) (nI (ob_cnt S k)) (nI k)
  | 0, k, e => by
    have e' : k = 24 := by omega
    subst e'
    unfold wX_countActivations_4
    exact br_t (by decide) hp
  | j + 1, k, e => by
    have h1 : ¬ 24 ≤ k := by omega
    have h3 := hS k (by omega)
    have ih := ob_actsX1 hS post hp j (k + 1) (by omega)
    have hc : ob_cnt S (k + 1) = ob_cnt S k + (if S k = 0 then 0 else 1) := rfl
    unfold wX_countActivations_4
    by_cases z : S k = 0
    · rw [hc, if_pos z] at ih
      simp (disch := first | omega | decide) only [h1, z, forall_eq, not_true, not_false_iff, false_implies, true_implies, true_and, and_true, ob_sub1, Nat.add_sub_cancel, nI_1, ob_ix, ob_iy, ob_ix24, ob_iy24, ob_ix10, ob_iy10, ob_ix4, ob_iy4, ob_ix3, ob_iy3, ob_s1, ob_s2, ob_s3, ob_s4, ob_ltl, ob_lel, ob_eql, ob_ltr, ob_ler, ob_uN, Nat.add_one_ne_zero, ob_xs3, ob_lnn, ob_ltn, ob_eqn, Nat.not_lt_zero, Nat.zero_le, Nat.reduceEqDiff, Nat.reduceLeDiff, Nat.reduceLT, ob_eqll, Int32.reduceLT, Int32.reduceLE, eq_self_iff_true]
      exact ih
    · rw [hc, if_neg z] at ih
      simp (disch := first | omega | decide) only [h1, z, forall_eq, not_true, not_false_iff, false_implies, true_implies, true_and, and_true, ob_sub1, Nat.add_sub_cancel, nI_1, ob_ix, ob_iy, ob_ix24, ob_iy24, ob_ix10, ob_iy10, ob_ix4, ob_iy4, ob_ix3, ob_iy3, ob_s1, ob_s2, ob_s3, ob_s4, ob_ltl, ob_lel, ob_eql, ob_ltr, ob_ler, ob_uN, Nat.add_one_ne_zero, ob_xs3, ob_lnn, ob_ltn, ob_eqn, Nat.not_lt_zero, Nat.zero_le, Nat.reduceEqDiff, Nat.reduceLeDiff, Nat.reduceLT, ob_eqll, Int32.reduceLT, Int32.reduceLE, eq_self_iff_true]
      exact ih
theorem ob_actsX (hS : ∀ q, q < 24 → S q ≤ 2) (post : Int32 → Prop) (hp : post (nI (ob_cnt S 24))) : wpX_countActivations post (nI n, nI d, nI b, deep, res, thr, thn, (fun zz => nI (CL zz)), cStr, cOp, cA, cB, (fun zz => nI (OK zz)), oKin, oOpen, xFc, xFs, xPc, xKo, xPk, (fun zz => ob_xa (tw zz) (te zz) (tc zz)), pVal, xSet, (fun zz => nI (S zz)), aOut, aVar, (fun zz => nI (FC zz)), (fun zz => nI (FP zz)), (fun zz => nI (FA zz)), (fun zz => nI (FH zz)), (fun zz => nI (XH zz)), (fun zz => nI (FT zz)), fSelf, xHeld, stk, (fun zz => nI (TA zz)), (fun zz => nI (TH zz)), xArg) :=
  ⟨25, ob_actsX1 hS post hp 24 0 (by omega)⟩
end
