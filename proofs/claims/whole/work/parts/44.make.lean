/-! ===== add, make ===== -/
def ob_mI (q : Nat) : Int32 := match ob_most q with
  | none => -1
  | some g => nI g
theorem ob_grX : ∀ q, q < 32 → ∀ post : Int32 → Prop, post (ob_mI q) → wpX_greatestA post (nI q) := by
  intro q hq post hp
  unfold wpX_greatestA
  have hcases : q = 0 ∨ q = 1 ∨ q = 2 ∨ q = 3 ∨ q = 4 ∨ q = 5 ∨ q = 6 ∨ q = 7 ∨ q = 8 ∨ q = 9 ∨ q = 10 ∨ q = 11 ∨ q = 12 ∨ q = 13 ∨ q = 14 ∨ q = 15 ∨ q = 16 ∨ q = 17 ∨ q = 18 ∨ q = 19 ∨ q = 20 ∨ q = 21 ∨ q = 22 ∨ q = 23 ∨ q = 24 ∨ q = 25 ∨ q = 26 ∨ q = 27 ∨ q = 28 ∨ q = 29 ∨ q = 30 ∨ q = 31 := by omega
  rcases hcases with rfl | rfl | rfl | rfl | rfl | rfl | rfl | rfl | rfl | rfl | rfl | rfl | rfl | rfl | rfl | rfl | rfl | rfl | rfl | rfl | rfl | rfl | rfl | rfl | rfl | rfl | rfl | rfl | rfl | rfl | rfl | rfl
  all_goals
    simp (disch := first | omega | decide) only [forall_eq, not_true, not_false_iff, false_implies, true_implies, true_and, and_true, ob_sub1, Nat.add_sub_cancel, nI_1, ob_ix, ob_iy, ob_ix24, ob_iy24, ob_ix10, ob_iy10, ob_ix4, ob_iy4, ob_ix3, ob_iy3, ob_s1, ob_s2, ob_s3, ob_s4, ob_ltl, ob_lel, ob_eql, ob_ltr, ob_ler, ob_uN, Nat.add_one_ne_zero, ob_xs3, ob_lnn, ob_ltn, ob_eqn, Nat.not_lt_zero, Nat.zero_le, Nat.reduceEqDiff, Nat.reduceLeDiff, Nat.reduceLT, ob_eqll, Int32.reduceLT, Int32.reduceLE, eq_self_iff_true]
    exact hp
theorem ob_grY : ∀ q, q < 32 → ∀ post : Int32 → Prop, post (ob_mI q) → wpY_mostA post (nI q) := by
  intro q hq post hp
  unfold wpY_mostA
  have hcases : q = 0 ∨ q = 1 ∨ q = 2 ∨ q = 3 ∨ q = 4 ∨ q = 5 ∨ q = 6 ∨ q = 7 ∨ q = 8 ∨ q = 9 ∨ q = 10 ∨ q = 11 ∨ q = 12 ∨ q = 13 ∨ q = 14 ∨ q = 15 ∨ q = 16 ∨ q = 17 ∨ q = 18 ∨ q = 19 ∨ q = 20 ∨ q = 21 ∨ q = 22 ∨ q = 23 ∨ q = 24 ∨ q = 25 ∨ q = 26 ∨ q = 27 ∨ q = 28 ∨ q = 29 ∨ q = 30 ∨ q = 31 := by omega
  rcases hcases with rfl | rfl | rfl | rfl | rfl | rfl | rfl | rfl | rfl | rfl | rfl | rfl | rfl | rfl | rfl | rfl | rfl | rfl | rfl | rfl | rfl | rfl | rfl | rfl | rfl | rfl | rfl | rfl | rfl | rfl | rfl | rfl
  all_goals
    simp (disch := first | omega | decide) only [forall_eq, not_true, not_false_iff, false_implies, true_implies, true_and, and_true, ob_sub1, Nat.add_sub_cancel, nI_1, ob_ix, ob_iy, ob_ix24, ob_iy24, ob_ix10, ob_iy10, ob_ix4, ob_iy4, ob_ix3, ob_iy3, ob_s1, ob_s2, ob_s3, ob_s4, ob_ltl, ob_lel, ob_eql, ob_ltr, ob_ler, ob_uN, Nat.add_one_ne_zero, ob_xs3, ob_lnn, ob_ltn, ob_eqn, Nat.not_lt_zero, Nat.zero_le, Nat.reduceEqDiff, Nat.reduceLeDiff, Nat.reduceLT, ob_eqll, Int32.reduceLT, Int32.reduceLE, eq_self_iff_true]
    exact hp
theorem ob_most_le : ∀ q g, ob_most q = some g → g ≤ 31 := by
  intro q g h
  unfold ob_most at h
  repeat' split at h
  all_goals first
    | (injection h with h; omega)
    | exact absurd h (by simp)
/-- what an instruction may hold -/
def ob_okA (q : Nat) (a : Int32) : Prop := ∀ g, ob_most q = some g → ∃ x, x ≤ g ∧ a = nI x
def ob_okB (q : Nat) (bb : Int32) : Prop := q = 5 ∨ q = 6 → ∃ y, y ≤ 3 ∧ bb = nI y
theorem ob_rgA {a : Int32} {g : Nat} (hg : g < 2 ^ 31) : (∃ x, x ≤ g ∧ a = nI x) ∨ ((a < 0 ∨ nI g < a) ∧ ¬ ∃ x, x ≤ g ∧ a = nI x) := by
  by_cases h0 : a < 0
  · refine Or.inr ⟨Or.inl h0, fun ⟨x, hx, e⟩ => ?_⟩
    rw [e] at h0
    exact nI_pos (by omega) h0
  · obtain ⟨j, hj, rfl⟩ := nI_of h0
    by_cases h : j ≤ g
    · exact Or.inl ⟨j, h, rfl⟩
    · refine Or.inr ⟨Or.inr (nI_lt (by omega) hj), fun ⟨x, hx, e⟩ => ?_⟩
      have := (nI_eq hj (by omega)).mp e
      omega
theorem ob_insX {q : Nat} (hq : q < 32) (a bb : Int32) (post : Int32 → Prop) (h1 : ob_okA q a → ob_okB q bb → post 1) (h0 : ¬ (ob_okA q a ∧ ob_okB q bb) → post 0) : wpX_isInstruction post (nI q) a bb := by
  have h44 : ob_okB q bb → wX_isInstruction_44 post (nI q) a := by
    intro hB
    unfold wX_isInstruction_44
    refine ob_grX q hq _ ?_
    unfold ob_mI
    cases hm : ob_most q with
    | none =>
      exact br_t rfl (h1 (fun g hg => absurd (hm.symm.trans hg) (by simp)) hB)
    | some g =>
      have hg31 := ob_most_le q g hm
      refine br_f (ob_m1n g (by omega)) ?_
      rcases ob_rgA (a := a) (g := g) (by omega) with ⟨x, hx, rfl⟩ | ⟨h, hno⟩
      · refine br_f (nI_pos (by omega)) (br_f (nI_nlt hx (by omega)) (h1 (fun g' hg' => ?_) hB))
        have e : g = g' := Option.some.inj (hm.symm.trans hg')
        exact ⟨x, by omega, rfl⟩
      · have hz : post 0 := h0 (fun z => hno (z.1 g hm))
        by_cases ha : a < 0
        · exact br_t ha hz
        · exact br_f ha (br_t (h.resolve_left ha) hz)
  have h23 : (q = 5 ∨ q = 6) → wX_isInstruction_23 post (nI q) a bb := by
    intro h56
    unfold wX_isInstruction_23 wX_isInstruction_28
    refine br_f (by decide) ?_
    rcases ob_rgA (a := bb) (g := 3) (by decide) with ⟨y, hy, rfl⟩ | ⟨h, hno⟩
    · exact br_f (nI_pos (by omega)) (br_t (nI_lt (b := 4) (by omega) (by decide)) (h44 (fun _ => ⟨y, hy, rfl⟩)))
    · have hz : post 0 := h0 (fun z => hno (z.2 h56))
      by_cases hb : bb < 0
      · exact br_t hb hz
      · refine br_f hb (br_f (fun z => ?_) hz)
        have h3 := h.resolve_left hb
        rw [Int32.lt_iff_toInt_lt] at h3 z
        rw [show (nI 3).toInt = 3 from by decide] at h3
        rw [show (4 : Int32).toInt = 4 from by decide] at z
        omega
  unfold wpX_isInstruction
  refine br_f (nI_pos (by omega)) (br_t (nI_le (b := 31) (by omega) (by decide)) ?_)
  by_cases h5 : q = 5
  · exact br_t (by rw [h5]; rfl) (h23 (Or.inl h5))
  by_cases h6 : q = 6
  · exact br_f (fun z => h5 ((nI_eq (b := 5) (by omega) (by decide)).mp z)) (br_t (by rw [h6]; rfl) (h23 (Or.inr h6)))
  refine br_f (fun z => h5 ((nI_eq (b := 5) (by omega) (by decide)).mp z)) (br_f (fun z => h6 ((nI_eq (b := 6) (by omega) (by decide)).mp z)) ?_)
  unfold wX_isInstruction_28
  exact br_t rfl (h44 (fun z => absurd z (by omega)))
section
variable {n : Nat} {d : Nat} {b : Nat} {m : Nat} {deep : Int32} {res : Int64} {thr : Int32} {thn : Int64} {CL : Nat → Nat} {cStr : Nat → Int32} {cOp : Nat → Int32} {cA : Nat → Int32} {cB : Nat → Int32} {OK : Nat → Nat} {oKin : Nat → Int32} {oOpen : Nat → Int32} {pVal : Nat → Int64} {aOut : Nat → Int32} {aVar : Nat → Int64} {FC : Nat → Nat} {FA : Nat → Nat} {FP : Nat → Nat} {FH : Nat → Nat} {FT : Nat → Nat} {fSelf : Nat → Int64} {stk : Nat → Int64} {TA : Nat → Nat} {TH : Nat → Nat} {xFc : Nat → Int32} {xFs : Nat → Int32} {xPc : Nat → Int32} {xKo : Nat → Int32} {xPk : Nat → Int32} {tw : Nat → Bool} {te : Nat → Bool} {tc : Nat → Bool} {xSet : Nat → Int64} {S : Nat → Nat} {XH : Nat → Nat} {xHeld : Nat → Int64} {xArg : Nat → Int64} {yCo : Nat → Int32} {yAr : Nat → Int32} {M : Nat → Nat} {yPair : Nat → Int32} {ySeen : Nat → Int32} {ySet : Nat → Int64} {yStay : Nat → Int32} {yArg : Nat → Int64} {yHan : Nat → Int32} {yKept : Nat → Int64} {yGiven : Int32}
theorem ob_insY {q c : Nat} (hq : q < 32) (hc : c < 8) (a bb : Int32) (post : Int32 → SY → Prop) (hl : CL c ≤ 24) (h1 : ob_okA q a → ob_okB q bb → wY_add_79 post (nI c) (nI q) a bb (nI (24 * c + CL c)) (nI n) (nI m) yGiven (nI d) deep (nI b) thr thn res cStr (fun zz => nI (CL zz)) cOp cA cB (fun zz => nI (OK zz)) oKin yCo yAr oOpen (fun zz => nI (M zz)) (fun zz => ob_yf (tw zz) (te zz) (tc zz)) yPair ySeen pVal ySet (fun zz => ob_th (S zz)) yStay aOut aVar yArg (fun zz => nI (FC zz)) (fun zz => nI (FA zz)) (fun zz => nI (FP zz)) (fun zz => nI (FH zz)) yHan (fun zz => nI (FT zz)) (fun zz => nI (TA zz)) (fun zz => nI (TH zz)) fSelf yKept stk) (h0 : ¬ (ob_okA q a ∧ ob_okB q bb) → post (-1) (nI n, nI m, yGiven, nI d, deep, nI b, thr, thn, res, cStr, (fun zz => nI (CL zz)), cOp, cA, cB, (fun zz => nI (OK zz)), oKin, yCo, yAr, oOpen, (fun zz => nI (M zz)), (fun zz => ob_yf (tw zz) (te zz) (tc zz)), yPair, ySeen, pVal, ySet, (fun zz => ob_th (S zz)), yStay, aOut, aVar, yArg, (fun zz => nI (FC zz)), (fun zz => nI (FA zz)), (fun zz => nI (FP zz)), (fun zz => nI (FH zz)), yHan, (fun zz => nI (FT zz)), (fun zz => nI (TA zz)), (fun zz => nI (TH zz)), fSelf, yKept, stk)) : wpY_add post (nI n, nI m, yGiven, nI d, deep, nI b, thr, thn, res, cStr, (fun zz => nI (CL zz)), cOp, cA, cB, (fun zz => nI (OK zz)), oKin, yCo, yAr, oOpen, (fun zz => nI (M zz)), (fun zz => ob_yf (tw zz) (te zz) (tc zz)), yPair, ySeen, pVal, ySet, (fun zz => ob_th (S zz)), yStay, aOut, aVar, yArg, (fun zz => nI (FC zz)), (fun zz => nI (FA zz)), (fun zz => nI (FP zz)), (fun zz => nI (FH zz)), yHan, (fun zz => nI (FT zz)), (fun zz => nI (TA zz)), (fun zz => nI (TH zz)), fSelf, yKept, stk) (nI c) (nI q) a bb := by
  have hin : vp_in (nI c) 8 := vp_in_nI hc (by decide)
  have h56 : ob_okA q a → wY_add_56 post (nI c) (nI q) a bb (nI (24 * c + CL c)) (nI n) (nI m) yGiven (nI d) deep (nI b) thr thn res cStr (fun zz => nI (CL zz)) cOp cA cB (fun zz => nI (OK zz)) oKin yCo yAr oOpen (fun zz => nI (M zz)) (fun zz => ob_yf (tw zz) (te zz) (tc zz)) yPair ySeen pVal ySet (fun zz => ob_th (S zz)) yStay aOut aVar yArg (fun zz => nI (FC zz)) (fun zz => nI (FA zz)) (fun zz => nI (FP zz)) (fun zz => nI (FH zz)) yHan (fun zz => nI (FT zz)) (fun zz => nI (TA zz)) (fun zz => nI (TH zz)) fSelf yKept stk := by
    intro hA
    have h67 : (q = 5 ∨ q = 6) → wY_add_67 post (nI c) (nI q) a bb (nI (24 * c + CL c)) (nI n) (nI m) yGiven (nI d) deep (nI b) thr thn res cStr (fun zz => nI (CL zz)) cOp cA cB (fun zz => nI (OK zz)) oKin yCo yAr oOpen (fun zz => nI (M zz)) (fun zz => ob_yf (tw zz) (te zz) (tc zz)) yPair ySeen pVal ySet (fun zz => ob_th (S zz)) yStay aOut aVar yArg (fun zz => nI (FC zz)) (fun zz => nI (FA zz)) (fun zz => nI (FP zz)) (fun zz => nI (FH zz)) yHan (fun zz => nI (FT zz)) (fun zz => nI (TA zz)) (fun zz => nI (TH zz)) fSelf yKept stk := by
      intro h
      unfold wY_add_67
      rcases ob_rgA (a := bb) (g := 3) (by decide) with ⟨y, hy, rfl⟩ | ⟨hh, hno⟩
      · exact ob_inT (b := 0) (c := 3) (by omega) hy (by decide) _ (br_f (by decide) (h1 hA (fun _ => ⟨y, hy, rfl⟩)))
      · exact ob_inF hh _ (br_t rfl (h0 (fun z => hno (z.2 h))))
    unfold wY_add_56
    by_cases h5 : q = 5
    · exact br_t (by rw [h5]; rfl) (h67 (Or.inl h5))
    by_cases h6 : q = 6
    · exact br_f (fun z => h5 ((nI_eq (b := 5) (by omega) (by decide)).mp z)) (br_t (by rw [h6]; rfl) (h67 (Or.inr h6)))
    exact br_f (fun z => h5 ((nI_eq (b := 5) (by omega) (by decide)).mp z)) (br_f (fun z => h6 ((nI_eq (b := 6) (by omega) (by decide)).mp z)) (h1 hA (fun z => absurd z (by omega))))
  unfold wpY_add
  refine ob_inT (b := 0) (c := 7) (by omega) (by omega) (by decide) _ (br_f (by decide) ?_)
  refine ob_inT (b := 0) (c := 31) (by omega) (by omega) (by decide) _ (br_f (by decide) ?_)
  refine ob_grY q hq _ ⟨hin, nm_r (e' := nI (24 * c + CL c)) (by rw [ob_cl (by omega)]; exact ob_iy24 _ _) ?_⟩
  unfold ob_mI
  cases hm : ob_most q with
  | none => exact br_t (by decide) (h56 (fun g hg => absurd (hm.symm.trans hg) (by simp)))
  | some g =>
    have hg31 := ob_most_le q g hm
    refine br_f (nI_pos (by omega)) ?_
    rcases ob_rgA (a := a) (g := g) (by omega) with ⟨x, hx, rfl⟩ | ⟨h, hno⟩
    · refine ob_inT (b := 0) (by omega) hx (by omega) _ (br_f (by decide) (h56 (fun g' hg' => ?_)))
      have e : g = g' := Option.some.inj (hm.symm.trans hg')
      exact ⟨x, by omega, rfl⟩
    · exact ob_inF h _ (br_t rfl (h0 (fun z => hno (z.1 g hm))))
end
