/-! ===== an array grows shorter ===== -/
/-- no element at s or beyond -/
def ob_cut (M : Nat → Nat) (o s : Nat) : Nat → Nat := fun j => if 32 * o + s ≤ j ∧ j < 32 * o + 16 then 0 else M j
theorem ob_cut_16 (M : Nat → Nat) (o : Nat) : ob_cut M o 16 = M := by
  funext j; unfold ob_cut; rw [if_neg (by omega)]
theorem ob_cut_s (M : Nat → Nat) (o : Nat) {s : Nat} (hs : s < 16) : ob_um (ob_cut M o (s + 1)) (32 * o + s) 0 = ob_cut M o s := by
  funext j
  unfold ob_um ob_cut
  by_cases h : j = 32 * o + s
  · rw [if_pos h, if_pos (by omega)]
  · rw [if_neg h]
    by_cases h2 : 32 * o + (s + 1) ≤ j ∧ j < 32 * o + 16
    · rw [if_pos h2, if_pos (by omega)]
    · rw [if_neg h2, if_neg (by omega)]
theorem ob_cut_lo (M : Nat → Nat) {o s j : Nat} (h : j < 32 * o + s ∨ 32 * o + 16 ≤ j) : ob_cut M o s j = M j := by
  unfold ob_cut; rw [if_neg (by omega)]
theorem ob_cut_e {M : Nat → Nat} {o s : Nat} (h : ∀ q, s ≤ q → q < 16 → M (32 * o + q) = 0) : ob_cut M o s = M := by
  funext j
  unfold ob_cut
  split
  · rename_i z
    have := h (j - 32 * o) (by omega) (by omega)
    rw [show 32 * o + (j - 32 * o) = j from by omega] at this
    exact this.symm
  · rfl
/-- how far an array goes down towards l -/
def ob_rch (M : Nat → Nat) (tc : Nat → Bool) (o l r : Nat) : Prop :=
  l ≤ r ∧ r ≤ 16 ∧ (∀ q, r ≤ q → q < 16 → M (32 * o + q) = 0 ∨ tc (32 * o + q) = true) ∧ (r = l ∨ ∃ q, r = q + 1 ∧ l ≤ q ∧ M (32 * o + q) ≠ 0 ∧ tc (32 * o + q) = false)
theorem ob_rch_ex (M : Nat → Nat) (tc : Nat → Bool) (o l : Nat) : ∀ t s, s = l + t → s ≤ 16 → (∀ q, s ≤ q → q < 16 → M (32 * o + q) = 0 ∨ tc (32 * o + q) = true) → ∃ r, ob_rch M tc o l r
  | 0, s, e, hs, h => ⟨s, by omega, hs, h, Or.inl (by omega)⟩
  | t + 1, s, e, hs, h => by
    by_cases z : M (32 * o + (l + t)) = 0 ∨ tc (32 * o + (l + t)) = true
    · refine ob_rch_ex M tc o l t (l + t) rfl (by omega) (fun q hq hq2 => ?_)
      by_cases y : q = l + t
      · rw [y]; exact z
      · exact h q (by omega) hq2
    · refine ⟨s, by omega, hs, h, Or.inr ⟨l + t, by omega, by omega, fun y => z (Or.inl y), ?_⟩⟩
      cases hh : tc (32 * o + (l + t))
      · rfl
      · exact absurd (Or.inr hh) z
theorem ob_m1lt {s : Nat} (h : s < 2 ^ 31) : nI s + (-1) < nI s := by
  cases s with
  | zero => decide
  | succ s => rw [pk_m1]; exact nI_lt (by omega) h
section
variable {n : Nat} {d : Nat} {b : Nat} {m : Nat} {deep : Int32} {res : Int64} {thr : Int32} {thn : Int64} {CL : Nat → Nat} {cStr : Nat → Int32} {cOp : Nat → Int32} {cA : Nat → Int32} {cB : Nat → Int32} {OK : Nat → Nat} {oKin : Nat → Int32} {oOpen : Nat → Int32} {pVal : Nat → Int64} {aOut : Nat → Int32} {aVar : Nat → Int64} {FC : Nat → Nat} {FA : Nat → Nat} {FP : Nat → Nat} {FH : Nat → Nat} {FT : Nat → Nat} {fSelf : Nat → Int64} {stk : Nat → Int64} {TA : Nat → Nat} {TH : Nat → Nat} {xFc : Nat → Int32} {xFs : Nat → Int32} {xPc : Nat → Int32} {xKo : Nat → Int32} {xPk : Nat → Int32} {tw : Nat → Bool} {te : Nat → Bool} {tc : Nat → Bool} {xSet : Nat → Int64} {S : Nat → Nat} {XH : Nat → Nat} {xHeld : Nat → Int64} {xArg : Nat → Int64} {yCo : Nat → Int32} {yAr : Nat → Int32} {M : Nat → Nat} {yPair : Nat → Int32} {ySeen : Nat → Int32} {ySet : Nat → Int64} {yStay : Nat → Int32} {yArg : Nat → Int64} {yHan : Nat → Int32} {yKept : Nat → Int64} {yGiven : Int32}
variable {o k i l r : Nat}
theorem ob_leastX (ho : o < n) (hn : n ≤ 32) (hP : ob_gP n m M pVal xPk tw xSet yPair ySet) (hr : ob_rch M tc o l r) (post : Int32 → Prop) (hp : post (nI r)) :
    ∀ t s, s = r + t → s ≤ 16 → wX_leastLength_3 post (nI o) (nI l) (nI n) (nI d) (nI b) deep res thr thn (fun zz => nI (CL zz)) cStr cOp cA cB (fun zz => nI (OK zz)) oKin oOpen xFc xFs xPc xKo xPk (fun zz => ob_xa (tw zz) (te zz) (tc zz)) pVal xSet (fun zz => nI (S zz)) aOut aVar (fun zz => nI (FC zz)) (fun zz => nI (FP zz)) (fun zz => nI (FA zz)) (fun zz => nI (FH zz)) (fun zz => nI (XH zz)) (fun zz => nI (FT zz)) fSelf xHeld stk (fun zz => nI (TA zz)) (fun zz => nI (TH zz)) xArg (t + 1) (nI s + (-1))
  | 0, s, e, hs => by
    have e' : s = r := by omega
    subst e'
    obtain ⟨h1, h2, h3, h4⟩ := hr
    unfold wX_leastLength_3
    rcases h4 with h4 | ⟨q, h5, h6, h7, h8⟩
    · subst h4
      exact br_t (ob_m1lt (by omega)) hp
    · subst h5
      have hsl := ob_sl_0 (hP.2.2 (32 * o + q) (by omega))
      have hpk : ¬ xPk (32 * o + q) = 0 := fun z => h7 (hsl.mp z)
      have hnl : ¬ q < l := by omega
      rw [pk_m1]
      simp (disch := first | omega | decide) only [hnl, hpk, h8, forall_eq, not_true, not_false_iff, false_implies, true_implies, true_and, and_true, ob_sub1, Nat.add_sub_cancel, nI_1, ob_ix, ob_iy, ob_ix24, ob_iy24, ob_ix10, ob_iy10, ob_ix4, ob_iy4, ob_ix3, ob_iy3, ob_s1, ob_s2, ob_s3, ob_s4, ob_ltl, ob_lel, ob_eql, ob_ltr, ob_ler, ob_uN, Nat.add_one_ne_zero, ob_xs3, ob_lnn, ob_ltn, ob_eqn, Nat.not_lt_zero, Nat.zero_le, Nat.reduceEqDiff, Nat.reduceLeDiff, Nat.reduceLT, ob_eqll, Int32.reduceLT, Int32.reduceLE, eq_self_iff_true]
      exact br_t ((ob_xaC _ _ _).mpr rfl) hp
  | t + 1, s, e, hs => by
    obtain ⟨q, rfl⟩ : ∃ q, s = q + 1 := ⟨s - 1, by omega⟩
    have ih := ob_leastX ho hn hP hr post hp t q (by omega) (by omega)
    have hq := hr.2.2.1 q (by omega) (by omega)
    have hl := hr.1
    have hnl : ¬ q < l := by omega
    have hsl := ob_sl_0 (hP.2.2 (32 * o + q) (by omega))
    unfold wX_leastLength_3
    rw [pk_m1]
    by_cases hpk : xPk (32 * o + q) = 0
    · simp (disch := first | omega | decide) only [hnl, hpk, forall_eq, not_true, not_false_iff, false_implies, true_implies, true_and, and_true, ob_sub1, Nat.add_sub_cancel, nI_1, ob_ix, ob_iy, ob_ix24, ob_iy24, ob_ix10, ob_iy10, ob_ix4, ob_iy4, ob_ix3, ob_iy3, ob_s1, ob_s2, ob_s3, ob_s4, ob_ltl, ob_lel, ob_eql, ob_ltr, ob_ler, ob_uN, Nat.add_one_ne_zero, ob_xs3, ob_lnn, ob_ltn, ob_eqn, Nat.not_lt_zero, Nat.zero_le, Nat.reduceEqDiff, Nat.reduceLeDiff, Nat.reduceLT, ob_eqll, Int32.reduceLT, Int32.reduceLE, eq_self_iff_true]
      exact ih
    · have htc : tc (32 * o + q) = true := by
        rcases hq with h | h
        · exact absurd (hsl.mpr h) hpk
        · exact h
      simp (disch := first | omega | decide) only [hnl, hpk, htc, forall_eq, not_true, not_false_iff, false_implies, true_implies, true_and, and_true, ob_sub1, Nat.add_sub_cancel, nI_1, ob_ix, ob_iy, ob_ix24, ob_iy24, ob_ix10, ob_iy10, ob_ix4, ob_iy4, ob_ix3, ob_iy3, ob_s1, ob_s2, ob_s3, ob_s4, ob_ltl, ob_lel, ob_eql, ob_ltr, ob_ler, ob_uN, Nat.add_one_ne_zero, ob_xs3, ob_lnn, ob_ltn, ob_eqn, Nat.not_lt_zero, Nat.zero_le, Nat.reduceEqDiff, Nat.reduceLeDiff, Nat.reduceLT, ob_eqll, Int32.reduceLT, Int32.reduceLE, eq_self_iff_true]
      exact br_f (fun z => absurd ((ob_xaC _ _ _).mp z) (by decide)) ih
/-- the component removes the elements from 15 down to r -/
theorem ob_cutX {said x11 : Int32} {v w : Int64} {x2 x10 : Int32} (ho : o < n) (hn : n ≤ 32) (hr : r ≤ 16) :
    ∀ t s xPc xKo xPk, s = r + t → s ≤ 16 → ob_gP n m (ob_cut M o s) pVal xPk tw xSet yPair ySet → ob_gL n (ob_cut M o s) xPc xKo →
    ∃ (xPc' : Nat → Int32) (xKo' : Nat → Int32) (xPk' : Nat → Int32), ob_gP n m (ob_cut M o r) pVal xPk' tw xSet yPair ySet ∧ ob_gL n (ob_cut M o r) xPc' xKo' ∧
      ∀ post : Int32 → SX → Prop, wX_defineProperty_189 post (nI o) x2 said v w x10 x11 (nI r).toInt64 (nI n) (nI d) (nI b) deep res thr thn (fun zz => nI (CL zz)) cStr cOp cA cB (fun zz => nI (OK zz)) oKin oOpen xFc xFs xPc' xKo' xPk' (fun zz => ob_xa (tw zz) (te zz) (tc zz)) pVal xSet (fun zz => nI (S zz)) aOut aVar (fun zz => nI (FC zz)) (fun zz => nI (FP zz)) (fun zz => nI (FA zz)) (fun zz => nI (FH zz)) (fun zz => nI (XH zz)) (fun zz => nI (FT zz)) fSelf xHeld stk (fun zz => nI (TA zz)) (fun zz => nI (TH zz)) xArg → wX_defineProperty_164 post (nI o) x2 said v w x10 x11 (nI r) (t + 1) (nI s + (-1)) (nI n) (nI d) (nI b) deep res thr thn (fun zz => nI (CL zz)) cStr cOp cA cB (fun zz => nI (OK zz)) oKin oOpen xFc xFs xPc xKo xPk (fun zz => ob_xa (tw zz) (te zz) (tc zz)) pVal xSet (fun zz => nI (S zz)) aOut aVar (fun zz => nI (FC zz)) (fun zz => nI (FP zz)) (fun zz => nI (FA zz)) (fun zz => nI (FH zz)) (fun zz => nI (XH zz)) (fun zz => nI (FT zz)) fSelf xHeld stk (fun zz => nI (TA zz)) (fun zz => nI (TH zz)) xArg
  | 0, s, xPc, xKo, xPk, e, hs, hP, hL => by
    have e' : s = r := by omega
    subst e'
    refine ⟨xPc, xKo, xPk, hP, hL, fun post hp => ?_⟩
    unfold wX_defineProperty_164
    exact br_t (ob_m1lt (by omega)) hp
  | t + 1, s, xPc, xKo, xPk, e, hs, hP, hL => by
    obtain ⟨q, rfl⟩ : ∃ q, s = q + 1 := ⟨s - 1, by omega⟩
    have hq16 : q < 16 := by omega
    have hP1 := ob_gP_del (i := 32 * o + q) hP
    obtain ⟨xPc1, xKo1, hL1, hX1⟩ := ob_remX (d := d) (b := b) (deep := deep) (res := res) (thr := thr) (thn := thn) (CL := CL) (cStr := cStr) (cOp := cOp) (cA := cA) (cB := cB) (OK := OK) (oKin := oKin) (oOpen := oOpen) (aOut := aOut) (aVar := aVar) (FC := FC) (FA := FA) (FP := FP) (FH := FH) (FT := FT) (fSelf := fSelf) (stk := stk) (TA := TA) (TH := TH) (xFc := xFc) (xFs := xFs) (te := te) (tc := tc) (S := S) (XH := XH) (xHeld := xHeld) (xArg := xArg) (k := q) hP hL hn ho (by omega)
    rw [ob_cut_s M o hq16] at hP1 hL1
    obtain ⟨xPc2, xKo2, xPk2, hP2, hL2, h2⟩ := ob_cutX ho hn hr t q xPc1 xKo1 _ (by omega) (by omega) hP1 hL1
    refine ⟨xPc2, xKo2, xPk2, hP2, hL2, fun post hp => ?_⟩
    unfold wX_defineProperty_164
    rw [pk_m1]
    have hnl : ¬ q < r := by omega
    simp (disch := first | omega | decide) only [hnl, forall_eq, not_true, not_false_iff, false_implies, true_implies, true_and, and_true, ob_sub1, Nat.add_sub_cancel, nI_1, ob_ix, ob_iy, ob_ix24, ob_iy24, ob_ix10, ob_iy10, ob_ix4, ob_iy4, ob_ix3, ob_iy3, ob_s1, ob_s2, ob_s3, ob_s4, ob_ltl, ob_lel, ob_eql, ob_ltr, ob_ler, ob_uN, Nat.add_one_ne_zero, ob_xs3, ob_lnn, ob_ltn, ob_eqn, Nat.not_lt_zero, Nat.zero_le, Nat.reduceEqDiff, Nat.reduceLeDiff, Nat.reduceLT, ob_eqll, Int32.reduceLT, Int32.reduceLE, eq_self_iff_true]
    refine hX1 _ ?_
    exact h2 post hp
/-- the reference the same -/
theorem ob_cutY {said on : Int32} (ho : o < 32) (hl : l ≤ 16) (hm : ∀ j, M j ≤ m) (hm2 : m < 2 ^ 31) (hr : ob_rch M tc o l r) (post : Int32 → SY → Prop)
    (hp : wY_shorten_93 post (nI o) said on (nI l) (nI (32 * o + 16)) (nI (32 * o + r) + (-1)) (nI n) (nI m) yGiven (nI d) deep (nI b) thr thn res cStr (fun zz => nI (CL zz)) cOp cA cB (fun zz => nI (OK zz)) oKin yCo yAr oOpen (fun zz => nI ((ob_cut M o r) zz)) (fun zz => ob_yf (tw zz) (te zz) (tc zz)) yPair ySeen pVal ySet (fun zz => ob_th (S zz)) yStay aOut aVar yArg (fun zz => nI (FC zz)) (fun zz => nI (FA zz)) (fun zz => nI (FP zz)) (fun zz => nI (FH zz)) yHan (fun zz => nI (FT zz)) (fun zz => nI (TA zz)) (fun zz => nI (TH zz)) fSelf yKept stk) :
    ∀ t s, s = r + t → s ≤ 16 → wY_shorten_44 post (nI o) said on (nI l) (nI (32 * o + 16)) (nI n) (nI m) yGiven (nI d) deep (nI b) thr thn res (t + 1) (nI (32 * o + s) + (-1)) cStr (fun zz => nI (CL zz)) cOp cA cB (fun zz => nI (OK zz)) oKin yCo yAr oOpen (fun zz => nI ((ob_cut M o s) zz)) (fun zz => ob_yf (tw zz) (te zz) (tc zz)) yPair ySeen pVal ySet (fun zz => ob_th (S zz)) yStay aOut aVar yArg (fun zz => nI (FC zz)) (fun zz => nI (FA zz)) (fun zz => nI (FP zz)) (fun zz => nI (FH zz)) yHan (fun zz => nI (FT zz)) (fun zz => nI (TA zz)) (fun zz => nI (TH zz)) fSelf yKept stk
  | 0, s, e, hs => by
    have e' : s = r := by omega
    subst e'
    obtain ⟨h1, h2, h3, h4⟩ := hr
    unfold wY_shorten_44
    rcases h4 with h4 | ⟨q, h5, h6, h7, h8⟩
    · subst h4
      rw [ob_iy]
      exact br_t (ob_m1lt (by omega)) hp
    · subst h5
      have hnl : ¬ 32 * o + q < 32 * o + l := by omega
      have hcut : ob_cut M o (q + 1) (32 * o + q) = M (32 * o + q) := ob_cut_lo M (by omega)
      have hMm := hm (32 * o + q)
      rw [show 32 * o + (q + 1) = (32 * o + q) + 1 from rfl, pk_m1] at hp ⊢
      simp (disch := first | omega | decide) only [hnl, hcut, h7, h8, forall_eq, not_true, not_false_iff, false_implies, true_implies, true_and, and_true, ob_sub1, Nat.add_sub_cancel, nI_1, ob_ix, ob_iy, ob_ix24, ob_iy24, ob_ix10, ob_iy10, ob_ix4, ob_iy4, ob_ix3, ob_iy3, ob_s1, ob_s2, ob_s3, ob_s4, ob_ltl, ob_lel, ob_eql, ob_ltr, ob_ler, ob_uN, Nat.add_one_ne_zero, ob_xs3, ob_lnn, ob_ltn, ob_eqn, Nat.not_lt_zero, Nat.zero_le, Nat.reduceEqDiff, Nat.reduceLeDiff, Nat.reduceLT, ob_eqll, Int32.reduceLT, Int32.reduceLE, eq_self_iff_true]
      exact br_t ((ob_yfC _ _ _).mpr rfl) hp
  | t + 1, s, e, hs => by
    obtain ⟨q, rfl⟩ : ∃ q, s = q + 1 := ⟨s - 1, by omega⟩
    have ih := ob_cutY ho hl hm hm2 hr post hp t q (by omega) (by omega)
    have hq := hr.2.2.1 q (by omega) (by omega)
    have hlr := hr.1
    have hnl : ¬ 32 * o + q < 32 * o + l := by omega
    have hcut : ob_cut M o (q + 1) (32 * o + q) = M (32 * o + q) := ob_cut_lo M (by omega)
    have hMm := hm (32 * o + q)
    have hcs := ob_cut_s M o (s := q) (by omega)
    unfold wY_shorten_44
    rw [show 32 * o + (q + 1) = (32 * o + q) + 1 from rfl, pk_m1]
    by_cases hM : M (32 * o + q) = 0
    · simp (disch := first | omega | decide) only [hnl, hcut, hM, ob_uN0, hcs, forall_eq, not_true, not_false_iff, false_implies, true_implies, true_and, and_true, ob_sub1, Nat.add_sub_cancel, nI_1, ob_ix, ob_iy, ob_ix24, ob_iy24, ob_ix10, ob_iy10, ob_ix4, ob_iy4, ob_ix3, ob_iy3, ob_s1, ob_s2, ob_s3, ob_s4, ob_ltl, ob_lel, ob_eql, ob_ltr, ob_ler, ob_uN, Nat.add_one_ne_zero, ob_xs3, ob_lnn, ob_ltn, ob_eqn, Nat.not_lt_zero, Nat.zero_le, Nat.reduceEqDiff, Nat.reduceLeDiff, Nat.reduceLT, ob_eqll, Int32.reduceLT, Int32.reduceLE, eq_self_iff_true]
      exact ih
    · have htc : tc (32 * o + q) = true := by
        rcases hq with h | h
        · exact absurd h hM
        · exact h
      simp (disch := first | omega | decide) only [hnl, hcut, hM, htc, ob_uN0, hcs, forall_eq, not_true, not_false_iff, false_implies, true_implies, true_and, and_true, ob_sub1, Nat.add_sub_cancel, nI_1, ob_ix, ob_iy, ob_ix24, ob_iy24, ob_ix10, ob_iy10, ob_ix4, ob_iy4, ob_ix3, ob_iy3, ob_s1, ob_s2, ob_s3, ob_s4, ob_ltl, ob_lel, ob_eql, ob_ltr, ob_ler, ob_uN, Nat.add_one_ne_zero, ob_xs3, ob_lnn, ob_ltn, ob_eqn, Nat.not_lt_zero, Nat.zero_le, Nat.reduceEqDiff, Nat.reduceLeDiff, Nat.reduceLT, ob_eqll, Int32.reduceLT, Int32.reduceLE, eq_self_iff_true]
      exact br_f (fun z => absurd ((ob_yfC _ _ _).mp z) (by decide)) ih
end
