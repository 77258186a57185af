/-! ===== a property is lost; an object is sealed ===== -/
theorem ob_xsl : ∀ w e c a b : Bool, (ob_xa w e c &&& ((if a then 5 else if b then 4 else 0) ^^^ (-1))) = ob_xa (!a && w) e (!(a || b) && c) := by decide +kernel
theorem ob_ysl2 : ∀ w e c : Bool, (ob_yf w e c &&& (-35)) = ob_yf false e false := by decide +kernel
theorem ob_ysl1 : ∀ w e c : Bool, (ob_yf w e c &&& (-33)) = ob_yf w e false := by decide +kernel
def ob_sw (o k : Nat) (on : Bool) (F : Nat → Bool) : Nat → Bool := fun i => if 32 * o ≤ i ∧ i < 32 * o + k ∧ on = true then false else F i
theorem ob_sw_0 (o : Nat) (on : Bool) (F : Nat → Bool) : ob_sw o 0 on F = F := by
  funext i; unfold ob_sw; rw [if_neg (by omega)]
theorem ob_sw_at (o k : Nat) (on : Bool) (F : Nat → Bool) : ob_sw o k on F (32 * o + k) = F (32 * o + k) := by
  unfold ob_sw; rw [if_neg (by omega)]
theorem ob_sw_s (o k : Nat) (on : Bool) (F : Nat → Bool) : ob_ub (ob_sw o k on F) (32 * o + k) (!on && F (32 * o + k)) = ob_sw o (k + 1) on F := by
  funext i
  unfold ob_ub ob_sw
  cases on
  · simp only [Bool.false_eq_true, and_false, if_false, Bool.not_false, Bool.true_and]
    split
    · rename_i h; rw [h]
    · rfl
  · simp only [and_true, Bool.not_true, Bool.false_and]
    by_cases h : i = 32 * o + k
    · rw [if_pos h, if_pos (by omega)]
    · rw [if_neg h]
      by_cases h2 : 32 * o ≤ i ∧ i < 32 * o + k
      · rw [if_pos h2, if_pos (by omega)]
      · rw [if_neg h2, if_neg (by omega)]
theorem ob_sw_f (o k : Nat) (F : Nat → Bool) : ob_sw o k false F = F := by
  funext i; unfold ob_sw; simp
theorem ob_sw_le {o k i : Nat} {on : Bool} {F : Nat → Bool} (h : F i = false) : ob_sw o k on F i = false := by
  unfold ob_sw; split
  · rfl
  · exact h
section
variable {n : Nat} {d : Nat} {b : Nat} {m : Nat} {deep : Int32} {res : Int64} {thr : Int32} {thn : Int64} {CL : Nat → Nat} {cStr : Nat → Int32} {cOp : Nat → Int32} {cA : Nat → Int32} {cB : Nat → Int32} {OK : Nat → Nat} {oKin : Nat → Int32} {oOpen : Nat → Int32} {pVal : Nat → Int64} {aOut : Nat → Int32} {aVar : Nat → Int64} {FC : Nat → Nat} {FA : Nat → Nat} {FP : Nat → Nat} {FH : Nat → Nat} {FT : Nat → Nat} {fSelf : Nat → Int64} {stk : Nat → Int64} {TA : Nat → Nat} {TH : Nat → Nat} {xFc : Nat → Int32} {xFs : Nat → Int32} {xPc : Nat → Int32} {xKo : Nat → Int32} {xPk : Nat → Int32} {tw : Nat → Bool} {te : Nat → Bool} {tc : Nat → Bool} {xSet : Nat → Int64} {S : Nat → Nat} {XH : Nat → Nat} {xHeld : Nat → Int64} {xArg : Nat → Int64} {yCo : Nat → Int32} {yAr : Nat → Int32} {M : Nat → Nat} {yPair : Nat → Int32} {ySeen : Nat → Int32} {ySet : Nat → Int64} {yStay : Nat → Int32} {yArg : Nat → Int64} {yHan : Nat → Int32} {yKept : Nat → Int64} {yGiven : Int32}
variable {o k h : Nat} {a c : Bool}
theorem ob_sealX1 (ho : o < 32) (hac : a = true → c = true) (post : SX → Prop) (hp : post (nI n, nI d, nI b, deep, res, thr, thn, (fun zz => nI (CL zz)), cStr, cOp, cA, cB, (fun zz => nI (OK zz)), oKin, oOpen, xFc, xFs, xPc, xKo, xPk, (fun zz => ob_xa ((ob_sw o 32 a tw) zz) (te zz) ((ob_sw o 32 c tc) zz)), pVal, xSet, (fun zz => nI (S zz)), aOut, aVar, (fun zz => nI (FC zz)), (fun zz => nI (FP zz)), (fun zz => nI (FA zz)), (fun zz => nI (FH zz)), (fun zz => nI (XH zz)), (fun zz => nI (FT zz)), fSelf, xHeld, stk, (fun zz => nI (TA zz)), (fun zz => nI (TH zz)), xArg)) :
    ∀ j k, j + k = 32 → wX_sealObject_29 post (nI o) (if a then 5 else if c then 4 else 0) (nI n) (nI d) (nI b) deep res thr thn (j + 1) (nI k) (fun zz => nI (CL zz)) cStr cOp cA cB (fun zz => nI (OK zz)) oKin oOpen xFc xFs xPc xKo xPk (fun zz => ob_xa ((ob_sw o k a tw) zz) (te zz) ((ob_sw o k c tc) zz)) pVal xSet (fun zz => nI (S zz)) aOut aVar (fun zz => nI (FC zz)) (fun zz => nI (FP zz)) (fun zz => nI (FA zz)) (fun zz => nI (FH zz)) (fun zz => nI (XH zz)) (fun zz => nI (FT zz)) fSelf xHeld stk (fun zz => nI (TA zz)) (fun zz => nI (TH zz)) xArg
  | 0, k, e => by
    have e' : k = 32 := by omega
    subst e'
    unfold wX_sealObject_29
    exact br_t (by decide) hp
  | j + 1, k, e => by
    have ih := ob_sealX1 ho hac post hp j (k + 1) (by omega)
    have h1 : ¬ 32 ≤ k := by omega
    have hca : (!(a || c) && tc (32 * o + k)) = (!c && tc (32 * o + k)) := by
      cases a
      · rfl
      · rw [hac rfl]; rfl
    unfold wX_sealObject_29
    simp (disch := first | omega | decide) only [h1, ob_sw_at, ob_xsl, hca, ob_uA, ob_sw_s, ob_ub_i, forall_eq, not_true, not_false_iff, false_implies, true_implies, true_and, and_true, ob_sub1, Nat.add_sub_cancel, nI_1, ob_ix, ob_iy, ob_ix24, ob_iy24, ob_ix10, ob_iy10, ob_ix4, ob_iy4, ob_ix3, ob_iy3, ob_s1, ob_s2, ob_s3, ob_s4, ob_ltl, ob_lel, ob_eql, ob_ltr, ob_ler, ob_uN, Nat.add_one_ne_zero, ob_xs3, ob_lnn, ob_ltn, ob_eqn, Nat.not_lt_zero, Nat.zero_le, Nat.reduceEqDiff, Nat.reduceLeDiff, Nat.reduceLT, ob_eqll, Int32.reduceLT, Int32.reduceLE, eq_self_iff_true]
    exact ih
theorem ob_sealX (ho : o < 32) (hh : h ≤ 2) (post : SX → Prop) (hp : post (nI n, nI d, nI b, deep, res, thr, thn, (fun zz => nI (CL zz)), cStr, cOp, cA, cB, (fun zz => nI (OK zz)), oKin, (upd oOpen o 0), xFc, xFs, xPc, xKo, xPk, (fun zz => ob_xa ((ob_sw o 32 (decide (h = 2)) tw) zz) (te zz) ((ob_sw o 32 (decide (h ≠ 0)) tc) zz)), pVal, xSet, (fun zz => nI (S zz)), aOut, aVar, (fun zz => nI (FC zz)), (fun zz => nI (FP zz)), (fun zz => nI (FA zz)), (fun zz => nI (FH zz)), (fun zz => nI (XH zz)), (fun zz => nI (FT zz)), fSelf, xHeld, stk, (fun zz => nI (TA zz)), (fun zz => nI (TH zz)), xArg)) : wpX_sealObject post (nI n, nI d, nI b, deep, res, thr, thn, (fun zz => nI (CL zz)), cStr, cOp, cA, cB, (fun zz => nI (OK zz)), oKin, oOpen, xFc, xFs, xPc, xKo, xPk, (fun zz => ob_xa (tw zz) (te zz) (tc zz)), pVal, xSet, (fun zz => nI (S zz)), aOut, aVar, (fun zz => nI (FC zz)), (fun zz => nI (FP zz)), (fun zz => nI (FA zz)), (fun zz => nI (FH zz)), (fun zz => nI (XH zz)), (fun zz => nI (FT zz)), fSelf, xHeld, stk, (fun zz => nI (TA zz)), (fun zz => nI (TH zz)), xArg) (nI o) (nI h) := by
  have hl := ob_sealX1 (n := n) (d := d) (b := b) (deep := deep) (res := res) (thr := thr) (thn := thn) (CL := CL) (cStr := cStr) (cOp := cOp) (cA := cA) (cB := cB) (OK := OK) (oKin := oKin) (oOpen := (upd oOpen o 0)) (pVal := pVal) (aOut := aOut) (aVar := aVar) (FC := FC) (FA := FA) (FP := FP) (FH := FH) (FT := FT) (fSelf := fSelf) (stk := stk) (TA := TA) (TH := TH) (xFc := xFc) (xFs := xFs) (xPc := xPc) (xKo := xKo) (xPk := xPk) (tw := tw) (te := te) (tc := tc) (xSet := xSet) (S := S) (XH := XH) (xHeld := xHeld) (xArg := xArg) (a := decide (h = 2)) (c := decide (h ≠ 0)) ho (by simp; omega) post hp 32 0 rfl
  rw [ob_sw_0, ob_sw_0] at hl
  unfold wpX_sealObject wX_sealObject_16
  have h3 : h = 0 ∨ h = 1 ∨ h = 2 := by omega
  rcases h3 with rfl | rfl | rfl
  · simp (disch := first | omega | decide) only [ob_nar0, forall_eq, not_true, not_false_iff, false_implies, true_implies, true_and, and_true, ob_sub1, Nat.add_sub_cancel, nI_1, ob_ix, ob_iy, ob_ix24, ob_iy24, ob_ix10, ob_iy10, ob_ix4, ob_iy4, ob_ix3, ob_iy3, ob_s1, ob_s2, ob_s3, ob_s4, ob_ltl, ob_lel, ob_eql, ob_ltr, ob_ler, ob_uN, Nat.add_one_ne_zero, ob_xs3, ob_lnn, ob_ltn, ob_eqn, Nat.not_lt_zero, Nat.zero_le, Nat.reduceEqDiff, Nat.reduceLeDiff, Nat.reduceLT, ob_eqll, Int32.reduceLT, Int32.reduceLE, eq_self_iff_true]
    exact ⟨33, hl⟩
  · simp (disch := first | omega | decide) only [ob_nar0, forall_eq, not_true, not_false_iff, false_implies, true_implies, true_and, and_true, ob_sub1, Nat.add_sub_cancel, nI_1, ob_ix, ob_iy, ob_ix24, ob_iy24, ob_ix10, ob_iy10, ob_ix4, ob_iy4, ob_ix3, ob_iy3, ob_s1, ob_s2, ob_s3, ob_s4, ob_ltl, ob_lel, ob_eql, ob_ltr, ob_ler, ob_uN, Nat.add_one_ne_zero, ob_xs3, ob_lnn, ob_ltn, ob_eqn, Nat.not_lt_zero, Nat.zero_le, Nat.reduceEqDiff, Nat.reduceLeDiff, Nat.reduceLT, ob_eqll, Int32.reduceLT, Int32.reduceLE, eq_self_iff_true]
    exact ⟨33, hl⟩
  · simp (disch := first | omega | decide) only [ob_nar0, forall_eq, not_true, not_false_iff, false_implies, true_implies, true_and, and_true, ob_sub1, Nat.add_sub_cancel, nI_1, ob_ix, ob_iy, ob_ix24, ob_iy24, ob_ix10, ob_iy10, ob_ix4, ob_iy4, ob_ix3, ob_iy3, ob_s1, ob_s2, ob_s3, ob_s4, ob_ltl, ob_lel, ob_eql, ob_ltr, ob_ler, ob_uN, Nat.add_one_ne_zero, ob_xs3, ob_lnn, ob_ltn, ob_eqn, Nat.not_lt_zero, Nat.zero_le, Nat.reduceEqDiff, Nat.reduceLeDiff, Nat.reduceLT, ob_eqll, Int32.reduceLT, Int32.reduceLE, eq_self_iff_true]
    exact ⟨33, hl⟩
theorem ob_sealY1 (ho : o < 32) (hh : (h = 1 ∧ a = false) ∨ (h = 2 ∧ a = true)) (post : Int32 → SY → Prop) (hp : post 1 (nI n, nI m, yGiven, nI d, deep, nI b, thr, thn, res, cStr, (fun zz => nI (CL zz)), cOp, cA, cB, (fun zz => nI (OK zz)), oKin, yCo, yAr, oOpen, (fun zz => nI (M zz)), (fun zz => ob_yf ((ob_sw o 32 a tw) zz) (te zz) ((ob_sw o 32 true tc) zz)), yPair, ySeen, pVal, ySet, (fun zz => ob_th (S zz)), yStay, aOut, aVar, yArg, (fun zz => nI (FC zz)), (fun zz => nI (FA zz)), (fun zz => nI (FP zz)), (fun zz => nI (FH zz)), yHan, (fun zz => nI (FT zz)), (fun zz => nI (TA zz)), (fun zz => nI (TH zz)), fSelf, yKept, stk)) :
    ∀ j k, j + k = 32 → wY_seal_37 post (nI o) (nI h) (nI n) (nI m) yGiven (nI d) deep (nI b) thr thn res (j + 1) (nI (32 * o + k)) cStr (fun zz => nI (CL zz)) cOp cA cB (fun zz => nI (OK zz)) oKin yCo yAr oOpen (fun zz => nI (M zz)) (fun zz => ob_yf ((ob_sw o k a tw) zz) (te zz) ((ob_sw o k true tc) zz)) yPair ySeen pVal ySet (fun zz => ob_th (S zz)) yStay aOut aVar yArg (fun zz => nI (FC zz)) (fun zz => nI (FA zz)) (fun zz => nI (FP zz)) (fun zz => nI (FH zz)) yHan (fun zz => nI (FT zz)) (fun zz => nI (TA zz)) (fun zz => nI (TH zz)) fSelf yKept stk
  | 0, k, e => by
    have e' : k = 32 := by omega
    subst e'
    unfold wY_seal_37
    have e2 : 32 * nI o + 32 = nI (32 * o + 32) := ob_iy o 32
    rw [e2]
    have hle : 32 * o + 32 ≤ 32 * o + 32 := Nat.le_refl _
    simp (disch := first | omega | decide) only [hle, forall_eq, not_true, not_false_iff, false_implies, true_implies, true_and, and_true, ob_sub1, Nat.add_sub_cancel, nI_1, ob_ix, ob_iy, ob_ix24, ob_iy24, ob_ix10, ob_iy10, ob_ix4, ob_iy4, ob_ix3, ob_iy3, ob_s1, ob_s2, ob_s3, ob_s4, ob_ltl, ob_lel, ob_eql, ob_ltr, ob_ler, ob_uN, Nat.add_one_ne_zero, ob_xs3, ob_lnn, ob_ltn, ob_eqn, Nat.not_lt_zero, Nat.zero_le, Nat.reduceEqDiff, Nat.reduceLeDiff, Nat.reduceLT, ob_eqll, Int32.reduceLT, Int32.reduceLE, eq_self_iff_true]
    exact hp
  | j + 1, k, e => by
    have ih := ob_sealY1 ho hh post hp j (k + 1) (by omega)
    have e2 : 32 * nI o + 32 = nI (32 * o + 32) := ob_iy o 32
    have h1 : ¬ 32 * o + 32 ≤ 32 * o + k := by omega
    have h0 : ¬ h ≤ 0 := by omega
    have hs1 := ob_sw_s o k true tc
    have hs2 := ob_sw_s o k a tw
    unfold wY_seal_37
    rw [e2]
    simp (disch := first | omega | decide) only [h1, h0, forall_eq, not_true, not_false_iff, false_implies, true_implies, true_and, and_true, ob_sub1, Nat.add_sub_cancel, nI_1, ob_ix, ob_iy, ob_ix24, ob_iy24, ob_ix10, ob_iy10, ob_ix4, ob_iy4, ob_ix3, ob_iy3, ob_s1, ob_s2, ob_s3, ob_s4, ob_ltl, ob_lel, ob_eql, ob_ltr, ob_ler, ob_uN, Nat.add_one_ne_zero, ob_xs3, ob_lnn, ob_ltn, ob_eqn, Nat.not_lt_zero, Nat.zero_le, Nat.reduceEqDiff, Nat.reduceLeDiff, Nat.reduceLT, ob_eqll, Int32.reduceLT, Int32.reduceLE, eq_self_iff_true]
    rw [show (!true && tc (32 * o + k)) = false from rfl] at hs1
    rcases hh with ⟨rfl, rfl⟩ | ⟨rfl, rfl⟩
    · rw [show (!false && tw (32 * o + k)) = tw (32 * o + k) from rfl] at hs2
      simp (disch := first | omega | decide) only [ob_sw_at, ob_ysl1, ob_uF, ob_ub_i, hs1, hs2, forall_eq, not_true, not_false_iff, false_implies, true_implies, true_and, and_true, ob_sub1, Nat.add_sub_cancel, nI_1, ob_ix, ob_iy, ob_ix24, ob_iy24, ob_ix10, ob_iy10, ob_ix4, ob_iy4, ob_ix3, ob_iy3, ob_s1, ob_s2, ob_s3, ob_s4, ob_ltl, ob_lel, ob_eql, ob_ltr, ob_ler, ob_uN, Nat.add_one_ne_zero, ob_xs3, ob_lnn, ob_ltn, ob_eqn, Nat.not_lt_zero, Nat.zero_le, Nat.reduceEqDiff, Nat.reduceLeDiff, Nat.reduceLT, ob_eqll, Int32.reduceLT, Int32.reduceLE, eq_self_iff_true]
      exact ih
    · rw [show (!true && tw (32 * o + k)) = false from rfl] at hs2
      simp (disch := first | omega | decide) only [ob_sw_at, ob_ysl2, ob_uF, ob_ub_i, hs1, hs2, forall_eq, not_true, not_false_iff, false_implies, true_implies, true_and, and_true, ob_sub1, Nat.add_sub_cancel, nI_1, ob_ix, ob_iy, ob_ix24, ob_iy24, ob_ix10, ob_iy10, ob_ix4, ob_iy4, ob_ix3, ob_iy3, ob_s1, ob_s2, ob_s3, ob_s4, ob_ltl, ob_lel, ob_eql, ob_ltr, ob_ler, ob_uN, Nat.add_one_ne_zero, ob_xs3, ob_lnn, ob_ltn, ob_eqn, Nat.not_lt_zero, Nat.zero_le, Nat.reduceEqDiff, Nat.reduceLeDiff, Nat.reduceLT, ob_eqll, Int32.reduceLT, Int32.reduceLE, eq_self_iff_true]
      exact ih
theorem ob_inT {a b c : Nat} (h1 : b ≤ a) (h2 : a ≤ c) (hc : c < 2 ^ 31) (post : Int32 → Prop) (hp : post 1) : wpY_in post (nI a) (nI b) (nI c) :=
  br_f (nI_nlt h1 (by omega)) (br_f (nI_nlt h2 hc) hp)
theorem ob_sealY (ho : o < n) (hn : n ≤ 32) (hh : h ≤ 2) (post : Int32 → SY → Prop) (hp : post 1 (nI n, nI m, yGiven, nI d, deep, nI b, thr, thn, res, cStr, (fun zz => nI (CL zz)), cOp, cA, cB, (fun zz => nI (OK zz)), oKin, yCo, yAr, (upd oOpen o 0), (fun zz => nI (M zz)), (fun zz => ob_yf ((ob_sw o 32 (decide (h = 2)) tw) zz) (te zz) ((ob_sw o 32 (decide (h ≠ 0)) tc) zz)), yPair, ySeen, pVal, ySet, (fun zz => ob_th (S zz)), yStay, aOut, aVar, yArg, (fun zz => nI (FC zz)), (fun zz => nI (FA zz)), (fun zz => nI (FP zz)), (fun zz => nI (FH zz)), yHan, (fun zz => nI (FT zz)), (fun zz => nI (TA zz)), (fun zz => nI (TH zz)), fSelf, yKept, stk)) : wpY_seal post (nI n, nI m, yGiven, nI d, deep, nI b, thr, thn, res, cStr, (fun zz => nI (CL zz)), cOp, cA, cB, (fun zz => nI (OK zz)), oKin, yCo, yAr, oOpen, (fun zz => nI (M zz)), (fun zz => ob_yf (tw zz) (te zz) (tc zz)), yPair, ySeen, pVal, ySet, (fun zz => ob_th (S zz)), yStay, aOut, aVar, yArg, (fun zz => nI (FC zz)), (fun zz => nI (FA zz)), (fun zz => nI (FP zz)), (fun zz => nI (FH zz)), yHan, (fun zz => nI (FT zz)), (fun zz => nI (TA zz)), (fun zz => nI (TH zz)), fSelf, yKept, stk) (nI o) (nI h) := by
  unfold wpY_seal
  dsimp only
  rw [ob_sub1 (a := n) (by omega)]
  refine ob_inT (b := 0) (by omega) (by omega) (by omega) _ (br_f (by decide) ?_)
  refine ob_inT (b := 0) (c := 2) (by omega) hh (by decide) _ (br_f (by decide) ?_)
  have e : 32 * nI o = nI (32 * o) := pk_mul 32 o
  simp (disch := first | omega | decide) only [ob_nar0, e, forall_eq, not_true, not_false_iff, false_implies, true_implies, true_and, and_true, ob_sub1, Nat.add_sub_cancel, nI_1, ob_ix, ob_iy, ob_ix24, ob_iy24, ob_ix10, ob_iy10, ob_ix4, ob_iy4, ob_ix3, ob_iy3, ob_s1, ob_s2, ob_s3, ob_s4, ob_ltl, ob_lel, ob_eql, ob_ltr, ob_ler, ob_uN, Nat.add_one_ne_zero, ob_xs3, ob_lnn, ob_ltn, ob_eqn, Nat.not_lt_zero, Nat.zero_le, Nat.reduceEqDiff, Nat.reduceLeDiff, Nat.reduceLT, ob_eqll, Int32.reduceLT, Int32.reduceLE, eq_self_iff_true]
  by_cases h0 : h = 0
  · subst h0
    rw [show decide (0 = 2) = false from rfl, show decide (0 ≠ 0) = false from rfl, ob_sw_f, ob_sw_f] at hp
    refine ⟨1, ?_⟩
    unfold wY_seal_37
    have e2 : 32 * nI o + 32 = nI (32 * o + 32) := ob_iy o 32
    rw [e2]
    have h1 : ¬ 32 * o + 32 ≤ 32 * o := by omega
    simp (disch := first | omega | decide) only [h1, forall_eq, not_true, not_false_iff, false_implies, true_implies, true_and, and_true, ob_sub1, Nat.add_sub_cancel, nI_1, ob_ix, ob_iy, ob_ix24, ob_iy24, ob_ix10, ob_iy10, ob_ix4, ob_iy4, ob_ix3, ob_iy3, ob_s1, ob_s2, ob_s3, ob_s4, ob_ltl, ob_lel, ob_eql, ob_ltr, ob_ler, ob_uN, Nat.add_one_ne_zero, ob_xs3, ob_lnn, ob_ltn, ob_eqn, Nat.not_lt_zero, Nat.zero_le, Nat.reduceEqDiff, Nat.reduceLeDiff, Nat.reduceLT, ob_eqll, Int32.reduceLT, Int32.reduceLE, eq_self_iff_true]
    exact hp
  · refine ⟨33, ?_⟩
    have hb : decide (h ≠ 0) = true := decide_eq_true h0
    rw [hb] at hp
    have hl := ob_sealY1 (n := n) (d := d) (b := b) (m := m) (deep := deep) (res := res) (thr := thr) (thn := thn) (CL := CL) (cStr := cStr) (cOp := cOp) (cA := cA) (cB := cB) (OK := OK) (oKin := oKin) (oOpen := (upd oOpen o 0)) (pVal := pVal) (aOut := aOut) (aVar := aVar) (FC := FC) (FA := FA) (FP := FP) (FH := FH) (FT := FT) (fSelf := fSelf) (stk := stk) (TA := TA) (TH := TH) (tw := tw) (te := te) (tc := tc) (S := S) (yCo := yCo) (yAr := yAr) (M := M) (yPair := yPair) (ySeen := ySeen) (ySet := ySet) (yStay := yStay) (yArg := yArg) (yHan := yHan) (yKept := yKept) (yGiven := yGiven) (h := h) (a := decide (h = 2)) (o := o) (by omega) (by
      have : h = 1 ∨ h = 2 := by omega
      rcases this with rfl | rfl
      · exact Or.inl ⟨rfl, rfl⟩
      · exact Or.inr ⟨rfl, rfl⟩) post hp 32 0 rfl
    rw [ob_sw_0, ob_sw_0] at hl
    exact hl
theorem ob_sealR (R : ob_R n d b m res thr thn CL cOp cA cB OK oKin pVal aOut aVar FC FA FP FH FT fSelf stk TA TH xFc xFs xPc xKo xPk tw tc xSet S XH xHeld yCo yAr M yPair ySet yStay yHan yKept) {onW onC : Bool} : ob_R n d b m res thr thn CL cOp cA cB OK oKin pVal aOut aVar FC FA FP FH FT fSelf stk TA TH xFc xFs xPc xKo xPk (ob_sw o 32 onW tw) (ob_sw o 32 onC tc) xSet S XH xHeld yCo yAr M yPair ySet yStay yHan yKept := by
  obtain ⟨hC, hO, hP, hL, hY, hA, hF, hT⟩ := R
  refine ⟨hC, hO, ⟨hP.1, hP.2.1, fun i hi => ?_⟩, hL, fun q hq h1 => ?_, hA, hF, hT⟩
  · rcases hP.2.2 i hi with h | ⟨h1, h2, h3⟩
    · exact Or.inl h
    · refine Or.inr ⟨h1, h2, ?_⟩
      rcases h3 with h | ⟨g1, g2, g3, g4⟩
      · exact Or.inl h
      · exact Or.inr ⟨g1, g2, ob_sw_le g3, g4⟩
  · obtain ⟨a1, a2, a3, a4⟩ := hY q hq h1
    exact ⟨a1, a2, ob_sw_le a3, a4⟩
/-- a property is lost, or stays -/
theorem ob_lose (R : ob_R n d b m res thr thn CL cOp cA cB OK oKin pVal aOut aVar FC FA FP FH FT fSelf stk TA TH xFc xFs xPc xKo xPk tw tc xSet S XH xHeld yCo yAr M yPair ySet yStay yHan yKept) (hm : m < 2 ^ 31) (ho : o < n) (hk : k < 32) : ∃ (r : Int32) (M' : Nat → Nat) (xPc' : Nat → Int32) (xKo' : Nat → Int32) (xPk' : Nat → Int32), ob_R n d b m res thr thn CL cOp cA cB OK oKin pVal aOut aVar FC FA FP FH FT fSelf stk TA TH xFc xFs xPc' xKo' xPk' tw tc xSet S XH xHeld yCo yAr M' yPair ySet yStay yHan yKept ∧ (r = 0 ∨ r = 1) ∧
    (∀ post : Int32 → SX → Prop, post r (nI n, nI d, nI b, deep, res, thr, thn, (fun zz => nI (CL zz)), cStr, cOp, cA, cB, (fun zz => nI (OK zz)), oKin, oOpen, xFc, xFs, xPc', xKo', xPk', (fun zz => ob_xa (tw zz) (te zz) (tc zz)), pVal, xSet, (fun zz => nI (S zz)), aOut, aVar, (fun zz => nI (FC zz)), (fun zz => nI (FP zz)), (fun zz => nI (FA zz)), (fun zz => nI (FH zz)), (fun zz => nI (XH zz)), (fun zz => nI (FT zz)), fSelf, xHeld, stk, (fun zz => nI (TA zz)), (fun zz => nI (TH zz)), xArg) → wpX_removeIfAllowed post (nI n, nI d, nI b, deep, res, thr, thn, (fun zz => nI (CL zz)), cStr, cOp, cA, cB, (fun zz => nI (OK zz)), oKin, oOpen, xFc, xFs, xPc, xKo, xPk, (fun zz => ob_xa (tw zz) (te zz) (tc zz)), pVal, xSet, (fun zz => nI (S zz)), aOut, aVar, (fun zz => nI (FC zz)), (fun zz => nI (FP zz)), (fun zz => nI (FA zz)), (fun zz => nI (FH zz)), (fun zz => nI (XH zz)), (fun zz => nI (FT zz)), fSelf, xHeld, stk, (fun zz => nI (TA zz)), (fun zz => nI (TH zz)), xArg) (nI o) (nI k)) ∧
    (∀ post : Int32 → SY → Prop, post r (nI n, nI m, yGiven, nI d, deep, nI b, thr, thn, res, cStr, (fun zz => nI (CL zz)), cOp, cA, cB, (fun zz => nI (OK zz)), oKin, yCo, yAr, oOpen, (fun zz => nI (M' zz)), (fun zz => ob_yf (tw zz) (te zz) (tc zz)), yPair, ySeen, pVal, ySet, (fun zz => ob_th (S zz)), yStay, aOut, aVar, yArg, (fun zz => nI (FC zz)), (fun zz => nI (FA zz)), (fun zz => nI (FP zz)), (fun zz => nI (FH zz)), yHan, (fun zz => nI (FT zz)), (fun zz => nI (TA zz)), (fun zz => nI (TH zz)), fSelf, yKept, stk) → wpY_lose post (nI n, nI m, yGiven, nI d, deep, nI b, thr, thn, res, cStr, (fun zz => nI (CL zz)), cOp, cA, cB, (fun zz => nI (OK zz)), oKin, yCo, yAr, oOpen, (fun zz => nI (M zz)), (fun zz => ob_yf (tw zz) (te zz) (tc zz)), yPair, ySeen, pVal, ySet, (fun zz => ob_th (S zz)), yStay, aOut, aVar, yArg, (fun zz => nI (FC zz)), (fun zz => nI (FA zz)), (fun zz => nI (FP zz)), (fun zz => nI (FH zz)), yHan, (fun zz => nI (FT zz)), (fun zz => nI (TA zz)), (fun zz => nI (TH zz)), fSelf, yKept, stk) (nI o) (nI k)) := by
  obtain ⟨hC, hO, hP, hL, hY, hA, hF, hT⟩ := R
  have hn := hO.1.2
  have hMm := hP.1 (32 * o + k)
  have hsl := ob_sl_0 (hP.2.2 (32 * o + k) (by omega))
  by_cases z : M (32 * o + k) = 0
  · refine ⟨1, M, xPc, xKo, xPk, ⟨hC, hO, hP, hL, hY, hA, hF, hT⟩, Or.inr rfl, fun post hp => ?_, fun post hp => ?_⟩
    · unfold wpX_removeIfAllowed
      simp (disch := first | omega | decide) only [hsl.mpr z, forall_eq, not_true, not_false_iff, false_implies, true_implies, true_and, and_true, ob_sub1, Nat.add_sub_cancel, nI_1, ob_ix, ob_iy, ob_ix24, ob_iy24, ob_ix10, ob_iy10, ob_ix4, ob_iy4, ob_ix3, ob_iy3, ob_s1, ob_s2, ob_s3, ob_s4, ob_ltl, ob_lel, ob_eql, ob_ltr, ob_ler, ob_uN, Nat.add_one_ne_zero, ob_xs3, ob_lnn, ob_ltn, ob_eqn, Nat.not_lt_zero, Nat.zero_le, Nat.reduceEqDiff, Nat.reduceLeDiff, Nat.reduceLT, ob_eqll, Int32.reduceLT, Int32.reduceLE, eq_self_iff_true]
      exact hp
    · unfold wpY_lose
      have hle : M (32 * o + k) ≤ 0 := by omega
      simp (disch := first | omega | decide) only [hle, ob_uN0, ob_um_i z, forall_eq, not_true, not_false_iff, false_implies, true_implies, true_and, and_true, ob_sub1, Nat.add_sub_cancel, nI_1, ob_ix, ob_iy, ob_ix24, ob_iy24, ob_ix10, ob_iy10, ob_ix4, ob_iy4, ob_ix3, ob_iy3, ob_s1, ob_s2, ob_s3, ob_s4, ob_ltl, ob_lel, ob_eql, ob_ltr, ob_ler, ob_uN, Nat.add_one_ne_zero, ob_xs3, ob_lnn, ob_ltn, ob_eqn, Nat.not_lt_zero, Nat.zero_le, Nat.reduceEqDiff, Nat.reduceLeDiff, Nat.reduceLT, ob_eqll, Int32.reduceLT, Int32.reduceLE, eq_self_iff_true]
      exact hp
  · have hpk : ¬ xPk (32 * o + k) = 0 := fun y => z (hsl.mp y)
    have hle : ¬ M (32 * o + k) ≤ 0 := by omega
    cases htc : tc (32 * o + k)
    · refine ⟨0, M, xPc, xKo, xPk, ⟨hC, hO, hP, hL, hY, hA, hF, hT⟩, Or.inl rfl, fun post hp => ?_, fun post hp => ?_⟩
      · unfold wpX_removeIfAllowed
        simp (disch := first | omega | decide) only [hpk, forall_eq, not_true, not_false_iff, false_implies, true_implies, true_and, and_true, ob_sub1, Nat.add_sub_cancel, nI_1, ob_ix, ob_iy, ob_ix24, ob_iy24, ob_ix10, ob_iy10, ob_ix4, ob_iy4, ob_ix3, ob_iy3, ob_s1, ob_s2, ob_s3, ob_s4, ob_ltl, ob_lel, ob_eql, ob_ltr, ob_ler, ob_uN, Nat.add_one_ne_zero, ob_xs3, ob_lnn, ob_ltn, ob_eqn, Nat.not_lt_zero, Nat.zero_le, Nat.reduceEqDiff, Nat.reduceLeDiff, Nat.reduceLT, ob_eqll, Int32.reduceLT, Int32.reduceLE, eq_self_iff_true]
        exact br_t ((ob_xaC _ _ _).mpr htc) hp
      · unfold wpY_lose
        simp (disch := first | omega | decide) only [hle, forall_eq, not_true, not_false_iff, false_implies, true_implies, true_and, and_true, ob_sub1, Nat.add_sub_cancel, nI_1, ob_ix, ob_iy, ob_ix24, ob_iy24, ob_ix10, ob_iy10, ob_ix4, ob_iy4, ob_ix3, ob_iy3, ob_s1, ob_s2, ob_s3, ob_s4, ob_ltl, ob_lel, ob_eql, ob_ltr, ob_ler, ob_uN, Nat.add_one_ne_zero, ob_xs3, ob_lnn, ob_ltn, ob_eqn, Nat.not_lt_zero, Nat.zero_le, Nat.reduceEqDiff, Nat.reduceLeDiff, Nat.reduceLT, ob_eqll, Int32.reduceLT, Int32.reduceLE, eq_self_iff_true]
        exact br_t ((ob_yfC _ _ _).mpr htc) hp
    · obtain ⟨xPc', xKo', hL', hX⟩ := ob_remX (n := n) (d := d) (b := b) (deep := deep) (res := res) (thr := thr) (thn := thn) (CL := CL) (cStr := cStr) (cOp := cOp) (cA := cA) (cB := cB) (OK := OK) (oKin := oKin) (oOpen := oOpen) (pVal := pVal) (aOut := aOut) (aVar := aVar) (FC := FC) (FA := FA) (FP := FP) (FH := FH) (FT := FT) (fSelf := fSelf) (stk := stk) (TA := TA) (TH := TH) (xFc := xFc) (xFs := xFs) (xPc := xPc) (xKo := xKo) (xPk := xPk) (tw := tw) (te := te) (tc := tc) (xSet := xSet) (S := S) (XH := XH) (xHeld := xHeld) (xArg := xArg) (m := m) (M := M) (yPair := yPair) (ySet := ySet) hP hL hn ho hk
      refine ⟨1, ob_um M (32 * o + k) 0, xPc', xKo', upd xPk (32 * o + k) 0, ⟨hC, hO, ob_gP_del hP, hL', ob_gY_del hY (fun q hq h1 e => ?_), hA, hF, hT⟩, Or.inr rfl, fun post hp => ?_, fun post hp => ?_⟩
      · have := (hY q hq h1).2.2.1
        rw [← e, htc] at this
        exact absurd this (by decide)
      · unfold wpX_removeIfAllowed
        simp (disch := first | omega | decide) only [hpk, forall_eq, not_true, not_false_iff, false_implies, true_implies, true_and, and_true, ob_sub1, Nat.add_sub_cancel, nI_1, ob_ix, ob_iy, ob_ix24, ob_iy24, ob_ix10, ob_iy10, ob_ix4, ob_iy4, ob_ix3, ob_iy3, ob_s1, ob_s2, ob_s3, ob_s4, ob_ltl, ob_lel, ob_eql, ob_ltr, ob_ler, ob_uN, Nat.add_one_ne_zero, ob_xs3, ob_lnn, ob_ltn, ob_eqn, Nat.not_lt_zero, Nat.zero_le, Nat.reduceEqDiff, Nat.reduceLeDiff, Nat.reduceLT, ob_eqll, Int32.reduceLT, Int32.reduceLE, eq_self_iff_true]
        refine br_f (fun y => absurd (htc.symm.trans ((ob_xaC _ _ _).mp y)) (by decide)) ?_
        exact hX _ hp
      · unfold wpY_lose
        simp (disch := first | omega | decide) only [hle, ob_uN0, forall_eq, not_true, not_false_iff, false_implies, true_implies, true_and, and_true, ob_sub1, Nat.add_sub_cancel, nI_1, ob_ix, ob_iy, ob_ix24, ob_iy24, ob_ix10, ob_iy10, ob_ix4, ob_iy4, ob_ix3, ob_iy3, ob_s1, ob_s2, ob_s3, ob_s4, ob_ltl, ob_lel, ob_eql, ob_ltr, ob_ler, ob_uN, Nat.add_one_ne_zero, ob_xs3, ob_lnn, ob_ltn, ob_eqn, Nat.not_lt_zero, Nat.zero_le, Nat.reduceEqDiff, Nat.reduceLeDiff, Nat.reduceLT, ob_eqll, Int32.reduceLT, Int32.reduceLE, eq_self_iff_true]
        exact br_f (fun y => absurd (htc.symm.trans ((ob_yfC _ _ _).mp y)) (by decide)) hp
end
