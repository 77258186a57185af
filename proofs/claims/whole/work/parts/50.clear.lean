/-! ===== clear, and the constructors ===== -/
def ob_z1 (f : Nat → Nat) (k : Nat) : Nat → Nat := fun i => if i < k then 0 else f i
theorem ob_z1_0 (f : Nat → Nat) : ob_z1 f 0 = f := by
  funext i; unfold ob_z1; rw [if_neg (by omega)]
theorem ob_z1_s (f : Nat → Nat) (k : Nat) : ob_um (ob_z1 f k) k 0 = ob_z1 f (k + 1) := by
  funext i
  unfold ob_um ob_z1
  by_cases h : i = k
  · rw [if_pos h, if_pos (by omega)]
  · rw [if_neg h]
    by_cases h2 : i < k
    · rw [if_pos h2, if_pos (by omega)]
    · rw [if_neg h2, if_neg (by omega)]
theorem ob_nar0t : vp_nar .boolean 0 = ob_th 0 := rfl
section
variable {n : Nat} {d : Nat} {b : Nat} {m : Nat} {deep : Int32} {res : Int64} {thr : Int32} {thn : Int64} {CL : Nat → Nat} {cStr : Nat → Int32} {cOp : Nat → Int32} {cA : Nat → Int32} {cB : Nat → Int32} {OK : Nat → Nat} {oKin : Nat → Int32} {oOpen : Nat → Int32} {pVal : Nat → Int64} {aOut : Nat → Int32} {aVar : Nat → Int64} {FC : Nat → Nat} {FA : Nat → Nat} {FP : Nat → Nat} {FH : Nat → Nat} {FT : Nat → Nat} {fSelf : Nat → Int64} {stk : Nat → Int64} {TA : Nat → Nat} {TH : Nat → Nat} {xFc : Nat → Int32} {xFs : Nat → Int32} {xPc : Nat → Int32} {xKo : Nat → Int32} {xPk : Nat → Int32} {tw : Nat → Bool} {te : Nat → Bool} {tc : Nat → Bool} {xSet : Nat → Int64} {S : Nat → Nat} {XH : Nat → Nat} {xHeld : Nat → Int64} {xArg : Nat → Int64} {yCo : Nat → Int32} {yAr : Nat → Int32} {M : Nat → Nat} {yPair : Nat → Int32} {ySeen : Nat → Int32} {ySet : Nat → Int64} {yStay : Nat → Int32} {yArg : Nat → Int64} {yHan : Nat → Int32} {yKept : Nat → Int64} {yGiven : Int32}
theorem ob_rs28 (post : SX → Prop) (hp : post (nI n, nI 0, nI 0, 0, 8589934592, 0, thn, (fun zz => nI (CL zz)), cStr, cOp, cA, cB, (fun zz => nI (OK zz)), oKin, oOpen, xFc, xFs, xPc, xKo, xPk, (fun zz => ob_xa (tw zz) (te zz) (tc zz)), pVal, xSet, (fun zz => nI ((ob_z1 S 24) zz)), aOut, aVar, (fun zz => nI (FC zz)), (fun zz => nI (FP zz)), (fun zz => nI (FA zz)), (fun zz => nI (FH zz)), (fun zz => nI (XH zz)), (fun zz => nI (FT zz)), fSelf, xHeld, stk, (fun zz => nI (TA zz)), (fun zz => nI (TH zz)), xArg)) : ∀ t j, t + j = 24 → wX_reset_28 post (nI n) (nI d) (nI b) deep res thr thn (t + 1) (nI j) (fun zz => nI (CL zz)) cStr cOp cA cB (fun zz => nI (OK zz)) oKin oOpen xFc xFs xPc xKo xPk (fun zz => ob_xa (tw zz) (te zz) (tc zz)) pVal xSet (fun zz => nI ((ob_z1 S j) zz)) aOut aVar (fun zz => nI (FC zz)) (fun zz => nI (FP zz)) (fun zz => nI (FA zz)) (fun zz => nI (FH zz)) (fun zz => nI (XH zz)) (fun zz => nI (FT zz)) fSelf xHeld stk (fun zz => nI (TA zz)) (fun zz => nI (TH zz)) xArg
  | 0, j, e => by
    have e' : j = 24 := by omega
    subst e'
    unfold wX_reset_28
    exact br_t (by decide) hp
  | t + 1, j, e => by
    have ih := ob_rs28 post hp t (j + 1) (by omega)
    have hn : ¬ 24 ≤ j := by omega
    unfold wX_reset_28
    simp (disch := first | omega | decide) only [hn, ob_uN0, ob_z1_s, forall_eq, not_true, not_false_iff, false_implies, true_implies, true_and, and_true, ob_sub1, Nat.add_sub_cancel, nI_1, ob_ix, ob_iy, ob_ix24, ob_iy24, ob_ix10, ob_iy10, ob_ix4, ob_iy4, ob_ix3, ob_iy3, ob_s1, ob_s2, ob_s3, ob_s4, ob_ltl, ob_lel, ob_eql, ob_ltr, ob_ler, ob_uN, Nat.add_one_ne_zero, ob_xs3, ob_lnn, ob_ltn, ob_eqn, Nat.not_lt_zero, Nat.zero_le, Nat.reduceEqDiff, Nat.reduceLeDiff, Nat.reduceLT, ob_eqll, Int32.reduceLT, Int32.reduceLE, eq_self_iff_true]
    exact ih
/-- the component begins anew -/
theorem ob_rsX (post : SX → Prop) (hp : post (nI 3, nI 0, nI 0, 0, 8589934592, 0, thn, (fun zz => nI (CL zz)), cStr, cOp, cA, cB, (fun zz => nI ((ob_um (ob_um (ob_um OK 0 0) 1 0) 2 0) zz)), (upd (upd (upd oKin 0 (-1)) 1 0) 2 0), (upd (upd (upd oOpen 0 1) 1 1) 2 1), xFc, xFs, (upd (upd (upd xPc 0 0) 1 0) 2 0), xKo, (ob_zk (ob_zk (ob_zk xPk 0 32) 1 32) 2 32), (fun zz => ob_xa (tw zz) (te zz) (tc zz)), pVal, xSet, (fun zz => nI ((ob_z1 S 24) zz)), aOut, aVar, (fun zz => nI (FC zz)), (fun zz => nI (FP zz)), (fun zz => nI (FA zz)), (fun zz => nI (FH zz)), (fun zz => nI (XH zz)), (fun zz => nI (FT zz)), fSelf, xHeld, stk, (fun zz => nI (TA zz)), (fun zz => nI (TH zz)), xArg)) : wpX_reset post (nI n, nI d, nI b, deep, res, thr, thn, (fun zz => nI (CL zz)), cStr, cOp, cA, cB, (fun zz => nI (OK zz)), oKin, oOpen, xFc, xFs, xPc, xKo, xPk, (fun zz => ob_xa (tw zz) (te zz) (tc zz)), pVal, xSet, (fun zz => nI (S zz)), aOut, aVar, (fun zz => nI (FC zz)), (fun zz => nI (FP zz)), (fun zz => nI (FA zz)), (fun zz => nI (FH zz)), (fun zz => nI (XH zz)), (fun zz => nI (FT zz)), fSelf, xHeld, stk, (fun zz => nI (TA zz)), (fun zz => nI (TH zz)), xArg) := by
  unfold wpX_reset
  refine ob_newX (n := 0) (kd := 0) (by decide) _ ?_
  refine ob_newX (n := 1) (kd := 0) (by decide) _ ?_
  refine ob_newX (n := 2) (kd := 0) (by decide) _ ⟨25, ?_⟩
  have hl := ob_rs28 (n := 3) (d := d) (b := b) (deep := deep) (res := res) (thr := thr) (thn := thn) (CL := CL) (cStr := cStr) (cOp := cOp) (cA := cA) (cB := cB) (OK := (ob_um (ob_um (ob_um OK 0 0) 1 0) 2 0)) (oKin := (upd (upd (upd oKin 0 (-1)) 1 0) 2 0)) (oOpen := (upd (upd (upd oOpen 0 1) 1 1) 2 1)) (pVal := pVal) (aOut := aOut) (aVar := aVar) (FC := FC) (FA := FA) (FP := FP) (FH := FH) (FT := FT) (fSelf := fSelf) (stk := stk) (TA := TA) (TH := TH) (xFc := xFc) (xFs := xFs) (xPc := (upd (upd (upd xPc 0 0) 1 0) 2 0)) (xKo := xKo) (xPk := (ob_zk (ob_zk (ob_zk xPk 0 32) 1 32) 2 32)) (tw := tw) (te := te) (tc := tc) (xSet := xSet) (S := S) (XH := XH) (xHeld := xHeld) (xArg := xArg) post hp 24 0 rfl
  rw [ob_z1_0] at hl
  exact hl
theorem ob_fr34 (post : SY → Prop) (hp : ∃ n55 : Nat, wY_fresh_55 post n55 0 (nI n) (nI m) yGiven (nI d) deep (nI b) thr thn res cStr (fun zz => nI (CL zz)) cOp cA cB (fun zz => nI (OK zz)) oKin yCo yAr oOpen (fun zz => nI (M zz)) (fun zz => ob_yf (tw zz) (te zz) (tc zz)) yPair ySeen pVal ySet (fun zz => ob_th ((ob_z1 S 24) zz)) yStay aOut aVar yArg (fun zz => nI (FC zz)) (fun zz => nI (FA zz)) (fun zz => nI (FP zz)) (fun zz => nI (FH zz)) yHan (fun zz => nI (FT zz)) (fun zz => nI (TA zz)) (fun zz => nI (TH zz)) fSelf yKept stk) : ∀ t j, t + j = 24 → wY_fresh_34 post (nI n) (nI m) yGiven (nI d) deep (nI b) thr thn res (t + 1) (nI j) cStr (fun zz => nI (CL zz)) cOp cA cB (fun zz => nI (OK zz)) oKin yCo yAr oOpen (fun zz => nI (M zz)) (fun zz => ob_yf (tw zz) (te zz) (tc zz)) yPair ySeen pVal ySet (fun zz => ob_th ((ob_z1 S j) zz)) yStay aOut aVar yArg (fun zz => nI (FC zz)) (fun zz => nI (FA zz)) (fun zz => nI (FP zz)) (fun zz => nI (FH zz)) yHan (fun zz => nI (FT zz)) (fun zz => nI (TA zz)) (fun zz => nI (TH zz)) fSelf yKept stk
  | 0, j, e => by
    have e' : j = 24 := by omega
    subst e'
    unfold wY_fresh_34
    exact br_t (by decide) hp
  | t + 1, j, e => by
    have ih := ob_fr34 post hp t (j + 1) (by omega)
    have hn : ¬ 24 ≤ j := by omega
    unfold wY_fresh_34
    simp (disch := first | omega | decide) only [hn, ob_nar0t, ob_uT, ob_z1_s, forall_eq, not_true, not_false_iff, false_implies, true_implies, true_and, and_true, ob_sub1, Nat.add_sub_cancel, nI_1, ob_ix, ob_iy, ob_ix24, ob_iy24, ob_ix10, ob_iy10, ob_ix4, ob_iy4, ob_ix3, ob_iy3, ob_s1, ob_s2, ob_s3, ob_s4, ob_ltl, ob_lel, ob_eql, ob_ltr, ob_ler, ob_uN, Nat.add_one_ne_zero, ob_xs3, ob_lnn, ob_ltn, ob_eqn, Nat.not_lt_zero, Nat.zero_le, Nat.reduceEqDiff, Nat.reduceLeDiff, Nat.reduceLT, ob_eqll, Int32.reduceLT, Int32.reduceLE, eq_self_iff_true]
    exact ih
theorem ob_fr12 (post : SY → Prop) (hp : ∃ n34 : Nat, wY_fresh_34 post (nI n) (nI m) yGiven (nI d) deep (nI b) thr thn res n34 0 cStr (fun zz => nI (CL zz)) cOp cA cB (fun zz => nI (OK zz)) oKin yCo yAr oOpen (fun zz => nI ((ob_z1 M 1024) zz)) (fun zz => ob_yf (tw zz) (te zz) (tc zz)) yPair ySeen pVal ySet (fun zz => ob_th (S zz)) yStay aOut aVar yArg (fun zz => nI (FC zz)) (fun zz => nI (FA zz)) (fun zz => nI (FP zz)) (fun zz => nI (FH zz)) yHan (fun zz => nI (FT zz)) (fun zz => nI (TA zz)) (fun zz => nI (TH zz)) fSelf yKept stk) : ∀ t j, t + j = 1024 → wY_fresh_12 post (nI n) (nI m) yGiven (nI d) deep (nI b) thr thn res (t + 1) (nI j) cStr (fun zz => nI (CL zz)) cOp cA cB (fun zz => nI (OK zz)) oKin yCo yAr oOpen (fun zz => nI ((ob_z1 M j) zz)) (fun zz => ob_yf (tw zz) (te zz) (tc zz)) yPair ySeen pVal ySet (fun zz => ob_th (S zz)) yStay aOut aVar yArg (fun zz => nI (FC zz)) (fun zz => nI (FA zz)) (fun zz => nI (FP zz)) (fun zz => nI (FH zz)) yHan (fun zz => nI (FT zz)) (fun zz => nI (TA zz)) (fun zz => nI (TH zz)) fSelf yKept stk
  | 0, j, e => by
    have e' : j = 1024 := by omega
    subst e'
    unfold wY_fresh_12
    exact br_t (by decide) hp
  | t + 1, j, e => by
    have ih := ob_fr12 post hp t (j + 1) (by omega)
    have hn : ¬ 1024 ≤ j := by omega
    unfold wY_fresh_12
    simp (disch := first | omega | decide) only [hn, ob_uN0, ob_z1_s, forall_eq, not_true, not_false_iff, false_implies, true_implies, true_and, and_true, ob_sub1, Nat.add_sub_cancel, nI_1, ob_ix, ob_iy, ob_ix24, ob_iy24, ob_ix10, ob_iy10, ob_ix4, ob_iy4, ob_ix3, ob_iy3, ob_s1, ob_s2, ob_s3, ob_s4, ob_ltl, ob_lel, ob_eql, ob_ltr, ob_ler, ob_uN, Nat.add_one_ne_zero, ob_xs3, ob_lnn, ob_ltn, ob_eqn, Nat.not_lt_zero, Nat.zero_le, Nat.reduceEqDiff, Nat.reduceLeDiff, Nat.reduceLT, ob_eqll, Int32.reduceLT, Int32.reduceLE, eq_self_iff_true]
    exact ih
/-- the reference begins anew -/
theorem ob_frY (post : SY → Prop) (hp : post (nI 3, nI 0, yGiven, nI 0, 0, nI 0, 0, thn, 8589934592, cStr, (fun zz => nI (CL zz)), cOp, cA, cB, (fun zz => nI ((ob_um (ob_um (ob_um OK 0 0) 1 0) 2 0) zz)), (upd (upd (upd oKin 0 (-1)) 1 0) 2 0), yCo, (upd (upd (upd yAr 0 (-1)) 1 (-1)) 2 (-1)), (upd (upd (upd oOpen 0 1) 1 1) 2 1), (fun zz => nI ((ob_z1 M 1024) zz)), (fun zz => ob_yf (tw zz) (te zz) (tc zz)), yPair, ySeen, pVal, ySet, (fun zz => ob_th ((ob_z1 S 24) zz)), yStay, aOut, aVar, yArg, (fun zz => nI (FC zz)), (fun zz => nI (FA zz)), (fun zz => nI (FP zz)), (fun zz => nI (FH zz)), yHan, (fun zz => nI (FT zz)), (fun zz => nI (TA zz)), (fun zz => nI (TH zz)), fSelf, yKept, stk)) : wpY_fresh post (nI n, nI m, yGiven, nI d, deep, nI b, thr, thn, res, cStr, (fun zz => nI (CL zz)), cOp, cA, cB, (fun zz => nI (OK zz)), oKin, yCo, yAr, oOpen, (fun zz => nI (M zz)), (fun zz => ob_yf (tw zz) (te zz) (tc zz)), yPair, ySeen, pVal, ySet, (fun zz => ob_th (S zz)), yStay, aOut, aVar, yArg, (fun zz => nI (FC zz)), (fun zz => nI (FA zz)), (fun zz => nI (FP zz)), (fun zz => nI (FH zz)), yHan, (fun zz => nI (FT zz)), (fun zz => nI (TA zz)), (fun zz => nI (TH zz)), fSelf, yKept, stk) := by
  have h55 : ∃ n55 : Nat, wY_fresh_55 post n55 0 (nI 0) (nI 0) yGiven (nI d) deep (nI b) thr thn res cStr (fun zz => nI (CL zz)) cOp cA cB (fun zz => nI (OK zz)) oKin yCo yAr oOpen (fun zz => nI ((ob_z1 M 1024) zz)) (fun zz => ob_yf (tw zz) (te zz) (tc zz)) yPair ySeen pVal ySet (fun zz => ob_th ((ob_z1 S 24) zz)) yStay aOut aVar yArg (fun zz => nI (FC zz)) (fun zz => nI (FA zz)) (fun zz => nI (FP zz)) (fun zz => nI (FH zz)) yHan (fun zz => nI (FT zz)) (fun zz => nI (TA zz)) (fun zz => nI (TH zz)) fSelf yKept stk := by
    refine ⟨4, ?_⟩
    unfold wY_fresh_55 wY_fresh_71
    refine br_f (by decide) (br_t rfl ?_)
    refine ob_newY (n := 0) (kd := 0) (by decide) (by decide) (by decide) _ (nm_e ?_)
    unfold wY_fresh_55 wY_fresh_71
    refine br_f (by decide) (br_f (by decide) ?_)
    refine ob_newY (n := 1) (kd := 0) (by decide) (by decide) (by decide) _ (nm_e ?_)
    unfold wY_fresh_55 wY_fresh_71
    refine br_f (by decide) (br_f (by decide) ?_)
    refine ob_newY (n := 2) (kd := 0) (by decide) (by decide) (by decide) _ (nm_e ?_)
    unfold wY_fresh_55
    exact br_t (by decide) hp
  have h34 := ob_fr34 (n := 0) (d := d) (b := b) (m := 0) (deep := deep) (res := res) (thr := thr) (thn := thn) (CL := CL) (cStr := cStr) (cOp := cOp) (cA := cA) (cB := cB) (OK := OK) (oKin := oKin) (oOpen := oOpen) (pVal := pVal) (aOut := aOut) (aVar := aVar) (FC := FC) (FA := FA) (FP := FP) (FH := FH) (FT := FT) (fSelf := fSelf) (stk := stk) (TA := TA) (TH := TH) (tw := tw) (te := te) (tc := tc) (S := S) (yCo := yCo) (yAr := yAr) (M := (ob_z1 M 1024)) (yPair := yPair) (ySeen := ySeen) (ySet := ySet) (yStay := yStay) (yArg := yArg) (yHan := yHan) (yKept := yKept) (yGiven := yGiven) post h55 24 0 rfl
  rw [ob_z1_0] at h34
  have h12 := ob_fr12 (n := 0) (d := d) (b := b) (m := 0) (deep := deep) (res := res) (thr := thr) (thn := thn) (CL := CL) (cStr := cStr) (cOp := cOp) (cA := cA) (cB := cB) (OK := OK) (oKin := oKin) (oOpen := oOpen) (pVal := pVal) (aOut := aOut) (aVar := aVar) (FC := FC) (FA := FA) (FP := FP) (FH := FH) (FT := FT) (fSelf := fSelf) (stk := stk) (TA := TA) (TH := TH) (tw := tw) (te := te) (tc := tc) (S := S) (yCo := yCo) (yAr := yAr) (M := M) (yPair := yPair) (ySeen := ySeen) (ySet := ySet) (yStay := yStay) (yArg := yArg) (yHan := yHan) (yKept := yKept) (yGiven := yGiven) post ⟨25, h34⟩ 1024 0 rfl
  rw [ob_z1_0] at h12
  unfold wpY_fresh
  exact ⟨1025, h12⟩
theorem ob_newE (hC : ob_gC CL cOp cA cB) (hM : ∀ i, 1024 ≤ i → M i = 0) : ob_R 3 0 0 0 8589934592 0 thn CL cOp cA cB (ob_um (ob_um (ob_um OK 0 0) 1 0) 2 0) (upd (upd (upd oKin 0 (-1)) 1 0) 2 0) pVal aOut aVar FC FA FP FH FT fSelf stk TA TH xFc xFs (upd (upd (upd xPc 0 0) 1 0) 2 0) xKo (ob_zk (ob_zk (ob_zk xPk 0 32) 1 32) 2 32) tw tc xSet (ob_z1 S 24) XH xHeld yCo (upd (upd (upd yAr 0 (-1)) 1 (-1)) 2 (-1)) (ob_z1 M 1024) yPair ySet yStay yHan yKept := by
  have hMz : ∀ i, ob_z1 M 1024 i = 0 := by
    intro i
    unfold ob_z1
    split
    · rfl
    · exact hM i (by omega)
  have hOKz : ∀ o, o < 3 → ob_um (ob_um (ob_um OK 0 0) 1 0) 2 0 o = 0 := by
    intro o ho
    have : o = 0 ∨ o = 1 ∨ o = 2 := by omega
    rcases this with rfl | rfl | rfl <;> rfl
  have hPc : ∀ o, o < 3 → upd (upd (upd xPc 0 0) 1 0) 2 0 o = 0 := by
    intro o ho
    have : o = 0 ∨ o = 1 ∨ o = 2 := by omega
    rcases this with rfl | rfl | rfl <;> rfl
  refine ⟨hC, ⟨⟨by decide, by decide⟩, fun o ho => ⟨by rw [hOKz o ho]; omega, ?_⟩⟩, ⟨fun i => by rw [hMz i]; omega, fun i _ => hMz i, fun i hi => Or.inl ⟨hMz i, ?_⟩⟩, fun o ho => ⟨[], by rw [hPc o ho]; rfl, fun p x hx => absurd hx (by simp), List.Pairwise.nil, fun q => ?_⟩, fun o ho h1 => ?_, ⟨fun o ho h2 => ?_, fun a ha => ⟨?_, fun hz => ?_⟩⟩, ⟨by decide, fun f hf => absurd hf (by omega), fun f g _ hg => absurd hg (by omega)⟩, ⟨by decide, Or.inl rfl, fun h => absurd rfl h⟩⟩
  · have : o = 0 ∨ o = 1 ∨ o = 2 := by omega
    rcases this with rfl | rfl | rfl
    · exact Or.inl rfl
    · exact Or.inr ⟨0, by decide, rfl⟩
    · exact Or.inr ⟨0, by decide, rfl⟩
  · unfold ob_zk
    by_cases h2 : 32 * 2 ≤ i ∧ i < 32 * 2 + 32
    · rw [if_pos h2]
    · rw [if_neg h2]
      by_cases h1 : 32 * 1 ≤ i ∧ i < 32 * 1 + 32
      · rw [if_pos h1]
      · rw [if_neg h1, if_pos (by omega)]
  · constructor
    · intro y; exact absurd y (by simp)
    · intro y; exact absurd (hMz _) y.2
  · rw [hOKz o ho] at h1
    exact absurd h1 (by decide)
  · rw [hOKz o ho] at h2
    exact absurd h2 (by decide)
  · unfold ob_z1
    rw [if_pos ha]
    omega
  · exfalso
    apply hz
    unfold ob_z1
    rw [if_pos ha]
end
section
variable {n : Nat} {d : Nat} {b : Nat} {m : Nat} {deep : Int32} {res : Int64} {thr : Int32} {thn : Int64} {CL : Nat → Nat} {cStr : Nat → Int32} {cOp : Nat → Int32} {cA : Nat → Int32} {cB : Nat → Int32} {OK : Nat → Nat} {oKin : Nat → Int32} {oOpen : Nat → Int32} {pVal : Nat → Int64} {aOut : Nat → Int32} {aVar : Nat → Int64} {FC : Nat → Nat} {FA : Nat → Nat} {FP : Nat → Nat} {FH : Nat → Nat} {FT : Nat → Nat} {fSelf : Nat → Int64} {stk : Nat → Int64} {TA : Nat → Nat} {TH : Nat → Nat} {xFc : Nat → Int32} {xFs : Nat → Int32} {xPc : Nat → Int32} {xKo : Nat → Int32} {xPk : Nat → Int32} {tw : Nat → Bool} {te : Nat → Bool} {tc : Nat → Bool} {xSet : Nat → Int64} {S : Nat → Nat} {XH : Nat → Nat} {xHeld : Nat → Int64} {xArg : Nat → Int64} {yCo : Nat → Int32} {yAr : Nat → Int32} {M : Nat → Nat} {yPair : Nat → Int32} {ySeen : Nat → Int32} {ySet : Nat → Int64} {yStay : Nat → Int32} {yArg : Nat → Int64} {yHan : Nat → Int32} {yKept : Nat → Int64} {yGiven : Int32}
theorem ob_newK {k : Nat} (hC : ob_gC CL cOp cA cB) (hM : ∀ i, 1024 ≤ i → M i = 0) : i_Rel k (nI 3, nI 0, nI 0, 0, 8589934592, 0, thn, (fun zz => nI (CL zz)), cStr, cOp, cA, cB, (fun zz => nI ((ob_um (ob_um (ob_um OK 0 0) 1 0) 2 0) zz)), (upd (upd (upd oKin 0 (-1)) 1 0) 2 0), (upd (upd (upd oOpen 0 1) 1 1) 2 1), xFc, xFs, (upd (upd (upd xPc 0 0) 1 0) 2 0), xKo, (ob_zk (ob_zk (ob_zk xPk 0 32) 1 32) 2 32), (fun zz => ob_xa (tw zz) (te zz) (tc zz)), pVal, xSet, (fun zz => nI ((ob_z1 S 24) zz)), aOut, aVar, (fun zz => nI (FC zz)), (fun zz => nI (FP zz)), (fun zz => nI (FA zz)), (fun zz => nI (FH zz)), (fun zz => nI (XH zz)), (fun zz => nI (FT zz)), fSelf, xHeld, stk, (fun zz => nI (TA zz)), (fun zz => nI (TH zz)), xArg) (nI 3, nI 0, yGiven, nI 0, 0, nI 0, 0, thn, 8589934592, cStr, (fun zz => nI (CL zz)), cOp, cA, cB, (fun zz => nI ((ob_um (ob_um (ob_um OK 0 0) 1 0) 2 0) zz)), (upd (upd (upd oKin 0 (-1)) 1 0) 2 0), yCo, (upd (upd (upd yAr 0 (-1)) 1 (-1)) 2 (-1)), (upd (upd (upd oOpen 0 1) 1 1) 2 1), (fun zz => nI ((ob_z1 M 1024) zz)), (fun zz => ob_yf (tw zz) (te zz) (tc zz)), yPair, ySeen, pVal, ySet, (fun zz => ob_th ((ob_z1 S 24) zz)), yStay, aOut, aVar, yArg, (fun zz => nI (FC zz)), (fun zz => nI (FA zz)), (fun zz => nI (FP zz)), (fun zz => nI (FH zz)), yHan, (fun zz => nI (FT zz)), (fun zz => nI (TA zz)), (fun zz => nI (TH zz)), fSelf, yKept, stk) :=
  ob_E_mk (B := 300 * k) (ob_newE hC hM) (Nat.zero_le _)
end
theorem i_vc_clear {k : Nat} {u : SX} {v : SY} (I : i_Rel k u v) (hk : k + 6 ≤ 3072) : wpX_clear (fun r u' => wpY_clear (fun r' v' => r' = r ∧ i_Rel (k + 6) u' v') v) u := by
  obtain ⟨n, b, m, deep, res, thr, thn, CL, cStr, cOp, cA, cB, OK, oKin, oOpen, pVal, aOut, aVar, FC, FA, FP, FH, FT, fSelf, stk, TA, TH, xFc, xFs, xPc, xKo, xPk, tw, te, tc, xSet, S, XH, xHeld, xArg, yCo, yAr, M, yPair, ySeen, ySet, yStay, yArg, yHan, yKept, yGiven, rfl, rfl, R, hm⟩ := I
  unfold wpX_clear wpY_clear
  refine ob_rsX _ ?_
  refine ob_frY _ ⟨rfl, ob_newK R.1 (fun i hi => R.2.2.1.2.1 i (by have := R.2.1.1.2; omega))⟩
theorem i_vc0 : wpX_init (fun u => wpY_init (fun v => i_Rel 0 u v)) := by
  unfold wpX_init wpY_init
  refine ob_rsX (n := 0) (d := 0) (b := 0) (deep := 0) (res := 0) (thr := 0) (thn := 0) (CL := (fun _ => 0)) (cStr := (fun _ => 0)) (cOp := (fun _ => 0)) (cA := (fun _ => 0)) (cB := (fun _ => 0)) (OK := (fun _ => 0)) (oKin := (fun _ => 0)) (oOpen := (fun _ => 0)) (pVal := (fun _ => 0)) (aOut := (fun _ => 0)) (aVar := (fun _ => 0)) (FC := (fun _ => 0)) (FA := (fun _ => 0)) (FP := (fun _ => 0)) (FH := (fun _ => 0)) (FT := (fun _ => 0)) (fSelf := (fun _ => 0)) (stk := (fun _ => 0)) (TA := (fun _ => 0)) (TH := (fun _ => 0)) (xFc := (fun _ => 0)) (xFs := (fun _ => 0)) (xPc := (fun _ => 0)) (xKo := (fun _ => 0)) (xPk := (fun _ => 0)) (tw := (fun _ => false)) (te := (fun _ => false)) (tc := (fun _ => false)) (xSet := (fun _ => 0)) (S := (fun _ => 0)) (XH := (fun _ => 0)) (xHeld := (fun _ => 0)) (xArg := (fun _ => 0)) _ ?_
  refine ob_frY (n := 0) (d := 0) (b := 0) (m := 0) (deep := 0) (res := 0) (thr := 0) (thn := 0) (CL := (fun _ => 0)) (cStr := (fun _ => 0)) (cOp := (fun _ => 0)) (cA := (fun _ => 0)) (cB := (fun _ => 0)) (OK := (fun _ => 0)) (oKin := (fun _ => 0)) (oOpen := (fun _ => 0)) (pVal := (fun _ => 0)) (aOut := (fun _ => 0)) (aVar := (fun _ => 0)) (FC := (fun _ => 0)) (FA := (fun _ => 0)) (FP := (fun _ => 0)) (FH := (fun _ => 0)) (FT := (fun _ => 0)) (fSelf := (fun _ => 0)) (stk := (fun _ => 0)) (TA := (fun _ => 0)) (TH := (fun _ => 0)) (tw := (fun _ => false)) (te := (fun _ => false)) (tc := (fun _ => false)) (S := (fun _ => 0)) (yCo := (fun _ => 0)) (yAr := (fun _ => 0)) (M := (fun _ => 0)) (yPair := (fun _ => 0)) (ySeen := (fun _ => 0)) (ySet := (fun _ => 0)) (yStay := (fun _ => 0)) (yArg := (fun _ => 0)) (yHan := (fun _ => 0)) (yKept := (fun _ => 0)) (yGiven := 0) _ ?_
  exact ob_newK (fun c hc => ⟨Nat.zero_le _, fun j hj => absurd hj (by omega)⟩) (fun i hi => rfl)
