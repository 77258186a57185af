/-! ===== each: along the prototypes ===== -/
def ob_zs (f : Nat → Int32) (j : Nat) : Nat → Int32 := fun i => if i < j then 0 else f i
theorem ob_zs_0 (f : Nat → Int32) : ob_zs f 0 = f := by
  funext i; unfold ob_zs; rw [if_neg (by omega)]
theorem ob_zs_s (f : Nat → Int32) (j : Nat) : upd (ob_zs f j) j 0 = ob_zs f (j + 1) := by
  funext i
  unfold upd ob_zs
  by_cases h : i = j
  · rw [if_pos h, if_pos (by omega)]
  · rw [if_neg h]
    by_cases h2 : i < j
    · rw [if_pos h2, if_pos (by omega)]
    · rw [if_neg h2, if_neg (by omega)]
section
variable {n : Nat} {d : Nat} {b : Nat} {m : Nat} {deep : Int32} {res : Int64} {thr : Int32} {thn : Int64} {CL : Nat → Nat} {cStr : Nat → Int32} {cOp : Nat → Int32} {cA : Nat → Int32} {cB : Nat → Int32} {OK : Nat → Nat} {oKin : Nat → Int32} {oOpen : Nat → Int32} {pVal : Nat → Int64} {aOut : Nat → Int32} {aVar : Nat → Int64} {FC : Nat → Nat} {FA : Nat → Nat} {FP : Nat → Nat} {FH : Nat → Nat} {FT : Nat → Nat} {fSelf : Nat → Int64} {stk : Nat → Int64} {TA : Nat → Nat} {TH : Nat → Nat} {xFc : Nat → Int32} {xFs : Nat → Int32} {xPc : Nat → Int32} {xKo : Nat → Int32} {xPk : Nat → Int32} {tw : Nat → Bool} {te : Nat → Bool} {tc : Nat → Bool} {xSet : Nat → Int64} {S : Nat → Nat} {XH : Nat → Nat} {xHeld : Nat → Int64} {xArg : Nat → Int64} {yCo : Nat → Int32} {yAr : Nat → Int32} {M : Nat → Nat} {yPair : Nat → Int32} {ySeen : Nat → Int32} {ySet : Nat → Int64} {yStay : Nat → Int32} {yArg : Nat → Int64} {yHan : Nat → Int32} {yKept : Nat → Int64} {yGiven : Int32}
theorem ob_each2 (hO : ob_gO n OK oKin) (hm : ∀ j, M j ≤ m) (hm2 : m < 2 ^ 31) (hGL : ob_gL n M xPc xKo) : ∀ o, o < n → ∀ (i : Nat) (had left : Int32) (seen : Nat → Int32), i + o ≤ 31 → ob_sr had seen → ∃ (r : Int32) (seen' : Nat → Int32),
    (∀ post : Int32 → Prop, post r → ∀ f, o + 2 ≤ f → wX_each_29 post (nI n) (nI d) (nI b) deep res thr thn (fun zz => nI (CL zz)) cStr cOp cA cB (fun zz => nI (OK zz)) oKin oOpen xFc xFs xPc xKo xPk (fun zz => ob_xa (tw zz) (te zz) (tc zz)) pVal xSet (fun zz => nI (S zz)) aOut aVar (fun zz => nI (FC zz)) (fun zz => nI (FP zz)) (fun zz => nI (FA zz)) (fun zz => nI (FH zz)) (fun zz => nI (XH zz)) (fun zz => nI (FT zz)) fSelf xHeld stk (fun zz => nI (TA zz)) (fun zz => nI (TH zz)) xArg f had left (nI o) (nI i)) ∧
    (∀ post : Int32 → SY → Prop, post r (nI n, nI m, yGiven, nI d, deep, nI b, thr, thn, res, cStr, (fun zz => nI (CL zz)), cOp, cA, cB, (fun zz => nI (OK zz)), oKin, yCo, yAr, oOpen, (fun zz => nI (M zz)), (fun zz => ob_yf (tw zz) (te zz) (tc zz)), yPair, seen', pVal, ySet, (fun zz => ob_th (S zz)), yStay, aOut, aVar, yArg, (fun zz => nI (FC zz)), (fun zz => nI (FA zz)), (fun zz => nI (FP zz)), (fun zz => nI (FH zz)), yHan, (fun zz => nI (FT zz)), (fun zz => nI (TA zz)), (fun zz => nI (TH zz)), fSelf, yKept, stk) → ∀ f, o + 2 ≤ f → wY_each_51 post (nI n) (nI m) yGiven (nI d) deep (nI b) thr thn res f left (nI o) cStr (fun zz => nI (CL zz)) cOp cA cB (fun zz => nI (OK zz)) oKin yCo yAr oOpen (fun zz => nI (M zz)) (fun zz => ob_yf (tw zz) (te zz) (tc zz)) yPair seen pVal ySet (fun zz => ob_th (S zz)) yStay aOut aVar yArg (fun zz => nI (FC zz)) (fun zz => nI (FA zz)) (fun zz => nI (FP zz)) (fun zz => nI (FH zz)) yHan (fun zz => nI (FT zz)) (fun zz => nI (TA zz)) (fun zz => nI (TH zz)) fSelf yKept stk) := by
  intro o
  induction o using Nat.strongRecOn with
  | ind o ih =>
    intro ho i had left seen hi hsr
    have hn := hO.1.2
    obtain ⟨L, hl1, hl2, hl3⟩ := hGL o ho
    have hino : vp_in (nI o) 32 := vp_in_nI (by omega) (by decide)
    have hclo : (nI o).toNatClampNeg = o := ob_cl (by omega)
    have hni : ¬ (32 : Int32) ≤ nI i := nI_ge (b := 32) (by omega) (by decide)
    obtain ⟨s, hs, hYa⟩ := ob_after (n := n) (d := d) (b := b) (m := m) (deep := deep) (res := res) (thr := thr) (thn := thn) (CL := CL) (cStr := cStr) (cOp := cOp) (cA := cA) (cB := cB) (OK := OK) (oKin := oKin) (oOpen := oOpen) (pVal := pVal) (aOut := aOut) (aVar := aVar) (FC := FC) (FA := FA) (FP := FP) (FH := FH) (FT := FT) (fSelf := fSelf) (stk := stk) (TA := TA) (TH := TH) (tw := tw) (te := te) (tc := tc) (S := S) (yCo := yCo) (yAr := yAr) (M := M) (yPair := yPair) (ySeen := seen) (ySet := ySet) (yStay := yStay) (yArg := yArg) (yHan := yHan) (yKept := yKept) (yGiven := yGiven) (o := o) (mm := 0) (L := L) (p := 0) (by omega) hm hm2 (by omega) hl3 (fun q hq => by
      have := ((hl3.2 L[q]).mp (List.getElem_mem hq)).2
      constructor
      · intro h; omega
      · intro h; omega)
    have hXs : ∀ (post : Int32 → Prop) (f : Nat), wX_each_53 post (wX_each_29 post (nI n) (nI d) (nI b) deep res thr thn (fun zz => nI (CL zz)) cStr cOp cA cB (fun zz => nI (OK zz)) oKin oOpen xFc xFs xPc xKo xPk (fun zz => ob_xa (tw zz) (te zz) (tc zz)) pVal xSet (fun zz => nI (S zz)) aOut aVar (fun zz => nI (FC zz)) (fun zz => nI (FP zz)) (fun zz => nI (FA zz)) (fun zz => nI (FH zz)) (fun zz => nI (XH zz)) (fun zz => nI (FT zz)) fSelf xHeld stk (fun zz => nI (TA zz)) (fun zz => nI (TH zz)) xArg f) (nI o) (nI i) (nI L.length) (nI n) (nI d) (nI b) deep res thr thn (fun zz => nI (CL zz)) cStr cOp cA cB (fun zz => nI (OK zz)) oKin oOpen xFc xFs xPc xKo xPk (fun zz => ob_xa (tw zz) (te zz) (tc zz)) pVal xSet (fun zz => nI (S zz)) aOut aVar (fun zz => nI (FC zz)) (fun zz => nI (FP zz)) (fun zz => nI (FA zz)) (fun zz => nI (FH zz)) (fun zz => nI (XH zz)) (fun zz => nI (FT zz)) fSelf xHeld stk (fun zz => nI (TA zz)) (fun zz => nI (TH zz)) xArg (L.length + 1) had left (nI 0) → wX_each_29 post (nI n) (nI d) (nI b) deep res thr thn (fun zz => nI (CL zz)) cStr cOp cA cB (fun zz => nI (OK zz)) oKin oOpen xFc xFs xPc xKo xPk (fun zz => ob_xa (tw zz) (te zz) (tc zz)) pVal xSet (fun zz => nI (S zz)) aOut aVar (fun zz => nI (FC zz)) (fun zz => nI (FP zz)) (fun zz => nI (FA zz)) (fun zz => nI (FH zz)) (fun zz => nI (XH zz)) (fun zz => nI (FT zz)) fSelf xHeld stk (fun zz => nI (TA zz)) (fun zz => nI (TH zz)) xArg (f + 1) had left (nI o) (nI i) := by
      intro post f h
      unfold wX_each_29
      refine br_f hni (br_f (nI_pos (by omega)) ⟨hino, ?_⟩)
      rw [hclo, hl1]
      exact nm_e ⟨L.length + 1, h⟩
    have hYs : ∀ (post : Int32 → SY → Prop) (f : Nat), wY_each_65 post (wY_each_51 post (nI n) (nI m) yGiven (nI d) deep (nI b) thr thn res f) (nI o) (nI n) (nI m) yGiven (nI d) deep (nI b) thr thn res (L.length + 1) left s cStr (fun zz => nI (CL zz)) cOp cA cB (fun zz => nI (OK zz)) oKin yCo yAr oOpen (fun zz => nI (M zz)) (fun zz => ob_yf (tw zz) (te zz) (tc zz)) yPair seen pVal ySet (fun zz => ob_th (S zz)) yStay aOut aVar yArg (fun zz => nI (FC zz)) (fun zz => nI (FA zz)) (fun zz => nI (FP zz)) (fun zz => nI (FH zz)) yHan (fun zz => nI (FT zz)) (fun zz => nI (TA zz)) (fun zz => nI (TH zz)) fSelf yKept stk → wY_each_51 post (nI n) (nI m) yGiven (nI d) deep (nI b) thr thn res (f + 1) left (nI o) cStr (fun zz => nI (CL zz)) cOp cA cB (fun zz => nI (OK zz)) oKin yCo yAr oOpen (fun zz => nI (M zz)) (fun zz => ob_yf (tw zz) (te zz) (tc zz)) yPair seen pVal ySet (fun zz => ob_th (S zz)) yStay aOut aVar yArg (fun zz => nI (FC zz)) (fun zz => nI (FA zz)) (fun zz => nI (FP zz)) (fun zz => nI (FH zz)) yHan (fun zz => nI (FT zz)) (fun zz => nI (TA zz)) (fun zz => nI (TH zz)) fSelf yKept stk := by
      intro post f h
      unfold wY_each_51
      exact br_f (nI_pos (by omega)) (hYa _ ⟨L.length + 1, h⟩)
    rcases ob_each1 (n := n) (d := d) (b := b) (m := m) (deep := deep) (res := res) (thr := thr) (thn := thn) (CL := CL) (cStr := cStr) (cOp := cOp) (cA := cA) (cB := cB) (OK := OK) (oKin := oKin) (oOpen := oOpen) (pVal := pVal) (aOut := aOut) (aVar := aVar) (FC := FC) (FA := FA) (FP := FP) (FH := FH) (FT := FT) (fSelf := fSelf) (stk := stk) (TA := TA) (TH := TH) (xFc := xFc) (xFs := xFs) (xPc := xPc) (xKo := xKo) (xPk := xPk) (tw := tw) (te := te) (tc := tc) (xSet := xSet) (S := S) (XH := XH) (xHeld := xHeld) (xArg := xArg) (yCo := yCo) (yAr := yAr) (M := M) (yPair := yPair) (ySet := ySet) (yStay := yStay) (yArg := yArg) (yHan := yHan) (yKept := yKept) (yGiven := yGiven) (o := o) (ix := nI i) ho hn hm hm2 hl3 hl2 L.length 0 had left s seen rfl hsr hs with ⟨key, seen', h1, h2⟩ | ⟨had', left', seen', h0, h1, h2⟩
    · refine ⟨key, seen', fun post hp f hf => ?_, fun post hp f hf => ?_⟩
      · obtain ⟨f, rfl⟩ : ∃ q, f = q + 1 := ⟨f - 1, by omega⟩
        exact hXs post f (h1 post _ hp)
      · obtain ⟨f, rfl⟩ : ∃ q, f = q + 1 := ⟨f - 1, by omega⟩
        exact hYs post f (h2 post _ hp)
    · rcases (hO.2 o ho).2 with ek | ⟨p, hp, ek⟩
      · rw [ek] at h1 h2
        refine ⟨-1, seen', fun post hp f hf => ?_, fun post hp f hf => ?_⟩
        · obtain ⟨f, rfl⟩ : ∃ q, f = q + 2 := ⟨f - 2, by omega⟩
          refine hXs post (f + 1) (h1 post _ ?_)
          unfold wX_each_29
          exact br_c (fun _ => hp) (fun _ => br_t (by decide) hp)
        · obtain ⟨f, rfl⟩ : ∃ q, f = q + 2 := ⟨f - 2, by omega⟩
          refine hYs post (f + 1) (h2 post _ ?_)
          unfold wY_each_51
          exact br_t (by decide) hp
      · rw [ek] at h1 h2
        obtain ⟨r, seen2, hX2, hY2⟩ := ih p hp (by omega) (i + 1) had' left' seen' (by omega) h0
        refine ⟨r, seen2, fun post hp f hf => ?_, fun post hp f hf => ?_⟩
        · obtain ⟨f, rfl⟩ : ∃ q, f = q + 1 := ⟨f - 1, by omega⟩
          refine hXs post f (h1 post _ ?_)
          rw [nI_1]
          exact hX2 post hp f (by omega)
        · obtain ⟨f, rfl⟩ : ∃ q, f = q + 1 := ⟨f - 1, by omega⟩
          exact hYs post f (h2 post _ (hY2 post hp f (by omega)))
theorem ob_each5 {x1 x2 x3 : Int32} (post : Int32 → SY → Prop) (hp : wY_each_5 post x1 x2 x3 (nI n) (nI m) yGiven (nI d) deep (nI b) thr thn res 1 (nI 32) cStr (fun zz => nI (CL zz)) cOp cA cB (fun zz => nI (OK zz)) oKin yCo yAr oOpen (fun zz => nI (M zz)) (fun zz => ob_yf (tw zz) (te zz) (tc zz)) yPair (ob_zs ySeen 32) pVal ySet (fun zz => ob_th (S zz)) yStay aOut aVar yArg (fun zz => nI (FC zz)) (fun zz => nI (FA zz)) (fun zz => nI (FP zz)) (fun zz => nI (FH zz)) yHan (fun zz => nI (FT zz)) (fun zz => nI (TA zz)) (fun zz => nI (TH zz)) fSelf yKept stk) : ∀ t j, t + j = 32 → wY_each_5 post x1 x2 x3 (nI n) (nI m) yGiven (nI d) deep (nI b) thr thn res (t + 1) (nI j) cStr (fun zz => nI (CL zz)) cOp cA cB (fun zz => nI (OK zz)) oKin yCo yAr oOpen (fun zz => nI (M zz)) (fun zz => ob_yf (tw zz) (te zz) (tc zz)) yPair (ob_zs ySeen j) pVal ySet (fun zz => ob_th (S zz)) yStay aOut aVar yArg (fun zz => nI (FC zz)) (fun zz => nI (FA zz)) (fun zz => nI (FP zz)) (fun zz => nI (FH zz)) yHan (fun zz => nI (FT zz)) (fun zz => nI (TA zz)) (fun zz => nI (TH zz)) fSelf yKept stk
  | 0, j, e => by
    have e' : j = 32 := by omega
    subst e'
    exact hp
  | t + 1, j, e => by
    have ih := ob_each5 post hp t (j + 1) (by omega)
    have hn : ¬ 32 ≤ j := by omega
    unfold wY_each_5
    simp (disch := first | omega | decide) only [hn, ob_nar0, ob_zs_s, forall_eq, not_true, not_false_iff, false_implies, true_implies, true_and, and_true, ob_sub1, Nat.add_sub_cancel, nI_1, ob_ix, ob_iy, ob_ix24, ob_iy24, ob_ix10, ob_iy10, ob_ix4, ob_iy4, ob_ix3, ob_iy3, ob_s1, ob_s2, ob_s3, ob_s4, ob_ltl, ob_lel, ob_eql, ob_ltr, ob_ler, ob_uN, Nat.add_one_ne_zero, ob_xs3, ob_lnn, ob_ltn, ob_eqn, Nat.not_lt_zero, Nat.zero_le, Nat.reduceEqDiff, Nat.reduceLeDiff, Nat.reduceLT, ob_eqll, Int32.reduceLT, Int32.reduceLE, eq_self_iff_true]
    exact ih
end
theorem i_vc_each {k : Nat} {u : SX} {v : SY} (I : i_Rel k u v) (hk : k + 6 ≤ 3072) (v1 : Int32) (v2 : Int32) : wpX_each (fun r => wpY_each (fun r' v' => r' = r ∧ i_Rel (k + 6) u v') v v1 v2) u v1 v2 := by
  obtain ⟨n, b, m, deep, res, thr, thn, CL, cStr, cOp, cA, cB, OK, oKin, oOpen, pVal, aOut, aVar, FC, FA, FP, FH, FT, fSelf, stk, TA, TH, xFc, xFs, xPc, xKo, xPk, tw, te, tc, xSet, S, XH, xHeld, xArg, yCo, yAr, M, yPair, ySeen, ySet, yStay, yArg, yHan, yKept, yGiven, rfl, rfl, R, hm⟩ := I
  have h3 := R.2.1.1
  have K : ∀ seen' : Nat → Int32, i_Rel (k + 6) (nI n, nI 0, nI b, deep, res, thr, thn, (fun zz => nI (CL zz)), cStr, cOp, cA, cB, (fun zz => nI (OK zz)), oKin, oOpen, xFc, xFs, xPc, xKo, xPk, (fun zz => ob_xa (tw zz) (te zz) (tc zz)), pVal, xSet, (fun zz => nI (S zz)), aOut, aVar, (fun zz => nI (FC zz)), (fun zz => nI (FP zz)), (fun zz => nI (FA zz)), (fun zz => nI (FH zz)), (fun zz => nI (XH zz)), (fun zz => nI (FT zz)), fSelf, xHeld, stk, (fun zz => nI (TA zz)), (fun zz => nI (TH zz)), xArg) (nI n, nI m, yGiven, nI 0, deep, nI b, thr, thn, res, cStr, (fun zz => nI (CL zz)), cOp, cA, cB, (fun zz => nI (OK zz)), oKin, yCo, yAr, oOpen, (fun zz => nI (M zz)), (fun zz => ob_yf (tw zz) (te zz) (tc zz)), yPair, seen', pVal, ySet, (fun zz => ob_th (S zz)), yStay, aOut, aVar, yArg, (fun zz => nI (FC zz)), (fun zz => nI (FA zz)), (fun zz => nI (FP zz)), (fun zz => nI (FH zz)), yHan, (fun zz => nI (FT zz)), (fun zz => nI (TA zz)), (fun zz => nI (TH zz)), fSelf, yKept, stk) := fun seen' => ob_E_mk (deep := deep) (cStr := cStr) (oOpen := oOpen) (te := te) (xArg := xArg) (ySeen := seen') (yArg := yArg) (yGiven := yGiven) R (by omega : m ≤ 300 * (k + 6))
  have hY0 : ∀ post : Int32 → SY → Prop, wpY_in (fun r_2 => (((r_2 = 0 → (∃ n51 : Nat, wY_each_51 post (nI n) (nI m) yGiven (nI 0) deep (nI b) thr thn res n51 v2 (-1) cStr (fun zz => nI (CL zz)) cOp cA cB (fun zz => nI (OK zz)) oKin yCo yAr oOpen (fun zz => nI (M zz)) (fun zz => ob_yf (tw zz) (te zz) (tc zz)) yPair (ob_zs ySeen 32) pVal ySet (fun zz => ob_th (S zz)) yStay aOut aVar yArg (fun zz => nI (FC zz)) (fun zz => nI (FA zz)) (fun zz => nI (FP zz)) (fun zz => nI (FH zz)) yHan (fun zz => nI (FT zz)) (fun zz => nI (TA zz)) (fun zz => nI (TH zz)) fSelf yKept stk)) ∧ (¬ r_2 = 0 → (((v2 < 0 → (∃ n51 : Nat, wY_each_51 post (nI n) (nI m) yGiven (nI 0) deep (nI b) thr thn res n51 v2 (-1) cStr (fun zz => nI (CL zz)) cOp cA cB (fun zz => nI (OK zz)) oKin yCo yAr oOpen (fun zz => nI (M zz)) (fun zz => ob_yf (tw zz) (te zz) (tc zz)) yPair (ob_zs ySeen 32) pVal ySet (fun zz => ob_th (S zz)) yStay aOut aVar yArg (fun zz => nI (FC zz)) (fun zz => nI (FA zz)) (fun zz => nI (FP zz)) (fun zz => nI (FH zz)) yHan (fun zz => nI (FT zz)) (fun zz => nI (TA zz)) (fun zz => nI (TH zz)) fSelf yKept stk)) ∧ (¬ v2 < 0 → (∃ n51 : Nat, wY_each_51 post (nI n) (nI m) yGiven (nI 0) deep (nI b) thr thn res n51 v2 v1 cStr (fun zz => nI (CL zz)) cOp cA cB (fun zz => nI (OK zz)) oKin yCo yAr oOpen (fun zz => nI (M zz)) (fun zz => ob_yf (tw zz) (te zz) (tc zz)) yPair (ob_zs ySeen 32) pVal ySet (fun zz => ob_th (S zz)) yStay aOut aVar yArg (fun zz => nI (FC zz)) (fun zz => nI (FA zz)) (fun zz => nI (FP zz)) (fun zz => nI (FH zz)) yHan (fun zz => nI (FT zz)) (fun zz => nI (TA zz)) (fun zz => nI (TH zz)) fSelf yKept stk)))))))) v1 0 (nI n - 1) → wpY_each post (nI n, nI m, yGiven, nI 0, deep, nI b, thr, thn, res, cStr, (fun zz => nI (CL zz)), cOp, cA, cB, (fun zz => nI (OK zz)), oKin, yCo, yAr, oOpen, (fun zz => nI (M zz)), (fun zz => ob_yf (tw zz) (te zz) (tc zz)), yPair, ySeen, pVal, ySet, (fun zz => ob_th (S zz)), yStay, aOut, aVar, yArg, (fun zz => nI (FC zz)), (fun zz => nI (FA zz)), (fun zz => nI (FP zz)), (fun zz => nI (FH zz)), yHan, (fun zz => nI (FT zz)), (fun zz => nI (TA zz)), (fun zz => nI (TH zz)), fSelf, yKept, stk) v1 v2 := by
    intro post hp
    have h5 := ob_each5 (n := n) (d := 0) (b := b) (m := m) (deep := deep) (res := res) (thr := thr) (thn := thn) (CL := CL) (cStr := cStr) (cOp := cOp) (cA := cA) (cB := cB) (OK := OK) (oKin := oKin) (oOpen := oOpen) (pVal := pVal) (aOut := aOut) (aVar := aVar) (FC := FC) (FA := FA) (FP := FP) (FH := FH) (FT := FT) (fSelf := fSelf) (stk := stk) (TA := TA) (TH := TH) (tw := tw) (te := te) (tc := tc) (S := S) (yCo := yCo) (yAr := yAr) (M := M) (yPair := yPair) (ySeen := ySeen) (ySet := ySet) (yStay := yStay) (yArg := yArg) (yHan := yHan) (yKept := yKept) (yGiven := yGiven) (x1 := v1) (x2 := v2) (x3 := v2) post (by unfold wY_each_5; exact br_t (by decide) hp) 32 0 rfl
    rw [ob_zs_0] at h5
    unfold wpY_each
    exact ⟨33, h5⟩
  have hYn : ∀ post : Int32 → SY → Prop, post (-1) (nI n, nI m, yGiven, nI 0, deep, nI b, thr, thn, res, cStr, (fun zz => nI (CL zz)), cOp, cA, cB, (fun zz => nI (OK zz)), oKin, yCo, yAr, oOpen, (fun zz => nI (M zz)), (fun zz => ob_yf (tw zz) (te zz) (tc zz)), yPair, (ob_zs ySeen 32), pVal, ySet, (fun zz => ob_th (S zz)), yStay, aOut, aVar, yArg, (fun zz => nI (FC zz)), (fun zz => nI (FA zz)), (fun zz => nI (FP zz)), (fun zz => nI (FH zz)), yHan, (fun zz => nI (FT zz)), (fun zz => nI (TA zz)), (fun zz => nI (TH zz)), fSelf, yKept, stk) → ∃ n51 : Nat, wY_each_51 post (nI n) (nI m) yGiven (nI 0) deep (nI b) thr thn res n51 v2 (-1) cStr (fun zz => nI (CL zz)) cOp cA cB (fun zz => nI (OK zz)) oKin yCo yAr oOpen (fun zz => nI (M zz)) (fun zz => ob_yf (tw zz) (te zz) (tc zz)) yPair (ob_zs ySeen 32) pVal ySet (fun zz => ob_th (S zz)) yStay aOut aVar yArg (fun zz => nI (FC zz)) (fun zz => nI (FA zz)) (fun zz => nI (FP zz)) (fun zz => nI (FH zz)) yHan (fun zz => nI (FT zz)) (fun zz => nI (TA zz)) (fun zz => nI (TH zz)) fSelf yKept stk := by
    intro post hp
    refine ⟨1, ?_⟩
    unfold wY_each_51
    exact br_t (by decide) hp
  unfold wpX_each
  rcases ob_isO R.2.1 v1 with ⟨o, ho, rfl⟩ | h
  · have hYin : ∀ P : Int32 → Prop, P 1 → wpY_in P (nI o) 0 (nI n - 1) := by
      intro P hP
      rw [ob_sub1 (by omega)]
      exact ob_inT (b := 0) (by omega) (by omega) (by omega) _ hP
    refine br_f (nI_pos (by omega)) (br_f (nI_ge ho (by omega)) ?_)
    by_cases h0 : 0 ≤ v2
    · have hn0 : ¬ v2 < 0 := Int32.not_lt.mpr h0
      obtain ⟨r, seen', hX2, hY2⟩ := ob_each2 (n := n) (b := b) (m := m) (deep := deep) (res := res) (thr := thr) (thn := thn) (CL := CL) (cStr := cStr) (cOp := cOp) (cA := cA) (cB := cB) (OK := OK) (oKin := oKin) (oOpen := oOpen) (pVal := pVal) (aOut := aOut) (aVar := aVar) (FC := FC) (FA := FA) (FP := FP) (FH := FH) (FT := FT) (fSelf := fSelf) (stk := stk) (TA := TA) (TH := TH) (xFc := xFc) (xFs := xFs) (xPc := xPc) (xKo := xKo) (xPk := xPk) (tw := tw) (te := te) (tc := tc) (xSet := xSet) (S := S) (XH := XH) (xHeld := xHeld) (xArg := xArg) (yCo := yCo) (yAr := yAr) (M := M) (yPair := yPair) (ySet := ySet) (yStay := yStay) (yArg := yArg) (yHan := yHan) (yKept := yKept) (yGiven := yGiven) (d := 0) R.2.1 R.2.2.1.1 (by omega) R.2.2.2.1 o ho 0 0 v2 (ob_zs ySeen 32) (by omega) (fun q hq => by
        unfold ob_zs
        rw [b_0, if_pos hq]
        exact ⟨fun _ => rfl, fun _ => rfl⟩)
      refine br_t h0 ⟨o + 2, hX2 _ ?_ _ (Nat.le_refl _)⟩
      exact hY0 _ (hYin _ (br_f (by decide) (br_f hn0 ⟨o + 2, hY2 _ ⟨rfl, K seen'⟩ _ (Nat.le_refl _)⟩)))
    · have hn0 : v2 < 0 := Int32.not_le.mp h0
      exact br_f h0 (hY0 _ (hYin _ (br_f (by decide) (br_t hn0 (hYn _ ⟨rfl, K _⟩)))))
  · have hYr := hY0 (fun r' v' => r' = -1 ∧ i_Rel (k + 6) (nI n, nI 0, nI b, deep, res, thr, thn, (fun zz => nI (CL zz)), cStr, cOp, cA, cB, (fun zz => nI (OK zz)), oKin, oOpen, xFc, xFs, xPc, xKo, xPk, (fun zz => ob_xa (tw zz) (te zz) (tc zz)), pVal, xSet, (fun zz => nI (S zz)), aOut, aVar, (fun zz => nI (FC zz)), (fun zz => nI (FP zz)), (fun zz => nI (FA zz)), (fun zz => nI (FH zz)), (fun zz => nI (XH zz)), (fun zz => nI (FT zz)), fSelf, xHeld, stk, (fun zz => nI (TA zz)), (fun zz => nI (TH zz)), xArg) v') (ob_inF (h.imp id (ob_nle1 (by omega) (by omega))) _ (br_t rfl (hYn _ ⟨rfl, K _⟩)))
    by_cases h0 : v1 < 0
    · exact br_t h0 hYr
    · exact br_f h0 (br_t (h.resolve_left h0) hYr)
