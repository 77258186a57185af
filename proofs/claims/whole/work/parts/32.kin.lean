/-! ===== KIN, and IS ===== -/
section
variable {n : Nat} {d : Nat} {b : Nat} {m : Nat} {deep : Int32} {res : Int64} {thr : Int32} {thn : Int64} {CL : Nat → Nat} {cStr : Nat → Int32} {cOp : Nat → Int32} {cA : Nat → Int32} {cB : Nat → Int32} {OK : Nat → Nat} {oKin : Nat → Int32} {oOpen : Nat → Int32} {pVal : Nat → Int64} {aOut : Nat → Int32} {aVar : Nat → Int64} {FC : Nat → Nat} {FA : Nat → Nat} {FP : Nat → Nat} {FH : Nat → Nat} {FT : Nat → Nat} {fSelf : Nat → Int64} {stk : Nat → Int64} {TA : Nat → Nat} {TH : Nat → Nat} {xFc : Nat → Int32} {xFs : Nat → Int32} {xPc : Nat → Int32} {xKo : Nat → Int32} {xPk : Nat → Int32} {tw : Nat → Bool} {te : Nat → Bool} {tc : Nat → Bool} {xSet : Nat → Int64} {S : Nat → Nat} {XH : Nat → Nat} {xHeld : Nat → Int64} {xArg : Nat → Int64} {yCo : Nat → Int32} {yAr : Nat → Int32} {M : Nat → Nat} {yPair : Nat → Int32} {ySeen : Nat → Int32} {ySet : Nat → Int64} {yStay : Nat → Int32} {yArg : Nat → Int64} {yHan : Nat → Int32} {yKept : Nat → Int64} {yGiven : Int32}
variable {e k o B w : Nat} {a bb kk : Int32}
theorem ob_kin (hO : ob_gO n OK oKin) (hP : ob_gP n m M pVal xPk tw xSet yPair ySet) (hm : m < 2 ^ 31) (ho : o < n) : ∃ r : Int32, (r = -1 ∨ ∃ p, p < n ∧ r = nI p) ∧
    (∀ post : Int32 → Prop, post r → wpX_kinOf post (nI n, nI d, nI b, deep, res, thr, thn, (fun zz => nI (CL zz)), cStr, cOp, cA, cB, (fun zz => nI (OK zz)), oKin, oOpen, xFc, xFs, xPc, xKo, xPk, (fun zz => ob_xa (tw zz) (te zz) (tc zz)), pVal, xSet, (fun zz => nI (S zz)), aOut, aVar, (fun zz => nI (FC zz)), (fun zz => nI (FP zz)), (fun zz => nI (FA zz)), (fun zz => nI (FH zz)), (fun zz => nI (XH zz)), (fun zz => nI (FT zz)), fSelf, xHeld, stk, (fun zz => nI (TA zz)), (fun zz => nI (TH zz)), xArg) (nI o)) ∧ (∀ post : Int32 → Prop, post r → wpY_kinOf post (nI n, nI m, yGiven, nI d, deep, nI b, thr, thn, res, cStr, (fun zz => nI (CL zz)), cOp, cA, cB, (fun zz => nI (OK zz)), oKin, yCo, yAr, oOpen, (fun zz => nI (M zz)), (fun zz => ob_yf (tw zz) (te zz) (tc zz)), yPair, ySeen, pVal, ySet, (fun zz => ob_th (S zz)), yStay, aOut, aVar, yArg, (fun zz => nI (FC zz)), (fun zz => nI (FA zz)), (fun zz => nI (FP zz)), (fun zz => nI (FH zz)), yHan, (fun zz => nI (FT zz)), (fun zz => nI (TA zz)), (fun zz => nI (TH zz)), fSelf, yKept, stk) (lN (17179869184 + o))) := by
  have hn := hO.1.2
  obtain ⟨r, hr, hX, hY⟩ := ob_look (n := n) (d := d) (b := b) (m := m) (deep := deep) (res := res) (thr := thr) (thn := thn) (CL := CL) (cStr := cStr) (cOp := cOp) (cA := cA) (cB := cB) (OK := OK) (oKin := oKin) (oOpen := oOpen) (pVal := pVal) (aOut := aOut) (aVar := aVar) (FC := FC) (FA := FA) (FP := FP) (FH := FH) (FT := FT) (fSelf := fSelf) (stk := stk) (TA := TA) (TH := TH) (xFc := xFc) (xFs := xFs) (xPc := xPc) (xKo := xKo) (xPk := xPk) (tw := tw) (te := te) (tc := tc) (xSet := xSet) (S := S) (XH := XH) (xHeld := xHeld) (xArg := xArg) (yCo := yCo) (yAr := yAr) (M := M) (yPair := yPair) (ySeen := ySeen) (ySet := ySet) (yStay := yStay) (yArg := yArg) (yHan := yHan) (yKept := yKept) (yGiven := yGiven) (k := 17) hO hP hm (by decide) ho
  have hX0 : ∀ post : Int32 → Prop, ((r < 0 → (post (-1))) ∧ (¬ r < 0 → (vp_in r 1024 ∧ ((((xPk r.toNatClampNeg) = 1 → (vp_in r 1024 ∧ (wpX_objectOf (fun r_44 => (post r_44)) (nI n, nI d, nI b, deep, res, thr, thn, (fun zz => nI (CL zz)), cStr, cOp, cA, cB, (fun zz => nI (OK zz)), oKin, oOpen, xFc, xFs, xPc, xKo, xPk, (fun zz => ob_xa (tw zz) (te zz) (tc zz)), pVal, xSet, (fun zz => nI (S zz)), aOut, aVar, (fun zz => nI (FC zz)), (fun zz => nI (FP zz)), (fun zz => nI (FA zz)), (fun zz => nI (FH zz)), (fun zz => nI (XH zz)), (fun zz => nI (FT zz)), fSelf, xHeld, stk, (fun zz => nI (TA zz)), (fun zz => nI (TH zz)), xArg) (pVal r.toNatClampNeg)))) ∧ (¬ (xPk r.toNatClampNeg) = 1 → (post (-1)))))))) → wpX_kinOf post (nI n, nI d, nI b, deep, res, thr, thn, (fun zz => nI (CL zz)), cStr, cOp, cA, cB, (fun zz => nI (OK zz)), oKin, oOpen, xFc, xFs, xPc, xKo, xPk, (fun zz => ob_xa (tw zz) (te zz) (tc zz)), pVal, xSet, (fun zz => nI (S zz)), aOut, aVar, (fun zz => nI (FC zz)), (fun zz => nI (FP zz)), (fun zz => nI (FA zz)), (fun zz => nI (FH zz)), (fun zz => nI (XH zz)), (fun zz => nI (FT zz)), fSelf, xHeld, stk, (fun zz => nI (TA zz)), (fun zz => nI (TH zz)), xArg) (nI o) := by
    intro post h
    unfold wpX_kinOf
    exact hX _ h
  have hY0 : ∀ post : Int32 → Prop, ((r < 0 → (post (-1))) ∧ (¬ r < 0 → (vp_in r 1024 ∧ ((((yPair r.toNatClampNeg) = 0 → (vp_in r 1024 ∧ (wpY_isObject (fun r_48 => (((r_48 = 0 → (post (-1))) ∧ (¬ r_48 = 0 → (vp_in r 1024 ∧ (wpY_number (fun r_51 => (post r_51)) (pVal r.toNatClampNeg))))))) (pVal r.toNatClampNeg)))) ∧ (¬ (yPair r.toNatClampNeg) = 0 → (post (-1)))))))) → wpY_kinOf post (nI n, nI m, yGiven, nI d, deep, nI b, thr, thn, res, cStr, (fun zz => nI (CL zz)), cOp, cA, cB, (fun zz => nI (OK zz)), oKin, yCo, yAr, oOpen, (fun zz => nI (M zz)), (fun zz => ob_yf (tw zz) (te zz) (tc zz)), yPair, ySeen, pVal, ySet, (fun zz => ob_th (S zz)), yStay, aOut, aVar, yArg, (fun zz => nI (FC zz)), (fun zz => nI (FA zz)), (fun zz => nI (FP zz)), (fun zz => nI (FH zz)), yHan, (fun zz => nI (FT zz)), (fun zz => nI (TA zz)), (fun zz => nI (TH zz)), fSelf, yKept, stk) (lN (17179869184 + o)) := by
    intro post h
    unfold wpY_kinOf wpY_number
    rw [ob_numb]
    exact hY _ h
  rcases hr with rfl | ⟨q, hq, hM, rfl⟩
  · exact ⟨-1, Or.inl rfl, fun post hp => hX0 post (br_t (by decide) hp), fun post hp => hY0 post (br_t (by decide) hp)⟩
  · have hi : 32 * q + 17 < 1024 := by omega
    have hin : vp_in (nI (32 * q + 17)) 1024 := vp_in_nI hi (by decide)
    have hcl : (nI (32 * q + 17)).toNatClampNeg = 32 * q + 17 := ob_cl hi
    have hrr : ¬ nI (32 * q + 17) < 0 := nI_pos (by omega)
    rw [hcl] at hX0 hY0
    rcases hP.2.2 (32 * q + 17) (by omega) with ⟨h0, _⟩ | ⟨_, hv, hs⟩
    · exact absurd h0 hM
    rcases hs with ⟨hpr, hpk⟩ | ⟨hpr, hpk, _⟩
    · rcases ob_cls hv with hl | ⟨p, hp, he⟩
      · refine ⟨-1, Or.inl rfl, fun post hp => hX0 post (br_f hrr ⟨hin, br_t hpk ⟨hin, ob_objN hl _ hp⟩⟩), fun post hp => hY0 post (br_f hrr ⟨hin, br_t hpr ⟨hin, ob_isoF hl _ (br_t rfl hp)⟩⟩)⟩
      · rw [he] at hX0 hY0
        refine ⟨nI p, Or.inr ⟨p, hp, rfl⟩, fun post hpp => hX0 post (br_f hrr ⟨hin, br_t hpk ⟨hin, ob_objO hn hp _ hpp⟩⟩), fun post hpp => hY0 post (br_f hrr ⟨hin, br_t hpr ⟨hin, ob_isoT p (by omega) _ (br_f (by decide) ⟨hin, ?_⟩)⟩⟩)⟩
        unfold wpY_number
        rw [ob_numb]
        exact hpp
    · exact ⟨-1, Or.inl rfl, fun post hp => hX0 post (br_f hrr ⟨hin, br_f (by rw [hpk]; decide) hp⟩), fun post hp => hY0 post (br_f hrr ⟨hin, br_f (by rw [hpr]; decide) hp⟩)⟩
/-- along the prototypes to kk -/
theorem ob_desc1 (hO : ob_gO n OK oKin) : ∀ o, o < n → ∃ f : Int32, (f = -1 ∨ (f = kk ∧ ∃ q, f = nI q ∧ q < n)) ∧
    (∀ post : SX → Prop, wX_pushWhetherKin_104 post kk f (nI n) (nI d) (nI b) deep res thr thn (fun zz => nI (CL zz)) cStr cOp cA cB (fun zz => nI (OK zz)) oKin oOpen xFc xFs xPc xKo xPk (fun zz => ob_xa (tw zz) (te zz) (tc zz)) pVal xSet (fun zz => nI (S zz)) aOut aVar (fun zz => nI (FC zz)) (fun zz => nI (FP zz)) (fun zz => nI (FA zz)) (fun zz => nI (FH zz)) (fun zz => nI (XH zz)) (fun zz => nI (FT zz)) fSelf xHeld stk (fun zz => nI (TA zz)) (fun zz => nI (TH zz)) xArg → ∀ j i, o + 2 ≤ j → i + o ≤ 31 → wX_pushWhetherKin_70 post kk (nI n) (nI d) (nI b) deep res thr thn (fun zz => nI (CL zz)) cStr cOp cA cB (fun zz => nI (OK zz)) oKin oOpen xFc xFs xPc xKo xPk (fun zz => ob_xa (tw zz) (te zz) (tc zz)) pVal xSet (fun zz => nI (S zz)) aOut aVar (fun zz => nI (FC zz)) (fun zz => nI (FP zz)) (fun zz => nI (FA zz)) (fun zz => nI (FH zz)) (fun zz => nI (XH zz)) (fun zz => nI (FT zz)) fSelf xHeld stk (fun zz => nI (TA zz)) (fun zz => nI (TH zz)) xArg j (nI o) (nI i)) ∧
    (∀ post : SY → Prop, wY_descends_69 post kk f (nI n) (nI m) yGiven (nI d) deep (nI b) thr thn res cStr (fun zz => nI (CL zz)) cOp cA cB (fun zz => nI (OK zz)) oKin yCo yAr oOpen (fun zz => nI (M zz)) (fun zz => ob_yf (tw zz) (te zz) (tc zz)) yPair ySeen pVal ySet (fun zz => ob_th (S zz)) yStay aOut aVar yArg (fun zz => nI (FC zz)) (fun zz => nI (FA zz)) (fun zz => nI (FP zz)) (fun zz => nI (FH zz)) yHan (fun zz => nI (FT zz)) (fun zz => nI (TA zz)) (fun zz => nI (TH zz)) fSelf yKept stk → ∀ j, o + 2 ≤ j → wY_descends_45 post kk (nI n) (nI m) yGiven (nI d) deep (nI b) thr thn res cStr (fun zz => nI (CL zz)) cOp cA cB (fun zz => nI (OK zz)) oKin yCo yAr oOpen (fun zz => nI (M zz)) (fun zz => ob_yf (tw zz) (te zz) (tc zz)) yPair ySeen pVal ySet (fun zz => ob_th (S zz)) yStay aOut aVar yArg (fun zz => nI (FC zz)) (fun zz => nI (FA zz)) (fun zz => nI (FP zz)) (fun zz => nI (FH zz)) yHan (fun zz => nI (FT zz)) (fun zz => nI (TA zz)) (fun zz => nI (TH zz)) fSelf yKept stk j (nI o)) := by
  intro o
  induction o using Nat.strongRecOn with
  | ind o ih =>
    intro ho
    have hn := hO.1.2
    have hin : vp_in (nI o) 32 := vp_in_nI (by omega) (by decide)
    have hcl : (nI o).toNatClampNeg = o := ob_cl (by omega)
    have hoo : ¬ nI o < 0 := nI_pos (by omega)
    have hile : ∀ i, i + o ≤ 31 → ¬ (32 : Int32) ≤ nI i := fun i hi => nI_ge (b := 32) (by omega) (by decide)
    by_cases hkk : nI o = kk
    · refine ⟨nI o, Or.inr ⟨hkk, o, rfl, ho⟩, fun post hp j i hj hi => ?_, fun post hp j hj => ?_⟩
      · obtain ⟨j, rfl⟩ : ∃ q, j = q + 1 := ⟨j - 1, by omega⟩
        unfold wX_pushWhetherKin_70
        exact br_f (hile i hi) (br_f hoo (br_t hkk hp))
      · obtain ⟨j, rfl⟩ : ∃ q, j = q + 1 := ⟨j - 1, by omega⟩
        unfold wY_descends_45
        exact br_f hoo (br_t hkk hp)
    · rcases (hO.2 o ho).2 with e | ⟨p, hp, e⟩
      · refine ⟨-1, Or.inl rfl, fun post hp j i hj hi => ?_, fun post hp j hj => ?_⟩
        · obtain ⟨j, rfl⟩ : ∃ q, j = q + 2 := ⟨j - 2, by omega⟩
          unfold wX_pushWhetherKin_70
          refine br_f (hile i hi) (br_f hoo (br_f hkk ⟨hin, ?_⟩))
          rw [hcl, e]
          refine nm_e (nm_e ?_)
          unfold wX_pushWhetherKin_70
          exact br_c (fun _ => hp) (fun _ => br_t (by decide) hp)
        · obtain ⟨j, rfl⟩ : ∃ q, j = q + 2 := ⟨j - 2, by omega⟩
          unfold wY_descends_45
          refine br_f hoo (br_f hkk ⟨hin, ?_⟩)
          rw [hcl, e]
          refine nm_e ?_
          unfold wY_descends_45
          exact br_t (by decide) hp
      · obtain ⟨f, hf, hX, hY⟩ := ih p hp (by omega)
        refine ⟨f, hf, fun post hpp j i hj hi => ?_, fun post hpp j hj => ?_⟩
        · obtain ⟨j, rfl⟩ : ∃ q, j = q + 1 := ⟨j - 1, by omega⟩
          unfold wX_pushWhetherKin_70
          refine br_f (hile i hi) (br_f hoo (br_f hkk ⟨hin, ?_⟩))
          rw [hcl, e, nI_1]
          exact nm_e (nm_e (hX post hpp j (i + 1) (by omega) (by omega)))
        · obtain ⟨j, rfl⟩ : ∃ q, j = q + 1 := ⟨j - 1, by omega⟩
          unfold wY_descends_45
          refine br_f hoo (br_f hkk ⟨hin, ?_⟩)
          rw [hcl, e]
          exact nm_e (hY post hpp j (by omega))
/-- from a value's prototype on -/
theorem ob_desc {v : Int64} (hO : ob_gO n OK oKin) (hv : ob_V n v) : ∃ f : Int32, (f = -1 ∨ (f = kk ∧ ∃ q, f = nI q ∧ q < n)) ∧
    (∀ post : SX → Prop, 0 ≤ kk → wX_pushWhetherKin_104 post kk f (nI n) (nI d) (nI b) deep res thr thn (fun zz => nI (CL zz)) cStr cOp cA cB (fun zz => nI (OK zz)) oKin oOpen xFc xFs xPc xKo xPk (fun zz => ob_xa (tw zz) (te zz) (tc zz)) pVal xSet (fun zz => nI (S zz)) aOut aVar (fun zz => nI (FC zz)) (fun zz => nI (FP zz)) (fun zz => nI (FA zz)) (fun zz => nI (FH zz)) (fun zz => nI (XH zz)) (fun zz => nI (FT zz)) fSelf xHeld stk (fun zz => nI (TA zz)) (fun zz => nI (TH zz)) xArg → wX_pushWhetherKin_29 post v kk (nI n) (nI d) (nI b) deep res thr thn (fun zz => nI (CL zz)) cStr cOp cA cB (fun zz => nI (OK zz)) oKin oOpen xFc xFs xPc xKo xPk (fun zz => ob_xa (tw zz) (te zz) (tc zz)) pVal xSet (fun zz => nI (S zz)) aOut aVar (fun zz => nI (FC zz)) (fun zz => nI (FP zz)) (fun zz => nI (FA zz)) (fun zz => nI (FH zz)) (fun zz => nI (XH zz)) (fun zz => nI (FT zz)) fSelf xHeld stk (fun zz => nI (TA zz)) (fun zz => nI (TH zz)) xArg) ∧
    (∀ post : SY → Prop, wY_descends_69 post kk f (nI n) (nI m) yGiven (nI d) deep (nI b) thr thn res cStr (fun zz => nI (CL zz)) cOp cA cB (fun zz => nI (OK zz)) oKin yCo yAr oOpen (fun zz => nI (M zz)) (fun zz => ob_yf (tw zz) (te zz) (tc zz)) yPair ySeen pVal ySet (fun zz => ob_th (S zz)) yStay aOut aVar yArg (fun zz => nI (FC zz)) (fun zz => nI (FA zz)) (fun zz => nI (FP zz)) (fun zz => nI (FH zz)) yHan (fun zz => nI (FT zz)) (fun zz => nI (TA zz)) (fun zz => nI (TH zz)) fSelf yKept stk → wY_descends_21 post v kk (nI n) (nI m) yGiven (nI d) deep (nI b) thr thn res cStr (fun zz => nI (CL zz)) cOp cA cB (fun zz => nI (OK zz)) oKin yCo yAr oOpen (fun zz => nI (M zz)) (fun zz => ob_yf (tw zz) (te zz) (tc zz)) yPair ySeen pVal ySet (fun zz => ob_th (S zz)) yStay aOut aVar yArg (fun zz => nI (FC zz)) (fun zz => nI (FA zz)) (fun zz => nI (FP zz)) (fun zz => nI (FH zz)) yHan (fun zz => nI (FT zz)) (fun zz => nI (TA zz)) (fun zz => nI (TH zz)) fSelf yKept stk) := by
  have hn := hO.1.2
  have hnone : (∀ post : SX → Prop, 0 ≤ kk → (∃ n70 : Nat, wX_pushWhetherKin_70 post kk (nI n) (nI d) (nI b) deep res thr thn (fun zz => nI (CL zz)) cStr cOp cA cB (fun zz => nI (OK zz)) oKin oOpen xFc xFs xPc xKo xPk (fun zz => ob_xa (tw zz) (te zz) (tc zz)) pVal xSet (fun zz => nI (S zz)) aOut aVar (fun zz => nI (FC zz)) (fun zz => nI (FP zz)) (fun zz => nI (FA zz)) (fun zz => nI (FH zz)) (fun zz => nI (XH zz)) (fun zz => nI (FT zz)) fSelf xHeld stk (fun zz => nI (TA zz)) (fun zz => nI (TH zz)) xArg n70 (-1) 0) → wX_pushWhetherKin_29 post v kk (nI n) (nI d) (nI b) deep res thr thn (fun zz => nI (CL zz)) cStr cOp cA cB (fun zz => nI (OK zz)) oKin oOpen xFc xFs xPc xKo xPk (fun zz => ob_xa (tw zz) (te zz) (tc zz)) pVal xSet (fun zz => nI (S zz)) aOut aVar (fun zz => nI (FC zz)) (fun zz => nI (FP zz)) (fun zz => nI (FA zz)) (fun zz => nI (FH zz)) (fun zz => nI (XH zz)) (fun zz => nI (FT zz)) fSelf xHeld stk (fun zz => nI (TA zz)) (fun zz => nI (TH zz)) xArg) → (∀ post : SY → Prop, (∃ n45 : Nat, wY_descends_45 post kk (nI n) (nI m) yGiven (nI d) deep (nI b) thr thn res cStr (fun zz => nI (CL zz)) cOp cA cB (fun zz => nI (OK zz)) oKin yCo yAr oOpen (fun zz => nI (M zz)) (fun zz => ob_yf (tw zz) (te zz) (tc zz)) yPair ySeen pVal ySet (fun zz => ob_th (S zz)) yStay aOut aVar yArg (fun zz => nI (FC zz)) (fun zz => nI (FA zz)) (fun zz => nI (FP zz)) (fun zz => nI (FH zz)) yHan (fun zz => nI (FT zz)) (fun zz => nI (TA zz)) (fun zz => nI (TH zz)) fSelf yKept stk n45 (-1)) → wY_descends_21 post v kk (nI n) (nI m) yGiven (nI d) deep (nI b) thr thn res cStr (fun zz => nI (CL zz)) cOp cA cB (fun zz => nI (OK zz)) oKin yCo yAr oOpen (fun zz => nI (M zz)) (fun zz => ob_yf (tw zz) (te zz) (tc zz)) yPair ySeen pVal ySet (fun zz => ob_th (S zz)) yStay aOut aVar yArg (fun zz => nI (FC zz)) (fun zz => nI (FA zz)) (fun zz => nI (FP zz)) (fun zz => nI (FH zz)) yHan (fun zz => nI (FT zz)) (fun zz => nI (TA zz)) (fun zz => nI (TH zz)) fSelf yKept stk) → ∃ f : Int32, (f = -1 ∨ (f = kk ∧ ∃ q, f = nI q ∧ q < n)) ∧
    (∀ post : SX → Prop, 0 ≤ kk → wX_pushWhetherKin_104 post kk f (nI n) (nI d) (nI b) deep res thr thn (fun zz => nI (CL zz)) cStr cOp cA cB (fun zz => nI (OK zz)) oKin oOpen xFc xFs xPc xKo xPk (fun zz => ob_xa (tw zz) (te zz) (tc zz)) pVal xSet (fun zz => nI (S zz)) aOut aVar (fun zz => nI (FC zz)) (fun zz => nI (FP zz)) (fun zz => nI (FA zz)) (fun zz => nI (FH zz)) (fun zz => nI (XH zz)) (fun zz => nI (FT zz)) fSelf xHeld stk (fun zz => nI (TA zz)) (fun zz => nI (TH zz)) xArg → wX_pushWhetherKin_29 post v kk (nI n) (nI d) (nI b) deep res thr thn (fun zz => nI (CL zz)) cStr cOp cA cB (fun zz => nI (OK zz)) oKin oOpen xFc xFs xPc xKo xPk (fun zz => ob_xa (tw zz) (te zz) (tc zz)) pVal xSet (fun zz => nI (S zz)) aOut aVar (fun zz => nI (FC zz)) (fun zz => nI (FP zz)) (fun zz => nI (FA zz)) (fun zz => nI (FH zz)) (fun zz => nI (XH zz)) (fun zz => nI (FT zz)) fSelf xHeld stk (fun zz => nI (TA zz)) (fun zz => nI (TH zz)) xArg) ∧
    (∀ post : SY → Prop, wY_descends_69 post kk f (nI n) (nI m) yGiven (nI d) deep (nI b) thr thn res cStr (fun zz => nI (CL zz)) cOp cA cB (fun zz => nI (OK zz)) oKin yCo yAr oOpen (fun zz => nI (M zz)) (fun zz => ob_yf (tw zz) (te zz) (tc zz)) yPair ySeen pVal ySet (fun zz => ob_th (S zz)) yStay aOut aVar yArg (fun zz => nI (FC zz)) (fun zz => nI (FA zz)) (fun zz => nI (FP zz)) (fun zz => nI (FH zz)) yHan (fun zz => nI (FT zz)) (fun zz => nI (TA zz)) (fun zz => nI (TH zz)) fSelf yKept stk → wY_descends_21 post v kk (nI n) (nI m) yGiven (nI d) deep (nI b) thr thn res cStr (fun zz => nI (CL zz)) cOp cA cB (fun zz => nI (OK zz)) oKin yCo yAr oOpen (fun zz => nI (M zz)) (fun zz => ob_yf (tw zz) (te zz) (tc zz)) yPair ySeen pVal ySet (fun zz => ob_th (S zz)) yStay aOut aVar yArg (fun zz => nI (FC zz)) (fun zz => nI (FA zz)) (fun zz => nI (FP zz)) (fun zz => nI (FH zz)) yHan (fun zz => nI (FT zz)) (fun zz => nI (TA zz)) (fun zz => nI (TH zz)) fSelf yKept stk) := by
    intro hX hY
    refine ⟨-1, Or.inl rfl, fun post hk hp => hX post hk ⟨1, ?_⟩, fun post hp => hY post ⟨1, ?_⟩⟩
    · unfold wX_pushWhetherKin_70
      exact br_f (by decide) (br_t (by decide) hp)
    · unfold wY_descends_45
      exact br_t (by decide) hp
  rcases ob_cls hv with hl | ⟨o, ho, rfl⟩
  · refine hnone (fun post hk hp => ?_) (fun post hp => ?_)
    · unfold wX_pushWhetherKin_29
      exact br_t hk (ob_objN hl _ (br_f (by decide) hp))
    · unfold wY_descends_21
      exact ob_isoF hl _ (br_t rfl hp)
  · have hin : vp_in (nI o) 32 := vp_in_nI (by omega) (by decide)
    have hcl : (nI o).toNatClampNeg = o := ob_cl (by omega)
    have hX29 : ∀ post : SX → Prop, 0 ≤ kk → (∃ n70 : Nat, wX_pushWhetherKin_70 post kk (nI n) (nI d) (nI b) deep res thr thn (fun zz => nI (CL zz)) cStr cOp cA cB (fun zz => nI (OK zz)) oKin oOpen xFc xFs xPc xKo xPk (fun zz => ob_xa (tw zz) (te zz) (tc zz)) pVal xSet (fun zz => nI (S zz)) aOut aVar (fun zz => nI (FC zz)) (fun zz => nI (FP zz)) (fun zz => nI (FA zz)) (fun zz => nI (FH zz)) (fun zz => nI (XH zz)) (fun zz => nI (FT zz)) fSelf xHeld stk (fun zz => nI (TA zz)) (fun zz => nI (TH zz)) xArg n70 (oKin o) 0) → wX_pushWhetherKin_29 post (lN (17179869184 + o)) kk (nI n) (nI d) (nI b) deep res thr thn (fun zz => nI (CL zz)) cStr cOp cA cB (fun zz => nI (OK zz)) oKin oOpen xFc xFs xPc xKo xPk (fun zz => ob_xa (tw zz) (te zz) (tc zz)) pVal xSet (fun zz => nI (S zz)) aOut aVar (fun zz => nI (FC zz)) (fun zz => nI (FP zz)) (fun zz => nI (FA zz)) (fun zz => nI (FH zz)) (fun zz => nI (XH zz)) (fun zz => nI (FT zz)) fSelf xHeld stk (fun zz => nI (TA zz)) (fun zz => nI (TH zz)) xArg := by
      intro post hk hp
      unfold wX_pushWhetherKin_29
      refine br_t hk (ob_objO hn ho _ (br_t (nI_pos' (by omega)) ⟨hin, ?_⟩))
      rw [hcl]
      exact nm_e hp
    have hY21 : ∀ post : SY → Prop, (∃ n45 : Nat, wY_descends_45 post kk (nI n) (nI m) yGiven (nI d) deep (nI b) thr thn res cStr (fun zz => nI (CL zz)) cOp cA cB (fun zz => nI (OK zz)) oKin yCo yAr oOpen (fun zz => nI (M zz)) (fun zz => ob_yf (tw zz) (te zz) (tc zz)) yPair ySeen pVal ySet (fun zz => ob_th (S zz)) yStay aOut aVar yArg (fun zz => nI (FC zz)) (fun zz => nI (FA zz)) (fun zz => nI (FP zz)) (fun zz => nI (FH zz)) yHan (fun zz => nI (FT zz)) (fun zz => nI (TA zz)) (fun zz => nI (TH zz)) fSelf yKept stk n45 (oKin o)) → wY_descends_21 post (lN (17179869184 + o)) kk (nI n) (nI m) yGiven (nI d) deep (nI b) thr thn res cStr (fun zz => nI (CL zz)) cOp cA cB (fun zz => nI (OK zz)) oKin yCo yAr oOpen (fun zz => nI (M zz)) (fun zz => ob_yf (tw zz) (te zz) (tc zz)) yPair ySeen pVal ySet (fun zz => ob_th (S zz)) yStay aOut aVar yArg (fun zz => nI (FC zz)) (fun zz => nI (FA zz)) (fun zz => nI (FP zz)) (fun zz => nI (FH zz)) yHan (fun zz => nI (FT zz)) (fun zz => nI (TA zz)) (fun zz => nI (TH zz)) fSelf yKept stk := by
      intro post hp
      unfold wY_descends_21
      refine ob_isoT o (by omega) _ (br_f (by decide) ?_)
      unfold wpY_number
      rw [ob_numb]
      refine ⟨hin, ?_⟩
      rw [hcl]
      exact nm_e hp
    rcases (hO.2 o ho).2 with e | ⟨p, hp, e⟩
    · rw [e] at hX29 hY21
      exact hnone hX29 hY21
    · rw [e] at hX29 hY21
      obtain ⟨f, hf, hX, hY⟩ := ob_desc1 (n := n) (d := d) (b := b) (m := m) (deep := deep) (res := res) (thr := thr) (thn := thn) (CL := CL) (cStr := cStr) (cOp := cOp) (cA := cA) (cB := cB) (OK := OK) (oKin := oKin) (oOpen := oOpen) (pVal := pVal) (aOut := aOut) (aVar := aVar) (FC := FC) (FA := FA) (FP := FP) (FH := FH) (FT := FT) (fSelf := fSelf) (stk := stk) (TA := TA) (TH := TH) (xFc := xFc) (xFs := xFs) (xPc := xPc) (xKo := xKo) (xPk := xPk) (tw := tw) (te := te) (tc := tc) (xSet := xSet) (S := S) (XH := XH) (xHeld := xHeld) (xArg := xArg) (yCo := yCo) (yAr := yAr) (M := M) (yPair := yPair) (ySeen := ySeen) (ySet := ySet) (yStay := yStay) (yArg := yArg) (yHan := yHan) (yKept := yKept) (yGiven := yGiven) (kk := kk) hO p (by omega)
      exact ⟨f, hf, fun post hk hpp => hX29 post hk ⟨p + 2, hX post hpp _ 0 (Nat.le_refl _) (by omega)⟩, fun post hpp => hY21 post ⟨p + 2, hY post hpp _ (Nat.le_refl _)⟩⟩
theorem ob_op29 (R : ob_R n (e+1) b m res thr thn CL cOp cA cB OK oKin pVal aOut aVar FC FA FP FH FT fSelf stk TA TH xFc xFs xPc xKo xPk tw tc xSet S XH xHeld yCo yAr M yPair ySet yStay yHan yKept) (hm : m + 5 ≤ B) (hB : B < 2 ^ 31) (hw : 4 * (e + 1) + ob_hs XH (e + 1) ≤ w) :
    ∃ u' v', ob_S b B (w + 4) u' v' ∧ (∀ post : SX → Prop, post u' → wpX_valueOp post (nI n, nI (e+1), nI b, deep, res, thr, thn, (fun zz => nI (CL zz)), cStr, cOp, cA, cB, (fun zz => nI (OK zz)), oKin, oOpen, xFc, xFs, xPc, xKo, xPk, (fun zz => ob_xa (tw zz) (te zz) (tc zz)), pVal, xSet, (fun zz => nI (S zz)), aOut, aVar, (fun zz => nI (FC zz)), (fun zz => nI (FP zz)), (fun zz => nI (FA zz)), (fun zz => nI (FH zz)), (fun zz => nI (XH zz)), (fun zz => nI (FT zz)), fSelf, xHeld, stk, (fun zz => nI (TA zz)), (fun zz => nI (TH zz)), xArg) 29 a) ∧ (∀ post : SY → Prop, post v' → wpY_two post (nI n, nI m, yGiven, nI (e+1), deep, nI b, thr, thn, res, cStr, (fun zz => nI (CL zz)), cOp, cA, cB, (fun zz => nI (OK zz)), oKin, yCo, yAr, oOpen, (fun zz => nI (M zz)), (fun zz => ob_yf (tw zz) (te zz) (tc zz)), yPair, ySeen, pVal, ySet, (fun zz => ob_th (S zz)), yStay, aOut, aVar, yArg, (fun zz => nI (FC zz)), (fun zz => nI (FA zz)), (fun zz => nI (FP zz)), (fun zz => nI (FH zz)), yHan, (fun zz => nI (FT zz)), (fun zz => nI (TA zz)), (fun zz => nI (TH zz)), fSelf, yKept, stk) 29 a) := by
  obtain ⟨y, FH', R1, hVy, hH, hX1, hY1⟩ := ob_pop (deep := deep) (cStr := cStr) (oOpen := oOpen) (te := te) (xArg := xArg) (ySeen := ySeen) (yArg := yArg) (yGiven := yGiven) R
  obtain ⟨x, FH2, R2, hVx, hH2, hX2, hY2⟩ := ob_pop (deep := deep) (cStr := cStr) (oOpen := oOpen) (te := te) (xArg := xArg) (ySeen := ySeen) (yArg := yArg) (yGiven := yGiven) R1
  have hn := R1.2.1.1.2
  have hY0 : ∀ post : SY → Prop, wpY_descends post (nI n, nI m, yGiven, nI (e+1), deep, nI b, thr, thn, res, cStr, (fun zz => nI (CL zz)), cOp, cA, cB, (fun zz => nI (OK zz)), oKin, yCo, yAr, oOpen, (fun zz => nI (M zz)), (fun zz => ob_yf (tw zz) (te zz) (tc zz)), yPair, ySeen, pVal, ySet, (fun zz => ob_th (S zz)), yStay, aOut, aVar, yArg, (fun zz => nI (FC zz)), (fun zz => nI (FA zz)), (fun zz => nI (FP zz)), (fun zz => nI (FH2 zz)), yHan, (fun zz => nI (FT zz)), (fun zz => nI (TA zz)), (fun zz => nI (TH zz)), fSelf, yKept, stk) x y → wpY_two post (nI n, nI m, yGiven, nI (e+1), deep, nI b, thr, thn, res, cStr, (fun zz => nI (CL zz)), cOp, cA, cB, (fun zz => nI (OK zz)), oKin, yCo, yAr, oOpen, (fun zz => nI (M zz)), (fun zz => ob_yf (tw zz) (te zz) (tc zz)), yPair, ySeen, pVal, ySet, (fun zz => ob_th (S zz)), yStay, aOut, aVar, yArg, (fun zz => nI (FC zz)), (fun zz => nI (FA zz)), (fun zz => nI (FP zz)), (fun zz => nI (FH zz)), yHan, (fun zz => nI (FT zz)), (fun zz => nI (TA zz)), (fun zz => nI (TH zz)), fSelf, yKept, stk) 29 a := by
    intro post h
    unfold wpY_two
    refine hY1 _ (br_f (by decide) (hY2 _ ?_))
    unfold wY_two_19 wY_two_44
    exact br_f (by decide) (br_f (by decide) (br_t rfl h))
  obtain ⟨kk, hkk, hXk, hYk⟩ : ∃ kk : Int32, (kk = -1 ∨ ∃ p, p < n ∧ kk = nI p) ∧ (∀ post : SX → Prop, wX_pushWhetherKin_29 post x kk (nI n) (nI (e+1)) (nI b) deep res thr thn (fun zz => nI (CL zz)) cStr cOp cA cB (fun zz => nI (OK zz)) oKin oOpen xFc xFs xPc xKo xPk (fun zz => ob_xa (tw zz) (te zz) (tc zz)) pVal xSet (fun zz => nI (S zz)) aOut aVar (fun zz => nI (FC zz)) (fun zz => nI (FP zz)) (fun zz => nI (FA zz)) (fun zz => nI (FH2 zz)) (fun zz => nI (XH zz)) (fun zz => nI (FT zz)) fSelf xHeld stk (fun zz => nI (TA zz)) (fun zz => nI (TH zz)) xArg → wpX_valueOp post (nI n, nI (e+1), nI b, deep, res, thr, thn, (fun zz => nI (CL zz)), cStr, cOp, cA, cB, (fun zz => nI (OK zz)), oKin, oOpen, xFc, xFs, xPc, xKo, xPk, (fun zz => ob_xa (tw zz) (te zz) (tc zz)), pVal, xSet, (fun zz => nI (S zz)), aOut, aVar, (fun zz => nI (FC zz)), (fun zz => nI (FP zz)), (fun zz => nI (FA zz)), (fun zz => nI (FH zz)), (fun zz => nI (XH zz)), (fun zz => nI (FT zz)), fSelf, xHeld, stk, (fun zz => nI (TA zz)), (fun zz => nI (TH zz)), xArg) 29 a) ∧ (∀ post : SY → Prop, wY_descends_21 post x kk (nI n) (nI m) yGiven (nI (e+1)) deep (nI b) thr thn res cStr (fun zz => nI (CL zz)) cOp cA cB (fun zz => nI (OK zz)) oKin yCo yAr oOpen (fun zz => nI (M zz)) (fun zz => ob_yf (tw zz) (te zz) (tc zz)) yPair ySeen pVal ySet (fun zz => ob_th (S zz)) yStay aOut aVar yArg (fun zz => nI (FC zz)) (fun zz => nI (FA zz)) (fun zz => nI (FP zz)) (fun zz => nI (FH2 zz)) yHan (fun zz => nI (FT zz)) (fun zz => nI (TA zz)) (fun zz => nI (TH zz)) fSelf yKept stk → wpY_two post (nI n, nI m, yGiven, nI (e+1), deep, nI b, thr, thn, res, cStr, (fun zz => nI (CL zz)), cOp, cA, cB, (fun zz => nI (OK zz)), oKin, yCo, yAr, oOpen, (fun zz => nI (M zz)), (fun zz => ob_yf (tw zz) (te zz) (tc zz)), yPair, ySeen, pVal, ySet, (fun zz => ob_th (S zz)), yStay, aOut, aVar, yArg, (fun zz => nI (FC zz)), (fun zz => nI (FA zz)), (fun zz => nI (FP zz)), (fun zz => nI (FH zz)), yHan, (fun zz => nI (FT zz)), (fun zz => nI (TA zz)), (fun zz => nI (TH zz)), fSelf, yKept, stk) 29 a) := by
    rcases ob_cls hVy with hl | ⟨o, ho, rfl⟩
    · refine ⟨-1, Or.inl rfl, fun post h => ?_, fun post h => hY0 post ?_⟩
      · unfold wpX_valueOp
        refine hX1 _ (ob_objN hl _ ?_)
        refine br_f (by decide) (br_f (by decide) (br_f (by decide) (br_t rfl ?_)))
        unfold wpX_pushWhetherKin
        exact hX2 _ (br_t (by decide) h)
      · unfold wpY_descends wpY_isFunction
        exact ob_isoF hl _ (br_t rfl (br_t rfl h))
    · have hin : vp_in (nI o) 32 := vp_in_nI (by omega) (by decide)
      have hcl : (nI o).toNatClampNeg = o := ob_cl (by omega)
      have hOK := (R1.2.1.2 o ho).1
      have hX0 : ∀ post : SX → Prop, ((((nI (OK o)) = 2 → (wpX_kinOf (fun r_171 => (wX_pushWhetherKin_29 post x r_171 (nI n) (nI (e+1)) (nI b) deep res thr thn (fun zz => nI (CL zz)) cStr cOp cA cB (fun zz => nI (OK zz)) oKin oOpen xFc xFs xPc xKo xPk (fun zz => ob_xa (tw zz) (te zz) (tc zz)) pVal xSet (fun zz => nI (S zz)) aOut aVar (fun zz => nI (FC zz)) (fun zz => nI (FP zz)) (fun zz => nI (FA zz)) (fun zz => nI (FH2 zz)) (fun zz => nI (XH zz)) (fun zz => nI (FT zz)) fSelf xHeld stk (fun zz => nI (TA zz)) (fun zz => nI (TH zz)) xArg)) (nI n, nI (e+1), nI b, deep, res, thr, thn, (fun zz => nI (CL zz)), cStr, cOp, cA, cB, (fun zz => nI (OK zz)), oKin, oOpen, xFc, xFs, xPc, xKo, xPk, (fun zz => ob_xa (tw zz) (te zz) (tc zz)), pVal, xSet, (fun zz => nI (S zz)), aOut, aVar, (fun zz => nI (FC zz)), (fun zz => nI (FP zz)), (fun zz => nI (FA zz)), (fun zz => nI (FH2 zz)), (fun zz => nI (XH zz)), (fun zz => nI (FT zz)), fSelf, xHeld, stk, (fun zz => nI (TA zz)), (fun zz => nI (TH zz)), xArg) (nI o))) ∧ (¬ (nI (OK o)) = 2 → (wX_pushWhetherKin_29 post x (-1) (nI n) (nI (e+1)) (nI b) deep res thr thn (fun zz => nI (CL zz)) cStr cOp cA cB (fun zz => nI (OK zz)) oKin oOpen xFc xFs xPc xKo xPk (fun zz => ob_xa (tw zz) (te zz) (tc zz)) pVal xSet (fun zz => nI (S zz)) aOut aVar (fun zz => nI (FC zz)) (fun zz => nI (FP zz)) (fun zz => nI (FA zz)) (fun zz => nI (FH2 zz)) (fun zz => nI (XH zz)) (fun zz => nI (FT zz)) fSelf xHeld stk (fun zz => nI (TA zz)) (fun zz => nI (TH zz)) xArg)))) → wpX_valueOp post (nI n, nI (e+1), nI b, deep, res, thr, thn, (fun zz => nI (CL zz)), cStr, cOp, cA, cB, (fun zz => nI (OK zz)), oKin, oOpen, xFc, xFs, xPc, xKo, xPk, (fun zz => ob_xa (tw zz) (te zz) (tc zz)), pVal, xSet, (fun zz => nI (S zz)), aOut, aVar, (fun zz => nI (FC zz)), (fun zz => nI (FP zz)), (fun zz => nI (FA zz)), (fun zz => nI (FH zz)), (fun zz => nI (XH zz)), (fun zz => nI (FT zz)), fSelf, xHeld, stk, (fun zz => nI (TA zz)), (fun zz => nI (TH zz)), xArg) 29 a := by
        intro post h
        unfold wpX_valueOp
        refine hX1 _ (ob_objO hn ho _ ?_)
        refine br_f (by decide) (br_f (by decide) (br_f (by decide) (br_t rfl ?_)))
        unfold wpX_pushWhetherKin
        refine hX2 _ (br_f (nI_pos (by omega)) ⟨hin, ?_⟩)
        rw [hcl]
        exact h
      have hYf : ∀ post : SY → Prop, ((((nI (OK o)) = 2 → (wpY_kinOf (fun r_140 => (wY_descends_21 post x r_140 (nI n) (nI m) yGiven (nI (e+1)) deep (nI b) thr thn res cStr (fun zz => nI (CL zz)) cOp cA cB (fun zz => nI (OK zz)) oKin yCo yAr oOpen (fun zz => nI (M zz)) (fun zz => ob_yf (tw zz) (te zz) (tc zz)) yPair ySeen pVal ySet (fun zz => ob_th (S zz)) yStay aOut aVar yArg (fun zz => nI (FC zz)) (fun zz => nI (FA zz)) (fun zz => nI (FP zz)) (fun zz => nI (FH2 zz)) yHan (fun zz => nI (FT zz)) (fun zz => nI (TA zz)) (fun zz => nI (TH zz)) fSelf yKept stk)) (nI n, nI m, yGiven, nI (e+1), deep, nI b, thr, thn, res, cStr, (fun zz => nI (CL zz)), cOp, cA, cB, (fun zz => nI (OK zz)), oKin, yCo, yAr, oOpen, (fun zz => nI (M zz)), (fun zz => ob_yf (tw zz) (te zz) (tc zz)), yPair, ySeen, pVal, ySet, (fun zz => ob_th (S zz)), yStay, aOut, aVar, yArg, (fun zz => nI (FC zz)), (fun zz => nI (FA zz)), (fun zz => nI (FP zz)), (fun zz => nI (FH2 zz)), yHan, (fun zz => nI (FT zz)), (fun zz => nI (TA zz)), (fun zz => nI (TH zz)), fSelf, yKept, stk) (lN (17179869184 + o)))) ∧ (¬ (nI (OK o)) = 2 → (wY_descends_21 post x (-1) (nI n) (nI m) yGiven (nI (e+1)) deep (nI b) thr thn res cStr (fun zz => nI (CL zz)) cOp cA cB (fun zz => nI (OK zz)) oKin yCo yAr oOpen (fun zz => nI (M zz)) (fun zz => ob_yf (tw zz) (te zz) (tc zz)) yPair ySeen pVal ySet (fun zz => ob_th (S zz)) yStay aOut aVar yArg (fun zz => nI (FC zz)) (fun zz => nI (FA zz)) (fun zz => nI (FP zz)) (fun zz => nI (FH2 zz)) yHan (fun zz => nI (FT zz)) (fun zz => nI (TA zz)) (fun zz => nI (TH zz)) fSelf yKept stk)))) → wpY_two post (nI n, nI m, yGiven, nI (e+1), deep, nI b, thr, thn, res, cStr, (fun zz => nI (CL zz)), cOp, cA, cB, (fun zz => nI (OK zz)), oKin, yCo, yAr, oOpen, (fun zz => nI (M zz)), (fun zz => ob_yf (tw zz) (te zz) (tc zz)), yPair, ySeen, pVal, ySet, (fun zz => ob_th (S zz)), yStay, aOut, aVar, yArg, (fun zz => nI (FC zz)), (fun zz => nI (FA zz)), (fun zz => nI (FP zz)), (fun zz => nI (FH zz)), yHan, (fun zz => nI (FT zz)), (fun zz => nI (TA zz)), (fun zz => nI (TH zz)), fSelf, yKept, stk) 29 a := by
        intro post h
        refine hY0 post ?_
        unfold wpY_descends wpY_isFunction
        refine ob_isoT o (by omega) _ (br_f (by decide) ?_)
        unfold wpY_number
        rw [ob_numb]
        refine ⟨hin, ?_⟩
        rw [hcl]
        exact br_c (fun z => br_f (by decide) (h.1 z)) (fun z => br_t rfl (h.2 z))
      by_cases h2 : nI (OK o) = 2
      · obtain ⟨r, hr, hXr, hYr⟩ := ob_kin (n := n) (d := (e+1)) (b := b) (m := m) (deep := deep) (res := res) (thr := thr) (thn := thn) (CL := CL) (cStr := cStr) (cOp := cOp) (cA := cA) (cB := cB) (OK := OK) (oKin := oKin) (oOpen := oOpen) (pVal := pVal) (aOut := aOut) (aVar := aVar) (FC := FC) (FA := FA) (FP := FP) (FH := FH2) (FT := FT) (fSelf := fSelf) (stk := stk) (TA := TA) (TH := TH) (xFc := xFc) (xFs := xFs) (xPc := xPc) (xKo := xKo) (xPk := xPk) (tw := tw) (te := te) (tc := tc) (xSet := xSet) (S := S) (XH := XH) (xHeld := xHeld) (xArg := xArg) (yCo := yCo) (yAr := yAr) (M := M) (yPair := yPair) (ySeen := ySeen) (ySet := ySet) (yStay := yStay) (yArg := yArg) (yHan := yHan) (yKept := yKept) (yGiven := yGiven) R2.2.1 R2.2.2.1 (by omega) ho
        exact ⟨r, hr, fun post h => hX0 post (br_t h2 (hXr _ h)), fun post h => hYf post (br_t h2 (hYr _ h))⟩
      · exact ⟨-1, Or.inl rfl, fun post h => hX0 post (br_f h2 h), fun post h => hYf post (br_f h2 h)⟩
  obtain ⟨f, hf, hXd, hYd⟩ := ob_desc (n := n) (d := (e+1)) (b := b) (m := m) (deep := deep) (res := res) (thr := thr) (thn := thn) (CL := CL) (cStr := cStr) (cOp := cOp) (cA := cA) (cB := cB) (OK := OK) (oKin := oKin) (oOpen := oOpen) (pVal := pVal) (aOut := aOut) (aVar := aVar) (FC := FC) (FA := FA) (FP := FP) (FH := FH2) (FT := FT) (fSelf := fSelf) (stk := stk) (TA := TA) (TH := TH) (xFc := xFc) (xFs := xFs) (xPc := xPc) (xKo := xKo) (xPk := xPk) (tw := tw) (te := te) (tc := tc) (xSet := xSet) (S := S) (XH := XH) (xHeld := xHeld) (xArg := xArg) (yCo := yCo) (yAr := yAr) (M := M) (yPair := yPair) (ySeen := ySeen) (ySet := ySet) (yStay := yStay) (yArg := yArg) (yHan := yHan) (yKept := yKept) (yGiven := yGiven) (kk := kk) R2.2.1 hVx
  rcases hkk with rfl | ⟨p, hp, rfl⟩
  · refine ⟨_, _, ob_S_mk (deep := deep) (cStr := cStr) (oOpen := oOpen) (te := te) (xArg := xArg) (ySeen := ySeen) (yArg := yArg) (yGiven := yGiven) (ob_raise R2 (ob_V_Ty n)) (by omega : m ≤ B) (by omega), fun post hp => hXk post ?_, fun post hp => hYk post (hYd post ?_)⟩
    · unfold wX_pushWhetherKin_29
      exact br_f (by decide) hp
    · unfold wY_descends_69
      exact br_f (by decide) hp
  · have hp0 : 0 ≤ nI p := nI_pos' (by omega)
    obtain ⟨z, hz, hz2⟩ : ∃ z : Int32, (z = 0 ∨ z = 1) ∧ ((f = nI p ∧ ¬ f < 0 ∧ z = 1) ∨ (¬ f = nI p ∧ f < 0 ∧ z = 0)) := by
      rcases hf with rfl | ⟨h1, q, h2, h3⟩
      · exact ⟨0, Or.inl rfl, Or.inr ⟨fun z => ob_m1n p (by omega) z.symm, by decide, rfl⟩⟩
      · exact ⟨1, Or.inr rfl, Or.inl ⟨h1, by rw [h1]; exact nI_pos (by omega), rfl⟩⟩
    obtain ⟨res', thr', thn', FH3, stk', R3, hXp, hYp⟩ := ob_push (deep := deep) (cStr := cStr) (oOpen := oOpen) (te := te) (xArg := xArg) (ySeen := ySeen) (yArg := yArg) (yGiven := yGiven) R2 (ob_V_w n z)
    refine ⟨_, _, ob_S_mk (deep := deep) (cStr := cStr) (oOpen := oOpen) (te := te) (xArg := xArg) (ySeen := ySeen) (yArg := yArg) (yGiven := yGiven) R3 (by omega : m ≤ B) (by omega), fun post hpp => hXk post (hXd post hp0 ?_), fun post hpp => hYk post (hYd post ?_)⟩
    · unfold wX_pushWhetherKin_104 wX_pushWhetherKin_117
      rcases hz2 with ⟨h1, h2, rfl⟩ | ⟨h1, h2, rfl⟩
      · exact br_t h1 (ob_whX (Or.inr rfl) _ (hXp _ hpp))
      · exact br_f h1 (ob_whX (Or.inl rfl) _ (hXp _ hpp))
    · unfold wY_descends_69 wY_descends_95
      refine br_t hp0 ?_
      rcases hz2 with ⟨h1, h2, rfl⟩ | ⟨h1, h2, rfl⟩
      · exact br_f h2 (ob_whY (Or.inr rfl) _ (hYp _ hpp))
      · exact br_t h2 (ob_whY (Or.inl rfl) _ (hYp _ hpp))
end
