/-! ===== new objects ===== -/
def ob_zk (f : Nat → Int32) (o k : Nat) : Nat → Int32 := fun i => if 32 * o ≤ i ∧ i < 32 * o + k then 0 else f i
theorem ob_zk_0 (f : Nat → Int32) (o : Nat) : ob_zk f o 0 = f := by
  funext i; unfold ob_zk; rw [if_neg (by omega)]
theorem ob_zk_s (f : Nat → Int32) (o k : Nat) : upd (ob_zk f o k) (32 * o + k) 0 = ob_zk f o (k + 1) := by
  funext i
  unfold upd ob_zk
  by_cases h : i = 32 * o + k
  · rw [if_pos h, if_pos (by omega)]
  · rw [if_neg h]
    by_cases h2 : 32 * o ≤ i ∧ i < 32 * o + k
    · rw [if_pos h2, if_pos (by omega)]
    · rw [if_neg h2, if_neg (by omega)]
section
variable {n : Nat} {d : Nat} {b : Nat} {m : Nat} {deep : Int32} {res : Int64} {thr : Int32} {thn : Int64} {CL : Nat → Nat} {cStr : Nat → Int32} {cOp : Nat → Int32} {cA : Nat → Int32} {cB : Nat → Int32} {OK : Nat → Nat} {oKin : Nat → Int32} {oOpen : Nat → Int32} {pVal : Nat → Int64} {aOut : Nat → Int32} {aVar : Nat → Int64} {FC : Nat → Nat} {FA : Nat → Nat} {FP : Nat → Nat} {FH : Nat → Nat} {FT : Nat → Nat} {fSelf : Nat → Int64} {stk : Nat → Int64} {TA : Nat → Nat} {TH : Nat → Nat} {xFc : Nat → Int32} {xFs : Nat → Int32} {xPc : Nat → Int32} {xKo : Nat → Int32} {xPk : Nat → Int32} {tw : Nat → Bool} {te : Nat → Bool} {tc : Nat → Bool} {xSet : Nat → Int64} {S : Nat → Nat} {XH : Nat → Nat} {xHeld : Nat → Int64} {xArg : Nat → Int64} {yCo : Nat → Int32} {yAr : Nat → Int32} {M : Nat → Nat} {yPair : Nat → Int32} {ySeen : Nat → Int32} {ySet : Nat → Int64} {yStay : Nat → Int32} {yArg : Nat → Int64} {yHan : Nat → Int32} {yKept : Nat → Int64} {yGiven : Int32}
variable {e k o kd B w : Nat} {a bb pr : Int32} {xFc' xFs' yCo' yAr' : Nat → Int32}
theorem ob_newX1 {o : Nat} (hn : o < 32) (post : Int32 → SX → Prop) (hp : post (nI o) (nI n, nI d, nI b, deep, res, thr, thn, (fun zz => nI (CL zz)), cStr, cOp, cA, cB, (fun zz => nI (OK zz)), oKin, oOpen, xFc, xFs, xPc, xKo, (ob_zk xPk o 32), (fun zz => ob_xa (tw zz) (te zz) (tc zz)), pVal, xSet, (fun zz => nI (S zz)), aOut, aVar, (fun zz => nI (FC zz)), (fun zz => nI (FP zz)), (fun zz => nI (FA zz)), (fun zz => nI (FH zz)), (fun zz => nI (XH zz)), (fun zz => nI (FT zz)), fSelf, xHeld, stk, (fun zz => nI (TA zz)), (fun zz => nI (TH zz)), xArg)) :
    ∀ j k, j + k = 32 → wX_newObject_57 post (nI o) (nI n) (nI d) (nI b) deep res thr thn (j + 1) (nI k) (fun zz => nI (CL zz)) cStr cOp cA cB (fun zz => nI (OK zz)) oKin oOpen xFc xFs xPc xKo (ob_zk xPk o k) (fun zz => ob_xa (tw zz) (te zz) (tc zz)) pVal xSet (fun zz => nI (S zz)) aOut aVar (fun zz => nI (FC zz)) (fun zz => nI (FP zz)) (fun zz => nI (FA zz)) (fun zz => nI (FH zz)) (fun zz => nI (XH zz)) (fun zz => nI (FT zz)) fSelf xHeld stk (fun zz => nI (TA zz)) (fun zz => nI (TH zz)) xArg
  | 0, k, e => by
    have e' : k = 32 := by omega
    subst e'
    unfold wX_newObject_57
    exact br_t (by decide) hp
  | j + 1, k, e => by
    have ih := ob_newX1 hn post hp j (k + 1) (by omega)
    have h1 : ¬ 32 ≤ k := by omega
    unfold wX_newObject_57
    simp (disch := first | omega | decide) only [h1, ob_zk_s, forall_eq, not_true, not_false_iff, false_implies, true_implies, true_and, and_true, ob_sub1, Nat.add_sub_cancel, nI_1, ob_ix, ob_iy, ob_ix24, ob_iy24, ob_ix10, ob_iy10, ob_ix4, ob_iy4, ob_ix3, ob_iy3, ob_s1, ob_s2, ob_s3, ob_s4, ob_ltl, ob_lel, ob_eql, ob_ltr, ob_ler, ob_uN, Nat.add_one_ne_zero, ob_xs3, ob_lnn, ob_ltn, ob_eqn, Nat.not_lt_zero, Nat.zero_le, Nat.reduceEqDiff, Nat.reduceLeDiff, Nat.reduceLT, ob_eqll, Int32.reduceLT, Int32.reduceLE, eq_self_iff_true]
    exact ih
theorem ob_newX (hn : n < 32) (post : Int32 → SX → Prop) (hp : post (nI n) (nI (n+1), nI d, nI b, deep, res, thr, thn, (fun zz => nI (CL zz)), cStr, cOp, cA, cB, (fun zz => nI ((ob_um OK n kd) zz)), (upd oKin n pr), (upd oOpen n 1), xFc, xFs, (upd xPc n 0), xKo, (ob_zk xPk n 32), (fun zz => ob_xa (tw zz) (te zz) (tc zz)), pVal, xSet, (fun zz => nI (S zz)), aOut, aVar, (fun zz => nI (FC zz)), (fun zz => nI (FP zz)), (fun zz => nI (FA zz)), (fun zz => nI (FH zz)), (fun zz => nI (XH zz)), (fun zz => nI (FT zz)), fSelf, xHeld, stk, (fun zz => nI (TA zz)), (fun zz => nI (TH zz)), xArg)) : wpX_newObject post (nI n, nI d, nI b, deep, res, thr, thn, (fun zz => nI (CL zz)), cStr, cOp, cA, cB, (fun zz => nI (OK zz)), oKin, oOpen, xFc, xFs, xPc, xKo, xPk, (fun zz => ob_xa (tw zz) (te zz) (tc zz)), pVal, xSet, (fun zz => nI (S zz)), aOut, aVar, (fun zz => nI (FC zz)), (fun zz => nI (FP zz)), (fun zz => nI (FA zz)), (fun zz => nI (FH zz)), (fun zz => nI (XH zz)), (fun zz => nI (FT zz)), fSelf, xHeld, stk, (fun zz => nI (TA zz)), (fun zz => nI (TH zz)), xArg) (nI kd) pr := by
  have hl := ob_newX1 (n := (n+1)) (d := d) (b := b) (deep := deep) (res := res) (thr := thr) (thn := thn) (CL := CL) (cStr := cStr) (cOp := cOp) (cA := cA) (cB := cB) (OK := (ob_um OK n kd)) (oKin := (upd oKin n pr)) (oOpen := (upd oOpen n 1)) (pVal := pVal) (aOut := aOut) (aVar := aVar) (FC := FC) (FA := FA) (FP := FP) (FH := FH) (FT := FT) (fSelf := fSelf) (stk := stk) (TA := TA) (TH := TH) (xFc := xFc) (xFs := xFs) (xPc := (upd xPc n 0)) (xKo := xKo) (xPk := xPk) (tw := tw) (te := te) (tc := tc) (xSet := xSet) (S := S) (XH := XH) (xHeld := xHeld) (xArg := xArg) hn post hp 32 0 rfl
  rw [ob_zk_0] at hl
  unfold wpX_newObject
  simp (disch := first | omega | decide) only [hn, ob_nar1, forall_eq, not_true, not_false_iff, false_implies, true_implies, true_and, and_true, ob_sub1, Nat.add_sub_cancel, nI_1, ob_ix, ob_iy, ob_ix24, ob_iy24, ob_ix10, ob_iy10, ob_ix4, ob_iy4, ob_ix3, ob_iy3, ob_s1, ob_s2, ob_s3, ob_s4, ob_ltl, ob_lel, ob_eql, ob_ltr, ob_ler, ob_uN, Nat.add_one_ne_zero, ob_xs3, ob_lnn, ob_ltn, ob_eqn, Nat.not_lt_zero, Nat.zero_le, Nat.reduceEqDiff, Nat.reduceLeDiff, Nat.reduceLT, ob_eqll, Int32.reduceLT, Int32.reduceLE, eq_self_iff_true]
  exact ⟨33, hl⟩
theorem ob_newXf (hn : n = 32) (post : Int32 → SX → Prop) (hp : post (-1) (nI n, nI d, nI b, deep, res, thr, thn, (fun zz => nI (CL zz)), cStr, cOp, cA, cB, (fun zz => nI (OK zz)), oKin, oOpen, xFc, xFs, xPc, xKo, xPk, (fun zz => ob_xa (tw zz) (te zz) (tc zz)), pVal, xSet, (fun zz => nI (S zz)), aOut, aVar, (fun zz => nI (FC zz)), (fun zz => nI (FP zz)), (fun zz => nI (FA zz)), (fun zz => nI (FH zz)), (fun zz => nI (XH zz)), (fun zz => nI (FT zz)), fSelf, xHeld, stk, (fun zz => nI (TA zz)), (fun zz => nI (TH zz)), xArg)) : wpX_newObject post (nI n, nI d, nI b, deep, res, thr, thn, (fun zz => nI (CL zz)), cStr, cOp, cA, cB, (fun zz => nI (OK zz)), oKin, oOpen, xFc, xFs, xPc, xKo, xPk, (fun zz => ob_xa (tw zz) (te zz) (tc zz)), pVal, xSet, (fun zz => nI (S zz)), aOut, aVar, (fun zz => nI (FC zz)), (fun zz => nI (FP zz)), (fun zz => nI (FA zz)), (fun zz => nI (FH zz)), (fun zz => nI (XH zz)), (fun zz => nI (FT zz)), fSelf, xHeld, stk, (fun zz => nI (TA zz)), (fun zz => nI (TH zz)), xArg) a bb := by
  unfold wpX_newObject
  exact br_f (by rw [hn]; decide) hp
theorem ob_newY (hn : n < 32) (hkd : kd ≠ 1) (hk2 : kd ≤ 2) (post : Int32 → SY → Prop) (hp : post (nI n) (nI (n+1), nI m, yGiven, nI d, deep, nI b, thr, thn, res, cStr, (fun zz => nI (CL zz)), cOp, cA, cB, (fun zz => nI ((ob_um OK n kd) zz)), (upd oKin n pr), yCo, (upd yAr n (-1)), (upd oOpen n 1), (fun zz => nI (M zz)), (fun zz => ob_yf (tw zz) (te zz) (tc zz)), yPair, ySeen, pVal, ySet, (fun zz => ob_th (S zz)), yStay, aOut, aVar, yArg, (fun zz => nI (FC zz)), (fun zz => nI (FA zz)), (fun zz => nI (FP zz)), (fun zz => nI (FH zz)), yHan, (fun zz => nI (FT zz)), (fun zz => nI (TA zz)), (fun zz => nI (TH zz)), fSelf, yKept, stk)) : wpY_create post (nI n, nI m, yGiven, nI d, deep, nI b, thr, thn, res, cStr, (fun zz => nI (CL zz)), cOp, cA, cB, (fun zz => nI (OK zz)), oKin, yCo, yAr, oOpen, (fun zz => nI (M zz)), (fun zz => ob_yf (tw zz) (te zz) (tc zz)), yPair, ySeen, pVal, ySet, (fun zz => ob_th (S zz)), yStay, aOut, aVar, yArg, (fun zz => nI (FC zz)), (fun zz => nI (FA zz)), (fun zz => nI (FP zz)), (fun zz => nI (FH zz)), yHan, (fun zz => nI (FT zz)), (fun zz => nI (TA zz)), (fun zz => nI (TH zz)), fSelf, yKept, stk) (nI kd) pr := by
  unfold wpY_create
  simp (disch := first | omega | decide) only [hkd, ob_nar1, forall_eq, not_true, not_false_iff, false_implies, true_implies, true_and, and_true, ob_sub1, Nat.add_sub_cancel, nI_1, ob_ix, ob_iy, ob_ix24, ob_iy24, ob_ix10, ob_iy10, ob_ix4, ob_iy4, ob_ix3, ob_iy3, ob_s1, ob_s2, ob_s3, ob_s4, ob_ltl, ob_lel, ob_eql, ob_ltr, ob_ler, ob_uN, Nat.add_one_ne_zero, ob_xs3, ob_lnn, ob_ltn, ob_eqn, Nat.not_lt_zero, Nat.zero_le, Nat.reduceEqDiff, Nat.reduceLeDiff, Nat.reduceLT, ob_eqll, Int32.reduceLT, Int32.reduceLE, eq_self_iff_true]
  exact hp
/-- what a new object that is no array leaves -/
theorem ob_newG (hO : ob_gO n OK oKin) (hP : ob_gP n m M pVal xPk tw xSet yPair ySet) (hL : ob_gL n M xPc xKo) (hn : n < 32) (hpr : pr = -1 ∨ ∃ p, p < n ∧ pr = nI p) (hkd : kd ≤ 2) :
    ob_gO (n + 1) (ob_um OK n kd) (upd oKin n pr) ∧ ob_gP (n + 1) m M pVal (ob_zk xPk n 32) tw xSet yPair ySet ∧ ob_gL (n + 1) M (upd xPc n 0) xKo := by
  have h3 := hO.1
  refine ⟨⟨by omega, fun q hq => ?_⟩, ob_gP_new hP (fun j hj => ?_) (fun j hj hj2 => ?_), ob_gL_new hL hP.2.1⟩
  · by_cases z : q = n
    · subst z
      rw [ob_um_s, pk_us]
      exact ⟨hkd, hpr⟩
    · rw [ob_um_n _ _ z, pk_un z]
      exact hO.2 q (by omega)
  · unfold ob_zk
    rw [if_neg (by omega)]
  · unfold ob_zk
    rw [if_pos (by omega)]
theorem ob_newA (hA : ob_gA n OK S xFc xFs yCo yAr yStay aOut aVar) (hlo : ∀ q, q < n → xFc' q = xFc q ∧ xFs' q = xFs q ∧ yCo' q = yCo q ∧ yAr' q = yAr q)
    (hnew : kd = 2 → xFc' n = yCo' n ∧ (∃ c, c < 8 ∧ yCo' n = nI c) ∧ xFs' n = yAr' n ∧ ob_sc S (yAr' n)) : ob_gA (n + 1) (ob_um OK n kd) S xFc' xFs' yCo' yAr' yStay aOut aVar := by
  refine ⟨fun q hq h2 => ?_, fun q hq => ⟨(hA.2 q hq).1, fun z => ?_⟩⟩
  · by_cases z : q = n
    · subst z
      rw [ob_um_s] at h2
      exact hnew h2
    · rw [ob_um_n _ _ z] at h2
      obtain ⟨h1, h3, h4, h5⟩ := hlo q (by omega)
      rw [h1, h3, h4, h5]
      exact hA.1 q (by omega) h2
  · obtain ⟨h1, h2, h3⟩ := (hA.2 q hq).2 z
    exact ⟨h1, h2, fun k hk => ob_V_up (by omega) (h3 k hk)⟩
theorem ob_gT_up {n' : Nat} (hT : ob_gT n d b res thr thn) (h : n ≤ n') : ob_gT n' d b res thr thn :=
  ⟨hT.1, hT.2.1.imp id (fun z => ⟨z.1, ob_V_up h z.2⟩), hT.2.2⟩
theorem ob_newR (R : ob_R n d b m res thr thn CL cOp cA cB OK oKin pVal aOut aVar FC FA FP FH FT fSelf stk TA TH xFc xFs xPc xKo xPk tw tc xSet S XH xHeld yCo yAr M yPair ySet yStay yHan yKept) (hn : n < 32) (hpr : pr = -1 ∨ ∃ p, p < n ∧ pr = nI p) (hkd : kd ≤ 2) (hk1 : kd ≠ 1) (hlo : ∀ q, q < n → xFc' q = xFc q ∧ xFs' q = xFs q ∧ yCo' q = yCo q ∧ yAr' q = yAr q)
    (hnew : kd = 2 → xFc' n = yCo' n ∧ (∃ c, c < 8 ∧ yCo' n = nI c) ∧ xFs' n = yAr' n ∧ ob_sc S (yAr' n)) :
    ob_R (n+1) d b m res thr thn CL cOp cA cB (ob_um OK n kd) (upd oKin n pr) pVal aOut aVar FC FA FP FH FT fSelf stk TA TH xFc' xFs' (upd xPc n 0) xKo (ob_zk xPk n 32) tw tc xSet S XH xHeld yCo' yAr' M yPair ySet yStay yHan yKept := by
  obtain ⟨hC, hO, hP, hL, hY, hA, hF, hT⟩ := R
  obtain ⟨g1, g2, g3⟩ := ob_newG (kd := kd) hO hP hL hn hpr hkd
  exact ⟨hC, g1, g2, g3, ob_gY_new hY hk1, ob_newA hA hlo hnew, ob_gF_up (by omega) hF, ob_gT_up hT (by omega)⟩
theorem ob_oN (h : o < n) (hn : n ≤ 32) : (17179869184 + (nI o).toInt64) = lN (17179869184 + o) := ob_obj_toI o (by omega)
/-- OBJECT -/
theorem ob_op14 (R : ob_R n (e+1) b m res thr thn CL cOp cA cB OK oKin pVal aOut aVar FC FA FP FH FT fSelf stk TA TH xFc xFs xPc xKo xPk tw tc xSet S XH xHeld yCo yAr M yPair ySet yStay yHan yKept) (hm : m + 5 ≤ B) (hw : 4 * (e + 1) + ob_hs XH (e + 1) ≤ w) :
    ∃ u' v', ob_S b B (w + 4) u' v' ∧ (∀ post : SX → Prop, post u' → wpX_makeOp post (nI n, nI (e+1), nI b, deep, res, thr, thn, (fun zz => nI (CL zz)), cStr, cOp, cA, cB, (fun zz => nI (OK zz)), oKin, oOpen, xFc, xFs, xPc, xKo, xPk, (fun zz => ob_xa (tw zz) (te zz) (tc zz)), pVal, xSet, (fun zz => nI (S zz)), aOut, aVar, (fun zz => nI (FC zz)), (fun zz => nI (FP zz)), (fun zz => nI (FA zz)), (fun zz => nI (FH zz)), (fun zz => nI (XH zz)), (fun zz => nI (FT zz)), fSelf, xHeld, stk, (fun zz => nI (TA zz)), (fun zz => nI (TH zz)), xArg) 14 a) ∧ (∀ post : SY → Prop, post v' → wpY_build post (nI n, nI m, yGiven, nI (e+1), deep, nI b, thr, thn, res, cStr, (fun zz => nI (CL zz)), cOp, cA, cB, (fun zz => nI (OK zz)), oKin, yCo, yAr, oOpen, (fun zz => nI (M zz)), (fun zz => ob_yf (tw zz) (te zz) (tc zz)), yPair, ySeen, pVal, ySet, (fun zz => ob_th (S zz)), yStay, aOut, aVar, yArg, (fun zz => nI (FC zz)), (fun zz => nI (FA zz)), (fun zz => nI (FP zz)), (fun zz => nI (FH zz)), yHan, (fun zz => nI (FT zz)), (fun zz => nI (TA zz)), (fun zz => nI (TH zz)), fSelf, yKept, stk) 14 a) := by
  have hn := R.2.1.1.2
  by_cases h32 : n = 32
  · refine ⟨_, _, ob_S_mk (deep := deep) (cStr := cStr) (oOpen := oOpen) (te := te) (xArg := xArg) (ySeen := ySeen) (yArg := yArg) (yGiven := yGiven) (ob_raise R (ob_V_Ra n)) (by omega : m ≤ B) (by omega), fun post hp => ?_, fun post hp => ?_⟩
    · unfold wpX_makeOp
      refine br_f (by decide) (br_f (by decide) (br_t rfl ?_))
      refine ob_newXf h32 _ ?_
      unfold wpX_pushNew
      exact br_f (by decide) hp
    · unfold wpY_build
      refine br_f (by decide) (nm_e ⟨1, ?_⟩)
      unfold wY_build_17
      exact br_t (by decide) (br_t (by rw [h32]; rfl) hp)
  · have h3 := R.2.1.1.1
    have R1 := ob_newR (kd := 0) (pr := 0) (xFc' := xFc) (xFs' := xFs) (yCo' := upd yCo n a) (yAr' := upd yAr n (-1)) R (by omega) (Or.inr ⟨0, by omega, rfl⟩) (by decide) (by decide) (fun q hq => ⟨rfl, rfl, pk_un (by omega), pk_un (by omega)⟩) (fun h => absurd h (by decide))
    obtain ⟨res', thr', thn', FH', stk', R2, hXp, hYp⟩ := ob_push (deep := deep) (cStr := cStr) (oOpen := (upd oOpen n 1)) (te := te) (xArg := xArg) (ySeen := ySeen) (yArg := yArg) (yGiven := yGiven) R1 (ob_V_o (o := n) (by omega))
    refine ⟨_, _, ob_S_mk (deep := deep) (cStr := cStr) (oOpen := (upd oOpen n 1)) (te := te) (xArg := xArg) (ySeen := ySeen) (yArg := yArg) (yGiven := yGiven) R2 (by omega : m ≤ B) (by omega), fun post hp => ?_, fun post hp => ?_⟩
    · unfold wpX_makeOp
      refine br_f (by decide) (br_f (by decide) (br_t rfl ?_))
      refine ob_newX (kd := 0) (by omega) _ ?_
      unfold wpX_pushNew
      refine br_t (nI_pos' (by omega)) ?_
      rw [ob_obj_toI n (by omega)]
      exact hXp _ hp
    · unfold wpY_build
      refine br_f (by decide) (nm_e ⟨1, ?_⟩)
      unfold wY_build_17
      refine br_t (by decide) (br_f (fun z => h32 ((nI_eq (b := 32) (by omega) (by decide)).mp z)) (br_t rfl ?_))
      unfold wY_build_82
      refine ob_newY (kd := 0) (by omega) (by decide) (by decide) _ ⟨1, ?_⟩
      have hin : vp_in (nI n) 32 := vp_in_nI (by omega) (by decide)
      unfold wY_build_90 wY_build_144 wY_build_176 wY_build_195
      refine br_t (by decide) (br_f (by decide) ⟨hin, ?_⟩)
      rw [ob_cl (by omega), ob_obj_toI n (by omega)]
      exact nm_e (br_f (by decide) (br_f (by decide) (hYp _ hp)))
end
