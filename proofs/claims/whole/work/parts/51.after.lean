/-! rows of kit/rows (bits), and what comes after in the order -/
def bt (x : Int32) (i : Nat) : Bool := x.toBitVec.getLsbD i
theorem b_ext {x y : Int32} (h : ∀ i, i < 32 → bt x i = bt y i) : x = y := Int32.toBitVec_inj.mp (BitVec.eq_of_getLsbD_eq (fun i hi => h i hi))
theorem b_or (x y : Int32) (i : Nat) : bt (x ||| y) i = (bt x i || bt y i) := by unfold bt; rw [Int32.toBitVec_or, BitVec.getLsbD_or]
theorem b_and (x y : Int32) (i : Nat) : bt (x &&& y) i = (bt x i && bt y i) := by unfold bt; rw [Int32.toBitVec_and, BitVec.getLsbD_and]
theorem b_0 (i : Nat) : bt 0 i = false := BitVec.getLsbD_zero
theorem s_l : ∀ n, n < 32 → ((nI n &&& 31).toBitVec.smod 32).toNat = n := by decide +kernel
theorem s_u : ∀ n, n < 32 → (((nI n).toUInt32 &&& Int32.toUInt32 31).toBitVec % 32).toNat = n := by decide +kernel
theorem b_shl (n : Nat) (hn : n < 32) (x : Int32) {i : Nat} (hi : i < 32) : bt (x <<< (nI n &&& 31)) i = (decide (n ≤ i) && bt x (i - n)) := by
  unfold bt
  rw [Int32.toBitVec_shiftLeft]
  show (x.toBitVec <<< ((nI n &&& 31).toBitVec.smod 32).toNat).getLsbD i = _
  rw [s_l n hn, BitVec.getLsbD_shiftLeft]
  rcases Nat.lt_or_ge i n with h | h
  · simp [h, Nat.not_le.mpr h]
  · simp [hi, h, Nat.not_lt.mpr h]
theorem b_ushr (n : Nat) (hn : n < 32) (x : Int32) (i : Nat) : bt ((x.toUInt32 >>> ((nI n).toUInt32 &&& Int32.toUInt32 31)).toInt32) i = bt x (n + i) := by
  show (x.toUInt32 >>> ((nI n).toUInt32 &&& Int32.toUInt32 31)).toBitVec.getLsbD i = x.toUInt32.toBitVec.getLsbD (n + i)
  rw [UInt32.toBitVec_shiftRight]
  show (x.toUInt32.toBitVec >>> (((nI n).toUInt32 &&& Int32.toUInt32 31).toBitVec % 32).toNat).getLsbD i = _
  rw [s_u n hn, BitVec.getLsbD_ushiftRight]
theorem ob_bt1 : ∀ j, j < 32 → bt 1 j = decide (j = 0) := by decide +kernel
theorem ob_low (y : Int32) : (y &&& 1) = 0 ↔ bt y 0 = false := by
  constructor
  · intro h
    have h1 := b_and y 1 0
    rw [h, b_0, ob_bt1 0 (by decide)] at h1
    simpa using h1.symm
  · intro h
    apply b_ext
    intro i hi
    rw [b_and, b_0, ob_bt1 i hi]
    by_cases z : i = 0
    · subst z; rw [h]; rfl
    · simp [z]
theorem ob_hid (h : Int32) {k : Nat} (hk : k < 32) : ((h.toUInt32 >>> ((nI k).toUInt32 &&& Int32.toUInt32 31)).toInt32 &&& 1) = 0 ↔ bt h k = false := by
  rw [ob_low, b_ushr k hk, Nat.add_zero]
theorem ob_had (h : Int32) {k i : Nat} (hk : k < 32) (hi : i < 32) : bt (h ||| ((1 : Int32) <<< (nI k &&& 31))) i = (bt h i || decide (i = k)) := by
  rw [b_or, b_shl k hk 1 hi]
  congr 1
  by_cases z : k ≤ i
  · rw [ob_bt1 _ (by omega)]
    by_cases y : i = k
    · subst y; simp
    · have : ¬ i - k = 0 := by omega
      simp [this, y]
  · have : ¬ i = k := by omega
    simp [z, this]
def ob_best (M : Nat → Nat) (o mm j : Nat) (r : Int32) : Prop :=
  (r = -1 ∧ ∀ k, k < j → M (32 * o + k) ≤ mm) ∨ ∃ q, q < j ∧ r = nI (32 * o + q) ∧ mm < M (32 * o + q) ∧ ∀ k, k < j → mm < M (32 * o + k) → M (32 * o + q) ≤ M (32 * o + k)
theorem ob_best_L {M : Nat → Nat} {o mm p : Nat} {L : List Nat} {r : Int32} (h : ob_ord M o L) (hp : ∀ q (hq : q < L.length), M (32 * o + L[q]) ≤ mm ↔ q < p) (hb : ob_best M o mm 32 r) :
    (∀ x, L[p]? = some x → r = nI (32 * o + x)) ∧ (L.length ≤ p → r = -1) := by
  have hs := List.pairwise_iff_getElem.mp h.1
  rcases hb with ⟨rfl, hall⟩ | ⟨q, hq, rfl, hlt, hmin⟩
  · refine ⟨fun x hx => ?_, fun _ => rfl⟩
    obtain ⟨hpl, rfl⟩ := List.getElem?_eq_some_iff.mp hx
    have hm := ((h.2 L[p]).mp (List.getElem_mem hpl)).1
    have := (hp p hpl).mp (hall _ hm)
    omega
  · have hmem := (h.2 q).mpr ⟨hq, by omega⟩
    obtain ⟨s, hsl, rfl⟩ := List.getElem_of_mem hmem
    have hsp : ¬ s < p := fun z => by have := (hp s hsl).mpr z; omega
    refine ⟨fun x hx => ?_, fun hl => ?_⟩
    · obtain ⟨hpl, rfl⟩ := List.getElem?_eq_some_iff.mp hx
      have hm := ((h.2 L[p]).mp (List.getElem_mem hpl)).1
      have hgt : mm < M (32 * o + L[p]) := by
        have : ¬ M (32 * o + L[p]) ≤ mm := fun z => by have := (hp p hpl).mp z; omega
        omega
      have hle := hmin _ hm hgt
      by_cases e : s = p
      · subst e; rfl
      · have := hs p s hpl hsl (by omega)
        omega
    · omega
section
variable {n : Nat} {d : Nat} {b : Nat} {m : Nat} {deep : Int32} {res : Int64} {thr : Int32} {thn : Int64} {CL : Nat → Nat} {cStr : Nat → Int32} {cOp : Nat → Int32} {cA : Nat → Int32} {cB : Nat → Int32} {OK : Nat → Nat} {oKin : Nat → Int32} {oOpen : Nat → Int32} {pVal : Nat → Int64} {aOut : Nat → Int32} {aVar : Nat → Int64} {FC : Nat → Nat} {FA : Nat → Nat} {FP : Nat → Nat} {FH : Nat → Nat} {FT : Nat → Nat} {fSelf : Nat → Int64} {stk : Nat → Int64} {TA : Nat → Nat} {TH : Nat → Nat} {xFc : Nat → Int32} {xFs : Nat → Int32} {xPc : Nat → Int32} {xKo : Nat → Int32} {xPk : Nat → Int32} {tw : Nat → Bool} {te : Nat → Bool} {tc : Nat → Bool} {xSet : Nat → Int64} {S : Nat → Nat} {XH : Nat → Nat} {xHeld : Nat → Int64} {xArg : Nat → Int64} {yCo : Nat → Int32} {yAr : Nat → Int32} {M : Nat → Nat} {yPair : Nat → Int32} {ySeen : Nat → Int32} {ySet : Nat → Int64} {yStay : Nat → Int32} {yArg : Nat → Int64} {yHan : Nat → Int32} {yKept : Nat → Int64} {yGiven : Int32}
variable {o mm : Nat}
theorem ob_after1 (ho : o < 32) (hm : ∀ j, M j ≤ m) (hm2 : m < 2 ^ 31) (hmm : mm ≤ m) : ∀ t j best, t + j = 32 → ob_best M o mm j best → ∃ r, ob_best M o mm 32 r ∧ ∀ post : Int32 → Prop, post r → wY_after_8 post (nI o) (nI mm) (nI n) (nI m) yGiven (nI d) deep (nI b) thr thn res cStr (fun zz => nI (CL zz)) cOp cA cB (fun zz => nI (OK zz)) oKin yCo yAr oOpen (fun zz => nI (M zz)) (fun zz => ob_yf (tw zz) (te zz) (tc zz)) yPair ySeen pVal ySet (fun zz => ob_th (S zz)) yStay aOut aVar yArg (fun zz => nI (FC zz)) (fun zz => nI (FA zz)) (fun zz => nI (FP zz)) (fun zz => nI (FH zz)) yHan (fun zz => nI (FT zz)) (fun zz => nI (TA zz)) (fun zz => nI (TH zz)) fSelf yKept stk (t + 1) best (nI (32 * o + j))
  | 0, j, best, e, hb => by
    have e' : j = 32 := by omega
    subst e'
    refine ⟨best, hb, fun post hp => ?_⟩
    unfold wY_after_8
    rw [show 32 * nI o + 32 = nI (32 * o + 32) from ob_iy o 32]
    exact br_t (Int32.le_refl _) hp
  | t + 1, j, best, e, hb => by
    have e2 : 32 * nI o + 32 = nI (32 * o + 32) := ob_iy o 32
    have hMj := hm (32 * o + j)
    have hn : ¬ nI (32 * o + 32) ≤ nI (32 * o + j) := nI_ge (by omega) (by omega)
    have hin : vp_in (nI (32 * o + j)) 1024 := vp_in_nI (by omega) (by decide)
    have hcl : (nI (32 * o + j)).toNatClampNeg = 32 * o + j := ob_cl (by omega)
    by_cases hle : M (32 * o + j) ≤ mm
    · have hb' : ob_best M o mm (j + 1) best := by
        rcases hb with ⟨h1, h2⟩ | ⟨q, h1, h2, h3, h4⟩
        · refine Or.inl ⟨h1, fun k hk => ?_⟩
          by_cases z : k = j
          · rw [z]; exact hle
          · exact h2 k (by omega)
        · refine Or.inr ⟨q, by omega, h2, h3, fun k hk hk2 => ?_⟩
          by_cases z : k = j
          · rw [z] at hk2; omega
          · exact h4 k (by omega) hk2
      obtain ⟨r, hr, hY⟩ := ob_after1 ho hm hm2 hmm t (j + 1) best (by omega) hb'
      refine ⟨r, hr, fun post hp => ?_⟩
      unfold wY_after_8
      rw [e2]
      refine br_f hn ⟨hin, ?_⟩
      rw [hcl, nI_1]
      exact br_t (nI_le hle (by omega)) (nm_e (hY post hp))
    · have hnle : ¬ nI (M (32 * o + j)) ≤ nI mm := nI_ge (by omega) (by omega)
      have hnew : (∀ k, k < j → mm < M (32 * o + k) → M (32 * o + j) ≤ M (32 * o + k)) → ob_best M o mm (j + 1) (nI (32 * o + j)) := by
        intro h
        refine Or.inr ⟨j, by omega, rfl, by omega, fun k hk hk2 => ?_⟩
        by_cases z : k = j
        · rw [z]; exact Nat.le_refl _
        · exact h k (by omega) hk2
      rcases hb with ⟨rfl, h2⟩ | ⟨q, h1, rfl, h3, h4⟩
      · obtain ⟨r, hr, hY⟩ := ob_after1 ho hm hm2 hmm t (j + 1) _ (by omega) (hnew (fun k hk hk2 => by have := h2 k hk; omega))
        refine ⟨r, hr, fun post hp => ?_⟩
        unfold wY_after_8
        rw [e2]
        refine br_f hn ⟨hin, ?_⟩
        rw [hcl, nI_1]
        exact br_f hnle (br_t (by decide) (nm_e (hY post hp)))
      · have hMq := hm (32 * o + q)
        have hinq : vp_in (nI (32 * o + q)) 1024 := vp_in_nI (by omega) (by decide)
        have hclq : (nI (32 * o + q)).toNatClampNeg = 32 * o + q := ob_cl (by omega)
        by_cases hqj : M (32 * o + q) ≤ M (32 * o + j)
        · obtain ⟨r, hr, hY⟩ := ob_after1 ho hm hm2 hmm t (j + 1) (nI (32 * o + q)) (by omega) (Or.inr ⟨q, by omega, rfl, h3, fun k hk hk2 => by
            by_cases z : k = j
            · rw [z]; exact hqj
            · exact h4 k (by omega) hk2⟩)
          refine ⟨r, hr, fun post hp => ?_⟩
          unfold wY_after_8
          rw [e2]
          refine br_f hn ⟨hin, ?_⟩
          rw [hcl, nI_1]
          refine br_f hnle (br_f (nI_pos (by omega)) ⟨hin, hinq, ?_⟩)
          rw [hclq]
          exact br_t (nI_le hqj (by omega)) (nm_e (hY post hp))
        · obtain ⟨r, hr, hY⟩ := ob_after1 ho hm hm2 hmm t (j + 1) _ (by omega) (hnew (fun k hk hk2 => by have := h4 k hk hk2; omega))
          refine ⟨r, hr, fun post hp => ?_⟩
          unfold wY_after_8
          rw [e2]
          refine br_f hn ⟨hin, ?_⟩
          rw [hcl, nI_1]
          refine br_f hnle (br_f (nI_pos (by omega)) ⟨hin, hinq, ?_⟩)
          rw [hclq]
          exact br_f (nI_ge (by omega) (by omega)) (nm_e (hY post hp))
/-- the slot after a moment -/
theorem ob_after {L : List Nat} {p : Nat} (ho : o < 32) (hm : ∀ j, M j ≤ m) (hm2 : m < 2 ^ 31) (hmm : mm ≤ m) (hL : ob_ord M o L) (hp : ∀ q (hq : q < L.length), M (32 * o + L[q]) ≤ mm ↔ q < p) : ∃ r : Int32, ((∀ x, L[p]? = some x → r = nI (32 * o + x)) ∧ (L.length ≤ p → r = -1)) ∧ ∀ post : Int32 → Prop, post r → wpY_after post (nI n, nI m, yGiven, nI d, deep, nI b, thr, thn, res, cStr, (fun zz => nI (CL zz)), cOp, cA, cB, (fun zz => nI (OK zz)), oKin, yCo, yAr, oOpen, (fun zz => nI (M zz)), (fun zz => ob_yf (tw zz) (te zz) (tc zz)), yPair, ySeen, pVal, ySet, (fun zz => ob_th (S zz)), yStay, aOut, aVar, yArg, (fun zz => nI (FC zz)), (fun zz => nI (FA zz)), (fun zz => nI (FP zz)), (fun zz => nI (FH zz)), yHan, (fun zz => nI (FT zz)), (fun zz => nI (TA zz)), (fun zz => nI (TH zz)), fSelf, yKept, stk) (nI o) (nI mm) := by
  obtain ⟨r, hr, hY⟩ := ob_after1 (n := n) (d := d) (b := b) (m := m) (deep := deep) (res := res) (thr := thr) (thn := thn) (CL := CL) (cStr := cStr) (cOp := cOp) (cA := cA) (cB := cB) (OK := OK) (oKin := oKin) (oOpen := oOpen) (pVal := pVal) (aOut := aOut) (aVar := aVar) (FC := FC) (FA := FA) (FP := FP) (FH := FH) (FT := FT) (fSelf := fSelf) (stk := stk) (TA := TA) (TH := TH) (tw := tw) (te := te) (tc := tc) (S := S) (yCo := yCo) (yAr := yAr) (M := M) (yPair := yPair) (ySeen := ySeen) (ySet := ySet) (yStay := yStay) (yArg := yArg) (yHan := yHan) (yKept := yKept) (yGiven := yGiven) (o := o) (mm := mm) ho hm hm2 hmm 32 0 (-1) rfl (Or.inl ⟨rfl, fun k hk => absurd hk (by omega)⟩)
  refine ⟨r, ob_best_L hL hp hr, fun post hpost => ?_⟩
  unfold wpY_after
  exact nm_r (e' := nI (32 * o)) (pk_mul 32 o) ⟨33, hY post hpost⟩
end
