/-! ===== what keeps the properties' groups ===== -/
section
variable {n : Nat} {d : Nat} {b : Nat} {m : Nat} {deep : Int32} {res : Int64} {thr : Int32} {thn : Int64} {CL : Nat → Nat} {cStr : Nat → Int32} {cOp : Nat → Int32} {cA : Nat → Int32} {cB : Nat → Int32} {OK : Nat → Nat} {oKin : Nat → Int32} {oOpen : Nat → Int32} {pVal : Nat → Int64} {aOut : Nat → Int32} {aVar : Nat → Int64} {FC : Nat → Nat} {FA : Nat → Nat} {FP : Nat → Nat} {FH : Nat → Nat} {FT : Nat → Nat} {fSelf : Nat → Int64} {stk : Nat → Int64} {TA : Nat → Nat} {TH : Nat → Nat} {xFc : Nat → Int32} {xFs : Nat → Int32} {xPc : Nat → Int32} {xKo : Nat → Int32} {xPk : Nat → Int32} {tw : Nat → Bool} {te : Nat → Bool} {tc : Nat → Bool} {xSet : Nat → Int64} {S : Nat → Nat} {XH : Nat → Nat} {xHeld : Nat → Int64} {xArg : Nat → Int64} {yCo : Nat → Int32} {yAr : Nat → Int32} {M : Nat → Nat} {yPair : Nat → Int32} {ySeen : Nat → Int32} {ySet : Nat → Int64} {yStay : Nat → Int32} {yArg : Nat → Int64} {yHan : Nat → Int32} {yKept : Nat → Int64} {yGiven : Int32}
variable {n' m' o k i : Nat} {M' : Nat → Nat} {pVal' xSet' ySet' : Nat → Int64} {xPk' yPair' xPc' xKo' : Nat → Int32} {tw' tc' : Nat → Bool}
theorem ob_sl_up {x : Nat} {v xs ys : Int64} {pk pr : Int32} {w : Bool} (h : n ≤ n') (hs : ob_sl n x v pk w xs pr ys) : ob_sl n' x v pk w xs pr ys := by
  rcases hs with hs | ⟨h1, h2, hs⟩
  · exact Or.inl hs
  · refine Or.inr ⟨h1, ob_V_up h h2, ?_⟩
    rcases hs with hs | ⟨h3, h4, h5, h6, h7⟩
    · exact Or.inl hs
    · exact Or.inr ⟨h3, h4, h5, h6, ob_V_up h h7⟩
/-- one slot is written -/
theorem ob_gP_c (hP : ob_gP n m M pVal xPk tw xSet yPair ySet) (hm : ∀ j, M' j ≤ m') (hz : ∀ j, 32 * n ≤ j → M' j = 0)
    (ho : ∀ j, j < 32 * n → j ≠ i → M' j = M j ∧ pVal' j = pVal j ∧ xPk' j = xPk j ∧ tw' j = tw j ∧ xSet' j = xSet j ∧ yPair' j = yPair j ∧ ySet' j = ySet j)
    (hs : i < 32 * n → ob_sl n (M' i) (pVal' i) (xPk' i) (tw' i) (xSet' i) (yPair' i) (ySet' i)) : ob_gP n m' M' pVal' xPk' tw' xSet' yPair' ySet' := by
  refine ⟨hm, hz, fun j hj => ?_⟩
  by_cases z : j = i
  · subst z
    exact hs hj
  · obtain ⟨e1, e2, e3, e4, e5, e6, e7⟩ := ho j hj z
    rw [e1, e2, e3, e4, e5, e6, e7]
    exact hP.2.2 j hj
/-- a new object: its slots are empty -/
theorem ob_gP_new (hP : ob_gP n m M pVal xPk tw xSet yPair ySet) (h1 : ∀ j, j < 32 * n → xPk' j = xPk j) (h2 : ∀ j, 32 * n ≤ j → j < 32 * (n + 1) → xPk' j = 0) : ob_gP (n + 1) m M pVal xPk' tw xSet yPair ySet := by
  refine ⟨hP.1, fun j hj => hP.2.1 j (by omega), fun j hj => ?_⟩
  by_cases z : j < 32 * n
  · rw [h1 j z]
    exact ob_sl_up (by omega) (hP.2.2 j z)
  · exact Or.inl ⟨hP.2.1 j (by omega), h2 j (by omega) hj⟩
theorem ob_gL_new (hL : ob_gL n M xPc xKo) (hz : ∀ j, 32 * n ≤ j → M j = 0) : ob_gL (n + 1) M (upd xPc n 0) xKo := by
  intro o ho
  by_cases z : o = n
  · subst z
    refine ⟨[], by rw [pk_us]; rfl, fun p k hp => absurd hp (by simp), List.Pairwise.nil, fun k => ?_⟩
    constructor
    · intro y; exact absurd y (by simp)
    · intro y; exact absurd (hz (32 * o + k) (by omega)) y.2
  · rw [pk_un z]
    exact hL o (by omega)
theorem ob_gY_new (hY : ob_gY n OK M tc pVal yPair) {x : Nat} (hx : x ≠ 1) : ob_gY (n + 1) (ob_um OK n x) M tc pVal yPair := by
  intro o ho h1
  by_cases z : o = n
  · subst z
    rw [ob_um_s] at h1
    exact absurd h1 hx
  · rw [ob_um_n _ _ z] at h1
    exact hY o (by omega) h1
/-- a key appears at the end of the order -/
theorem ob_gL_add (hL : ob_gL n M xPc xKo) (hm : ∀ j, M j ≤ m) (ho : o < n) (hk : k < 32) (hz : M (32 * o + k) = 0) :
    ∃ c, c < 32 ∧ xPc o = nI c ∧ ob_gL n (ob_um M (32 * o + k) (m + 1)) (upd xPc o (nI (c + 1))) (upd xKo (32 * o + c) (nI k)) := by
  obtain ⟨L, h1, h2, h3⟩ := hL o ho
  have hc := ob_ord_room h3 hk hz
  refine ⟨L.length, hc, h1, fun q hq => ?_⟩
  by_cases z : q = o
  · subst z
    refine ⟨L ++ [k], by rw [pk_us, List.length_append, List.length_singleton], fun p x hx => ?_, ob_ord_add h3 hk hz hm⟩
    rw [List.getElem?_append] at hx
    split at hx
    · rw [pk_un (by omega)]
      exact h2 p x hx
    · rename_i y
      obtain ⟨z, hz⟩ := List.getElem?_eq_some_iff.mp hx
      rw [List.length_singleton] at z
      have e : p = L.length := by omega
      subst e
      rw [pk_us]
      simp at hz
      rw [hz]
  · obtain ⟨L', g1, g2, g3⟩ := hL q hq
    refine ⟨L', by rw [pk_un z]; exact g1, fun p x hx => ?_, ob_ord_oth g3 (fun k' hk' => by omega)⟩
    have hl := ob_ord_len g3
    obtain ⟨y, _⟩ := List.getElem?_eq_some_iff.mp hx
    rw [pk_un (by omega)]
    exact g2 p x hx
/-- slots that are written without a moment of another kind keep the order -/
theorem ob_gL_c (hL : ob_gL n M xPc xKo) (ho : ∀ j, j < 32 * n → M' j = M j) : ob_gL n M' xPc xKo := by
  intro o h
  obtain ⟨L, h1, h2, h3, h4⟩ := hL o h
  refine ⟨L, h1, h2, h3.imp_of_mem ?_, fun k => ?_⟩
  · intro a b ha hb hab
    have ha' := ((h4 a).mp ha).1
    have hb' := ((h4 b).mp hb).1
    rw [ho _ (by omega), ho _ (by omega)]
    exact hab
  · rw [h4]
    by_cases hk : k < 32
    · rw [ho _ (by omega)]
    · exact ⟨fun z => absurd z.1 hk, fun z => absurd z.1 hk⟩
/-! a key leaves the order -/
def ob_rm (o k : Nat) (L : List Nat) (ko : Nat → Int32) (p kept : Nat) (ko' : Nat → Int32) : Prop :=
  kept = ((L.take p).filter (fun x => x != k)).length ∧ kept ≤ p ∧ (∀ q x, ((L.take p).filter (fun x => x != k))[q]? = some x → ko' (32 * o + q) = nI x) ∧
  (∀ q, p ≤ q → q < 32 → ko' (32 * o + q) = ko (32 * o + q)) ∧ ∀ j, (j < 32 * o ∨ 32 * o + 32 ≤ j) → ko' j = ko j
theorem ob_rm_0 {L : List Nat} {ko : Nat → Int32} : ob_rm o k L ko 0 0 ko :=
  ⟨by simp, Nat.le_refl _, fun q x hx => by simp at hx, fun _ _ _ => rfl, fun _ _ => rfl⟩
theorem ob_rm_k {L : List Nat} {ko ko' : Nat → Int32} {p kept : Nat} (hp : L[p]? = some k) (h : ob_rm o k L ko p kept ko') : ob_rm o k L ko (p + 1) kept ko' := by
  obtain ⟨h1, h2, h3, h4, h5⟩ := h
  obtain ⟨hl, he⟩ := List.getElem?_eq_some_iff.mp hp
  have e : ((L.take (p + 1)).filter (fun x => x != k)) = (L.take p).filter (fun x => x != k) := by
    rw [List.take_succ_eq_append_getElem hl, List.filter_append, he]
    simp
  exact ⟨by rw [e]; exact h1, by omega, by rw [e]; exact h3, fun q hq => h4 q (by omega), h5⟩
theorem ob_rm_n {L : List Nat} {ko ko' : Nat → Int32} {p kept x : Nat} (hp : L[p]? = some x) (hx : x ≠ k) (hL : L.length ≤ 32) (h : ob_rm o k L ko p kept ko') : ob_rm o k L ko (p + 1) (kept + 1) (upd ko' (32 * o + kept) (nI x)) := by
  obtain ⟨h1, h2, h3, h4, h5⟩ := h
  obtain ⟨hl, he⟩ := List.getElem?_eq_some_iff.mp hp
  have e : ((L.take (p + 1)).filter (fun x => x != k)) = (L.take p).filter (fun x => x != k) ++ [x] := by
    rw [List.take_succ_eq_append_getElem hl, List.filter_append, he]
    simp [hx]
  refine ⟨by rw [e, List.length_append, ← h1]; rfl, by omega, fun q y hy => ?_, fun q hq hq2 => ?_, fun j hj => ?_⟩
  · rw [e, List.getElem?_append, ← h1] at hy
    split at hy
    · rw [pk_un (by omega)]
      exact h3 q y hy
    · obtain ⟨z, hz⟩ := List.getElem?_eq_some_iff.mp hy
      rw [List.length_singleton] at z
      have e2 : q = kept := by omega
      subst e2
      simp at hz
      rw [pk_us, hz]
  · rw [pk_un (by omega)]
    exact h4 q (by omega) hq2
  · rw [pk_un (by omega)]
    exact h5 j hj
theorem ob_gL_del {L : List Nat} {ko' : Nat → Int32} {kept : Nat} (hL : ob_gL n M xPc xKo) (ho : o < n) (hl : xPc o = nI L.length) (hd : ob_ord M o L) (hk : k < 32) (h : ob_rm o k L xKo L.length kept ko') : ob_gL n (ob_um M (32 * o + k) 0) (upd xPc o (nI kept)) ko' := by
  obtain ⟨h1, h2, h3, h4, h5⟩ := h
  rw [List.take_length] at h1 h3
  intro q hq
  by_cases z : q = o
  · subst z
    exact ⟨L.filter (fun x => x != k), by rw [pk_us, h1], h3, ob_ord_del hd⟩
  · obtain ⟨L', g1, g2, g3⟩ := hL q hq
    refine ⟨L', by rw [pk_un z]; exact g1, fun p x hx => ?_, ?_⟩
    · have hl := ob_ord_len g3
      obtain ⟨y, _⟩ := List.getElem?_eq_some_iff.mp hx
      rw [h5 _ (by omega)]
      exact g2 p x hx
    · exact ob_ord_oth g3 (fun k' hk' => by omega)
end
