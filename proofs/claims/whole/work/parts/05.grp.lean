/-! ===== what keeps the groups ===== -/
section
variable {n : Nat} {d : Nat} {b : Nat} {m : Nat} {deep : Int32} {res : Int64} {thr : Int32} {thn : Int64} {CL : Nat → Nat} {cStr : Nat → Int32} {cOp : Nat → Int32} {cA : Nat → Int32} {cB : Nat → Int32} {OK : Nat → Nat} {oKin : Nat → Int32} {oOpen : Nat → Int32} {pVal : Nat → Int64} {aOut : Nat → Int32} {aVar : Nat → Int64} {FC : Nat → Nat} {FA : Nat → Nat} {FP : Nat → Nat} {FH : Nat → Nat} {FT : Nat → Nat} {fSelf : Nat → Int64} {stk : Nat → Int64} {TA : Nat → Nat} {TH : Nat → Nat} {xFc : Nat → Int32} {xFs : Nat → Int32} {xPc : Nat → Int32} {xKo : Nat → Int32} {xPk : Nat → Int32} {tw : Nat → Bool} {te : Nat → Bool} {tc : Nat → Bool} {xSet : Nat → Int64} {S : Nat → Nat} {XH : Nat → Nat} {xHeld : Nat → Int64} {xArg : Nat → Int64} {yCo : Nat → Int32} {yAr : Nat → Int32} {M : Nat → Nat} {yPair : Nat → Int32} {ySeen : Nat → Int32} {ySet : Nat → Int64} {yStay : Nat → Int32} {yArg : Nat → Int64} {yHan : Nat → Int32} {yKept : Nat → Int64} {yGiven : Int32}
variable {n' e h a p v' : Nat}
theorem ob_fr_up (h : n ≤ n') (hf : ob_fr n a S FC FA FP FH FT fSelf stk TA TH XH yHan xHeld yKept) : ob_fr n' a S FC FA FP FH FT fSelf stk TA TH XH yHan xHeld yKept := by
  obtain ⟨h1, h2, h3, h4, h5, h6, h7, h8, h9, h10, h11, h12⟩ := hf
  exact ⟨h1, h2, h3, h4, h5, fun s hs => ob_V_up h (h6 s hs), h7, h8, h9, ob_V_up h h10, h11, fun z => ⟨(h12 z).1, ob_V_up h (h12 z).2⟩⟩
theorem ob_gF_up (h : n ≤ n') (hF : ob_gF n d S FC FA FP FH FT fSelf stk TA TH XH yHan xHeld yKept) : ob_gF n' d S FC FA FP FH FT fSelf stk TA TH XH yHan xHeld yKept :=
  ⟨hF.1, fun f hf => ob_fr_up h (hF.2.1 f hf), hF.2.2⟩
theorem ob_gF_pop (hF : ob_gF n d S FC FA FP FH FT fSelf stk TA TH XH yHan xHeld yKept) (hh : h ≤ FH e) : ob_gF n d S FC FA FP (ob_um FH e h) FT fSelf stk TA TH XH yHan xHeld yKept := by
  refine ⟨hF.1, fun f hf => ?_, hF.2.2⟩
  obtain ⟨h1, h2, h3, h4, h5, h6, h7⟩ := hF.2.1 f hf
  by_cases z : f = e
  · subst z
    exact ⟨h1, h2, h3, h4, by rw [ob_um_s]; omega, fun s hs => h6 s (by rw [ob_um_s] at hs; omega), h7⟩
  · exact ⟨h1, h2, h3, h4, by rw [ob_um_n _ _ z]; exact h5, fun s hs => h6 s (by rw [ob_um_n _ _ z] at hs; exact hs), h7⟩
theorem ob_gF_push {v : Int64} (hF : ob_gF n d S FC FA FP FH FT fSelf stk TA TH XH yHan xHeld yKept) (hv : ob_V n v) (hh : FH e < 10) : ob_gF n d S FC FA FP (ob_um FH e (FH e + 1)) FT fSelf (vp_updL stk (10 * e + FH e) v) TA TH XH yHan xHeld yKept := by
  refine ⟨hF.1, fun f hf => ?_, hF.2.2⟩
  obtain ⟨h1, h2, h3, h4, h5, h6, h7⟩ := hF.2.1 f hf
  by_cases z : f = e
  · subst z
    refine ⟨h1, h2, h3, h4, by rw [ob_um_s]; omega, fun s hs => ?_, h7⟩
    rw [ob_um_s] at hs
    rw [ob_uaL]
    split
    · exact hv
    · exact h6 s (by omega)
  · refine ⟨h1, h2, h3, h4, by rw [ob_um_n _ _ z]; exact h5, fun s hs => ?_, h7⟩
    rw [ob_um_n _ _ z] at hs
    rw [ob_uaL, if_neg (by omega)]
    exact h6 s hs
theorem ob_gF_at (hF : ob_gF n d S FC FA FP FH FT fSelf stk TA TH XH yHan xHeld yKept) (hp : p ≤ 24) : ob_gF n d S FC FA (ob_um FP e p) FH FT fSelf stk TA TH XH yHan xHeld yKept := by
  refine ⟨hF.1, fun f hf => ?_, hF.2.2⟩
  obtain ⟨h1, h2, h3, h4, h5⟩ := hF.2.1 f hf
  by_cases z : f = e
  · subst z
    exact ⟨h1, h2, h3, by rw [ob_um_s]; exact hp, h5⟩
  · exact ⟨h1, h2, h3, by rw [ob_um_n _ _ z]; exact h4, h5⟩
/-- a handler is dropped -/
theorem ob_gF_hdrop (hF : ob_gF n d S FC FA FP FH FT fSelf stk TA TH XH yHan xHeld yKept) (hh : XH e = h + 1) : ob_gF n d S FC FA FP FH FT fSelf stk TA TH (ob_um XH e h) (upd yHan e (nI h)) xHeld yKept := by
  refine ⟨hF.1, fun f hf => ?_, hF.2.2⟩
  obtain ⟨h1, h2, h3, h4, h5, h6, h7, h8, h9, h10⟩ := hF.2.1 f hf
  by_cases z : f = e
  · subst z
    exact ⟨h1, h2, h3, h4, h5, h6, by rw [ob_um_s]; omega, by rw [ob_um_s, pk_us], fun s hs => h9 s (by rw [ob_um_s] at hs; omega), h10⟩
  · exact ⟨h1, h2, h3, h4, h5, h6, by rw [ob_um_n _ _ z]; exact h7, by rw [ob_um_n _ _ z, pk_un z]; exact h8, fun s hs => h9 s (by rw [ob_um_n _ _ z] at hs; exact hs), h10⟩
/-- a handler is added -/
theorem ob_gF_hadd (hF : ob_gF n d S FC FA FP FH FT fSelf stk TA TH XH yHan xHeld yKept) (he : e < d) (hh : XH e < 3) (hp : p ≤ 24) : ob_gF n d S FC FA FP FH FT fSelf stk (ob_um TA (3 * e + XH e) p) (ob_um TH (3 * e + XH e) (FH e)) (ob_um XH e (XH e + 1)) (upd yHan e (nI (XH e + 1))) xHeld yKept := by
  have hH : FH e ≤ 10 := (hF.2.1 e he).2.2.2.2.1
  refine ⟨hF.1, fun f hf => ?_, hF.2.2⟩
  obtain ⟨h1, h2, h3, h4, h5, h6, h7, h8, h9, h10⟩ := hF.2.1 f hf
  by_cases z : f = e
  · subst z
    refine ⟨h1, h2, h3, h4, h5, h6, by rw [ob_um_s]; omega, by rw [ob_um_s, pk_us], fun s hs => ?_, h10⟩
    rw [ob_um_s] at hs
    by_cases y : s = XH f
    · subst y
      rw [ob_um_s, ob_um_s]
      exact ⟨hp, hH⟩
    · rw [ob_um_n _ _ (by omega), ob_um_n _ _ (by omega)]
      exact h9 s (by omega)
  · refine ⟨h1, h2, h3, h4, h5, h6, by rw [ob_um_n _ _ z]; exact h7, by rw [ob_um_n _ _ z, pk_un z]; exact h8, fun s hs => ?_, h10⟩
    rw [ob_um_n _ _ z] at hs
    rw [ob_um_n _ _ (by omega), ob_um_n _ _ (by omega)]
    exact h9 s hs
/-- other states of activations, none of the frames' own freed -/
theorem ob_gF_S {S' : Nat → Nat} (hF : ob_gF n d S FC FA FP FH FT fSelf stk TA TH XH yHan xHeld yKept) (hS : ∀ f, f < d → S (FA f) ≠ 0 → S' (FA f) ≠ 0) : ob_gF n d S' FC FA FP FH FT fSelf stk TA TH XH yHan xHeld yKept := by
  refine ⟨hF.1, fun f hf => ?_, hF.2.2⟩
  obtain ⟨h1, h2, h3, h4⟩ := hF.2.1 f hf
  exact ⟨h1, h2, hS f hf h3, h4⟩
/-- the last frame goes -/
theorem ob_gF_leave (hF : ob_gF n (e + 1) S FC FA FP FH FT fSelf stk TA TH XH yHan xHeld yKept) : ob_gF n e (ob_um S (FA e) a) FC FA FP FH FT fSelf stk TA TH XH yHan xHeld yKept := by
  refine ⟨by have := hF.1; omega, fun f hf => ?_, fun f g hfg hg => hF.2.2 f g hfg (by omega)⟩
  obtain ⟨h1, h2, h3, h4⟩ := hF.2.1 f (by omega)
  exact ⟨h1, h2, by rw [ob_um_n _ _ (hF.2.2 f e hf (by omega))]; exact h3, h4⟩
/-- what a left frame holds does not count -/
theorem ob_gF_yh {x : Int32} (hF : ob_gF n e S FC FA FP FH FT fSelf stk TA TH XH yHan xHeld yKept) : ob_gF n e S FC FA FP FH FT fSelf stk TA TH XH (upd yHan e x) xHeld yKept := by
  refine ⟨hF.1, fun f hf => ?_, hF.2.2⟩
  obtain ⟨h1, h2, h3, h4, h5, h6, h7, h8, h9⟩ := hF.2.1 f hf
  exact ⟨h1, h2, h3, h4, h5, h6, h7, by rw [pk_un (by omega)]; exact h8, h9⟩
/-- a new frame -/
theorem ob_gF_enter {c t s : Nat} {self held kept : Int64} (hF : ob_gF n d S FC FA FP FH FT fSelf stk TA TH XH yHan xHeld yKept) (hd : d < 6) (hc : c < 8) (ha : a < 24) (hS : S a = 0) (hs : s ≠ 0) (ht : t ≤ 2) (hv : ob_V n self) (hk : t ≠ 0 → held = kept ∧ ob_V n kept) :
    ob_gF n (d + 1) (ob_um S a s) (ob_um FC d c) (ob_um FA d a) (ob_um FP d 0) (ob_um FH d 0) (ob_um FT d t) (vp_updL fSelf d self) stk TA TH (ob_um XH d 0) (upd yHan d 0) (vp_updL xHeld d held) (vp_updL yKept d kept) := by
  refine ⟨by omega, fun f hf => ?_, fun f g hfg hg => ?_⟩
  · by_cases z : f = d
    · subst z
      refine ⟨by rw [ob_um_s]; exact hc, by rw [ob_um_s]; exact ha, by rw [ob_um_s, ob_um_s]; exact hs, by rw [ob_um_s]; omega, by rw [ob_um_s]; omega, ?_, by rw [ob_um_s]; omega, by rw [ob_um_s, pk_us]; rfl, ?_, by rw [pk_uLs]; exact hv, by rw [ob_um_s]; exact ht, ?_⟩
      · intro q hq
        rw [ob_um_s] at hq
        omega
      · intro q hq
        rw [ob_um_s] at hq
        omega
      · intro q
        rw [ob_um_s] at q
        rw [pk_uLs, pk_uLs]
        exact hk q
    · obtain ⟨h1, h2, h3, h4, h5, h6, h7, h8, h9, h10, h11, h12⟩ := hF.2.1 f (by omega)
      refine ⟨by rw [ob_um_n _ _ z]; exact h1, by rw [ob_um_n _ _ z]; exact h2, ?_, by rw [ob_um_n _ _ z]; exact h4, by rw [ob_um_n _ _ z]; exact h5, ?_, by rw [ob_um_n _ _ z]; exact h7, by rw [ob_um_n _ _ z, pk_un z]; exact h8, ?_, by rw [pk_uLn z]; exact h10, by rw [ob_um_n _ _ z]; exact h11, ?_⟩
      · rw [ob_um_n _ _ z, ob_um_n _ _ (fun y => h3 (by rw [y]; exact hS))]
        exact h3
      · intro q hq
        rw [ob_um_n _ _ z] at hq
        exact h6 q hq
      · intro q hq
        rw [ob_um_n _ _ z] at hq
        exact h9 q hq
      · intro q
        rw [ob_um_n _ _ z] at q
        rw [pk_uLn z, pk_uLn z]
        exact h12 q
  · rw [ob_um_n _ _ (by omega : f ≠ d)]
    by_cases z : g = d
    · subst z
      rw [ob_um_s]
      intro y
      exact (hF.2.1 f hfg).2.2.1 (by rw [y]; exact hS)
    · rw [ob_um_n _ _ z]
      exact hF.2.2 f g hfg (by omega)
/-! activations -/
theorem ob_sc_up {S' : Nat → Nat} {x : Int32} (h : ob_sc S x) (hS : ∀ a, a < 24 → S a = 2 → S' a = 2) : ob_sc S' x := by
  rcases h with h | ⟨a, ha, e, h⟩
  · exact Or.inl h
  · exact Or.inr ⟨a, ha, e, hS a ha h⟩
theorem ob_gA_up (h : n ≤ n') (hO : ∀ o, n ≤ o → o < n' → OK o ≠ 2) (hA : ob_gA n OK S xFc xFs yCo yAr yStay aOut aVar) : ob_gA n' OK S xFc xFs yCo yAr yStay aOut aVar := by
  refine ⟨fun o ho h2 => ?_, fun a ha => ⟨(hA.2 a ha).1, fun z => ?_⟩⟩
  · by_cases y : o < n
    · exact hA.1 o y h2
    · exact absurd h2 (hO o (by omega) ho)
  · obtain ⟨h1, h2, h3⟩ := (hA.2 a ha).2 z
    exact ⟨h1, h2, fun k hk => ob_V_up h (h3 k hk)⟩
/-- an activation is freed, or stays where it is kept -/
theorem ob_gA_leave (hA : ob_gA n OK S xFc xFs yCo yAr yStay aOut aVar) : ob_gA n OK (ob_um S a (if S a = 2 then 2 else 0)) xFc xFs yCo yAr yStay aOut aVar := by
  have hk : ∀ q, q < 24 → S q = 2 → ob_um S a (if S a = 2 then 2 else 0) q = 2 := by
    intro q _ h2
    by_cases z : q = a
    · subst z; rw [ob_um_s, if_pos h2]
    · rw [ob_um_n _ _ z]; exact h2
  refine ⟨fun o ho h2 => ?_, fun q hq => ?_⟩
  · obtain ⟨h1, h3, h4, h5⟩ := hA.1 o ho h2
    exact ⟨h1, h3, h4, ob_sc_up h5 hk⟩
  · obtain ⟨h1, h3⟩ := hA.2 q hq
    by_cases z : q = a
    · subst z
      rw [ob_um_s]
      split
      · rename_i h2
        obtain ⟨h4, h5, h6⟩ := h3 (by omega)
        rw [if_pos h2] at hk
        exact ⟨by omega, fun _ => ⟨by rw [h4, h2], ob_sc_up h5 hk, h6⟩⟩
      · exact ⟨by omega, fun y => absurd rfl y⟩
    · rw [ob_um_n _ _ z]
      refine ⟨h1, fun y => ?_⟩
      obtain ⟨h4, h5, h6⟩ := h3 y
      exact ⟨h4, ob_sc_up h5 hk, h6⟩
/-- an activation is kept -/
theorem ob_gA_keep (hA : ob_gA n OK S xFc xFs yCo yAr yStay aOut aVar) (ha : a < 24) (hS : S a ≠ 0) : ob_gA n OK (ob_um S a 2) xFc xFs yCo yAr (upd yStay a 1) aOut aVar := by
  have hk : ∀ q, q < 24 → S q = 2 → ob_um S a 2 q = 2 := by
    intro q _ h2
    by_cases z : q = a
    · subst z; rw [ob_um_s]
    · rw [ob_um_n _ _ z]; exact h2
  refine ⟨fun o ho h2 => ?_, fun q hq => ?_⟩
  · obtain ⟨h1, h3, h4, h5⟩ := hA.1 o ho h2
    exact ⟨h1, h3, h4, ob_sc_up h5 hk⟩
  · obtain ⟨h1, h3⟩ := hA.2 q hq
    by_cases z : q = a
    · subst z
      rw [ob_um_s]
      obtain ⟨h4, h5, h6⟩ := h3 hS
      exact ⟨by omega, fun _ => ⟨by rw [pk_us]; rfl, ob_sc_up h5 hk, h6⟩⟩
    · rw [ob_um_n _ _ z, pk_un z]
      refine ⟨h1, fun y => ?_⟩
      obtain ⟨h4, h5, h6⟩ := h3 y
      exact ⟨h4, ob_sc_up h5 hk, h6⟩
/-- a new activation -/
theorem ob_gA_enter {x : Int32} {aVar' : Nat → Int64} (hA : ob_gA n OK S xFc xFs yCo yAr yStay aOut aVar) (hS : S a = 0) (hx : ob_sc S x) (hv : ∀ k, k < 4 → ob_V n (aVar' (4 * a + k))) (ho : ∀ q k, q ≠ a → k < 4 → aVar' (4 * q + k) = aVar (4 * q + k)) : ob_gA n OK (ob_um S a 1) xFc xFs yCo yAr (upd yStay a 0) (upd aOut a x) aVar' := by
  have hk : ∀ q, q < 24 → S q = 2 → ob_um S a 1 q = 2 := by
    intro q _ h2
    by_cases z : q = a
    · subst z; rw [hS] at h2; exact absurd h2 (by decide)
    · rw [ob_um_n _ _ z]; exact h2
  refine ⟨fun o ho h2 => ?_, fun q hq => ?_⟩
  · obtain ⟨h1, h3, h4, h5⟩ := hA.1 o ho h2
    exact ⟨h1, h3, h4, ob_sc_up h5 hk⟩
  · obtain ⟨h1, h3⟩ := hA.2 q hq
    by_cases z : q = a
    · subst z
      rw [ob_um_s, pk_us, pk_us]
      exact ⟨by omega, fun _ => ⟨rfl, ob_sc_up hx hk, hv⟩⟩
    · rw [ob_um_n _ _ z, pk_un z, pk_un z]
      refine ⟨h1, fun y => ?_⟩
      obtain ⟨h4, h5, h6⟩ := h3 y
      exact ⟨h4, ob_sc_up h5 hk, fun k hk => by rw [ho q k z hk]; exact h6 k hk⟩
/-- a variable is set -/
theorem ob_gA_var {v : Int64} {i : Nat} (hA : ob_gA n OK S xFc xFs yCo yAr yStay aOut aVar) (hv : ob_V n v) : ob_gA n OK S xFc xFs yCo yAr yStay aOut (vp_updL aVar i v) := by
  refine ⟨hA.1, fun q hq => ⟨(hA.2 q hq).1, fun y => ?_⟩⟩
  obtain ⟨h4, h5, h6⟩ := (hA.2 q hq).2 y
  refine ⟨h4, h5, fun k hk => ?_⟩
  rw [ob_uaL]
  split
  · exact hv
  · exact h6 k hk
end
