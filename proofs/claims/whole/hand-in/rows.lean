section
/-! rows of kit/rows (pasted), then values, indices, bits -/
theorem pk_us {f : Nat → Int32} {k : Nat} {x : Int32} : upd f k x k = x := if_pos rfl
theorem pk_un {f : Nat → Int32} {k j : Nat} {x : Int32} (h : j ≠ k) : upd f k x j = f j := if_neg h
theorem pk_uLs {f : Nat → Int64} {k : Nat} {x : Int64} : vp_updL f k x k = x := if_pos rfl
theorem pk_uLn {f : Nat → Int64} {k j : Nat} {x : Int64} (h : j ≠ k) : vp_updL f k x j = f j := if_neg h
theorem pk_sub {a b : Nat} (h : b ≤ a) : nI a - nI b = nI (a - b) := by
  obtain ⟨c, rfl⟩ : ∃ c, a = c + b := ⟨a - b, by omega⟩
  rw [← nI_add, Int32.add_sub_cancel, Nat.add_sub_cancel]
theorem pk_m1 (n : Nat) : nI (n + 1) + (-1) = nI n := by
  rw [← nI_1, Int32.add_assoc, show (1 : Int32) + (-1) = 0 from rfl, Int32.add_zero]
theorem pk_mul (a b : Nat) : nI a * nI b = nI (a * b) := (Int32.ofNat_mul a b).symm
theorem pk_div {a d : Nat} (ha : a < 2 ^ 31) (h0 : 0 < d) (hd : d < 2 ^ 31) : nI a / nI d = nI (a / d) := by
  apply Int32.toInt_inj.mp
  rw [lg_idiv_nonneg (by rw [nI_toInt ha]; omega) (by rw [nI_toInt hd]; omega), nI_toInt ha, nI_toInt hd, nI_toInt (Nat.lt_of_le_of_lt (Nat.div_le_self a d) ha)]
  first | rfl | exact (Int.natCast_ediv _ _).symm
theorem pk_rem {a d : Nat} (ha : a < 2 ^ 31) (h0 : 0 < d) (hd : d < 2 ^ 31) : nI a - nI a / nI d * nI d = nI (a % d) := by
  rw [pk_div ha h0 hd, pk_mul, pk_sub (Nat.div_mul_le_self a d)]
  exact congrArg nI (by have := Nat.div_add_mod' a d; omega)
theorem pk_ix (x : Int32) {n : Nat} (hn : n < 2 ^ 31) : x < 0 ∨ nI n ≤ x ∨ ∃ j : Nat, j < n ∧ x = nI j := by
  by_cases h : x < 0
  · exact Or.inl h
  · obtain ⟨j, hj, rfl⟩ := nI_of h
    by_cases h2 : j < n
    · exact Or.inr (Or.inr ⟨j, h2, rfl⟩)
    · exact Or.inr (Or.inl (nI_le (by omega) hj))
theorem pk_le {x y : Int32} {A B : Prop} (a b : Nat) (f : a ≤ b → A) (g : b < a → B) (hx : x = nI a := by rfl) (hy : y = nI b := by rfl) (ha : a < 2 ^ 31 := by omega) (hb : b < 2 ^ 31 := by omega) : (x ≤ y → A) ∧ (¬ x ≤ y → B) := by
  subst hx hy
  rw [nI_leI ha hb]
  exact ⟨f, fun z => g (by omega)⟩
theorem pk_lt {x y : Int32} {A B : Prop} (a b : Nat) (f : a < b → A) (g : b ≤ a → B) (hx : x = nI a := by rfl) (hy : y = nI b := by rfl) (ha : a < 2 ^ 31 := by omega) (hb : b < 2 ^ 31 := by omega) : (x < y → A) ∧ (¬ x < y → B) := by
  subst hx hy
  rw [nI_ltI ha hb]
  exact ⟨f, fun z => g (by omega)⟩
theorem pk_eq {x y : Int32} {A B : Prop} (a b : Nat) (f : a = b → A) (g : a ≠ b → B) (hx : x = nI a := by rfl) (hy : y = nI b := by rfl) (ha : a < 2 ^ 31 := by omega) (hb : b < 2 ^ 31 := by omega) : (x = y → A) ∧ (¬ x = y → B) := by
  subst hx hy
  rw [nI_eq ha hb]
  exact ⟨f, g⟩
theorem pk_in {x : Int32} (n N : Nat) (h : n < N) (hx : x = nI n := by rfl) (hN : N < 2 ^ 31 := by omega) : vp_in x N := by
  subst hx
  exact vp_in_nI h hN
theorem pk_cl {x : Int32} (n : Nat) (hx : x = nI n := by rfl) (h : n < 2 ^ 31 := by omega) : x.toNatClampNeg = n := by
  subst hx
  exact nI_clamp h
theorem pk_tn {n : Nat} (h : n < 2 ^ 32) : (nI n).toBitVec.toNat = n := Nat.mod_eq_of_lt h
theorem pk_shl (a s : Int32) (k : Nat) (hs : (s.toBitVec.smod 32).toNat = k) : (a <<< s).toBitVec.toNat = a.toBitVec.toNat * 2 ^ k % 2 ^ 32 := by
  show (a.toBitVec <<< (s.toBitVec.smod 32).toNat).toNat = _
  rw [hs, BitVec.toNat_shiftLeft, Nat.shiftLeft_eq]
theorem pk_shlN {n : Nat} (s : Int32) (k : Nat) (hs : (s.toBitVec.smod 32).toNat = k) (h : n * 2 ^ k < 2 ^ 32) : nI n <<< s = nI (n * 2 ^ k) := by
  apply Int32.toBitVec_inj.mp
  apply BitVec.eq_of_toNat_eq
  have hn : n < 2 ^ 32 := Nat.lt_of_le_of_lt (Nat.le_mul_of_pos_right n (Nat.two_pow_pos k)) h
  rw [pk_shl _ _ k hs, pk_tn hn, pk_tn h, Nat.mod_eq_of_lt h]
theorem pk_shr (a s : Int32) (k : Nat) (hs : (s.toBitVec.smod 32).toNat = k) : (a >>> s).toInt = a.toInt >>> k := by
  show (a.toBitVec.sshiftRight (s.toBitVec.smod 32).toNat).toInt = _
  rw [hs, BitVec.toInt_sshiftRight]
  rfl
theorem pk_shrN {n : Nat} (h : n < 2 ^ 31) (s : Int32) (k : Nat) (hs : (s.toBitVec.smod 32).toNat = k) : nI n >>> s = nI (n / 2 ^ k) := by
  apply Int32.toInt_inj.mp
  have h2 : n / 2 ^ k ≤ n := Nat.div_le_self _ _
  rw [pk_shr _ _ k hs, nI_toInt h, nI_toInt (by omega), Int.shiftRight_eq_div_pow]
  rfl
theorem pk_ushr (x s : Int32) (k : Nat) (hs : ((s.toUInt32 &&& Int32.toUInt32 31).toBitVec % 32).toNat = k) : (x.toUInt32 >>> (s.toUInt32 &&& Int32.toUInt32 31)).toInt32.toBitVec.toNat = x.toBitVec.toNat / 2 ^ k := by
  have e : (x.toUInt32 >>> (s.toUInt32 &&& Int32.toUInt32 31)).toInt32.toBitVec = x.toBitVec >>> k := by
    rw [← hs]
    exact UInt32.toBitVec_shiftRight _ _
  rw [e, BitVec.toNat_ushiftRight, Nat.shiftRight_eq_div_pow]
theorem pk_ushrN {n : Nat} (hn : n < 2 ^ 32) (s : Int32) (k : Nat) (hs : ((s.toUInt32 &&& Int32.toUInt32 31).toBitVec % 32).toNat = k) : ((nI n).toUInt32 >>> (s.toUInt32 &&& Int32.toUInt32 31)).toInt32 = nI (n / 2 ^ k) := by
  apply Int32.toBitVec_inj.mp
  apply BitVec.eq_of_toNat_eq
  rw [pk_ushr _ s k hs, pk_tn hn, pk_tn (Nat.lt_of_le_of_lt (Nat.div_le_self _ _) hn)]
theorem pk_lT {n : Nat} (h : n < 2 ^ 63) : (lN n).toInt = (n : Int) := lg_ofNat_toInt h
theorem pk_lLT {a b : Nat} (ha : a < 2 ^ 63) (hb : b < 2 ^ 63) : lN a < lN b ↔ a < b := by
  rw [Int64.lt_iff_toInt_lt, pk_lT ha, pk_lT hb]; omega
theorem pk_lLE {a b : Nat} (ha : a < 2 ^ 63) (hb : b < 2 ^ 63) : lN a ≤ lN b ↔ a ≤ b := by
  rw [Int64.le_iff_toInt_le, pk_lT ha, pk_lT hb]; omega
theorem pk_lEQ {a b : Nat} (ha : a < 2 ^ 63) (hb : b < 2 ^ 63) : lN a = lN b ↔ a = b := by
  rw [← Int64.toInt_inj, pk_lT ha, pk_lT hb]; omega
theorem pk_lOf {x : Int64} (h : ¬ x < 0) : ∃ k : Nat, k < 2 ^ 63 ∧ x = lN k := by
  rw [Int64.lt_iff_toInt_lt] at h
  have h0 : (0 : Int64).toInt = 0 := by decide
  have hx := Int64.toInt_lt x
  refine ⟨x.toInt.toNat, by omega, Int64.toInt_inj.mp ?_⟩
  rw [pk_lT (by omega)]
  omega
theorem pk_loop {σ : Type} (W : Nat → Nat → σ → Prop) (I : Nat → σ → Prop) (e i0 : Nat) (s : σ) (hi : i0 ≤ e) (h0 : I i0 s) (hx : ∀ n s, I e s → W (n + 1) e s)
    (hs : ∀ n i s, i < e → I i s → (∀ s', I (i + 1) s' → W n (i + 1) s') → W (n + 1) i s) : ∃ n, W n i0 s :=
  ⟨e + 1, loop_i W I e hx hs (e + 1) i0 s hi (by omega) h0⟩
theorem pk_loopD {σ : Type} (W : Nat → Nat → σ → Prop) (I : Nat → σ → Prop) (hx : ∀ n s, I 0 s → W (n + 1) 0 s)
    (hs : ∀ n i s, I (i + 1) s → (∀ s', I i s' → W n i s') → W (n + 1) (i + 1) s) : ∀ (e : Nat) (s : σ), I e s → W (e + 1) e s := by
  intro e
  induction e with
  | zero => exact fun s h => hx 0 s h
  | succ e ih => exact fun s h => hs (e + 1) e s h (fun s' h' => ih s' h')
theorem lp1 {A1 : Type} (W : Nat → A1 → Prop) (I : A1 → Prop) (μ : A1 → Nat) (hs : ∀ (n : Nat) (a1 : A1), I a1 → (∀ (b1 : A1), I b1 → μ b1 < μ a1 → W n b1) → W (n + 1) a1) (a1 : A1) (h : I a1) : ∃ n, W n a1 :=
  loop_m (σ := A1) (fun n s => W n s) (fun s => I s) (fun s => μ s) (fun n s hI hk => hs n s hI (fun b1 h9 hm => hk b1 h9 hm)) a1 h
theorem lp2 {A1 A2 : Type} (W : Nat → A1 → A2 → Prop) (I : A1 → A2 → Prop) (μ : A1 → A2 → Nat) (hs : ∀ (n : Nat) (a1 : A1) (a2 : A2), I a1 a2 → (∀ (b1 : A1) (b2 : A2), I b1 b2 → μ b1 b2 < μ a1 a2 → W n b1 b2) → W (n + 1) a1 a2) (a1 : A1) (a2 : A2) (h : I a1 a2) : ∃ n, W n a1 a2 :=
  loop_m (σ := A1 × A2) (fun n s => W n s.1 s.2) (fun s => I s.1 s.2) (fun s => μ s.1 s.2) (fun n s hI hk => hs n s.1 s.2 hI (fun b1 b2 h9 hm => hk (b1, b2) h9 hm)) (a1, a2) h
theorem lp3 {A1 A2 A3 : Type} (W : Nat → A1 → A2 → A3 → Prop) (I : A1 → A2 → A3 → Prop) (μ : A1 → A2 → A3 → Nat) (hs : ∀ (n : Nat) (a1 : A1) (a2 : A2) (a3 : A3), I a1 a2 a3 → (∀ (b1 : A1) (b2 : A2) (b3 : A3), I b1 b2 b3 → μ b1 b2 b3 < μ a1 a2 a3 → W n b1 b2 b3) → W (n + 1) a1 a2 a3) (a1 : A1) (a2 : A2) (a3 : A3) (h : I a1 a2 a3) : ∃ n, W n a1 a2 a3 :=
  loop_m (σ := A1 × A2 × A3) (fun n s => W n s.1 s.2.1 s.2.2) (fun s => I s.1 s.2.1 s.2.2) (fun s => μ s.1 s.2.1 s.2.2) (fun n s hI hk => hs n s.1 s.2.1 s.2.2 hI (fun b1 b2 b3 h9 hm => hk (b1, b2, b3) h9 hm)) (a1, a2, a3) h
theorem lp4 {A1 A2 A3 A4 : Type} (W : Nat → A1 → A2 → A3 → A4 → Prop) (I : A1 → A2 → A3 → A4 → Prop) (μ : A1 → A2 → A3 → A4 → Nat) (hs : ∀ (n : Nat) (a1 : A1) (a2 : A2) (a3 : A3) (a4 : A4), I a1 a2 a3 a4 → (∀ (b1 : A1) (b2 : A2) (b3 : A3) (b4 : A4), I b1 b2 b3 b4 → μ b1 b2 b3 b4 < μ a1 a2 a3 a4 → W n b1 b2 b3 b4) → W (n + 1) a1 a2 a3 a4) (a1 : A1) (a2 : A2) (a3 : A3) (a4 : A4) (h : I a1 a2 a3 a4) : ∃ n, W n a1 a2 a3 a4 :=
  loop_m (σ := A1 × A2 × A3 × A4) (fun n s => W n s.1 s.2.1 s.2.2.1 s.2.2.2) (fun s => I s.1 s.2.1 s.2.2.1 s.2.2.2) (fun s => μ s.1 s.2.1 s.2.2.1 s.2.2.2) (fun n s hI hk => hs n s.1 s.2.1 s.2.2.1 s.2.2.2 hI (fun b1 b2 b3 b4 h9 hm => hk (b1, b2, b3, b4) h9 hm)) (a1, a2, a3, a4) h
/-! ===== indices ===== -/
theorem ob_ix (o k : Nat) : nI o * 32 + nI k = nI (32 * o + k) := by
  show nI o * nI 32 + nI k = _
  rw [pk_mul, nI_add, Nat.mul_comm]
theorem ob_iy (o k : Nat) : 32 * nI o + nI k = nI (32 * o + k) := by
  show nI 32 * nI o + nI k = _
  rw [pk_mul, nI_add]
theorem ob_ix24 (o k : Nat) : nI o * 24 + nI k = nI (24 * o + k) := by
  show nI o * nI 24 + nI k = _
  rw [pk_mul, nI_add, Nat.mul_comm]
theorem ob_iy24 (o k : Nat) : 24 * nI o + nI k = nI (24 * o + k) := by
  show nI 24 * nI o + nI k = _
  rw [pk_mul, nI_add]
theorem ob_ix10 (o k : Nat) : nI o * 10 + nI k = nI (10 * o + k) := by
  show nI o * nI 10 + nI k = _
  rw [pk_mul, nI_add, Nat.mul_comm]
theorem ob_iy10 (o k : Nat) : 10 * nI o + nI k = nI (10 * o + k) := by
  show nI 10 * nI o + nI k = _
  rw [pk_mul, nI_add]
theorem ob_ix4 (o k : Nat) : nI o * 4 + nI k = nI (4 * o + k) := by
  show nI o * nI 4 + nI k = _
  rw [pk_mul, nI_add, Nat.mul_comm]
theorem ob_iy4 (o k : Nat) : 4 * nI o + nI k = nI (4 * o + k) := by
  show nI 4 * nI o + nI k = _
  rw [pk_mul, nI_add]
theorem ob_ix3 (o k : Nat) : nI o * 3 + nI k = nI (3 * o + k) := by
  show nI o * nI 3 + nI k = _
  rw [pk_mul, nI_add, Nat.mul_comm]
theorem ob_iy3 (o k : Nat) : 3 * nI o + nI k = nI (3 * o + k) := by
  show nI 3 * nI o + nI k = _
  rw [pk_mul, nI_add]
theorem ob_cl {i : Nat} (h : i < 1024) : (nI i).toNatClampNeg = i := nI_clamp (by omega)
theorem ob_m1n (k : Nat) (h : k < 2 ^ 31) : ¬ nI k = -1 := by
  intro e
  have h1 := congrArg Int32.toInt e
  rw [nI_toInt h, show (-1 : Int32).toInt = -1 from by decide] at h1
  omega
theorem ob_nz {k : Nat} (h : k < 2 ^ 31) : nI k = 0 ↔ k = 0 := nI_eq h (by decide)
/-! ===== stores ===== -/
theorem ob_uu {f : Nat → Int32} {k : Nat} {x y : Int32} : upd (upd f k x) k y = upd f k y := by
  funext j; unfold upd; split <;> rfl
theorem ob_uuL {f : Nat → Int64} {k : Nat} {x y : Int64} : vp_updL (vp_updL f k x) k y = vp_updL f k y := by
  funext j; unfold vp_updL; split <;> rfl
theorem ob_ui {f : Nat → Int32} {k : Nat} {x : Int32} (h : f k = x) : upd f k x = f := by
  funext j; unfold upd; split
  · rename_i e; rw [e, h]
  · rfl
theorem ob_uiL {f : Nat → Int64} {k : Nat} {x : Int64} (h : f k = x) : vp_updL f k x = f := by
  funext j; unfold vp_updL; split
  · rename_i e; rw [e, h]
  · rfl
theorem ob_ua (f : Nat → Int32) (k : Nat) (x : Int32) (j : Nat) : upd f k x j = if j = k then x else f j := rfl
theorem ob_uaL (f : Nat → Int64) (k : Nat) (x : Int64) (j : Nat) : vp_updL f k x j = if j = k then x else f j := rfl
/-! ===== values ===== -/
theorem ob_num_b {v : Int64} (h : v = v.toInt32.toInt64) : -2147483648 ≤ v.toInt ∧ v.toInt < 2147483648 := by
  have e : v.toInt = v.toInt32.toInt := (congrArg Int64.toInt h).trans (Int32.toInt_toInt64 _)
  have h1 := Int32.le_toInt v.toInt32
  have h2 := Int32.toInt_lt v.toInt32
  omega
theorem ob_num_i (t : Int32) : t.toInt64 = t.toInt64.toInt32.toInt64 := by rw [Int32.toInt32_toInt64]
theorem ob_nnum {k : Nat} (h : 2147483648 ≤ k) (h2 : k < 2 ^ 63) : ¬ lN k = (lN k).toInt32.toInt64 := by
  intro e
  have := (ob_num_b e).2
  rw [pk_lT h2] at this
  omega
def ob_V (n : Nat) (v : Int64) : Prop := v = v.toInt32.toInt64 ∨ (∃ j, j ≤ 5 ∧ v = lN (8589934592 + j)) ∨ ∃ o, o < n ∧ v = lN (17179869184 + o)
theorem ob_V_up {n m : Nat} {v : Int64} (h : n ≤ m) (hv : ob_V n v) : ob_V m v := by
  rcases hv with h1 | h1 | ⟨o, ho, e⟩
  · exact Or.inl h1
  · exact Or.inr (Or.inl h1)
  · exact Or.inr (Or.inr ⟨o, by omega, e⟩)
theorem ob_V_i (n : Nat) (t : Int32) : ob_V n t.toInt64 := Or.inl (ob_num_i t)
theorem ob_V_s (n j : Nat) (h : j ≤ 5) : ob_V n (lN (8589934592 + j)) := Or.inr (Or.inl ⟨j, h, rfl⟩)
theorem ob_V_o {n o : Nat} (h : o < n) : ob_V n (lN (17179869184 + o)) := Or.inr (Or.inr ⟨o, h, rfl⟩)
theorem ob_V_U (n : Nat) : ob_V n 8589934592 := ob_V_s n 0 (by decide)
theorem ob_V_F (n : Nat) : ob_V n 8589934594 := ob_V_s n 2 (by decide)
theorem ob_V_T (n : Nat) : ob_V n 8589934595 := ob_V_s n 3 (by decide)
theorem ob_V_Ty (n : Nat) : ob_V n 8589934596 := ob_V_s n 4 (by decide)
theorem ob_V_Ra (n : Nat) : ob_V n 8589934597 := ob_V_s n 5 (by decide)
theorem ob_obj_toI (o : Nat) (h : o < 2 ^ 31) : 17179869184 + (nI o).toInt64 = lN (17179869184 + o) := by
  rw [nI_l h]
  show lN 17179869184 + lN o = _
  rw [lN_add]
theorem ob_spe_toI (o : Nat) (h : o < 2 ^ 31) : 8589934592 + (nI o).toInt64 = lN (8589934592 + o) := by
  rw [nI_l h]
  show lN 8589934592 + lN o = _
  rw [lN_add]
theorem ob_numb (o : Nat) : (lN (17179869184 + o) - 17179869184).toInt32 = nI o := by
  rw [show (17179869184 : Int64) = lN 17179869184 from rfl, lN_sub (by omega), lN_i, Nat.add_sub_cancel_left]
theorem ob_Tlt {v w : Int64} : v < w ↔ v.toInt < w.toInt := Int64.lt_iff_toInt_lt
theorem ob_Tle {v w : Int64} : v ≤ w ↔ v.toInt ≤ w.toInt := Int64.le_iff_toInt_le
theorem ob_TO : (17179869184 : Int64).toInt = 17179869184 := pk_lT (n := 17179869184) (by decide)
theorem ob_TU : (8589934592 : Int64).toInt = 8589934592 := pk_lT (n := 8589934592) (by decide)
theorem ob_TR : (8589934597 : Int64).toInt = 8589934597 := pk_lT (n := 8589934597) (by decide)
/-- a value is no object, or it is one -/
theorem ob_cls {n : Nat} {v : Int64} (h : ob_V n v) : v < 17179869184 ∨ ∃ o, o < n ∧ v = lN (17179869184 + o) := by
  rcases h with h1 | ⟨j, hj, rfl⟩ | h1
  · left
    rw [ob_Tlt, ob_TO]
    have := (ob_num_b h1).2
    omega
  · left
    rw [ob_Tlt, ob_TO, pk_lT (by omega)]
    omega
  · exact Or.inr h1
theorem ob_obj_ge (o : Nat) (h : o < 2 ^ 31) : (17179869184 : Int64) ≤ lN (17179869184 + o) := by
  rw [ob_Tle, ob_TO, pk_lT (by omega)]
  omega
theorem ob_obj_nlt (o : Nat) (h : o < 2 ^ 31) : ¬ lN (17179869184 + o) < (17179869184 : Int64) := by
  rw [ob_Tlt, ob_TO, pk_lT (by omega)]
  omega
theorem ob_obj_lt {o n : Nat} (h : o < n) (hn : n < 2 ^ 31) : lN (17179869184 + o) < 17179869184 + (nI n).toInt64 := by
  rw [ob_obj_toI n hn, pk_lLT (by omega) (by omega)]
  omega
theorem ob_lt_nle {v : Int64} (h : v < 17179869184) : ¬ (17179869184 : Int64) ≤ v := by
  rw [ob_Tle]
  rw [ob_Tlt] at h
  omega
theorem ob_ge_of {n : Nat} {v : Int64} (h : ob_V n v) (hg : (17179869184 : Int64) ≤ v) : ∃ o, o < n ∧ v = lN (17179869184 + o) := by
  rcases ob_cls h with h1 | h1
  · exact absurd hg (ob_lt_nle h1)
  · exact h1
end
section
/-! ===== what a DEFINE says, and the attributes: both sides from nine (three) truth values ===== -/
def ob_n (b : Bool) (k : Nat) : Nat := if b then k else 0
def ob_xa (w e c : Bool) : Int32 := nI (ob_n w 1 + ob_n e 2 + ob_n c 4)
def ob_yf (w e c : Bool) : Int32 := nI (ob_n w 2 + ob_n e 16 + ob_n c 32)
/-- said, on the component's side -/
def ob_xs (sV sG sS sW sE sC oW oE oC : Bool) : Int32 := nI (ob_n oW 1 + ob_n oE 2 + ob_n oC 4 + ob_n sW 8 + ob_n sE 16 + ob_n sC 32 + ob_n sV 64 + ob_n sG 128 + ob_n sS 256)
/-- said, on the reference's side -/
def ob_ys (sV sG sS sW sE sC : Bool) : Int32 := nI (ob_n sV 1 + ob_n sW 2 + ob_n sG 4 + ob_n sS 8 + ob_n sE 16 + ob_n sC 32)
theorem ob_xaW : ∀ w e c : Bool, (ob_xa w e c &&& 1) = 0 ↔ w = false := by decide +kernel
theorem ob_xaE : ∀ w e c : Bool, (ob_xa w e c &&& 2) = 0 ↔ e = false := by decide +kernel
theorem ob_xaC : ∀ w e c : Bool, (ob_xa w e c &&& 4) = 0 ↔ c = false := by decide +kernel
theorem ob_yfW : ∀ w e c : Bool, (ob_yf w e c &&& 2) = 0 ↔ w = false := by decide +kernel
theorem ob_yfE : ∀ w e c : Bool, (ob_yf w e c &&& 16) = 0 ↔ e = false := by decide +kernel
theorem ob_yfC : ∀ w e c : Bool, (ob_yf w e c &&& 32) = 0 ↔ c = false := by decide +kernel
theorem ob_xsV : ∀ sV sG sS sW sE sC oW oE oC : Bool, (ob_xs sV sG sS sW sE sC oW oE oC &&& 64) = 0 ↔ sV = false := by decide +kernel
theorem ob_xsG : ∀ sV sG sS sW sE sC oW oE oC : Bool, (ob_xs sV sG sS sW sE sC oW oE oC &&& 128) = 0 ↔ sG = false := by decide +kernel
theorem ob_xsS : ∀ sV sG sS sW sE sC oW oE oC : Bool, (ob_xs sV sG sS sW sE sC oW oE oC &&& 256) = 0 ↔ sS = false := by decide +kernel
theorem ob_xsE : ∀ sV sG sS sW sE sC oW oE oC : Bool, (ob_xs sV sG sS sW sE sC oW oE oC &&& 16) = 0 ↔ sE = false := by decide +kernel
theorem ob_xsD : ∀ sV sG sS sW sE sC oW oE oC : Bool, (ob_xs sV sG sS sW sE sC oW oE oC &&& 72) = 0 ↔ (sV = false ∧ sW = false) := by decide +kernel
theorem ob_xsA : ∀ sV sG sS sW sE sC oW oE oC : Bool, (ob_xs sV sG sS sW sE sC oW oE oC &&& 384) = 0 ↔ (sG = false ∧ sS = false) := by decide +kernel
theorem ob_xsVG : ∀ sV sG sS sW sE sC oW oE oC : Bool, (ob_xs sV sG sS sW sE sC oW oE oC &&& 192) = 0 ↔ (sV = false ∧ sG = false) := by decide +kernel
theorem ob_ysV : ∀ sV sG sS sW sE sC : Bool, (ob_ys sV sG sS sW sE sC &&& 1) = 0 ↔ sV = false := by decide +kernel
theorem ob_ysG : ∀ sV sG sS sW sE sC : Bool, (ob_ys sV sG sS sW sE sC &&& 4) = 0 ↔ sG = false := by decide +kernel
theorem ob_ysS : ∀ sV sG sS sW sE sC : Bool, (ob_ys sV sG sS sW sE sC &&& 8) = 0 ↔ sS = false := by decide +kernel
theorem ob_ysD : ∀ sV sG sS sW sE sC : Bool, (ob_ys sV sG sS sW sE sC &&& 3) = 0 ↔ (sV = false ∧ sW = false) := by decide +kernel
theorem ob_ysA : ∀ sV sG sS sW sE sC : Bool, (ob_ys sV sG sS sW sE sC &&& 12) = 0 ↔ (sG = false ∧ sS = false) := by decide +kernel
theorem ob_ysVG : ∀ sV sG sS sW sE sC : Bool, (ob_ys sV sG sS sW sE sC &&& 5) = 0 ↔ (sV = false ∧ sG = false) := by decide +kernel
theorem ob_ysC : ∀ sV sG sS sW sE sC oW oE oC : Bool, (ob_ys sV sG sS sW sE sC &&& ob_yf oW oE oC &&& 32) = 0 ↔ (sC && oC) = false := by decide +kernel
theorem ob_ysW : ∀ sV sG sS sW sE sC oW oE oC : Bool, (ob_ys sV sG sS sW sE sC &&& ob_yf oW oE oC &&& 2) = 0 ↔ (sW && oW) = false := by decide +kernel
theorem ob_ysE : ∀ sV sG sS sW sE sC oW oE oC w e c : Bool, (ob_ys sV sG sS sW sE sC &&& (ob_yf oW oE oC ^^^ ob_yf w e c) &&& 16) = 0 ↔ (sE && (oE != e)) = false := by decide +kernel
theorem ob_xaN : ∀ w e c : Bool, (ob_xa w e c &&& (-2)) = ob_xa false e c := by decide +kernel
theorem ob_yfN : ∀ w e c : Bool, (ob_yf w e c &&& (-3)) = ob_yf false e c := by decide +kernel
theorem ob_yab : ∀ sV sG sS sW sE sC : Bool, (ob_ys sV sG sS sW sE sC &&& 50) = ob_yf sW sE sC := by decide +kernel
theorem ob_ynew : ∀ sW sE sC oW oE oC w e c : Bool, ((ob_yf w e c &&& (ob_yf sW sE sC ^^^ (-1))) ||| (ob_yf oW oE oC &&& ob_yf sW sE sC)) = ob_yf (if sW then oW else w) (if sE then oE else e) (if sC then oC else c) := by decide +kernel
theorem ob_xch : ∀ sV sG sS sW sE sC oW oE oC : Bool, ((ob_xs sV sG sS sW sE sC oW oE oC >>> ((3 : Int32) &&& 31)) &&& 7) = ob_xa sW sE sC := by decide +kernel
theorem ob_xon : ∀ sV sG sS sW sE sC oW oE oC : Bool, (ob_xs sV sG sS sW sE sC oW oE oC &&& ob_xa sW sE sC) = ob_xa (sW && oW) (sE && oE) (sC && oC) := by decide +kernel
theorem ob_xnew : ∀ sW sE sC oW oE oC w e c : Bool, ((ob_xa w e c &&& (ob_xa sW sE sC ^^^ (-1))) ||| ob_xa (sW && oW) (sE && oE) (sC && oC)) = ob_xa (if sW then oW else w) (if sE then oE else e) (if sC then oC else c) := by decide +kernel
theorem ob_xso : ∀ sV sG sS sW sE sC oW oE oC : Bool, ((ob_xs sV sG sS sW sE sC oW oE oC &&& (ob_xs sV sG sS sW sE sC oW oE oC >>> ((3 : Int32) &&& 31))) &&& 7) = ob_xa (sW && oW) (sE && oE) (sC && oC) := by decide +kernel
theorem ob_xaEE : ∀ w e c w' e' c' : Bool, (ob_xa w e c &&& 2) = (ob_xa w' e' c' &&& 2) ↔ e = e' := by decide +kernel
theorem ob_xa0 : ob_xa false false false = 0 := rfl
theorem ob_yf0 : ob_yf false false false = 0 := rfl
/-! said, as the callers build it -/
theorem ob_sDef : ∀ a : Fin 128, ob_xs (a.val.testBit 6) false false (a.val.testBit 3) (a.val.testBit 4) (a.val.testBit 5) (a.val.testBit 0) (a.val.testBit 1) (a.val.testBit 2) = nI a.val := by decide +kernel
theorem ob_s64 : ob_xs true false false false false false false false false = 64 := rfl
theorem ob_s127 : ob_xs true false false true true true true true true = 127 := rfl
theorem ob_s73 : ob_xs true false false true false false true false false = 73 := rfl
theorem ob_y1 : ob_ys true false false false false false = 1 := rfl
theorem ob_y51 : ob_ys true false false true true true = 51 := rfl
theorem ob_y50 : ob_yf true true true = 50 := rfl
/-! changes of three truth functions -/
def ob_ub (F : Nat → Bool) (i : Nat) (x : Bool) : Nat → Bool := fun j => if j = i then x else F j
theorem ob_ub_s (F : Nat → Bool) (i : Nat) (x : Bool) : ob_ub F i x i = x := if_pos rfl
theorem ob_ub_n (F : Nat → Bool) {i j : Nat} (x : Bool) (h : j ≠ i) : ob_ub F i x j = F j := if_neg h
theorem ob_ub_u (F : Nat → Bool) (i : Nat) (x y : Bool) : ob_ub (ob_ub F i x) i y = ob_ub F i y := by
  funext j; unfold ob_ub; split <;> rfl
theorem ob_ub_i (F : Nat → Bool) (i : Nat) : ob_ub F i (F i) = F := by
  funext j; unfold ob_ub; split
  · rename_i e; rw [e]
  · rfl
theorem ob_uA (tw te tc : Nat → Bool) (i : Nat) (a b c : Bool) : upd (fun zz => ob_xa (tw zz) (te zz) (tc zz)) i (ob_xa a b c) = fun zz => ob_xa (ob_ub tw i a zz) (ob_ub te i b zz) (ob_ub tc i c zz) := by
  funext j; unfold upd ob_ub; split <;> rfl
theorem ob_uF (tw te tc : Nat → Bool) (i : Nat) (a b c : Bool) : upd (fun zz => ob_yf (tw zz) (te zz) (tc zz)) i (ob_yf a b c) = fun zz => ob_yf (ob_ub tw i a zz) (ob_ub te i b zz) (ob_ub tc i c zz) := by
  funext j; unfold upd ob_ub; split <;> rfl
theorem ob_uA0 (tw te tc : Nat → Bool) (i : Nat) : upd (fun zz => ob_xa (tw zz) (te zz) (tc zz)) i 0 = fun zz => ob_xa (ob_ub tw i false zz) (ob_ub te i false zz) (ob_ub tc i false zz) := ob_uA tw te tc i false false false
theorem ob_uF0 (tw te tc : Nat → Bool) (i : Nat) : upd (fun zz => ob_yf (tw zz) (te zz) (tc zz)) i 0 = fun zz => ob_yf (ob_ub tw i false zz) (ob_ub te i false zz) (ob_ub tc i false zz) := ob_uF tw te tc i false false false
end
section
/-! ===== the order of an object's keys ===== -/
def ob_ord (M : Nat → Nat) (o : Nat) (L : List Nat) : Prop :=
  L.Pairwise (fun a b => M (32 * o + a) < M (32 * o + b)) ∧ ∀ k, k ∈ L ↔ k < 32 ∧ M (32 * o + k) ≠ 0
def ob_um (M : Nat → Nat) (i x : Nat) : Nat → Nat := fun j => if j = i then x else M j
theorem ob_um_s (M : Nat → Nat) (i x : Nat) : ob_um M i x i = x := if_pos rfl
theorem ob_um_n (M : Nat → Nat) {i j : Nat} (x : Nat) (h : j ≠ i) : ob_um M i x j = M j := if_neg h
theorem ob_ord_nd {M : Nat → Nat} {o : Nat} {L : List Nat} (h : ob_ord M o L) : L.Nodup :=
  h.1.imp (fun hab e => by subst e; exact Nat.lt_irrefl _ hab)
theorem ob_ord_sub {M : Nat → Nat} {o : Nat} {L : List Nat} (h : ob_ord M o L) : L ⊆ List.range 32 :=
  fun k hk => List.mem_range.mpr ((h.2 k).mp hk).1
theorem ob_ord_len {M : Nat → Nat} {o : Nat} {L : List Nat} (h : ob_ord M o L) : L.length ≤ 32 := by
  have := (ob_ord_nd h).length_le_of_subset (ob_ord_sub h)
  rwa [List.length_range] at this
theorem ob_ord_room {M : Nat → Nat} {o k : Nat} {L : List Nat} (h : ob_ord M o L) (hk : k < 32) (hz : M (32 * o + k) = 0) : L.length < 32 := by
  have hn : k ∉ L := fun hm => ((h.2 k).mp hm).2 hz
  have h1 : (k :: L).Nodup := List.nodup_cons.mpr ⟨hn, ob_ord_nd h⟩
  have h2 : (k :: L) ⊆ List.range 32 := by
    intro x hx
    rcases List.mem_cons.mp hx with rfl | hx
    · exact List.mem_range.mpr hk
    · exact ob_ord_sub h hx
  have h3 := h1.length_le_of_subset h2
  rw [List.length_range, List.length_cons] at h3
  omega
theorem ob_ord_add {M : Nat → Nat} {o k m : Nat} {L : List Nat} (h : ob_ord M o L) (hk : k < 32) (hz : M (32 * o + k) = 0) (hm : ∀ i, M i ≤ m) : ob_ord (ob_um M (32 * o + k) (m + 1)) o (L ++ [k]) := by
  have hn : k ∉ L := fun hm => ((h.2 k).mp hm).2 hz
  have hne : ∀ x, x ∈ L → 32 * o + x ≠ 32 * o + k := fun x hx e => hn (by have : x = k := by omega
                                                                          rwa [← this])
  constructor
  · rw [List.pairwise_append]
    refine ⟨?_, List.pairwise_singleton _ _, ?_⟩
    · refine h.1.imp_of_mem ?_
      intro a b ha hb hab
      rw [ob_um_n _ _ (hne a ha), ob_um_n _ _ (hne b hb)]
      exact hab
    · intro a ha b hb
      rw [List.mem_singleton] at hb
      subst hb
      rw [ob_um_n _ _ (hne a ha), ob_um_s]
      have := hm (32 * o + a)
      omega
  · intro x
    rw [List.mem_append, List.mem_singleton, h.2]
    by_cases e : x = k
    · subst e
      rw [ob_um_s]
      exact ⟨fun _ => ⟨hk, by omega⟩, fun _ => Or.inr rfl⟩
    · rw [ob_um_n _ _ (by omega)]
      exact ⟨fun z => z.elim id (fun y => absurd y e), Or.inl⟩
theorem ob_ord_del {M : Nat → Nat} {o k : Nat} {L : List Nat} (h : ob_ord M o L) : ob_ord (ob_um M (32 * o + k) 0) o (L.filter (fun x => x != k)) := by
  constructor
  · refine List.Pairwise.imp_of_mem ?_ (h.1.filter _)
    intro a b ha hb hab
    have ha' : a ≠ k := by simpa using (List.mem_filter.mp ha).2
    have hb' : b ≠ k := by simpa using (List.mem_filter.mp hb).2
    rw [ob_um_n _ _ (by omega), ob_um_n _ _ (by omega)]
    exact hab
  · intro x
    rw [List.mem_filter, h.2]
    by_cases e : x = k
    · subst e
      rw [ob_um_s]
      simp
    · rw [ob_um_n _ _ (by omega)]
      simp [e]
theorem ob_ord_oth {M : Nat → Nat} {o i x : Nat} {L : List Nat} (h : ob_ord M o L) (hi : ∀ k, k < 32 → 32 * o + k ≠ i) : ob_ord (ob_um M i x) o L := by
  constructor
  · refine h.1.imp_of_mem ?_
    intro a b ha hb hab
    rw [ob_um_n _ _ (hi a ((h.2 a).mp ha).1), ob_um_n _ _ (hi b ((h.2 b).mp hb).1)]
    exact hab
  · intro k
    rw [h.2]
    by_cases hk : k < 32
    · rw [ob_um_n _ _ (hi k hk)]
    · exact ⟨fun z => absurd z.1 hk, fun z => absurd z.1 hk⟩
/-- as many keys as there are places with a moment -/
theorem ob_ord_cnt {M : Nat → Nat} {o : Nat} {L : List Nat} (h : ob_ord M o L) : (List.range 32).countP (fun k => decide (M (32 * o + k) ≠ 0)) = L.length := by
  rw [List.countP_eq_length_filter]
  refine List.Perm.length_eq ((List.perm_ext_iff_of_nodup (List.Pairwise.filter _ List.nodup_range) (ob_ord_nd h)).mpr ?_)
  intro k
  rw [List.mem_filter, List.mem_range, h.2, decide_eq_true_iff]
/-- the place of a key is the number of the keys made before it -/
theorem ob_ord_pl {M : Nat → Nat} {o p : Nat} {L : List Nat} (h : ob_ord M o L) (hp : p < L.length) : (List.range 32).countP (fun k => decide (M (32 * o + k) ≠ 0 ∧ M (32 * o + k) < M (32 * o + L[p]))) = p := by
  rw [List.countP_eq_length_filter]
  have hs := List.pairwise_iff_getElem.mp h.1
  have e : (L.take p).length = p := by rw [List.length_take]; omega
  have hnd : (L.take p).Nodup := List.Sublist.nodup (List.take_sublist p L) (ob_ord_nd h)
  refine (List.Perm.length_eq ((List.perm_ext_iff_of_nodup (List.Pairwise.filter _ List.nodup_range) hnd).mpr ?_)).trans e
  intro k
  rw [List.mem_filter, List.mem_range, decide_eq_true_iff]
  constructor
  · intro ⟨h1, h2, h3⟩
    have hm := (h.2 k).mpr ⟨h1, h2⟩
    obtain ⟨q, hq, rfl⟩ := List.getElem_of_mem hm
    have hqp : q < p := by
      rcases Nat.lt_trichotomy q p with z | z | z
      · exact z
      · subst z; exact absurd h3 (Nat.lt_irrefl _)
      · have := hs p q hp hq z
        omega
    exact List.mem_take_iff_getElem.mpr ⟨q, by omega, rfl⟩
  · intro hm
    obtain ⟨q, hq, rfl⟩ := List.mem_take_iff_getElem.mp hm
    have hq' : q < L.length := by omega
    have h1 := (h.2 _).mp (List.getElem_mem hq')
    exact ⟨h1.1, h1.2, hs q p hq' hp (by omega)⟩
end
section
/-! ===== the relation: near equality; what both sides hold alike is one function ===== -/
def ob_th (s : Nat) : Int32 := if s = 0 then 0 else 1
def ob_most (q : Nat) : Option Nat :=
  if q = 1 then some 5 else if q = 5 ∨ q = 6 then some 3 else if q = 8 ∨ q = 9 ∨ q = 12 ∨ q = 13 then some 31
  else if q = 15 ∨ q = 17 ∨ q = 18 then some 4 else if q = 16 then some 7 else if q = 21 ∨ q = 23 ∨ q = 24 then some 24
  else if q = 31 then some 2 else none
def ob_ok (op a b : Int32) : Prop := ∃ q, q < 32 ∧ op = nI q ∧ (∀ g, ob_most q = some g → ∃ x, x ≤ g ∧ a = nI x) ∧ (q = 5 ∨ q = 6 → ∃ y, y ≤ 3 ∧ b = nI y)
def ob_gC (CL : Nat → Nat) (cOp cA cB : Nat → Int32) : Prop := ∀ c, c < 8 → CL c ≤ 24 ∧ ∀ j, j < CL c → ob_ok (cOp (24 * c + j)) (cA (24 * c + j)) (cB (24 * c + j))
def ob_gO (n : Nat) (OK : Nat → Nat) (oKin : Nat → Int32) : Prop := (3 ≤ n ∧ n ≤ 32) ∧ ∀ o, o < n → OK o ≤ 2 ∧ (oKin o = -1 ∨ ∃ p, p < o ∧ oKin o = nI p)
/-- one slot: absent, data, or a pair -/
def ob_sl (n M : Nat) (v : Int64) (pk : Int32) (w : Bool) (xs : Int64) (pr : Int32) (ys : Int64) : Prop :=
  (M = 0 ∧ pk = 0) ∨ (M ≠ 0 ∧ ob_V n v ∧ ((pr = 0 ∧ pk = 1) ∨ (pr = 1 ∧ pk = 2 ∧ w = false ∧ xs = ys ∧ ob_V n ys)))
def ob_gP (n m : Nat) (M : Nat → Nat) (pVal : Nat → Int64) (xPk : Nat → Int32) (tw : Nat → Bool) (xSet : Nat → Int64) (yPair : Nat → Int32) (ySet : Nat → Int64) : Prop :=
  (∀ i, M i ≤ m) ∧ (∀ i, 32 * n ≤ i → M i = 0) ∧ ∀ i, i < 32 * n → ob_sl n (M i) (pVal i) (xPk i) (tw i) (xSet i) (yPair i) (ySet i)
def ob_gL (n : Nat) (M : Nat → Nat) (xPc xKo : Nat → Int32) : Prop :=
  ∀ o, o < n → ∃ L : List Nat, xPc o = nI L.length ∧ (∀ p k, L[p]? = some k → xKo (32 * o + p) = nI k) ∧ ob_ord M o L
/-- an array has its LENGTH, and no element beyond -/
def ob_gY (n : Nat) (OK M : Nat → Nat) (tc : Nat → Bool) (pVal : Nat → Int64) (yPair : Nat → Int32) : Prop :=
  ∀ o, o < n → OK o = 1 → M (32 * o + 16) ≠ 0 ∧ yPair (32 * o + 16) = 0 ∧ tc (32 * o + 16) = false ∧ ∃ l, l ≤ 16 ∧ pVal (32 * o + 16) = lN l ∧ ∀ k, l ≤ k → k < 16 → M (32 * o + k) = 0
def ob_sc (S : Nat → Nat) (x : Int32) : Prop := x = -1 ∨ ∃ a, a < 24 ∧ x = nI a ∧ S a = 2
def ob_gA (n : Nat) (OK S : Nat → Nat) (xFc xFs yCo yAr yStay aOut : Nat → Int32) (aVar : Nat → Int64) : Prop :=
  (∀ o, o < n → OK o = 2 → xFc o = yCo o ∧ (∃ c, c < 8 ∧ yCo o = nI c) ∧ xFs o = yAr o ∧ ob_sc S (yAr o)) ∧
  (∀ a, a < 24 → S a ≤ 2 ∧ (S a ≠ 0 → yStay a = nI (S a - 1) ∧ ob_sc S (aOut a) ∧ ∀ k, k < 4 → ob_V n (aVar (4 * a + k))))
def ob_fr (n f : Nat) (S FC FA FP FH FT : Nat → Nat) (fSelf stk : Nat → Int64) (TA TH XH : Nat → Nat) (yHan : Nat → Int32) (xHeld yKept : Nat → Int64) : Prop :=
  FC f < 8 ∧ FA f < 24 ∧ S (FA f) ≠ 0 ∧ FP f ≤ 24 ∧ FH f ≤ 10 ∧ (∀ s, s < FH f → ob_V n (stk (10 * f + s))) ∧
  XH f ≤ 3 ∧ yHan f = nI (XH f) ∧ (∀ s, s < XH f → TA (3 * f + s) ≤ 24 ∧ TH (3 * f + s) ≤ 10) ∧ ob_V n (fSelf f) ∧
  FT f ≤ 2 ∧ (FT f ≠ 0 → xHeld f = yKept f ∧ ob_V n (yKept f))
def ob_gF (n d : Nat) (S FC FA FP FH FT : Nat → Nat) (fSelf stk : Nat → Int64) (TA TH XH : Nat → Nat) (yHan : Nat → Int32) (xHeld yKept : Nat → Int64) : Prop :=
  d ≤ 6 ∧ (∀ f, f < d → ob_fr n f S FC FA FP FH FT fSelf stk TA TH XH yHan xHeld yKept) ∧ ∀ f g, f < g → g < d → FA f ≠ FA g
def ob_gT (n d b : Nat) (res : Int64) (thr : Int32) (thn : Int64) : Prop :=
  b ≤ 300 ∧ (thr = 0 ∨ thr = 1 ∧ ob_V n thn) ∧ (d ≠ 0 → res = 8589934592)
def ob_R (n : Nat) (d : Nat) (b : Nat) (m : Nat) (res : Int64) (thr : Int32) (thn : Int64) (CL : Nat → Nat) (cOp : Nat → Int32) (cA : Nat → Int32) (cB : Nat → Int32) (OK : Nat → Nat) (oKin : Nat → Int32) (pVal : Nat → Int64) (aOut : Nat → Int32) (aVar : Nat → Int64) (FC : Nat → Nat) (FA : Nat → Nat) (FP : Nat → Nat) (FH : Nat → Nat) (FT : Nat → Nat) (fSelf : Nat → Int64) (stk : Nat → Int64) (TA : Nat → Nat) (TH : Nat → Nat) (xFc : Nat → Int32) (xFs : Nat → Int32) (xPc : Nat → Int32) (xKo : Nat → Int32) (xPk : Nat → Int32) (tw : Nat → Bool) (tc : Nat → Bool) (xSet : Nat → Int64) (S : Nat → Nat) (XH : Nat → Nat) (xHeld : Nat → Int64) (yCo : Nat → Int32) (yAr : Nat → Int32) (M : Nat → Nat) (yPair : Nat → Int32) (ySet : Nat → Int64) (yStay : Nat → Int32) (yHan : Nat → Int32) (yKept : Nat → Int64) : Prop :=
  ob_gC CL cOp cA cB ∧ ob_gO n OK oKin ∧ ob_gP n m M pVal xPk tw xSet yPair ySet ∧ ob_gL n M xPc xKo ∧ ob_gY n OK M tc pVal yPair ∧
  ob_gA n OK S xFc xFs yCo yAr yStay aOut aVar ∧ ob_gF n d S FC FA FP FH FT fSelf stk TA TH XH yHan xHeld yKept ∧ ob_gT n d b res thr thn
/-- the handlers of the frames at work, counted -/
def ob_hs (XH : Nat → Nat) : Nat → Nat
  | 0 => 0
  | f + 1 => ob_hs XH f + XH f
/-- two related states, whatever they hold; b instructions begun, at most B moments, the measure at most w -/
def ob_S (b B w : Nat) (u : SX) (v : SY) : Prop :=
  ∃ (n : Nat) (d : Nat) (m : Nat) (deep : Int32) (res : Int64) (thr : Int32) (thn : Int64) (CL : Nat → Nat) (cStr : Nat → Int32) (cOp : Nat → Int32) (cA : Nat → Int32) (cB : Nat → Int32) (OK : Nat → Nat) (oKin : Nat → Int32) (oOpen : Nat → Int32) (pVal : Nat → Int64) (aOut : Nat → Int32) (aVar : Nat → Int64) (FC : Nat → Nat) (FA : Nat → Nat) (FP : Nat → Nat) (FH : Nat → Nat) (FT : Nat → Nat) (fSelf : Nat → Int64) (stk : Nat → Int64) (TA : Nat → Nat) (TH : Nat → Nat) (xFc : Nat → Int32) (xFs : Nat → Int32) (xPc : Nat → Int32) (xKo : Nat → Int32) (xPk : Nat → Int32) (tw : Nat → Bool) (te : Nat → Bool) (tc : Nat → Bool) (xSet : Nat → Int64) (S : Nat → Nat) (XH : Nat → Nat) (xHeld : Nat → Int64) (xArg : Nat → Int64) (yCo : Nat → Int32) (yAr : Nat → Int32) (M : Nat → Nat) (yPair : Nat → Int32) (ySeen : Nat → Int32) (ySet : Nat → Int64) (yStay : Nat → Int32) (yArg : Nat → Int64) (yHan : Nat → Int32) (yKept : Nat → Int64) (yGiven : Int32), u = (nI n, nI d, nI b, deep, res, thr, thn, (fun zz => nI (CL zz)), cStr, cOp, cA, cB, (fun zz => nI (OK zz)), oKin, oOpen, xFc, xFs, xPc, xKo, xPk, (fun zz => ob_xa (tw zz) (te zz) (tc zz)), pVal, xSet, (fun zz => nI (S zz)), aOut, aVar, (fun zz => nI (FC zz)), (fun zz => nI (FP zz)), (fun zz => nI (FA zz)), (fun zz => nI (FH zz)), (fun zz => nI (XH zz)), (fun zz => nI (FT zz)), fSelf, xHeld, stk, (fun zz => nI (TA zz)), (fun zz => nI (TH zz)), xArg) ∧ v = (nI n, nI m, yGiven, nI d, deep, nI b, thr, thn, res, cStr, (fun zz => nI (CL zz)), cOp, cA, cB, (fun zz => nI (OK zz)), oKin, yCo, yAr, oOpen, (fun zz => nI (M zz)), (fun zz => ob_yf (tw zz) (te zz) (tc zz)), yPair, ySeen, pVal, ySet, (fun zz => ob_th (S zz)), yStay, aOut, aVar, yArg, (fun zz => nI (FC zz)), (fun zz => nI (FA zz)), (fun zz => nI (FP zz)), (fun zz => nI (FH zz)), yHan, (fun zz => nI (FT zz)), (fun zz => nI (TA zz)), (fun zz => nI (TH zz)), fSelf, yKept, stk) ∧ ob_R n d b m res thr thn CL cOp cA cB OK oKin pVal aOut aVar FC FA FP FH FT fSelf stk TA TH xFc xFs xPc xKo xPk tw tc xSet S XH xHeld yCo yAr M yPair ySet yStay yHan yKept ∧ m ≤ B ∧ 4 * d + ob_hs XH d ≤ w
end
section
/-! ===== what keeps the groups ===== -/
section
variable {n : Nat} {d : Nat} {b : Nat} {m : Nat} {deep : Int32} {res : Int64} {thr : Int32} {thn : Int64} {CL : Nat → Nat} {cStr : Nat → Int32} {cOp : Nat → Int32} {cA : Nat → Int32} {cB : Nat → Int32} {OK : Nat → Nat} {oKin : Nat → Int32} {oOpen : Nat → Int32} {pVal : Nat → Int64} {aOut : Nat → Int32} {aVar : Nat → Int64} {FC : Nat → Nat} {FA : Nat → Nat} {FP : Nat → Nat} {FH : Nat → Nat} {FT : Nat → Nat} {fSelf : Nat → Int64} {stk : Nat → Int64} {TA : Nat → Nat} {TH : Nat → Nat} {xFc : Nat → Int32} {xFs : Nat → Int32} {xPc : Nat → Int32} {xKo : Nat → Int32} {xPk : Nat → Int32} {tw : Nat → Bool} {te : Nat → Bool} {tc : Nat → Bool} {xSet : Nat → Int64} {S : Nat → Nat} {XH : Nat → Nat} {xHeld : Nat → Int64} {xArg : Nat → Int64} {yCo : Nat → Int32} {yAr : Nat → Int32} {M : Nat → Nat} {yPair : Nat → Int32} {ySeen : Nat → Int32} {ySet : Nat → Int64} {yStay : Nat → Int32} {yArg : Nat → Int64} {yHan : Nat → Int32} {yKept : Nat → Int64} {yGiven : Int32}
variable {n' e h a p v' : Nat}
theorem ob_fr_up (h : n ≤ n') (hf : ob_fr n a S FC FA FP FH FT fSelf stk TA TH XH yHan xHeld yKept) : ob_fr n' a S FC FA FP FH FT fSelf stk TA TH XH yHan xHeld yKept := by
  obtain ⟨h1, h2, h3, h4, h5, h6, h7, h8, h9, h10, h11, h12⟩ := hf
  exact ⟨h1, h2, h3, h4, h5, fun s hs => ob_V_up h (h6 s hs), h7, h8, h9, ob_V_up h h10, h11, fun z => ⟨(h12 z).1, ob_V_up h (h12 z).2⟩⟩
theorem ob_gF_up (h : n ≤ n') (hF : ob_gF n d S FC FA FP FH FT fSelf stk TA TH XH yHan xHeld yKept) : ob_gF n' d S FC FA FP FH FT fSelf stk TA TH XH yHan xHeld yKept :=
  ⟨hF.1, fun f hf => ob_fr_up h (hF.2.1 f hf), hF.2.2⟩
theorem ob_gF_pop (hF : ob_gF n d S FC FA FP FH FT fSelf stk TA TH XH yHan xHeld yKept) (hh : h ≤ FH e) : ob_gF n d S FC FA FP (ob_um FH e h) FT fSelf stk TA TH XH yHan xHeld yKept := by
  refine ⟨hF.1, fun f hf => ?_, hF.2.2⟩
  obtain ⟨h1, h2, h3, h4, h5, h6, h7⟩ := hF.2.1 f hf
  by_cases z : f = e
  · subst z
    exact ⟨h1, h2, h3, h4, by rw [ob_um_s]; omega, fun s hs => h6 s (by rw [ob_um_s] at hs; omega), h7⟩
  · exact ⟨h1, h2, h3, h4, by rw [ob_um_n _ _ z]; exact h5, fun s hs => h6 s (by rw [ob_um_n _ _ z] at hs; exact hs), h7⟩
theorem ob_gF_push {v : Int64} (hF : ob_gF n d S FC FA FP FH FT fSelf stk TA TH XH yHan xHeld yKept) (hv : ob_V n v) (hh : FH e < 10) : ob_gF n d S FC FA FP (ob_um FH e (FH e + 1)) FT fSelf (vp_updL stk (10 * e + FH e) v) TA TH XH yHan xHeld yKept := by
  refine ⟨hF.1, fun f hf => ?_, hF.2.2⟩
  obtain ⟨h1, h2, h3, h4, h5, h6, h7⟩ := hF.2.1 f hf
  by_cases z : f = e
  · subst z
    refine ⟨h1, h2, h3, h4, by rw [ob_um_s]; omega, fun s hs => ?_, h7⟩
    rw [ob_um_s] at hs
    rw [ob_uaL]
    split
    · exact hv
    · exact h6 s (by omega)
  · refine ⟨h1, h2, h3, h4, by rw [ob_um_n _ _ z]; exact h5, fun s hs => ?_, h7⟩
    rw [ob_um_n _ _ z] at hs
    rw [ob_uaL, if_neg (by omega)]
    exact h6 s hs
theorem ob_gF_at (hF : ob_gF n d S FC FA FP FH FT fSelf stk TA TH XH yHan xHeld yKept) (hp : p ≤ 24) : ob_gF n d S FC FA (ob_um FP e p) FH FT fSelf stk TA TH XH yHan xHeld yKept := by
  refine ⟨hF.1, fun f hf => ?_, hF.2.2⟩
  obtain ⟨h1, h2, h3, h4, h5⟩ := hF.2.1 f hf
  by_cases z : f = e
  · subst z
    exact ⟨h1, h2, h3, by rw [ob_um_s]; exact hp, h5⟩
  · exact ⟨h1, h2, h3, by rw [ob_um_n _ _ z]; exact h4, h5⟩
/-- a handler is dropped -/
theorem ob_gF_hdrop (hF : ob_gF n d S FC FA FP FH FT fSelf stk TA TH XH yHan xHeld yKept) (hh : XH e = h + 1) : ob_gF n d S FC FA FP FH FT fSelf stk TA TH (ob_um XH e h) (upd yHan e (nI h)) xHeld yKept := by
  refine ⟨hF.1, fun f hf => ?_, hF.2.2⟩
  obtain ⟨h1, h2, h3, h4, h5, h6, h7, h8, h9, h10⟩ := hF.2.1 f hf
  by_cases z : f = e
  · subst z
    exact ⟨h1, h2, h3, h4, h5, h6, by rw [ob_um_s]; omega, by rw [ob_um_s, pk_us], fun s hs => h9 s (by rw [ob_um_s] at hs; omega), h10⟩
  · exact ⟨h1, h2, h3, h4, h5, h6, by rw [ob_um_n _ _ z]; exact h7, by rw [ob_um_n _ _ z, pk_un z]; exact h8, fun s hs => h9 s (by rw [ob_um_n _ _ z] at hs; exact hs), h10⟩
/-- a handler is added -/
theorem ob_gF_hadd (hF : ob_gF n d S FC FA FP FH FT fSelf stk TA TH XH yHan xHeld yKept) (he : e < d) (hh : XH e < 3) (hp : p ≤ 24) : ob_gF n d S FC FA FP FH FT fSelf stk (ob_um TA (3 * e + XH e) p) (ob_um TH (3 * e + XH e) (FH e)) (ob_um XH e (XH e + 1)) (upd yHan e (nI (XH e + 1))) xHeld yKept := by
  have hH : FH e ≤ 10 := (hF.2.1 e he).2.2.2.2.1
  refine ⟨hF.1, fun f hf => ?_, hF.2.2⟩
  obtain ⟨h1, h2, h3, h4, h5, h6, h7, h8, h9, h10⟩ := hF.2.1 f hf
  by_cases z : f = e
  · subst z
    refine ⟨h1, h2, h3, h4, h5, h6, by rw [ob_um_s]; omega, by rw [ob_um_s, pk_us], fun s hs => ?_, h10⟩
    rw [ob_um_s] at hs
    by_cases y : s = XH f
    · subst y
      rw [ob_um_s, ob_um_s]
      exact ⟨hp, hH⟩
    · rw [ob_um_n _ _ (by omega), ob_um_n _ _ (by omega)]
      exact h9 s (by omega)
  · refine ⟨h1, h2, h3, h4, h5, h6, by rw [ob_um_n _ _ z]; exact h7, by rw [ob_um_n _ _ z, pk_un z]; exact h8, fun s hs => ?_, h10⟩
    rw [ob_um_n _ _ z] at hs
    rw [ob_um_n _ _ (by omega), ob_um_n _ _ (by omega)]
    exact h9 s hs
/-- other states of activations, none of the frames' own freed -/
theorem ob_gF_S {S' : Nat → Nat} (hF : ob_gF n d S FC FA FP FH FT fSelf stk TA TH XH yHan xHeld yKept) (hS : ∀ f, f < d → S (FA f) ≠ 0 → S' (FA f) ≠ 0) : ob_gF n d S' FC FA FP FH FT fSelf stk TA TH XH yHan xHeld yKept := by
  refine ⟨hF.1, fun f hf => ?_, hF.2.2⟩
  obtain ⟨h1, h2, h3, h4⟩ := hF.2.1 f hf
  exact ⟨h1, h2, hS f hf h3, h4⟩
/-- the last frame goes -/
theorem ob_gF_leave (hF : ob_gF n (e + 1) S FC FA FP FH FT fSelf stk TA TH XH yHan xHeld yKept) : ob_gF n e (ob_um S (FA e) a) FC FA FP FH FT fSelf stk TA TH XH yHan xHeld yKept := by
  refine ⟨by have := hF.1; omega, fun f hf => ?_, fun f g hfg hg => hF.2.2 f g hfg (by omega)⟩
  obtain ⟨h1, h2, h3, h4⟩ := hF.2.1 f (by omega)
  exact ⟨h1, h2, by rw [ob_um_n _ _ (hF.2.2 f e hf (by omega))]; exact h3, h4⟩
/-- what a left frame holds does not count -/
theorem ob_gF_yh {x : Int32} (hF : ob_gF n e S FC FA FP FH FT fSelf stk TA TH XH yHan xHeld yKept) : ob_gF n e S FC FA FP FH FT fSelf stk TA TH XH (upd yHan e x) xHeld yKept := by
  refine ⟨hF.1, fun f hf => ?_, hF.2.2⟩
  obtain ⟨h1, h2, h3, h4, h5, h6, h7, h8, h9⟩ := hF.2.1 f hf
  exact ⟨h1, h2, h3, h4, h5, h6, h7, by rw [pk_un (by omega)]; exact h8, h9⟩
/-- a new frame -/
theorem ob_gF_enter {c t s : Nat} {self held kept : Int64} (hF : ob_gF n d S FC FA FP FH FT fSelf stk TA TH XH yHan xHeld yKept) (hd : d < 6) (hc : c < 8) (ha : a < 24) (hS : S a = 0) (hs : s ≠ 0) (ht : t ≤ 2) (hv : ob_V n self) (hk : t ≠ 0 → held = kept ∧ ob_V n kept) :
    ob_gF n (d + 1) (ob_um S a s) (ob_um FC d c) (ob_um FA d a) (ob_um FP d 0) (ob_um FH d 0) (ob_um FT d t) (vp_updL fSelf d self) stk TA TH (ob_um XH d 0) (upd yHan d 0) (vp_updL xHeld d held) (vp_updL yKept d kept) := by
  refine ⟨by omega, fun f hf => ?_, fun f g hfg hg => ?_⟩
  · by_cases z : f = d
    · subst z
      refine ⟨by rw [ob_um_s]; exact hc, by rw [ob_um_s]; exact ha, by rw [ob_um_s, ob_um_s]; exact hs, by rw [ob_um_s]; omega, by rw [ob_um_s]; omega, ?_, by rw [ob_um_s]; omega, by rw [ob_um_s, pk_us]; rfl, ?_, by rw [pk_uLs]; exact hv, by rw [ob_um_s]; exact ht, ?_⟩
      · intro q hq
        rw [ob_um_s] at hq
        omega
      · intro q hq
        rw [ob_um_s] at hq
        omega
      · intro q
        rw [ob_um_s] at q
        rw [pk_uLs, pk_uLs]
        exact hk q
    · obtain ⟨h1, h2, h3, h4, h5, h6, h7, h8, h9, h10, h11, h12⟩ := hF.2.1 f (by omega)
      refine ⟨by rw [ob_um_n _ _ z]; exact h1, by rw [ob_um_n _ _ z]; exact h2, ?_, by rw [ob_um_n _ _ z]; exact h4, by rw [ob_um_n _ _ z]; exact h5, ?_, by rw [ob_um_n _ _ z]; exact h7, by rw [ob_um_n _ _ z, pk_un z]; exact h8, ?_, by rw [pk_uLn z]; exact h10, by rw [ob_um_n _ _ z]; exact h11, ?_⟩
      · rw [ob_um_n _ _ z, ob_um_n _ _ (fun y => h3 (by rw [y]; exact hS))]
        exact h3
      · intro q hq
        rw [ob_um_n _ _ z] at hq
        exact h6 q hq
      · intro q hq
        rw [ob_um_n _ _ z] at hq
        exact h9 q hq
      · intro q
        rw [ob_um_n _ _ z] at q
        rw [pk_uLn z, pk_uLn z]
        exact h12 q
  · rw [ob_um_n _ _ (by omega : f ≠ d)]
    by_cases z : g = d
    · subst z
      rw [ob_um_s]
      intro y
      exact (hF.2.1 f hfg).2.2.1 (by rw [y]; exact hS)
    · rw [ob_um_n _ _ z]
      exact hF.2.2 f g hfg (by omega)
/-! activations -/
theorem ob_sc_up {S' : Nat → Nat} {x : Int32} (h : ob_sc S x) (hS : ∀ a, a < 24 → S a = 2 → S' a = 2) : ob_sc S' x := by
  rcases h with h | ⟨a, ha, e, h⟩
  · exact Or.inl h
  · exact Or.inr ⟨a, ha, e, hS a ha h⟩
theorem ob_gA_up (h : n ≤ n') (hO : ∀ o, n ≤ o → o < n' → OK o ≠ 2) (hA : ob_gA n OK S xFc xFs yCo yAr yStay aOut aVar) : ob_gA n' OK S xFc xFs yCo yAr yStay aOut aVar := by
  refine ⟨fun o ho h2 => ?_, fun a ha => ⟨(hA.2 a ha).1, fun z => ?_⟩⟩
  · by_cases y : o < n
    · exact hA.1 o y h2
    · exact absurd h2 (hO o (by omega) ho)
  · obtain ⟨h1, h2, h3⟩ := (hA.2 a ha).2 z
    exact ⟨h1, h2, fun k hk => ob_V_up h (h3 k hk)⟩
/-- an activation is freed, or stays where it is kept -/
theorem ob_gA_leave (hA : ob_gA n OK S xFc xFs yCo yAr yStay aOut aVar) : ob_gA n OK (ob_um S a (if S a = 2 then 2 else 0)) xFc xFs yCo yAr yStay aOut aVar := by
  have hk : ∀ q, q < 24 → S q = 2 → ob_um S a (if S a = 2 then 2 else 0) q = 2 := by
    intro q _ h2
    by_cases z : q = a
    · subst z; rw [ob_um_s, if_pos h2]
    · rw [ob_um_n _ _ z]; exact h2
  refine ⟨fun o ho h2 => ?_, fun q hq => ?_⟩
  · obtain ⟨h1, h3, h4, h5⟩ := hA.1 o ho h2
    exact ⟨h1, h3, h4, ob_sc_up h5 hk⟩
  · obtain ⟨h1, h3⟩ := hA.2 q hq
    by_cases z : q = a
    · subst z
      rw [ob_um_s]
      split
      · rename_i h2
        obtain ⟨h4, h5, h6⟩ := h3 (by omega)
        rw [if_pos h2] at hk
        exact ⟨by omega, fun _ => ⟨by rw [h4, h2], ob_sc_up h5 hk, h6⟩⟩
      · exact ⟨by omega, fun y => absurd rfl y⟩
    · rw [ob_um_n _ _ z]
      refine ⟨h1, fun y => ?_⟩
      obtain ⟨h4, h5, h6⟩ := h3 y
      exact ⟨h4, ob_sc_up h5 hk, h6⟩
/-- an activation is kept -/
theorem ob_gA_keep (hA : ob_gA n OK S xFc xFs yCo yAr yStay aOut aVar) (ha : a < 24) (hS : S a ≠ 0) : ob_gA n OK (ob_um S a 2) xFc xFs yCo yAr (upd yStay a 1) aOut aVar := by
  have hk : ∀ q, q < 24 → S q = 2 → ob_um S a 2 q = 2 := by
    intro q _ h2
    by_cases z : q = a
    · subst z; rw [ob_um_s]
    · rw [ob_um_n _ _ z]; exact h2
  refine ⟨fun o ho h2 => ?_, fun q hq => ?_⟩
  · obtain ⟨h1, h3, h4, h5⟩ := hA.1 o ho h2
    exact ⟨h1, h3, h4, ob_sc_up h5 hk⟩
  · obtain ⟨h1, h3⟩ := hA.2 q hq
    by_cases z : q = a
    · subst z
      rw [ob_um_s]
      obtain ⟨h4, h5, h6⟩ := h3 hS
      exact ⟨by omega, fun _ => ⟨by rw [pk_us]; rfl, ob_sc_up h5 hk, h6⟩⟩
    · rw [ob_um_n _ _ z, pk_un z]
      refine ⟨h1, fun y => ?_⟩
      obtain ⟨h4, h5, h6⟩ := h3 y
      exact ⟨h4, ob_sc_up h5 hk, h6⟩
/-- a new activation -/
theorem ob_gA_enter {x : Int32} {aVar' : Nat → Int64} (hA : ob_gA n OK S xFc xFs yCo yAr yStay aOut aVar) (hS : S a = 0) (hx : ob_sc S x) (hv : ∀ k, k < 4 → ob_V n (aVar' (4 * a + k))) (ho : ∀ q k, q ≠ a → k < 4 → aVar' (4 * q + k) = aVar (4 * q + k)) : ob_gA n OK (ob_um S a 1) xFc xFs yCo yAr (upd yStay a 0) (upd aOut a x) aVar' := by
  have hk : ∀ q, q < 24 → S q = 2 → ob_um S a 1 q = 2 := by
    intro q _ h2
    by_cases z : q = a
    · subst z; rw [hS] at h2; exact absurd h2 (by decide)
    · rw [ob_um_n _ _ z]; exact h2
  refine ⟨fun o ho h2 => ?_, fun q hq => ?_⟩
  · obtain ⟨h1, h3, h4, h5⟩ := hA.1 o ho h2
    exact ⟨h1, h3, h4, ob_sc_up h5 hk⟩
  · obtain ⟨h1, h3⟩ := hA.2 q hq
    by_cases z : q = a
    · subst z
      rw [ob_um_s, pk_us, pk_us]
      exact ⟨by omega, fun _ => ⟨rfl, ob_sc_up hx hk, hv⟩⟩
    · rw [ob_um_n _ _ z, pk_un z, pk_un z]
      refine ⟨h1, fun y => ?_⟩
      obtain ⟨h4, h5, h6⟩ := h3 y
      exact ⟨h4, ob_sc_up h5 hk, fun k hk => by rw [ho q k z hk]; exact h6 k hk⟩
/-- a variable is set -/
theorem ob_gA_var {v : Int64} {i : Nat} (hA : ob_gA n OK S xFc xFs yCo yAr yStay aOut aVar) (hv : ob_V n v) : ob_gA n OK S xFc xFs yCo yAr yStay aOut (vp_updL aVar i v) := by
  refine ⟨hA.1, fun q hq => ⟨(hA.2 q hq).1, fun y => ?_⟩⟩
  obtain ⟨h4, h5, h6⟩ := (hA.2 q hq).2 y
  refine ⟨h4, h5, fun k hk => ?_⟩
  rw [ob_uaL]
  split
  · exact hv
  · exact h6 k hk
end
end
section
/-! ===== what keeps the properties' groups ===== -/
section
variable {n : Nat} {d : Nat} {b : Nat} {m : Nat} {deep : Int32} {res : Int64} {thr : Int32} {thn : Int64} {CL : Nat → Nat} {cStr : Nat → Int32} {cOp : Nat → Int32} {cA : Nat → Int32} {cB : Nat → Int32} {OK : Nat → Nat} {oKin : Nat → Int32} {oOpen : Nat → Int32} {pVal : Nat → Int64} {aOut : Nat → Int32} {aVar : Nat → Int64} {FC : Nat → Nat} {FA : Nat → Nat} {FP : Nat → Nat} {FH : Nat → Nat} {FT : Nat → Nat} {fSelf : Nat → Int64} {stk : Nat → Int64} {TA : Nat → Nat} {TH : Nat → Nat} {xFc : Nat → Int32} {xFs : Nat → Int32} {xPc : Nat → Int32} {xKo : Nat → Int32} {xPk : Nat → Int32} {tw : Nat → Bool} {te : Nat → Bool} {tc : Nat → Bool} {xSet : Nat → Int64} {S : Nat → Nat} {XH : Nat → Nat} {xHeld : Nat → Int64} {xArg : Nat → Int64} {yCo : Nat → Int32} {yAr : Nat → Int32} {M : Nat → Nat} {yPair : Nat → Int32} {ySeen : Nat → Int32} {ySet : Nat → Int64} {yStay : Nat → Int32} {yArg : Nat → Int64} {yHan : Nat → Int32} {yKept : Nat → Int64} {yGiven : Int32}
variable {n' m' o k i : Nat} {M' : Nat → Nat} {pVal' xSet' ySet' : Nat → Int64} {xPk' yPair' xPc' xKo' : Nat → Int32} {tw' tc' : Nat → Bool}
theorem ob_sl_up {x : Nat} {v xs ys : Int64} {pk pr : Int32} {w : Bool} (h : n ≤ n') (hs : ob_sl n x v pk w xs pr ys) : ob_sl n' x v pk w xs pr ys := by
  rcases hs with hs | ⟨h1, h2, hs⟩
  · exact Or.inl hs
  · refine Or.inr ⟨h1, ob_V_up h h2, ?_⟩
    rcases hs with hs | ⟨h3, h4, h5, h6, h7⟩
    · exact Or.inl hs
    · exact Or.inr ⟨h3, h4, h5, h6, ob_V_up h h7⟩
/-- one slot is written -/
theorem ob_gP_c (hP : ob_gP n m M pVal xPk tw xSet yPair ySet) (hm : ∀ j, M' j ≤ m') (hz : ∀ j, 32 * n ≤ j → M' j = 0)
    (ho : ∀ j, j < 32 * n → j ≠ i → M' j = M j ∧ pVal' j = pVal j ∧ xPk' j = xPk j ∧ tw' j = tw j ∧ xSet' j = xSet j ∧ yPair' j = yPair j ∧ ySet' j = ySet j)
    (hs : i < 32 * n → ob_sl n (M' i) (pVal' i) (xPk' i) (tw' i) (xSet' i) (yPair' i) (ySet' i)) : ob_gP n m' M' pVal' xPk' tw' xSet' yPair' ySet' := by
  refine ⟨hm, hz, fun j hj => ?_⟩
  by_cases z : j = i
  · subst z
    exact hs hj
  · obtain ⟨e1, e2, e3, e4, e5, e6, e7⟩ := ho j hj z
    rw [e1, e2, e3, e4, e5, e6, e7]
    exact hP.2.2 j hj
/-- a new object: its slots are empty -/
theorem ob_gP_new (hP : ob_gP n m M pVal xPk tw xSet yPair ySet) (h1 : ∀ j, j < 32 * n → xPk' j = xPk j) (h2 : ∀ j, 32 * n ≤ j → j < 32 * (n + 1) → xPk' j = 0) : ob_gP (n + 1) m M pVal xPk' tw xSet yPair ySet := by
  refine ⟨hP.1, fun j hj => hP.2.1 j (by omega), fun j hj => ?_⟩
  by_cases z : j < 32 * n
  · rw [h1 j z]
    exact ob_sl_up (by omega) (hP.2.2 j z)
  · exact Or.inl ⟨hP.2.1 j (by omega), h2 j (by omega) hj⟩
theorem ob_gL_new (hL : ob_gL n M xPc xKo) (hz : ∀ j, 32 * n ≤ j → M j = 0) : ob_gL (n + 1) M (upd xPc n 0) xKo := by
  intro o ho
  by_cases z : o = n
  · subst z
    refine ⟨[], by rw [pk_us]; rfl, fun p k hp => absurd hp (by simp), List.Pairwise.nil, fun k => ?_⟩
    constructor
    · intro y; exact absurd y (by simp)
    · intro y; exact absurd (hz (32 * o + k) (by omega)) y.2
  · rw [pk_un z]
    exact hL o (by omega)
theorem ob_gY_new (hY : ob_gY n OK M tc pVal yPair) {x : Nat} (hx : x ≠ 1) : ob_gY (n + 1) (ob_um OK n x) M tc pVal yPair := by
  intro o ho h1
  by_cases z : o = n
  · subst z
    rw [ob_um_s] at h1
    exact absurd h1 hx
  · rw [ob_um_n _ _ z] at h1
    exact hY o (by omega) h1
/-- a key appears at the end of the order -/
theorem ob_gL_add (hL : ob_gL n M xPc xKo) (hm : ∀ j, M j ≤ m) (ho : o < n) (hk : k < 32) (hz : M (32 * o + k) = 0) :
    ∃ c, c < 32 ∧ xPc o = nI c ∧ ob_gL n (ob_um M (32 * o + k) (m + 1)) (upd xPc o (nI (c + 1))) (upd xKo (32 * o + c) (nI k)) := by
  obtain ⟨L, h1, h2, h3⟩ := hL o ho
  have hc := ob_ord_room h3 hk hz
  refine ⟨L.length, hc, h1, fun q hq => ?_⟩
  by_cases z : q = o
  · subst z
    refine ⟨L ++ [k], by rw [pk_us, List.length_append, List.length_singleton], fun p x hx => ?_, ob_ord_add h3 hk hz hm⟩
    rw [List.getElem?_append] at hx
    split at hx
    · rw [pk_un (by omega)]
      exact h2 p x hx
    · rename_i y
      obtain ⟨z, hz⟩ := List.getElem?_eq_some_iff.mp hx
      rw [List.length_singleton] at z
      have e : p = L.length := by omega
      subst e
      rw [pk_us]
      simp at hz
      rw [hz]
  · obtain ⟨L', g1, g2, g3⟩ := hL q hq
    refine ⟨L', by rw [pk_un z]; exact g1, fun p x hx => ?_, ob_ord_oth g3 (fun k' hk' => by omega)⟩
    have hl := ob_ord_len g3
    obtain ⟨y, _⟩ := List.getElem?_eq_some_iff.mp hx
    rw [pk_un (by omega)]
    exact g2 p x hx
/-- slots that are written without a moment of another kind keep the order -/
theorem ob_gL_c (hL : ob_gL n M xPc xKo) (ho : ∀ j, j < 32 * n → M' j = M j) : ob_gL n M' xPc xKo := by
  intro o h
  obtain ⟨L, h1, h2, h3, h4⟩ := hL o h
  refine ⟨L, h1, h2, h3.imp_of_mem ?_, fun k => ?_⟩
  · intro a b ha hb hab
    have ha' := ((h4 a).mp ha).1
    have hb' := ((h4 b).mp hb).1
    rw [ho _ (by omega), ho _ (by omega)]
    exact hab
  · rw [h4]
    by_cases hk : k < 32
    · rw [ho _ (by omega)]
    · exact ⟨fun z => absurd z.1 hk, fun z => absurd z.1 hk⟩
/-! a key leaves the order -/
def ob_rm (o k : Nat) (L : List Nat) (ko : Nat → Int32) (p kept : Nat) (ko' : Nat → Int32) : Prop :=
  kept = ((L.take p).filter (fun x => x != k)).length ∧ kept ≤ p ∧ (∀ q x, ((L.take p).filter (fun x => x != k))[q]? = some x → ko' (32 * o + q) = nI x) ∧
  (∀ q, p ≤ q → q < 32 → ko' (32 * o + q) = ko (32 * o + q)) ∧ ∀ j, (j < 32 * o ∨ 32 * o + 32 ≤ j) → ko' j = ko j
theorem ob_rm_0 {L : List Nat} {ko : Nat → Int32} : ob_rm o k L ko 0 0 ko :=
  ⟨by simp, Nat.le_refl _, fun q x hx => by simp at hx, fun _ _ _ => rfl, fun _ _ => rfl⟩
theorem ob_rm_k {L : List Nat} {ko ko' : Nat → Int32} {p kept : Nat} (hp : L[p]? = some k) (h : ob_rm o k L ko p kept ko') : ob_rm o k L ko (p + 1) kept ko' := by
  obtain ⟨h1, h2, h3, h4, h5⟩ := h
  obtain ⟨hl, he⟩ := List.getElem?_eq_some_iff.mp hp
  have e : ((L.take (p + 1)).filter (fun x => x != k)) = (L.take p).filter (fun x => x != k) := by
    rw [List.take_succ_eq_append_getElem hl, List.filter_append, he]
    simp
  exact ⟨by rw [e]; exact h1, by omega, by rw [e]; exact h3, fun q hq => h4 q (by omega), h5⟩
theorem ob_rm_n {L : List Nat} {ko ko' : Nat → Int32} {p kept x : Nat} (hp : L[p]? = some x) (hx : x ≠ k) (hL : L.length ≤ 32) (h : ob_rm o k L ko p kept ko') : ob_rm o k L ko (p + 1) (kept + 1) (upd ko' (32 * o + kept) (nI x)) := by
  obtain ⟨h1, h2, h3, h4, h5⟩ := h
  obtain ⟨hl, he⟩ := List.getElem?_eq_some_iff.mp hp
  have e : ((L.take (p + 1)).filter (fun x => x != k)) = (L.take p).filter (fun x => x != k) ++ [x] := by
    rw [List.take_succ_eq_append_getElem hl, List.filter_append, he]
    simp [hx]
  refine ⟨by rw [e, List.length_append, ← h1]; rfl, by omega, fun q y hy => ?_, fun q hq hq2 => ?_, fun j hj => ?_⟩
  · rw [e, List.getElem?_append, ← h1] at hy
    split at hy
    · rw [pk_un (by omega)]
      exact h3 q y hy
    · obtain ⟨z, hz⟩ := List.getElem?_eq_some_iff.mp hy
      rw [List.length_singleton] at z
      have e2 : q = kept := by omega
      subst e2
      simp at hz
      rw [pk_us, hz]
  · rw [pk_un (by omega)]
    exact h4 q (by omega) hq2
  · rw [pk_un (by omega)]
    exact h5 j hj
theorem ob_gL_del {L : List Nat} {ko' : Nat → Int32} {kept : Nat} (hL : ob_gL n M xPc xKo) (ho : o < n) (hl : xPc o = nI L.length) (hd : ob_ord M o L) (hk : k < 32) (h : ob_rm o k L xKo L.length kept ko') : ob_gL n (ob_um M (32 * o + k) 0) (upd xPc o (nI kept)) ko' := by
  obtain ⟨h1, h2, h3, h4, h5⟩ := h
  rw [List.take_length] at h1 h3
  intro q hq
  by_cases z : q = o
  · subst z
    exact ⟨L.filter (fun x => x != k), by rw [pk_us, h1], h3, ob_ord_del hd⟩
  · obtain ⟨L', g1, g2, g3⟩ := hL q hq
    refine ⟨L', by rw [pk_un z]; exact g1, fun p x hx => ?_, ?_⟩
    · have hl := ob_ord_len g3
      obtain ⟨y, _⟩ := List.getElem?_eq_some_iff.mp hx
      rw [h5 _ (by omega)]
      exact g2 p x hx
    · exact ob_ord_oth g3 (fun k' hk' => by omega)
end
end
section
/-! ===== rows for simp: indices and branches by naturals ===== -/
theorem ob_sub1 {a : Nat} (h : 1 ≤ a) : nI a - 1 = nI (a - 1) := pk_sub h
theorem ob_s1 {k : Nat} (h : k < 2 ^ 31) : (nI k < 0) = False := eq_false (nI_pos h)
theorem ob_s2 {k : Nat} (h : k < 2 ^ 31) : (0 ≤ nI k) = True := eq_true (nI_pos' h)
theorem ob_s3 {k : Nat} (h : k < 2 ^ 31) : (nI k).toNatClampNeg = k := nI_clamp h
theorem ob_s4 {k N : Nat} (h : k < N) (hN : N < 2 ^ 31) : vp_in (nI k) N = True := eq_true (vp_in_nI h hN)
theorem ob_ltl {k c : Nat} (hk : k < 2 ^ 31) (hc : c < 2 ^ 31) : (nI k < (no_index (OfNat.ofNat c) : Int32)) = (k < (OfNat.ofNat c : Nat)) := propext (nI_ltI hk hc)
theorem ob_lel {k c : Nat} (hk : k < 2 ^ 31) (hc : c < 2 ^ 31) : (nI k ≤ (no_index (OfNat.ofNat c) : Int32)) = (k ≤ (OfNat.ofNat c : Nat)) := propext (nI_leI hk hc)
theorem ob_ltr {k c : Nat} (hk : k < 2 ^ 31) (hc : c < 2 ^ 31) : ((no_index (OfNat.ofNat c) : Int32) < nI k) = ((OfNat.ofNat c : Nat) < k) := propext (nI_ltI hc hk)
theorem ob_ler {k c : Nat} (hk : k < 2 ^ 31) (hc : c < 2 ^ 31) : ((no_index (OfNat.ofNat c) : Int32) ≤ nI k) = ((OfNat.ofNat c : Nat) ≤ k) := propext (nI_leI hc hk)
theorem ob_eql {k c : Nat} (hk : k < 2 ^ 31) (hc : c < 2 ^ 31) : (nI k = (no_index (OfNat.ofNat c) : Int32)) = (k = (OfNat.ofNat c : Nat)) := propext (nI_eq hk hc)
theorem ob_eqll {a b : Nat} (ha : a < 2 ^ 31) (hb : b < 2 ^ 31) : ((no_index (OfNat.ofNat a) : Int32) = (no_index (OfNat.ofNat b) : Int32)) = ((OfNat.ofNat a : Nat) = (OfNat.ofNat b : Nat)) := propext (nI_eq ha hb)
theorem ob_lnn {a b : Nat} (ha : a < 2 ^ 31) (hb : b < 2 ^ 31) : (nI a ≤ nI b) = (a ≤ b) := propext (nI_leI ha hb)
theorem ob_ltn {a b : Nat} (ha : a < 2 ^ 31) (hb : b < 2 ^ 31) : (nI a < nI b) = (a < b) := propext (nI_ltI ha hb)
theorem ob_eqn {a b : Nat} (ha : a < 2 ^ 31) (hb : b < 2 ^ 31) : (nI a = nI b) = (a = b) := propext (nI_eq ha hb)
theorem ob_uN (F : Nat → Nat) (i x : Nat) : upd (fun zz => nI (F zz)) i (nI x) = fun zz => nI (ob_um F i x zz) := by
  funext j; unfold upd ob_um; split <;> rfl
theorem ob_uN0 (F : Nat → Nat) (i : Nat) : upd (fun zz => nI (F zz)) i 0 = fun zz => nI (ob_um F i 0 zz) := ob_uN F i 0
theorem ob_uN1 (F : Nat → Nat) (i : Nat) : upd (fun zz => nI (F zz)) i 1 = fun zz => nI (ob_um F i 1 zz) := ob_uN F i 1
theorem ob_uN2 (F : Nat → Nat) (i : Nat) : upd (fun zz => nI (F zz)) i 2 = fun zz => nI (ob_um F i 2 zz) := ob_uN F i 2
theorem ob_xs3 : (0 : Int32).toNatClampNeg = 0 := nI_clamp (n := 0) (by decide)
section
variable {n : Nat} {d : Nat} {b : Nat} {m : Nat} {deep : Int32} {res : Int64} {thr : Int32} {thn : Int64} {CL : Nat → Nat} {cStr : Nat → Int32} {cOp : Nat → Int32} {cA : Nat → Int32} {cB : Nat → Int32} {OK : Nat → Nat} {oKin : Nat → Int32} {oOpen : Nat → Int32} {pVal : Nat → Int64} {aOut : Nat → Int32} {aVar : Nat → Int64} {FC : Nat → Nat} {FA : Nat → Nat} {FP : Nat → Nat} {FH : Nat → Nat} {FT : Nat → Nat} {fSelf : Nat → Int64} {stk : Nat → Int64} {TA : Nat → Nat} {TH : Nat → Nat} {xFc : Nat → Int32} {xFs : Nat → Int32} {xPc : Nat → Int32} {xKo : Nat → Int32} {xPk : Nat → Int32} {tw : Nat → Bool} {te : Nat → Bool} {tc : Nat → Bool} {xSet : Nat → Int64} {S : Nat → Nat} {XH : Nat → Nat} {xHeld : Nat → Int64} {xArg : Nat → Int64} {yCo : Nat → Int32} {yAr : Nat → Int32} {M : Nat → Nat} {yPair : Nat → Int32} {ySeen : Nat → Int32} {ySet : Nat → Int64} {yStay : Nat → Int32} {yArg : Nat → Int64} {yHan : Nat → Int32} {yKept : Nat → Int64} {yGiven : Int32}
variable {e : Nat}
/-- pop: both sides take the same value -/
theorem ob_pop (R : ob_R n (e+1) b m res thr thn CL cOp cA cB OK oKin pVal aOut aVar FC FA FP FH FT fSelf stk TA TH xFc xFs xPc xKo xPk tw tc xSet S XH xHeld yCo yAr M yPair ySet yStay yHan yKept) : ∃ r FH', ob_R n (e+1) b m res thr thn CL cOp cA cB OK oKin pVal aOut aVar FC FA FP FH' FT fSelf stk TA TH xFc xFs xPc xKo xPk tw tc xSet S XH xHeld yCo yAr M yPair ySet yStay yHan yKept ∧ ob_V n r ∧ FH' e ≤ 9 ∧
    (∀ post, post r (nI n, nI (e+1), nI b, deep, res, thr, thn, (fun zz => nI (CL zz)), cStr, cOp, cA, cB, (fun zz => nI (OK zz)), oKin, oOpen, xFc, xFs, xPc, xKo, xPk, (fun zz => ob_xa (tw zz) (te zz) (tc zz)), pVal, xSet, (fun zz => nI (S zz)), aOut, aVar, (fun zz => nI (FC zz)), (fun zz => nI (FP zz)), (fun zz => nI (FA zz)), (fun zz => nI (FH' zz)), (fun zz => nI (XH zz)), (fun zz => nI (FT zz)), fSelf, xHeld, stk, (fun zz => nI (TA zz)), (fun zz => nI (TH zz)), xArg) → wpX_pop post (nI n, nI (e+1), nI b, deep, res, thr, thn, (fun zz => nI (CL zz)), cStr, cOp, cA, cB, (fun zz => nI (OK zz)), oKin, oOpen, xFc, xFs, xPc, xKo, xPk, (fun zz => ob_xa (tw zz) (te zz) (tc zz)), pVal, xSet, (fun zz => nI (S zz)), aOut, aVar, (fun zz => nI (FC zz)), (fun zz => nI (FP zz)), (fun zz => nI (FA zz)), (fun zz => nI (FH zz)), (fun zz => nI (XH zz)), (fun zz => nI (FT zz)), fSelf, xHeld, stk, (fun zz => nI (TA zz)), (fun zz => nI (TH zz)), xArg)) ∧
    (∀ post, post r (nI n, nI m, yGiven, nI (e+1), deep, nI b, thr, thn, res, cStr, (fun zz => nI (CL zz)), cOp, cA, cB, (fun zz => nI (OK zz)), oKin, yCo, yAr, oOpen, (fun zz => nI (M zz)), (fun zz => ob_yf (tw zz) (te zz) (tc zz)), yPair, ySeen, pVal, ySet, (fun zz => ob_th (S zz)), yStay, aOut, aVar, yArg, (fun zz => nI (FC zz)), (fun zz => nI (FA zz)), (fun zz => nI (FP zz)), (fun zz => nI (FH' zz)), yHan, (fun zz => nI (FT zz)), (fun zz => nI (TA zz)), (fun zz => nI (TH zz)), fSelf, yKept, stk) → wpY_pop post (nI n, nI m, yGiven, nI (e+1), deep, nI b, thr, thn, res, cStr, (fun zz => nI (CL zz)), cOp, cA, cB, (fun zz => nI (OK zz)), oKin, yCo, yAr, oOpen, (fun zz => nI (M zz)), (fun zz => ob_yf (tw zz) (te zz) (tc zz)), yPair, ySeen, pVal, ySet, (fun zz => ob_th (S zz)), yStay, aOut, aVar, yArg, (fun zz => nI (FC zz)), (fun zz => nI (FA zz)), (fun zz => nI (FP zz)), (fun zz => nI (FH zz)), yHan, (fun zz => nI (FT zz)), (fun zz => nI (TA zz)), (fun zz => nI (TH zz)), fSelf, yKept, stk)) := by
  obtain ⟨hC, hO, hP, hL, hY, hA, hF, hT⟩ := R
  have he : e + 1 ≤ 6 := hF.1
  obtain ⟨f1, f2, f3, f4, f5, f6, f7⟩ := hF.2.1 e (by omega)
  by_cases z : FH e = 0
  · refine ⟨8589934592, FH, ⟨hC, hO, hP, hL, hY, hA, hF, hT⟩, ob_V_U n, by omega, fun post hp => ?_, fun post hp => ?_⟩
    · unfold wpX_pop
      simp (disch := first | omega | decide) only [z, forall_eq, not_true, not_false_iff, false_implies, true_implies, true_and, and_true, ob_sub1, Nat.add_sub_cancel, nI_1, ob_ix, ob_iy, ob_ix24, ob_iy24, ob_ix10, ob_iy10, ob_ix4, ob_iy4, ob_ix3, ob_iy3, ob_s1, ob_s2, ob_s3, ob_s4, ob_ltl, ob_lel, ob_eql, ob_ltr, ob_ler, ob_uN, Nat.add_one_ne_zero, ob_xs3, ob_lnn, ob_ltn, ob_eqn, Nat.not_lt_zero, Nat.zero_le, Nat.reduceEqDiff, Nat.reduceLeDiff, Nat.reduceLT, ob_eqll, Int32.reduceLT, Int32.reduceLE, eq_self_iff_true]
      exact hp
    · unfold wpY_pop
      simp (disch := first | omega | decide) only [z, forall_eq, not_true, not_false_iff, false_implies, true_implies, true_and, and_true, ob_sub1, Nat.add_sub_cancel, nI_1, ob_ix, ob_iy, ob_ix24, ob_iy24, ob_ix10, ob_iy10, ob_ix4, ob_iy4, ob_ix3, ob_iy3, ob_s1, ob_s2, ob_s3, ob_s4, ob_ltl, ob_lel, ob_eql, ob_ltr, ob_ler, ob_uN, Nat.add_one_ne_zero, ob_xs3, ob_lnn, ob_ltn, ob_eqn, Nat.not_lt_zero, Nat.zero_le, Nat.reduceEqDiff, Nat.reduceLeDiff, Nat.reduceLT, ob_eqll, Int32.reduceLT, Int32.reduceLE, eq_self_iff_true]
      exact hp
  · refine ⟨stk (10 * e + (FH e - 1)), ob_um FH e (FH e - 1), ⟨hC, hO, hP, hL, hY, hA, ob_gF_pop hF (by omega), hT⟩, f6 _ (by omega), by rw [ob_um_s]; omega, fun post hp => ?_, fun post hp => ?_⟩
    · unfold wpX_pop
      simp (disch := first | omega | decide) only [z, ob_um_s, forall_eq, not_true, not_false_iff, false_implies, true_implies, true_and, and_true, ob_sub1, Nat.add_sub_cancel, nI_1, ob_ix, ob_iy, ob_ix24, ob_iy24, ob_ix10, ob_iy10, ob_ix4, ob_iy4, ob_ix3, ob_iy3, ob_s1, ob_s2, ob_s3, ob_s4, ob_ltl, ob_lel, ob_eql, ob_ltr, ob_ler, ob_uN, Nat.add_one_ne_zero, ob_xs3, ob_lnn, ob_ltn, ob_eqn, Nat.not_lt_zero, Nat.zero_le, Nat.reduceEqDiff, Nat.reduceLeDiff, Nat.reduceLT, ob_eqll, Int32.reduceLT, Int32.reduceLE, eq_self_iff_true]
      exact hp
    · unfold wpY_pop
      simp (disch := first | omega | decide) only [z, ob_um_s, forall_eq, not_true, not_false_iff, false_implies, true_implies, true_and, and_true, ob_sub1, Nat.add_sub_cancel, nI_1, ob_ix, ob_iy, ob_ix24, ob_iy24, ob_ix10, ob_iy10, ob_ix4, ob_iy4, ob_ix3, ob_iy3, ob_s1, ob_s2, ob_s3, ob_s4, ob_ltl, ob_lel, ob_eql, ob_ltr, ob_ler, ob_uN, Nat.add_one_ne_zero, ob_xs3, ob_lnn, ob_ltn, ob_eqn, Nat.not_lt_zero, Nat.zero_le, Nat.reduceEqDiff, Nat.reduceLeDiff, Nat.reduceLT, ob_eqll, Int32.reduceLT, Int32.reduceLE, eq_self_iff_true]
      exact hp
/-- push with room -/
theorem ob_push1 {v : Int64} (R : ob_R n (e+1) b m res thr thn CL cOp cA cB OK oKin pVal aOut aVar FC FA FP FH FT fSelf stk TA TH xFc xFs xPc xKo xPk tw tc xSet S XH xHeld yCo yAr M yPair ySet yStay yHan yKept) (hv : ob_V n v) (hr : FH e < 10) :
    ob_R n (e+1) b m res thr thn CL cOp cA cB OK oKin pVal aOut aVar FC FA FP (ob_um FH e (FH e + 1)) FT fSelf (vp_updL stk (10 * e + FH e) v) TA TH xFc xFs xPc xKo xPk tw tc xSet S XH xHeld yCo yAr M yPair ySet yStay yHan yKept ∧
    (∀ post, post (nI n, nI (e+1), nI b, deep, res, thr, thn, (fun zz => nI (CL zz)), cStr, cOp, cA, cB, (fun zz => nI (OK zz)), oKin, oOpen, xFc, xFs, xPc, xKo, xPk, (fun zz => ob_xa (tw zz) (te zz) (tc zz)), pVal, xSet, (fun zz => nI (S zz)), aOut, aVar, (fun zz => nI (FC zz)), (fun zz => nI (FP zz)), (fun zz => nI (FA zz)), (fun zz => nI ((ob_um FH e (FH e + 1)) zz)), (fun zz => nI (XH zz)), (fun zz => nI (FT zz)), fSelf, xHeld, (vp_updL stk (10 * e + FH e) v), (fun zz => nI (TA zz)), (fun zz => nI (TH zz)), xArg) → wpX_push post (nI n, nI (e+1), nI b, deep, res, thr, thn, (fun zz => nI (CL zz)), cStr, cOp, cA, cB, (fun zz => nI (OK zz)), oKin, oOpen, xFc, xFs, xPc, xKo, xPk, (fun zz => ob_xa (tw zz) (te zz) (tc zz)), pVal, xSet, (fun zz => nI (S zz)), aOut, aVar, (fun zz => nI (FC zz)), (fun zz => nI (FP zz)), (fun zz => nI (FA zz)), (fun zz => nI (FH zz)), (fun zz => nI (XH zz)), (fun zz => nI (FT zz)), fSelf, xHeld, stk, (fun zz => nI (TA zz)), (fun zz => nI (TH zz)), xArg) v) ∧
    (∀ post, post (nI n, nI m, yGiven, nI (e+1), deep, nI b, thr, thn, res, cStr, (fun zz => nI (CL zz)), cOp, cA, cB, (fun zz => nI (OK zz)), oKin, yCo, yAr, oOpen, (fun zz => nI (M zz)), (fun zz => ob_yf (tw zz) (te zz) (tc zz)), yPair, ySeen, pVal, ySet, (fun zz => ob_th (S zz)), yStay, aOut, aVar, yArg, (fun zz => nI (FC zz)), (fun zz => nI (FA zz)), (fun zz => nI (FP zz)), (fun zz => nI ((ob_um FH e (FH e + 1)) zz)), yHan, (fun zz => nI (FT zz)), (fun zz => nI (TA zz)), (fun zz => nI (TH zz)), fSelf, yKept, (vp_updL stk (10 * e + FH e) v)) → wpY_give post (nI n, nI m, yGiven, nI (e+1), deep, nI b, thr, thn, res, cStr, (fun zz => nI (CL zz)), cOp, cA, cB, (fun zz => nI (OK zz)), oKin, yCo, yAr, oOpen, (fun zz => nI (M zz)), (fun zz => ob_yf (tw zz) (te zz) (tc zz)), yPair, ySeen, pVal, ySet, (fun zz => ob_th (S zz)), yStay, aOut, aVar, yArg, (fun zz => nI (FC zz)), (fun zz => nI (FA zz)), (fun zz => nI (FP zz)), (fun zz => nI (FH zz)), yHan, (fun zz => nI (FT zz)), (fun zz => nI (TA zz)), (fun zz => nI (TH zz)), fSelf, yKept, stk) v) := by
  obtain ⟨hC, hO, hP, hL, hY, hA, hF, hT⟩ := R
  have he : e + 1 ≤ 6 := hF.1
  refine ⟨⟨hC, hO, hP, hL, hY, hA, ob_gF_push hF hv hr, hT⟩, fun post hp => ?_, fun post hp => ?_⟩
  · unfold wpX_push
    simp (disch := first | omega | decide) only [hr, forall_eq, not_true, not_false_iff, false_implies, true_implies, true_and, and_true, ob_sub1, Nat.add_sub_cancel, nI_1, ob_ix, ob_iy, ob_ix24, ob_iy24, ob_ix10, ob_iy10, ob_ix4, ob_iy4, ob_ix3, ob_iy3, ob_s1, ob_s2, ob_s3, ob_s4, ob_ltl, ob_lel, ob_eql, ob_ltr, ob_ler, ob_uN, Nat.add_one_ne_zero, ob_xs3, ob_lnn, ob_ltn, ob_eqn, Nat.not_lt_zero, Nat.zero_le, Nat.reduceEqDiff, Nat.reduceLeDiff, Nat.reduceLT, ob_eqll, Int32.reduceLT, Int32.reduceLE, eq_self_iff_true]
    exact hp
  · have hr' : ¬ FH e = 10 := by omega
    unfold wpY_give
    simp (disch := first | omega | decide) only [hr', forall_eq, not_true, not_false_iff, false_implies, true_implies, true_and, and_true, ob_sub1, Nat.add_sub_cancel, nI_1, ob_ix, ob_iy, ob_ix24, ob_iy24, ob_ix10, ob_iy10, ob_ix4, ob_iy4, ob_ix3, ob_iy3, ob_s1, ob_s2, ob_s3, ob_s4, ob_ltl, ob_lel, ob_eql, ob_ltr, ob_ler, ob_uN, Nat.add_one_ne_zero, ob_xs3, ob_lnn, ob_ltn, ob_eqn, Nat.not_lt_zero, Nat.zero_le, Nat.reduceEqDiff, Nat.reduceLeDiff, Nat.reduceLT, ob_eqll, Int32.reduceLT, Int32.reduceLE, eq_self_iff_true]
    exact hp
/-- push: onto the stack, to the outside, or RANGE -/
theorem ob_push {v : Int64} (R : ob_R n d b m res thr thn CL cOp cA cB OK oKin pVal aOut aVar FC FA FP FH FT fSelf stk TA TH xFc xFs xPc xKo xPk tw tc xSet S XH xHeld yCo yAr M yPair ySet yStay yHan yKept) (hv : ob_V n v) : ∃ res' thr' thn' FH' stk', ob_R n d b m res' thr' thn' CL cOp cA cB OK oKin pVal aOut aVar FC FA FP FH' FT fSelf stk' TA TH xFc xFs xPc xKo xPk tw tc xSet S XH xHeld yCo yAr M yPair ySet yStay yHan yKept ∧
    (∀ post, post (nI n, nI d, nI b, deep, res', thr', thn', (fun zz => nI (CL zz)), cStr, cOp, cA, cB, (fun zz => nI (OK zz)), oKin, oOpen, xFc, xFs, xPc, xKo, xPk, (fun zz => ob_xa (tw zz) (te zz) (tc zz)), pVal, xSet, (fun zz => nI (S zz)), aOut, aVar, (fun zz => nI (FC zz)), (fun zz => nI (FP zz)), (fun zz => nI (FA zz)), (fun zz => nI (FH' zz)), (fun zz => nI (XH zz)), (fun zz => nI (FT zz)), fSelf, xHeld, stk', (fun zz => nI (TA zz)), (fun zz => nI (TH zz)), xArg) → wpX_push post (nI n, nI d, nI b, deep, res, thr, thn, (fun zz => nI (CL zz)), cStr, cOp, cA, cB, (fun zz => nI (OK zz)), oKin, oOpen, xFc, xFs, xPc, xKo, xPk, (fun zz => ob_xa (tw zz) (te zz) (tc zz)), pVal, xSet, (fun zz => nI (S zz)), aOut, aVar, (fun zz => nI (FC zz)), (fun zz => nI (FP zz)), (fun zz => nI (FA zz)), (fun zz => nI (FH zz)), (fun zz => nI (XH zz)), (fun zz => nI (FT zz)), fSelf, xHeld, stk, (fun zz => nI (TA zz)), (fun zz => nI (TH zz)), xArg) v) ∧
    (∀ post, post (nI n, nI m, yGiven, nI d, deep, nI b, thr', thn', res', cStr, (fun zz => nI (CL zz)), cOp, cA, cB, (fun zz => nI (OK zz)), oKin, yCo, yAr, oOpen, (fun zz => nI (M zz)), (fun zz => ob_yf (tw zz) (te zz) (tc zz)), yPair, ySeen, pVal, ySet, (fun zz => ob_th (S zz)), yStay, aOut, aVar, yArg, (fun zz => nI (FC zz)), (fun zz => nI (FA zz)), (fun zz => nI (FP zz)), (fun zz => nI (FH' zz)), yHan, (fun zz => nI (FT zz)), (fun zz => nI (TA zz)), (fun zz => nI (TH zz)), fSelf, yKept, stk') → wpY_give post (nI n, nI m, yGiven, nI d, deep, nI b, thr, thn, res, cStr, (fun zz => nI (CL zz)), cOp, cA, cB, (fun zz => nI (OK zz)), oKin, yCo, yAr, oOpen, (fun zz => nI (M zz)), (fun zz => ob_yf (tw zz) (te zz) (tc zz)), yPair, ySeen, pVal, ySet, (fun zz => ob_th (S zz)), yStay, aOut, aVar, yArg, (fun zz => nI (FC zz)), (fun zz => nI (FA zz)), (fun zz => nI (FP zz)), (fun zz => nI (FH zz)), yHan, (fun zz => nI (FT zz)), (fun zz => nI (TA zz)), (fun zz => nI (TH zz)), fSelf, yKept, stk) v) := by
  cases d with
  | zero =>
    obtain ⟨hC, hO, hP, hL, hY, hA, hF, hT⟩ := R
    refine ⟨v, thr, thn, FH, stk, ⟨hC, hO, hP, hL, hY, hA, hF, hT.1, hT.2.1, fun h => absurd rfl h⟩, fun post hp => ?_, fun post hp => ?_⟩
    · have h0 : ¬ (0 : Int32) ≤ nI 0 - 1 := by decide
      unfold wpX_push
      simp (disch := first | omega | decide) only [h0, forall_eq, not_true, not_false_iff, false_implies, true_implies, true_and, and_true, ob_sub1, Nat.add_sub_cancel, nI_1, ob_ix, ob_iy, ob_ix24, ob_iy24, ob_ix10, ob_iy10, ob_ix4, ob_iy4, ob_ix3, ob_iy3, ob_s1, ob_s2, ob_s3, ob_s4, ob_ltl, ob_lel, ob_eql, ob_ltr, ob_ler, ob_uN, Nat.add_one_ne_zero, ob_xs3, ob_lnn, ob_ltn, ob_eqn, Nat.not_lt_zero, Nat.zero_le, Nat.reduceEqDiff, Nat.reduceLeDiff, Nat.reduceLT, ob_eqll, Int32.reduceLT, Int32.reduceLE, eq_self_iff_true]
      exact hp
    · have h0 : nI 0 = 0 := rfl
      unfold wpY_give
      simp (disch := first | omega | decide) only [h0, forall_eq, not_true, not_false_iff, false_implies, true_implies, true_and, and_true, ob_sub1, Nat.add_sub_cancel, nI_1, ob_ix, ob_iy, ob_ix24, ob_iy24, ob_ix10, ob_iy10, ob_ix4, ob_iy4, ob_ix3, ob_iy3, ob_s1, ob_s2, ob_s3, ob_s4, ob_ltl, ob_lel, ob_eql, ob_ltr, ob_ler, ob_uN, Nat.add_one_ne_zero, ob_xs3, ob_lnn, ob_ltn, ob_eqn, Nat.not_lt_zero, Nat.zero_le, Nat.reduceEqDiff, Nat.reduceLeDiff, Nat.reduceLT, ob_eqll, Int32.reduceLT, Int32.reduceLE, eq_self_iff_true]
      exact hp
  | succ e =>
    by_cases hr : FH e < 10
    · obtain ⟨R', hX, hY⟩ := ob_push1 R hv hr
      exact ⟨_, _, _, _, _, R', hX, hY⟩
    · obtain ⟨hC, hO, hP, hL, hY, hA, hF, hT⟩ := R
      have he : e + 1 ≤ 6 := hF.1
      have h10 : FH e = 10 := by
        have := (hF.2.1 e (by omega)).2.2.2.2.1
        omega
      refine ⟨res, 1, 8589934597, FH, stk, ⟨hC, hO, hP, hL, hY, hA, hF, hT.1, Or.inr ⟨rfl, ob_V_Ra n⟩, hT.2.2⟩, fun post hp => ?_, fun post hp => ?_⟩
      · unfold wpX_push
        simp (disch := first | omega | decide) only [hr, forall_eq, not_true, not_false_iff, false_implies, true_implies, true_and, and_true, ob_sub1, Nat.add_sub_cancel, nI_1, ob_ix, ob_iy, ob_ix24, ob_iy24, ob_ix10, ob_iy10, ob_ix4, ob_iy4, ob_ix3, ob_iy3, ob_s1, ob_s2, ob_s3, ob_s4, ob_ltl, ob_lel, ob_eql, ob_ltr, ob_ler, ob_uN, Nat.add_one_ne_zero, ob_xs3, ob_lnn, ob_ltn, ob_eqn, Nat.not_lt_zero, Nat.zero_le, Nat.reduceEqDiff, Nat.reduceLeDiff, Nat.reduceLT, ob_eqll, Int32.reduceLT, Int32.reduceLE, eq_self_iff_true]
        exact hp
      · unfold wpY_give wpY_fling
        simp (disch := first | omega | decide) only [h10, forall_eq, not_true, not_false_iff, false_implies, true_implies, true_and, and_true, ob_sub1, Nat.add_sub_cancel, nI_1, ob_ix, ob_iy, ob_ix24, ob_iy24, ob_ix10, ob_iy10, ob_ix4, ob_iy4, ob_ix3, ob_iy3, ob_s1, ob_s2, ob_s3, ob_s4, ob_ltl, ob_lel, ob_eql, ob_ltr, ob_ler, ob_uN, Nat.add_one_ne_zero, ob_xs3, ob_lnn, ob_ltn, ob_eqn, Nat.not_lt_zero, Nat.zero_le, Nat.reduceEqDiff, Nat.reduceLeDiff, Nat.reduceLT, ob_eqll, Int32.reduceLT, Int32.reduceLE, eq_self_iff_true]
        exact hp
theorem ob_raise {v : Int64} (R : ob_R n d b m res thr thn CL cOp cA cB OK oKin pVal aOut aVar FC FA FP FH FT fSelf stk TA TH xFc xFs xPc xKo xPk tw tc xSet S XH xHeld yCo yAr M yPair ySet yStay yHan yKept) (hv : ob_V n v) : ob_R n d b m res 1 v CL cOp cA cB OK oKin pVal aOut aVar FC FA FP FH FT fSelf stk TA TH xFc xFs xPc xKo xPk tw tc xSet S XH xHeld yCo yAr M yPair ySet yStay yHan yKept := by
  obtain ⟨hC, hO, hP, hL, hY, hA, hF, hT⟩ := R
  exact ⟨hC, hO, hP, hL, hY, hA, hF, hT.1, Or.inr ⟨rfl, hv⟩, hT.2.2⟩
end
end
section
/-! ===== frames: leave, finish, land ===== -/
theorem ob_um_i {F : Nat → Nat} {i x : Nat} (h : F i = x) : ob_um F i x = F := by
  funext j; unfold ob_um; split
  · rename_i e; rw [e, h]
  · rfl
theorem ob_uT (F : Nat → Nat) (i x : Nat) : upd (fun zz => ob_th (F zz)) i (ob_th x) = fun zz => ob_th (ob_um F i x zz) := by
  funext j; unfold upd ob_um; split <;> rfl
theorem ob_nar0 : vp_nar .boolean 0 = 0 := rfl
theorem ob_nar1 : vp_nar .boolean 1 = 1 := rfl
/-- the state of an activation behind its frame -/
def ob_lv (s : Nat) : Nat := if s = 2 then 2 else 0
theorem ob_narS {s : Nat} (h : s = 1 ∨ s = 2) : vp_nar .boolean (nI (s - 1)) = ob_th (ob_lv s) := by
  rcases h with rfl | rfl <;> rfl
section
variable {n : Nat} {d : Nat} {b : Nat} {m : Nat} {deep : Int32} {res : Int64} {thr : Int32} {thn : Int64} {CL : Nat → Nat} {cStr : Nat → Int32} {cOp : Nat → Int32} {cA : Nat → Int32} {cB : Nat → Int32} {OK : Nat → Nat} {oKin : Nat → Int32} {oOpen : Nat → Int32} {pVal : Nat → Int64} {aOut : Nat → Int32} {aVar : Nat → Int64} {FC : Nat → Nat} {FA : Nat → Nat} {FP : Nat → Nat} {FH : Nat → Nat} {FT : Nat → Nat} {fSelf : Nat → Int64} {stk : Nat → Int64} {TA : Nat → Nat} {TH : Nat → Nat} {xFc : Nat → Int32} {xFs : Nat → Int32} {xPc : Nat → Int32} {xKo : Nat → Int32} {xPk : Nat → Int32} {tw : Nat → Bool} {te : Nat → Bool} {tc : Nat → Bool} {xSet : Nat → Int64} {S : Nat → Nat} {XH : Nat → Nat} {xHeld : Nat → Int64} {xArg : Nat → Int64} {yCo : Nat → Int32} {yAr : Nat → Int32} {M : Nat → Nat} {yPair : Nat → Int32} {ySeen : Nat → Int32} {ySet : Nat → Int64} {yStay : Nat → Int32} {yArg : Nat → Int64} {yHan : Nat → Int32} {yKept : Nat → Int64} {yGiven : Int32}
variable {e : Nat}
theorem ob_leaveX (he : e < 6) (ha : FA e < 24) (hS : S (FA e) = 1 ∨ S (FA e) = 2) (post : SX → Prop) (hp : post (nI n, nI e, nI b, deep, res, thr, thn, (fun zz => nI (CL zz)), cStr, cOp, cA, cB, (fun zz => nI (OK zz)), oKin, oOpen, xFc, xFs, xPc, xKo, xPk, (fun zz => ob_xa (tw zz) (te zz) (tc zz)), pVal, xSet, (fun zz => nI ((ob_um S (FA e) (ob_lv (S (FA e)))) zz)), aOut, aVar, (fun zz => nI (FC zz)), (fun zz => nI (FP zz)), (fun zz => nI (FA zz)), (fun zz => nI (FH zz)), (fun zz => nI (XH zz)), (fun zz => nI (FT zz)), fSelf, xHeld, stk, (fun zz => nI (TA zz)), (fun zz => nI (TH zz)), xArg)) : wpX_leaveFrame post (nI n, nI (e+1), nI b, deep, res, thr, thn, (fun zz => nI (CL zz)), cStr, cOp, cA, cB, (fun zz => nI (OK zz)), oKin, oOpen, xFc, xFs, xPc, xKo, xPk, (fun zz => ob_xa (tw zz) (te zz) (tc zz)), pVal, xSet, (fun zz => nI (S zz)), aOut, aVar, (fun zz => nI (FC zz)), (fun zz => nI (FP zz)), (fun zz => nI (FA zz)), (fun zz => nI (FH zz)), (fun zz => nI (XH zz)), (fun zz => nI (FT zz)), fSelf, xHeld, stk, (fun zz => nI (TA zz)), (fun zz => nI (TH zz)), xArg) := by
  unfold wpX_leaveFrame
  rcases hS with h | h
  · rw [h, show ob_lv 1 = 0 from rfl] at hp
    simp (disch := first | omega | decide) only [h, ob_uN0, forall_eq, not_true, not_false_iff, false_implies, true_implies, true_and, and_true, ob_sub1, Nat.add_sub_cancel, nI_1, ob_ix, ob_iy, ob_ix24, ob_iy24, ob_ix10, ob_iy10, ob_ix4, ob_iy4, ob_ix3, ob_iy3, ob_s1, ob_s2, ob_s3, ob_s4, ob_ltl, ob_lel, ob_eql, ob_ltr, ob_ler, ob_uN, Nat.add_one_ne_zero, ob_xs3, ob_lnn, ob_ltn, ob_eqn, Nat.not_lt_zero, Nat.zero_le, Nat.reduceEqDiff, Nat.reduceLeDiff, Nat.reduceLT, ob_eqll, Int32.reduceLT, Int32.reduceLE, eq_self_iff_true]
    exact hp
  · rw [h, show ob_lv 2 = 2 from rfl, ob_um_i h] at hp
    have h1 : ¬ (2 = 1) := by decide
    simp (disch := first | omega | decide) only [h, h1, forall_eq, not_true, not_false_iff, false_implies, true_implies, true_and, and_true, ob_sub1, Nat.add_sub_cancel, nI_1, ob_ix, ob_iy, ob_ix24, ob_iy24, ob_ix10, ob_iy10, ob_ix4, ob_iy4, ob_ix3, ob_iy3, ob_s1, ob_s2, ob_s3, ob_s4, ob_ltl, ob_lel, ob_eql, ob_ltr, ob_ler, ob_uN, Nat.add_one_ne_zero, ob_xs3, ob_lnn, ob_ltn, ob_eqn, Nat.not_lt_zero, Nat.zero_le, Nat.reduceEqDiff, Nat.reduceLeDiff, Nat.reduceLT, ob_eqll, Int32.reduceLT, Int32.reduceLE, eq_self_iff_true]
    exact hp
theorem ob_leaveY (he : e < 6) (ha : FA e < 24) (hS : S (FA e) = 1 ∨ S (FA e) = 2) (hs : yStay (FA e) = nI (S (FA e) - 1)) (post : SY → Prop) (hp : post (nI n, nI m, yGiven, nI e, deep, nI b, thr, thn, res, cStr, (fun zz => nI (CL zz)), cOp, cA, cB, (fun zz => nI (OK zz)), oKin, yCo, yAr, oOpen, (fun zz => nI (M zz)), (fun zz => ob_yf (tw zz) (te zz) (tc zz)), yPair, ySeen, pVal, ySet, (fun zz => ob_th ((ob_um S (FA e) (ob_lv (S (FA e)))) zz)), yStay, aOut, aVar, yArg, (fun zz => nI (FC zz)), (fun zz => nI (FA zz)), (fun zz => nI (FP zz)), (fun zz => nI (FH zz)), yHan, (fun zz => nI (FT zz)), (fun zz => nI (TA zz)), (fun zz => nI (TH zz)), fSelf, yKept, stk)) : wpY_leave post (nI n, nI m, yGiven, nI (e+1), deep, nI b, thr, thn, res, cStr, (fun zz => nI (CL zz)), cOp, cA, cB, (fun zz => nI (OK zz)), oKin, yCo, yAr, oOpen, (fun zz => nI (M zz)), (fun zz => ob_yf (tw zz) (te zz) (tc zz)), yPair, ySeen, pVal, ySet, (fun zz => ob_th (S zz)), yStay, aOut, aVar, yArg, (fun zz => nI (FC zz)), (fun zz => nI (FA zz)), (fun zz => nI (FP zz)), (fun zz => nI (FH zz)), yHan, (fun zz => nI (FT zz)), (fun zz => nI (TA zz)), (fun zz => nI (TH zz)), fSelf, yKept, stk) := by
  unfold wpY_leave
  simp (disch := first | omega | decide) only [hs, ob_narS hS, ob_uT, forall_eq, not_true, not_false_iff, false_implies, true_implies, true_and, and_true, ob_sub1, Nat.add_sub_cancel, nI_1, ob_ix, ob_iy, ob_ix24, ob_iy24, ob_ix10, ob_iy10, ob_ix4, ob_iy4, ob_ix3, ob_iy3, ob_s1, ob_s2, ob_s3, ob_s4, ob_ltl, ob_lel, ob_eql, ob_ltr, ob_ler, ob_uN, Nat.add_one_ne_zero, ob_xs3, ob_lnn, ob_ltn, ob_eqn, Nat.not_lt_zero, Nat.zero_le, Nat.reduceEqDiff, Nat.reduceLeDiff, Nat.reduceLT, ob_eqll, Int32.reduceLT, Int32.reduceLE, eq_self_iff_true]
  exact hp
theorem ob_actS (R : ob_R n (e+1) b m res thr thn CL cOp cA cB OK oKin pVal aOut aVar FC FA FP FH FT fSelf stk TA TH xFc xFs xPc xKo xPk tw tc xSet S XH xHeld yCo yAr M yPair ySet yStay yHan yKept) : e < 6 ∧ FA e < 24 ∧ (S (FA e) = 1 ∨ S (FA e) = 2) ∧ yStay (FA e) = nI (S (FA e) - 1) := by
  obtain ⟨hC, hO, hP, hL, hY, hA, hF, hT⟩ := R
  have he : e + 1 ≤ 6 := hF.1
  obtain ⟨f1, f2, f3, f4⟩ := hF.2.1 e (by omega)
  obtain ⟨a1, a2⟩ := hA.2 (FA e) f2
  exact ⟨by omega, f2, by omega, (a2 f3).1⟩
theorem ob_leaveR (R : ob_R n (e+1) b m res thr thn CL cOp cA cB OK oKin pVal aOut aVar FC FA FP FH FT fSelf stk TA TH xFc xFs xPc xKo xPk tw tc xSet S XH xHeld yCo yAr M yPair ySet yStay yHan yKept) : ob_R n e b m res thr thn CL cOp cA cB OK oKin pVal aOut aVar FC FA FP FH FT fSelf stk TA TH xFc xFs xPc xKo xPk tw tc xSet (ob_um S (FA e) (ob_lv (S (FA e)))) XH xHeld yCo yAr M yPair ySet yStay yHan yKept := by
  obtain ⟨hC, hO, hP, hL, hY, hA, hF, hT⟩ := R
  exact ⟨hC, hO, hP, hL, hY, ob_gA_leave hA, ob_gF_leave hF, hT.1, hT.2.1, fun _ => hT.2.2 (Nat.succ_ne_zero e)⟩
/-- the component's view of a value: an object of it, or none -/
theorem ob_objN {v : Int64} (h : v < 17179869184) (post : Int32 → Prop) (hp : post (-1)) : wpX_objectOf post (nI n, nI d, nI b, deep, res, thr, thn, (fun zz => nI (CL zz)), cStr, cOp, cA, cB, (fun zz => nI (OK zz)), oKin, oOpen, xFc, xFs, xPc, xKo, xPk, (fun zz => ob_xa (tw zz) (te zz) (tc zz)), pVal, xSet, (fun zz => nI (S zz)), aOut, aVar, (fun zz => nI (FC zz)), (fun zz => nI (FP zz)), (fun zz => nI (FA zz)), (fun zz => nI (FH zz)), (fun zz => nI (XH zz)), (fun zz => nI (FT zz)), fSelf, xHeld, stk, (fun zz => nI (TA zz)), (fun zz => nI (TH zz)), xArg) v := br_t h hp
theorem ob_objO {o : Nat} (hn : n ≤ 32) (ho : o < n) (post : Int32 → Prop) (hp : post (nI o)) : wpX_objectOf post (nI n, nI d, nI b, deep, res, thr, thn, (fun zz => nI (CL zz)), cStr, cOp, cA, cB, (fun zz => nI (OK zz)), oKin, oOpen, xFc, xFs, xPc, xKo, xPk, (fun zz => ob_xa (tw zz) (te zz) (tc zz)), pVal, xSet, (fun zz => nI (S zz)), aOut, aVar, (fun zz => nI (FC zz)), (fun zz => nI (FP zz)), (fun zz => nI (FA zz)), (fun zz => nI (FH zz)), (fun zz => nI (XH zz)), (fun zz => nI (FT zz)), fSelf, xHeld, stk, (fun zz => nI (TA zz)), (fun zz => nI (TH zz)), xArg) (lN (17179869184 + o)) := by
  refine br_f (ob_obj_nlt o (by omega)) (br_t (ob_obj_lt ho (by omega)) ?_)
  rw [ob_numb]
  exact hp
theorem ob_isoT (o : Nat) (h : o < 32) (post : Int32 → Prop) (hp : post 1) : wpY_isObject post (lN (17179869184 + o)) := br_f (ob_obj_nlt o (by omega)) hp
theorem ob_isoF {v : Int64} (h : v < 17179869184) (post : Int32 → Prop) (hp : post 0) : wpY_isObject post v := br_t h hp
theorem ob_finish {v : Int64} (R : ob_R n (e+1) b m res thr thn CL cOp cA cB OK oKin pVal aOut aVar FC FA FP FH FT fSelf stk TA TH xFc xFs xPc xKo xPk tw tc xSet S XH xHeld yCo yAr M yPair ySet yStay yHan yKept) (hv : ob_V n v) : ∃ S' res' thr' thn' FH' stk', ob_R n e b m res' thr' thn' CL cOp cA cB OK oKin pVal aOut aVar FC FA FP FH' FT fSelf stk' TA TH xFc xFs xPc xKo xPk tw tc xSet S' XH xHeld yCo yAr M yPair ySet yStay yHan yKept ∧
    (∀ post, post (nI n, nI e, nI b, deep, res', thr', thn', (fun zz => nI (CL zz)), cStr, cOp, cA, cB, (fun zz => nI (OK zz)), oKin, oOpen, xFc, xFs, xPc, xKo, xPk, (fun zz => ob_xa (tw zz) (te zz) (tc zz)), pVal, xSet, (fun zz => nI (S' zz)), aOut, aVar, (fun zz => nI (FC zz)), (fun zz => nI (FP zz)), (fun zz => nI (FA zz)), (fun zz => nI (FH' zz)), (fun zz => nI (XH zz)), (fun zz => nI (FT zz)), fSelf, xHeld, stk', (fun zz => nI (TA zz)), (fun zz => nI (TH zz)), xArg) → wpX_endFrame post (nI n, nI (e+1), nI b, deep, res, thr, thn, (fun zz => nI (CL zz)), cStr, cOp, cA, cB, (fun zz => nI (OK zz)), oKin, oOpen, xFc, xFs, xPc, xKo, xPk, (fun zz => ob_xa (tw zz) (te zz) (tc zz)), pVal, xSet, (fun zz => nI (S zz)), aOut, aVar, (fun zz => nI (FC zz)), (fun zz => nI (FP zz)), (fun zz => nI (FA zz)), (fun zz => nI (FH zz)), (fun zz => nI (XH zz)), (fun zz => nI (FT zz)), fSelf, xHeld, stk, (fun zz => nI (TA zz)), (fun zz => nI (TH zz)), xArg) v) ∧
    (∀ post, post (nI n, nI m, yGiven, nI e, deep, nI b, thr', thn', res', cStr, (fun zz => nI (CL zz)), cOp, cA, cB, (fun zz => nI (OK zz)), oKin, yCo, yAr, oOpen, (fun zz => nI (M zz)), (fun zz => ob_yf (tw zz) (te zz) (tc zz)), yPair, ySeen, pVal, ySet, (fun zz => ob_th (S' zz)), yStay, aOut, aVar, yArg, (fun zz => nI (FC zz)), (fun zz => nI (FA zz)), (fun zz => nI (FP zz)), (fun zz => nI (FH' zz)), yHan, (fun zz => nI (FT zz)), (fun zz => nI (TA zz)), (fun zz => nI (TH zz)), fSelf, yKept, stk') → wpY_finish post (nI n, nI m, yGiven, nI (e+1), deep, nI b, thr, thn, res, cStr, (fun zz => nI (CL zz)), cOp, cA, cB, (fun zz => nI (OK zz)), oKin, yCo, yAr, oOpen, (fun zz => nI (M zz)), (fun zz => ob_yf (tw zz) (te zz) (tc zz)), yPair, ySeen, pVal, ySet, (fun zz => ob_th (S zz)), yStay, aOut, aVar, yArg, (fun zz => nI (FC zz)), (fun zz => nI (FA zz)), (fun zz => nI (FP zz)), (fun zz => nI (FH zz)), yHan, (fun zz => nI (FT zz)), (fun zz => nI (TA zz)), (fun zz => nI (TH zz)), fSelf, yKept, stk) v) := by
  obtain ⟨he, ha, hS, hs⟩ := ob_actS R
  have hn := R.2.1.1.2
  obtain ⟨f1, f2, f3, f4, f5, f6, f7, f8, f9, f10, f11, f12⟩ := R.2.2.2.2.2.2.1.2.1 e (by omega)
  have R1 := ob_leaveR R
  have hfin : ∀ w : Int64, ob_V n w → (∀ post, wX_endFrame_61 post w (nI n) (nI (e+1)) (nI b) deep res thr thn (fun zz => nI (CL zz)) cStr cOp cA cB (fun zz => nI (OK zz)) oKin oOpen xFc xFs xPc xKo xPk (fun zz => ob_xa (tw zz) (te zz) (tc zz)) pVal xSet (fun zz => nI (S zz)) aOut aVar (fun zz => nI (FC zz)) (fun zz => nI (FP zz)) (fun zz => nI (FA zz)) (fun zz => nI (FH zz)) (fun zz => nI (XH zz)) (fun zz => nI (FT zz)) fSelf xHeld stk (fun zz => nI (TA zz)) (fun zz => nI (TH zz)) xArg → wpX_endFrame post (nI n, nI (e+1), nI b, deep, res, thr, thn, (fun zz => nI (CL zz)), cStr, cOp, cA, cB, (fun zz => nI (OK zz)), oKin, oOpen, xFc, xFs, xPc, xKo, xPk, (fun zz => ob_xa (tw zz) (te zz) (tc zz)), pVal, xSet, (fun zz => nI (S zz)), aOut, aVar, (fun zz => nI (FC zz)), (fun zz => nI (FP zz)), (fun zz => nI (FA zz)), (fun zz => nI (FH zz)), (fun zz => nI (XH zz)), (fun zz => nI (FT zz)), fSelf, xHeld, stk, (fun zz => nI (TA zz)), (fun zz => nI (TH zz)), xArg) v) →
      (∀ post, wY_finish_50 post w (nI n) (nI m) yGiven (nI e) deep (nI b) thr thn res cStr (fun zz => nI (CL zz)) cOp cA cB (fun zz => nI (OK zz)) oKin yCo yAr oOpen (fun zz => nI (M zz)) (fun zz => ob_yf (tw zz) (te zz) (tc zz)) yPair ySeen pVal ySet (fun zz => ob_th ((ob_um S (FA e) (ob_lv (S (FA e)))) zz)) yStay aOut aVar yArg (fun zz => nI (FC zz)) (fun zz => nI (FA zz)) (fun zz => nI (FP zz)) (fun zz => nI (FH zz)) yHan (fun zz => nI (FT zz)) (fun zz => nI (TA zz)) (fun zz => nI (TH zz)) fSelf yKept stk → wpY_finish post (nI n, nI m, yGiven, nI (e+1), deep, nI b, thr, thn, res, cStr, (fun zz => nI (CL zz)), cOp, cA, cB, (fun zz => nI (OK zz)), oKin, yCo, yAr, oOpen, (fun zz => nI (M zz)), (fun zz => ob_yf (tw zz) (te zz) (tc zz)), yPair, ySeen, pVal, ySet, (fun zz => ob_th (S zz)), yStay, aOut, aVar, yArg, (fun zz => nI (FC zz)), (fun zz => nI (FA zz)), (fun zz => nI (FP zz)), (fun zz => nI (FH zz)), yHan, (fun zz => nI (FT zz)), (fun zz => nI (TA zz)), (fun zz => nI (TH zz)), fSelf, yKept, stk) v) →
      ∃ S' res' thr' thn' FH' stk', ob_R n e b m res' thr' thn' CL cOp cA cB OK oKin pVal aOut aVar FC FA FP FH' FT fSelf stk' TA TH xFc xFs xPc xKo xPk tw tc xSet S' XH xHeld yCo yAr M yPair ySet yStay yHan yKept ∧
    (∀ post, post (nI n, nI e, nI b, deep, res', thr', thn', (fun zz => nI (CL zz)), cStr, cOp, cA, cB, (fun zz => nI (OK zz)), oKin, oOpen, xFc, xFs, xPc, xKo, xPk, (fun zz => ob_xa (tw zz) (te zz) (tc zz)), pVal, xSet, (fun zz => nI (S' zz)), aOut, aVar, (fun zz => nI (FC zz)), (fun zz => nI (FP zz)), (fun zz => nI (FA zz)), (fun zz => nI (FH' zz)), (fun zz => nI (XH zz)), (fun zz => nI (FT zz)), fSelf, xHeld, stk', (fun zz => nI (TA zz)), (fun zz => nI (TH zz)), xArg) → wpX_endFrame post (nI n, nI (e+1), nI b, deep, res, thr, thn, (fun zz => nI (CL zz)), cStr, cOp, cA, cB, (fun zz => nI (OK zz)), oKin, oOpen, xFc, xFs, xPc, xKo, xPk, (fun zz => ob_xa (tw zz) (te zz) (tc zz)), pVal, xSet, (fun zz => nI (S zz)), aOut, aVar, (fun zz => nI (FC zz)), (fun zz => nI (FP zz)), (fun zz => nI (FA zz)), (fun zz => nI (FH zz)), (fun zz => nI (XH zz)), (fun zz => nI (FT zz)), fSelf, xHeld, stk, (fun zz => nI (TA zz)), (fun zz => nI (TH zz)), xArg) v) ∧
    (∀ post, post (nI n, nI m, yGiven, nI e, deep, nI b, thr', thn', res', cStr, (fun zz => nI (CL zz)), cOp, cA, cB, (fun zz => nI (OK zz)), oKin, yCo, yAr, oOpen, (fun zz => nI (M zz)), (fun zz => ob_yf (tw zz) (te zz) (tc zz)), yPair, ySeen, pVal, ySet, (fun zz => ob_th (S' zz)), yStay, aOut, aVar, yArg, (fun zz => nI (FC zz)), (fun zz => nI (FA zz)), (fun zz => nI (FP zz)), (fun zz => nI (FH' zz)), yHan, (fun zz => nI (FT zz)), (fun zz => nI (TA zz)), (fun zz => nI (TH zz)), fSelf, yKept, stk') → wpY_finish post (nI n, nI m, yGiven, nI (e+1), deep, nI b, thr, thn, res, cStr, (fun zz => nI (CL zz)), cOp, cA, cB, (fun zz => nI (OK zz)), oKin, yCo, yAr, oOpen, (fun zz => nI (M zz)), (fun zz => ob_yf (tw zz) (te zz) (tc zz)), yPair, ySeen, pVal, ySet, (fun zz => ob_th (S zz)), yStay, aOut, aVar, yArg, (fun zz => nI (FC zz)), (fun zz => nI (FA zz)), (fun zz => nI (FP zz)), (fun zz => nI (FH zz)), yHan, (fun zz => nI (FT zz)), (fun zz => nI (TA zz)), (fun zz => nI (TH zz)), fSelf, yKept, stk) v) := by
    intro w hw hx hy
    obtain ⟨res', thr', thn', FH', stk', R2, hXp, hYp⟩ := ob_push (deep := deep) (cStr := cStr) (oOpen := oOpen) (te := te) (xArg := xArg) (ySeen := ySeen) (yArg := yArg) (yGiven := yGiven) R1 hw
    refine ⟨_, res', thr', thn', FH', stk', R2, fun post hp => hx post ?_, fun post hp => hy post ?_⟩
    · unfold wX_endFrame_61
      refine ob_leaveX he ha hS _ ?_
      exact hXp _ hp
    · unfold wY_finish_50
      exact hYp _ hp
  have hY1 : ∀ post : SY → Prop, post (nI n, nI m, yGiven, nI e, deep, nI b, thr, thn, res, cStr, (fun zz => nI (CL zz)), cOp, cA, cB, (fun zz => nI (OK zz)), oKin, yCo, yAr, oOpen, (fun zz => nI (M zz)), (fun zz => ob_yf (tw zz) (te zz) (tc zz)), yPair, ySeen, pVal, ySet, (fun zz => ob_th ((ob_um S (FA e) (ob_lv (S (FA e)))) zz)), yStay, aOut, aVar, yArg, (fun zz => nI (FC zz)), (fun zz => nI (FA zz)), (fun zz => nI (FP zz)), (fun zz => nI (FH zz)), yHan, (fun zz => nI (FT zz)), (fun zz => nI (TA zz)), (fun zz => nI (TH zz)), fSelf, yKept, stk) → wpY_leave post (nI n, nI m, yGiven, nI (e+1), deep, nI b, thr, thn, res, cStr, (fun zz => nI (CL zz)), cOp, cA, cB, (fun zz => nI (OK zz)), oKin, yCo, yAr, oOpen, (fun zz => nI (M zz)), (fun zz => ob_yf (tw zz) (te zz) (tc zz)), yPair, ySeen, pVal, ySet, (fun zz => ob_th (S zz)), yStay, aOut, aVar, yArg, (fun zz => nI (FC zz)), (fun zz => nI (FA zz)), (fun zz => nI (FP zz)), (fun zz => nI (FH zz)), yHan, (fun zz => nI (FT zz)), (fun zz => nI (TA zz)), (fun zz => nI (TH zz)), fSelf, yKept, stk) := fun post hp => ob_leaveY he ha hS hs post hp
  have hft : FT e = 0 ∨ FT e = 1 ∨ FT e = 2 := by omega
  rcases hft with ht | ht | ht
  · refine hfin v hv (fun post hp => ?_) (fun post hp => ?_)
    · unfold wpX_endFrame
      simp (disch := first | omega | decide) only [ht, forall_eq, not_true, not_false_iff, false_implies, true_implies, true_and, and_true, ob_sub1, Nat.add_sub_cancel, nI_1, ob_ix, ob_iy, ob_ix24, ob_iy24, ob_ix10, ob_iy10, ob_ix4, ob_iy4, ob_ix3, ob_iy3, ob_s1, ob_s2, ob_s3, ob_s4, ob_ltl, ob_lel, ob_eql, ob_ltr, ob_ler, ob_uN, Nat.add_one_ne_zero, ob_xs3, ob_lnn, ob_ltn, ob_eqn, Nat.not_lt_zero, Nat.zero_le, Nat.reduceEqDiff, Nat.reduceLeDiff, Nat.reduceLT, ob_eqll, Int32.reduceLT, Int32.reduceLE, eq_self_iff_true]
      have hk : wX_endFrame_43 post v (nI e) (nI n) (nI (e+1)) (nI b) deep res thr thn (fun zz => nI (CL zz)) cStr cOp cA cB (fun zz => nI (OK zz)) oKin oOpen xFc xFs xPc xKo xPk (fun zz => ob_xa (tw zz) (te zz) (tc zz)) pVal xSet (fun zz => nI (S zz)) aOut aVar (fun zz => nI (FC zz)) (fun zz => nI (FP zz)) (fun zz => nI (FA zz)) (fun zz => nI (FH zz)) (fun zz => nI (XH zz)) (fun zz => nI (FT zz)) fSelf xHeld stk (fun zz => nI (TA zz)) (fun zz => nI (TH zz)) xArg := by
        unfold wX_endFrame_43 wX_endFrame_44
        simp (disch := first | omega | decide) only [forall_eq, not_true, not_false_iff, false_implies, true_implies, true_and, and_true, ob_sub1, Nat.add_sub_cancel, nI_1, ob_ix, ob_iy, ob_ix24, ob_iy24, ob_ix10, ob_iy10, ob_ix4, ob_iy4, ob_ix3, ob_iy3, ob_s1, ob_s2, ob_s3, ob_s4, ob_ltl, ob_lel, ob_eql, ob_ltr, ob_ler, ob_uN, Nat.add_one_ne_zero, ob_xs3, ob_lnn, ob_ltn, ob_eqn, Nat.not_lt_zero, Nat.zero_le, Nat.reduceEqDiff, Nat.reduceLeDiff, Nat.reduceLT, ob_eqll, Int32.reduceLT, Int32.reduceLE, eq_self_iff_true]
        exact hp
      rcases ob_cls hv with hl | ⟨o, ho, rfl⟩
      · exact ob_objN hl _ hk
      · exact ob_objO hn ho _ hk
    · unfold wpY_finish
      refine hY1 _ ?_
      dsimp only
      simp (disch := first | omega | decide) only [ht, forall_eq, not_true, not_false_iff, false_implies, true_implies, true_and, and_true, ob_sub1, Nat.add_sub_cancel, nI_1, ob_ix, ob_iy, ob_ix24, ob_iy24, ob_ix10, ob_iy10, ob_ix4, ob_iy4, ob_ix3, ob_iy3, ob_s1, ob_s2, ob_s3, ob_s4, ob_ltl, ob_lel, ob_eql, ob_ltr, ob_ler, ob_uN, Nat.add_one_ne_zero, ob_xs3, ob_lnn, ob_ltn, ob_eqn, Nat.not_lt_zero, Nat.zero_le, Nat.reduceEqDiff, Nat.reduceLeDiff, Nat.reduceLT, ob_eqll, Int32.reduceLT, Int32.reduceLE, eq_self_iff_true]
      unfold wY_finish_37
      exact hp
  · obtain ⟨k1, k2⟩ := f12 (by omega)
    refine hfin (yKept e) k2 (fun post hp => ?_) (fun post hp => ?_)
    · unfold wpX_endFrame
      simp (disch := first | omega | decide) only [ht, forall_eq, not_true, not_false_iff, false_implies, true_implies, true_and, and_true, ob_sub1, Nat.add_sub_cancel, nI_1, ob_ix, ob_iy, ob_ix24, ob_iy24, ob_ix10, ob_iy10, ob_ix4, ob_iy4, ob_ix3, ob_iy3, ob_s1, ob_s2, ob_s3, ob_s4, ob_ltl, ob_lel, ob_eql, ob_ltr, ob_ler, ob_uN, Nat.add_one_ne_zero, ob_xs3, ob_lnn, ob_ltn, ob_eqn, Nat.not_lt_zero, Nat.zero_le, Nat.reduceEqDiff, Nat.reduceLeDiff, Nat.reduceLT, ob_eqll, Int32.reduceLT, Int32.reduceLE, eq_self_iff_true]
      have hk : wX_endFrame_39 post v (nI e) (nI n) (nI (e+1)) (nI b) deep res thr thn (fun zz => nI (CL zz)) cStr cOp cA cB (fun zz => nI (OK zz)) oKin oOpen xFc xFs xPc xKo xPk (fun zz => ob_xa (tw zz) (te zz) (tc zz)) pVal xSet (fun zz => nI (S zz)) aOut aVar (fun zz => nI (FC zz)) (fun zz => nI (FP zz)) (fun zz => nI (FA zz)) (fun zz => nI (FH zz)) (fun zz => nI (XH zz)) (fun zz => nI (FT zz)) fSelf xHeld stk (fun zz => nI (TA zz)) (fun zz => nI (TH zz)) xArg := by
        unfold wX_endFrame_39 wX_endFrame_44
        simp (disch := first | omega | decide) only [k1, forall_eq, not_true, not_false_iff, false_implies, true_implies, true_and, and_true, ob_sub1, Nat.add_sub_cancel, nI_1, ob_ix, ob_iy, ob_ix24, ob_iy24, ob_ix10, ob_iy10, ob_ix4, ob_iy4, ob_ix3, ob_iy3, ob_s1, ob_s2, ob_s3, ob_s4, ob_ltl, ob_lel, ob_eql, ob_ltr, ob_ler, ob_uN, Nat.add_one_ne_zero, ob_xs3, ob_lnn, ob_ltn, ob_eqn, Nat.not_lt_zero, Nat.zero_le, Nat.reduceEqDiff, Nat.reduceLeDiff, Nat.reduceLT, ob_eqll, Int32.reduceLT, Int32.reduceLE, eq_self_iff_true]
        exact hp
      rcases ob_cls hv with hl | ⟨o, ho, rfl⟩
      · exact ob_objN hl _ hk
      · exact ob_objO hn ho _ hk
    · unfold wpY_finish
      refine hY1 _ ?_
      dsimp only
      simp (disch := first | omega | decide) only [ht, forall_eq, not_true, not_false_iff, false_implies, true_implies, true_and, and_true, ob_sub1, Nat.add_sub_cancel, nI_1, ob_ix, ob_iy, ob_ix24, ob_iy24, ob_ix10, ob_iy10, ob_ix4, ob_iy4, ob_ix3, ob_iy3, ob_s1, ob_s2, ob_s3, ob_s4, ob_ltl, ob_lel, ob_eql, ob_ltr, ob_ler, ob_uN, Nat.add_one_ne_zero, ob_xs3, ob_lnn, ob_ltn, ob_eqn, Nat.not_lt_zero, Nat.zero_le, Nat.reduceEqDiff, Nat.reduceLeDiff, Nat.reduceLT, ob_eqll, Int32.reduceLT, Int32.reduceLE, eq_self_iff_true]
      unfold wY_finish_41
      simp (disch := first | omega | decide) only [forall_eq, not_true, not_false_iff, false_implies, true_implies, true_and, and_true, ob_sub1, Nat.add_sub_cancel, nI_1, ob_ix, ob_iy, ob_ix24, ob_iy24, ob_ix10, ob_iy10, ob_ix4, ob_iy4, ob_ix3, ob_iy3, ob_s1, ob_s2, ob_s3, ob_s4, ob_ltl, ob_lel, ob_eql, ob_ltr, ob_ler, ob_uN, Nat.add_one_ne_zero, ob_xs3, ob_lnn, ob_ltn, ob_eqn, Nat.not_lt_zero, Nat.zero_le, Nat.reduceEqDiff, Nat.reduceLeDiff, Nat.reduceLT, ob_eqll, Int32.reduceLT, Int32.reduceLE, eq_self_iff_true]
      exact hp
  · rcases ob_cls hv with hl | ⟨o, ho, rfl⟩
    · obtain ⟨k1, k2⟩ := f12 (by omega)
      refine hfin (yKept e) k2 (fun post hp => ?_) (fun post hp => ?_)
      · unfold wpX_endFrame
        simp (disch := first | omega | decide) only [ht, forall_eq, not_true, not_false_iff, false_implies, true_implies, true_and, and_true, ob_sub1, Nat.add_sub_cancel, nI_1, ob_ix, ob_iy, ob_ix24, ob_iy24, ob_ix10, ob_iy10, ob_ix4, ob_iy4, ob_ix3, ob_iy3, ob_s1, ob_s2, ob_s3, ob_s4, ob_ltl, ob_lel, ob_eql, ob_ltr, ob_ler, ob_uN, Nat.add_one_ne_zero, ob_xs3, ob_lnn, ob_ltn, ob_eqn, Nat.not_lt_zero, Nat.zero_le, Nat.reduceEqDiff, Nat.reduceLeDiff, Nat.reduceLT, ob_eqll, Int32.reduceLT, Int32.reduceLE, eq_self_iff_true]
        have hk : wX_endFrame_39 post v (nI e) (nI n) (nI (e+1)) (nI b) deep res thr thn (fun zz => nI (CL zz)) cStr cOp cA cB (fun zz => nI (OK zz)) oKin oOpen xFc xFs xPc xKo xPk (fun zz => ob_xa (tw zz) (te zz) (tc zz)) pVal xSet (fun zz => nI (S zz)) aOut aVar (fun zz => nI (FC zz)) (fun zz => nI (FP zz)) (fun zz => nI (FA zz)) (fun zz => nI (FH zz)) (fun zz => nI (XH zz)) (fun zz => nI (FT zz)) fSelf xHeld stk (fun zz => nI (TA zz)) (fun zz => nI (TH zz)) xArg := by
          unfold wX_endFrame_39 wX_endFrame_44
          simp (disch := first | omega | decide) only [k1, forall_eq, not_true, not_false_iff, false_implies, true_implies, true_and, and_true, ob_sub1, Nat.add_sub_cancel, nI_1, ob_ix, ob_iy, ob_ix24, ob_iy24, ob_ix10, ob_iy10, ob_ix4, ob_iy4, ob_ix3, ob_iy3, ob_s1, ob_s2, ob_s3, ob_s4, ob_ltl, ob_lel, ob_eql, ob_ltr, ob_ler, ob_uN, Nat.add_one_ne_zero, ob_xs3, ob_lnn, ob_ltn, ob_eqn, Nat.not_lt_zero, Nat.zero_le, Nat.reduceEqDiff, Nat.reduceLeDiff, Nat.reduceLT, ob_eqll, Int32.reduceLT, Int32.reduceLE, eq_self_iff_true]
          exact hp
        refine ob_objN hl _ ?_
        exact br_f (by decide) hk
      · unfold wpY_finish
        refine hY1 _ ?_
        dsimp only
        simp (disch := first | omega | decide) only [ht, forall_eq, not_true, not_false_iff, false_implies, true_implies, true_and, and_true, ob_sub1, Nat.add_sub_cancel, nI_1, ob_ix, ob_iy, ob_ix24, ob_iy24, ob_ix10, ob_iy10, ob_ix4, ob_iy4, ob_ix3, ob_iy3, ob_s1, ob_s2, ob_s3, ob_s4, ob_ltl, ob_lel, ob_eql, ob_ltr, ob_ler, ob_uN, Nat.add_one_ne_zero, ob_xs3, ob_lnn, ob_ltn, ob_eqn, Nat.not_lt_zero, Nat.zero_le, Nat.reduceEqDiff, Nat.reduceLeDiff, Nat.reduceLT, ob_eqll, Int32.reduceLT, Int32.reduceLE, eq_self_iff_true]
        refine ob_isoF hl _ ?_
        unfold wY_finish_41
        simp (disch := first | omega | decide) only [forall_eq, not_true, not_false_iff, false_implies, true_implies, true_and, and_true, ob_sub1, Nat.add_sub_cancel, nI_1, ob_ix, ob_iy, ob_ix24, ob_iy24, ob_ix10, ob_iy10, ob_ix4, ob_iy4, ob_ix3, ob_iy3, ob_s1, ob_s2, ob_s3, ob_s4, ob_ltl, ob_lel, ob_eql, ob_ltr, ob_ler, ob_uN, Nat.add_one_ne_zero, ob_xs3, ob_lnn, ob_ltn, ob_eqn, Nat.not_lt_zero, Nat.zero_le, Nat.reduceEqDiff, Nat.reduceLeDiff, Nat.reduceLT, ob_eqll, Int32.reduceLT, Int32.reduceLE, eq_self_iff_true]
        exact hp
    · refine hfin _ hv (fun post hp => ?_) (fun post hp => ?_)
      · unfold wpX_endFrame
        simp (disch := first | omega | decide) only [ht, forall_eq, not_true, not_false_iff, false_implies, true_implies, true_and, and_true, ob_sub1, Nat.add_sub_cancel, nI_1, ob_ix, ob_iy, ob_ix24, ob_iy24, ob_ix10, ob_iy10, ob_ix4, ob_iy4, ob_ix3, ob_iy3, ob_s1, ob_s2, ob_s3, ob_s4, ob_ltl, ob_lel, ob_eql, ob_ltr, ob_ler, ob_uN, Nat.add_one_ne_zero, ob_xs3, ob_lnn, ob_ltn, ob_eqn, Nat.not_lt_zero, Nat.zero_le, Nat.reduceEqDiff, Nat.reduceLeDiff, Nat.reduceLT, ob_eqll, Int32.reduceLT, Int32.reduceLE, eq_self_iff_true]
        have hk : wX_endFrame_43 post (lN (17179869184 + o)) (nI e) (nI n) (nI (e+1)) (nI b) deep res thr thn (fun zz => nI (CL zz)) cStr cOp cA cB (fun zz => nI (OK zz)) oKin oOpen xFc xFs xPc xKo xPk (fun zz => ob_xa (tw zz) (te zz) (tc zz)) pVal xSet (fun zz => nI (S zz)) aOut aVar (fun zz => nI (FC zz)) (fun zz => nI (FP zz)) (fun zz => nI (FA zz)) (fun zz => nI (FH zz)) (fun zz => nI (XH zz)) (fun zz => nI (FT zz)) fSelf xHeld stk (fun zz => nI (TA zz)) (fun zz => nI (TH zz)) xArg := by
          unfold wX_endFrame_43 wX_endFrame_44
          simp (disch := first | omega | decide) only [forall_eq, not_true, not_false_iff, false_implies, true_implies, true_and, and_true, ob_sub1, Nat.add_sub_cancel, nI_1, ob_ix, ob_iy, ob_ix24, ob_iy24, ob_ix10, ob_iy10, ob_ix4, ob_iy4, ob_ix3, ob_iy3, ob_s1, ob_s2, ob_s3, ob_s4, ob_ltl, ob_lel, ob_eql, ob_ltr, ob_ler, ob_uN, Nat.add_one_ne_zero, ob_xs3, ob_lnn, ob_ltn, ob_eqn, Nat.not_lt_zero, Nat.zero_le, Nat.reduceEqDiff, Nat.reduceLeDiff, Nat.reduceLT, ob_eqll, Int32.reduceLT, Int32.reduceLE, eq_self_iff_true]
          exact hp
        refine ob_objO hn ho _ ?_
        exact br_t (nI_pos' (by omega)) hk
      · unfold wpY_finish
        refine hY1 _ ?_
        dsimp only
        simp (disch := first | omega | decide) only [ht, forall_eq, not_true, not_false_iff, false_implies, true_implies, true_and, and_true, ob_sub1, Nat.add_sub_cancel, nI_1, ob_ix, ob_iy, ob_ix24, ob_iy24, ob_ix10, ob_iy10, ob_ix4, ob_iy4, ob_ix3, ob_iy3, ob_s1, ob_s2, ob_s3, ob_s4, ob_ltl, ob_lel, ob_eql, ob_ltr, ob_ler, ob_uN, Nat.add_one_ne_zero, ob_xs3, ob_lnn, ob_ltn, ob_eqn, Nat.not_lt_zero, Nat.zero_le, Nat.reduceEqDiff, Nat.reduceLeDiff, Nat.reduceLT, ob_eqll, Int32.reduceLT, Int32.reduceLE, eq_self_iff_true]
        refine ob_isoT o (by omega) _ ?_
        unfold wY_finish_37
        exact br_f (by decide) hp
end
end
section
/-! ===== a throw on its way ===== -/
theorem ob_hs_c {F G : Nat → Nat} : ∀ {k : Nat}, (∀ f, f < k → F f = G f) → ob_hs F k = ob_hs G k
  | 0, _ => rfl
  | k + 1, h => by
    show ob_hs F k + F k = ob_hs G k + G k
    rw [ob_hs_c (fun f hf => h f (by omega)), h k (by omega)]
theorem ob_hs_u (F : Nat → Nat) (e x : Nat) : ob_hs (ob_um F e x) e = ob_hs F e := ob_hs_c (fun f hf => ob_um_n F x (by omega))
section
variable {n : Nat} {d : Nat} {b : Nat} {m : Nat} {deep : Int32} {res : Int64} {thr : Int32} {thn : Int64} {CL : Nat → Nat} {cStr : Nat → Int32} {cOp : Nat → Int32} {cA : Nat → Int32} {cB : Nat → Int32} {OK : Nat → Nat} {oKin : Nat → Int32} {oOpen : Nat → Int32} {pVal : Nat → Int64} {aOut : Nat → Int32} {aVar : Nat → Int64} {FC : Nat → Nat} {FA : Nat → Nat} {FP : Nat → Nat} {FH : Nat → Nat} {FT : Nat → Nat} {fSelf : Nat → Int64} {stk : Nat → Int64} {TA : Nat → Nat} {TH : Nat → Nat} {xFc : Nat → Int32} {xFs : Nat → Int32} {xPc : Nat → Int32} {xKo : Nat → Int32} {xPk : Nat → Int32} {tw : Nat → Bool} {te : Nat → Bool} {tc : Nat → Bool} {xSet : Nat → Int64} {S : Nat → Nat} {XH : Nat → Nat} {xHeld : Nat → Int64} {xArg : Nat → Int64} {yCo : Nat → Int32} {yAr : Nat → Int32} {M : Nat → Nat} {yPair : Nat → Int32} {ySeen : Nat → Int32} {ySet : Nat → Int64} {yStay : Nat → Int32} {yArg : Nat → Int64} {yHan : Nat → Int32} {yKept : Nat → Int64} {yGiven : Int32}
variable {e : Nat}
theorem ob_land (R : ob_R n (e+1) b m res thr thn CL cOp cA cB OK oKin pVal aOut aVar FC FA FP FH FT fSelf stk TA TH xFc xFs xPc xKo xPk tw tc xSet S XH xHeld yCo yAr M yPair ySet yStay yHan yKept) (hv : ob_V n thn) : ∃ d' S' XH' yHan' FP' FH' res' thr' thn' stk', ob_R n d' b m res' thr' thn' CL cOp cA cB OK oKin pVal aOut aVar FC FA FP' FH' FT fSelf stk' TA TH xFc xFs xPc xKo xPk tw tc xSet S' XH' xHeld yCo yAr M yPair ySet yStay yHan' yKept ∧
    4 * d' + ob_hs XH' d' + 1 ≤ 4 * (e + 1) + ob_hs XH (e + 1) ∧
    (∀ post, post (nI n, nI d', nI b, deep, res', thr', thn', (fun zz => nI (CL zz)), cStr, cOp, cA, cB, (fun zz => nI (OK zz)), oKin, oOpen, xFc, xFs, xPc, xKo, xPk, (fun zz => ob_xa (tw zz) (te zz) (tc zz)), pVal, xSet, (fun zz => nI (S' zz)), aOut, aVar, (fun zz => nI (FC zz)), (fun zz => nI (FP' zz)), (fun zz => nI (FA zz)), (fun zz => nI (FH' zz)), (fun zz => nI (XH' zz)), (fun zz => nI (FT zz)), fSelf, xHeld, stk', (fun zz => nI (TA zz)), (fun zz => nI (TH zz)), xArg) → wpX_unwind post (nI n, nI (e+1), nI b, deep, res, thr, thn, (fun zz => nI (CL zz)), cStr, cOp, cA, cB, (fun zz => nI (OK zz)), oKin, oOpen, xFc, xFs, xPc, xKo, xPk, (fun zz => ob_xa (tw zz) (te zz) (tc zz)), pVal, xSet, (fun zz => nI (S zz)), aOut, aVar, (fun zz => nI (FC zz)), (fun zz => nI (FP zz)), (fun zz => nI (FA zz)), (fun zz => nI (FH zz)), (fun zz => nI (XH zz)), (fun zz => nI (FT zz)), fSelf, xHeld, stk, (fun zz => nI (TA zz)), (fun zz => nI (TH zz)), xArg)) ∧
    (∀ post, post (nI n, nI m, yGiven, nI d', deep, nI b, thr', thn', res', cStr, (fun zz => nI (CL zz)), cOp, cA, cB, (fun zz => nI (OK zz)), oKin, yCo, yAr, oOpen, (fun zz => nI (M zz)), (fun zz => ob_yf (tw zz) (te zz) (tc zz)), yPair, ySeen, pVal, ySet, (fun zz => ob_th (S' zz)), yStay, aOut, aVar, yArg, (fun zz => nI (FC zz)), (fun zz => nI (FA zz)), (fun zz => nI (FP' zz)), (fun zz => nI (FH' zz)), yHan', (fun zz => nI (FT zz)), (fun zz => nI (TA zz)), (fun zz => nI (TH zz)), fSelf, yKept, stk') → wpY_land post (nI n, nI m, yGiven, nI (e+1), deep, nI b, thr, thn, res, cStr, (fun zz => nI (CL zz)), cOp, cA, cB, (fun zz => nI (OK zz)), oKin, yCo, yAr, oOpen, (fun zz => nI (M zz)), (fun zz => ob_yf (tw zz) (te zz) (tc zz)), yPair, ySeen, pVal, ySet, (fun zz => ob_th (S zz)), yStay, aOut, aVar, yArg, (fun zz => nI (FC zz)), (fun zz => nI (FA zz)), (fun zz => nI (FP zz)), (fun zz => nI (FH zz)), yHan, (fun zz => nI (FT zz)), (fun zz => nI (TA zz)), (fun zz => nI (TH zz)), fSelf, yKept, stk)) := by
  obtain ⟨he, ha, hS, hs⟩ := ob_actS R
  obtain ⟨hC, hO, hP, hL, hY, hA, hF, hT⟩ := R
  obtain ⟨f1, f2, f3, f4, f5, f6, f7, f8, f9, f10⟩ := hF.2.1 e (by omega)
  by_cases z : XH e = 0
  · rw [z] at f8
    have R1 := ob_leaveR (e := e) ⟨hC, hO, hP, hL, hY, hA, hF, hT⟩
    refine ⟨e, _, XH, upd yHan e (nI 0 - 1), FP, FH, res, thr, thn, stk, ⟨hC, hO, hP, hL, hY, R1.2.2.2.2.2.1, ob_gF_yh R1.2.2.2.2.2.2.1, R1.2.2.2.2.2.2.2⟩, ?_, fun post hp => ?_, fun post hp => ?_⟩
    · show _ ≤ 4 * (e + 1) + (ob_hs XH e + XH e)
      omega
    · unfold wpX_unwind
      simp (disch := first | omega | decide) only [z, forall_eq, not_true, not_false_iff, false_implies, true_implies, true_and, and_true, ob_sub1, Nat.add_sub_cancel, nI_1, ob_ix, ob_iy, ob_ix24, ob_iy24, ob_ix10, ob_iy10, ob_ix4, ob_iy4, ob_ix3, ob_iy3, ob_s1, ob_s2, ob_s3, ob_s4, ob_ltl, ob_lel, ob_eql, ob_ltr, ob_ler, ob_uN, Nat.add_one_ne_zero, ob_xs3, ob_lnn, ob_ltn, ob_eqn, Nat.not_lt_zero, Nat.zero_le, Nat.reduceEqDiff, Nat.reduceLeDiff, Nat.reduceLT, ob_eqll, Int32.reduceLT, Int32.reduceLE, eq_self_iff_true]
      exact ob_leaveX he ha hS _ hp
    · unfold wpY_land
      have h0 : nI 0 = 0 := rfl
      simp (disch := first | omega | decide) only [f8, h0, forall_eq, not_true, not_false_iff, false_implies, true_implies, true_and, and_true, ob_sub1, Nat.add_sub_cancel, nI_1, ob_ix, ob_iy, ob_ix24, ob_iy24, ob_ix10, ob_iy10, ob_ix4, ob_iy4, ob_ix3, ob_iy3, ob_s1, ob_s2, ob_s3, ob_s4, ob_ltl, ob_lel, ob_eql, ob_ltr, ob_ler, ob_uN, Nat.add_one_ne_zero, ob_xs3, ob_lnn, ob_ltn, ob_eqn, Nat.not_lt_zero, Nat.zero_le, Nat.reduceEqDiff, Nat.reduceLeDiff, Nat.reduceLT, ob_eqll, Int32.reduceLT, Int32.reduceLE, eq_self_iff_true]
      exact ob_leaveY he ha hS hs _ hp
  · obtain ⟨h, hh⟩ : ∃ h, XH e = h + 1 := ⟨XH e - 1, by omega⟩
    obtain ⟨t1, t2⟩ := f9 h (by omega)
    rw [hh] at f8
    have hF1 := ob_gF_at (e := e) (ob_gF_hdrop hF hh) t1
    have hT0 : ob_gT n (e + 1) b res 0 thn := ⟨hT.1, Or.inl rfl, hT.2.2⟩
    have hms : ∀ x : Nat, 4 * (e + 1) + ob_hs (ob_um XH e h) (e + 1) + 1 ≤ 4 * (e + 1) + ob_hs XH (e + 1) := by
      intro _
      show _ + (ob_hs (ob_um XH e h) e + ob_um XH e h e) + 1 ≤ _ + (ob_hs XH e + XH e)
      rw [ob_hs_u, ob_um_s, hh]
      omega
    by_cases y : FH e ≤ TH (3 * e + h)
    · obtain ⟨res', thr', thn', FH', stk', R2, hXp, hYp⟩ := ob_push (deep := deep) (cStr := cStr) (oOpen := oOpen) (te := te) (xArg := xArg) (ySeen := ySeen) (yArg := yArg) (yGiven := yGiven) (d := e + 1) (thr := 0) ⟨hC, hO, hP, hL, hY, hA, hF1, hT0⟩ hv
      refine ⟨e + 1, S, _, _, _, FH', res', thr', thn', stk', R2, hms 0, fun post hp => ?_, fun post hp => ?_⟩
      · unfold wpX_unwind
        simp (disch := first | omega | decide) only [hh, ob_um_s, y, forall_eq, not_true, not_false_iff, false_implies, true_implies, true_and, and_true, ob_sub1, Nat.add_sub_cancel, nI_1, ob_ix, ob_iy, ob_ix24, ob_iy24, ob_ix10, ob_iy10, ob_ix4, ob_iy4, ob_ix3, ob_iy3, ob_s1, ob_s2, ob_s3, ob_s4, ob_ltl, ob_lel, ob_eql, ob_ltr, ob_ler, ob_uN, Nat.add_one_ne_zero, ob_xs3, ob_lnn, ob_ltn, ob_eqn, Nat.not_lt_zero, Nat.zero_le, Nat.reduceEqDiff, Nat.reduceLeDiff, Nat.reduceLT, ob_eqll, Int32.reduceLT, Int32.reduceLE, eq_self_iff_true]
        unfold wX_unwind_69
        simp (disch := first | omega | decide) only [forall_eq, not_true, not_false_iff, false_implies, true_implies, true_and, and_true, ob_sub1, Nat.add_sub_cancel, nI_1, ob_ix, ob_iy, ob_ix24, ob_iy24, ob_ix10, ob_iy10, ob_ix4, ob_iy4, ob_ix3, ob_iy3, ob_s1, ob_s2, ob_s3, ob_s4, ob_ltl, ob_lel, ob_eql, ob_ltr, ob_ler, ob_uN, Nat.add_one_ne_zero, ob_xs3, ob_lnn, ob_ltn, ob_eqn, Nat.not_lt_zero, Nat.zero_le, Nat.reduceEqDiff, Nat.reduceLeDiff, Nat.reduceLT, ob_eqll, Int32.reduceLT, Int32.reduceLE, eq_self_iff_true]
        exact hXp _ hp
      · unfold wpY_land
        simp (disch := first | omega | decide) only [f8, ← Nat.add_assoc, y, forall_eq, not_true, not_false_iff, false_implies, true_implies, true_and, and_true, ob_sub1, Nat.add_sub_cancel, nI_1, ob_ix, ob_iy, ob_ix24, ob_iy24, ob_ix10, ob_iy10, ob_ix4, ob_iy4, ob_ix3, ob_iy3, ob_s1, ob_s2, ob_s3, ob_s4, ob_ltl, ob_lel, ob_eql, ob_ltr, ob_ler, ob_uN, Nat.add_one_ne_zero, ob_xs3, ob_lnn, ob_ltn, ob_eqn, Nat.not_lt_zero, Nat.zero_le, Nat.reduceEqDiff, Nat.reduceLeDiff, Nat.reduceLT, ob_eqll, Int32.reduceLT, Int32.reduceLE, eq_self_iff_true]
        unfold wY_land_66
        simp (disch := first | omega | decide) only [forall_eq, not_true, not_false_iff, false_implies, true_implies, true_and, and_true, ob_sub1, Nat.add_sub_cancel, nI_1, ob_ix, ob_iy, ob_ix24, ob_iy24, ob_ix10, ob_iy10, ob_ix4, ob_iy4, ob_ix3, ob_iy3, ob_s1, ob_s2, ob_s3, ob_s4, ob_ltl, ob_lel, ob_eql, ob_ltr, ob_ler, ob_uN, Nat.add_one_ne_zero, ob_xs3, ob_lnn, ob_ltn, ob_eqn, Nat.not_lt_zero, Nat.zero_le, Nat.reduceEqDiff, Nat.reduceLeDiff, Nat.reduceLT, ob_eqll, Int32.reduceLT, Int32.reduceLE, eq_self_iff_true]
        exact hYp _ hp
    · obtain ⟨res', thr', thn', FH', stk', R2, hXp, hYp⟩ := ob_push (deep := deep) (cStr := cStr) (oOpen := oOpen) (te := te) (xArg := xArg) (ySeen := ySeen) (yArg := yArg) (yGiven := yGiven) (d := e + 1) (thr := 0) ⟨hC, hO, hP, hL, hY, hA, ob_gF_pop (e := e) (h := TH (3 * e + h)) hF1 (by omega), hT0⟩ hv
      refine ⟨e + 1, S, _, _, _, FH', res', thr', thn', stk', R2, hms 0, fun post hp => ?_, fun post hp => ?_⟩
      · unfold wpX_unwind
        simp (disch := first | omega | decide) only [hh, ob_um_s, y, forall_eq, not_true, not_false_iff, false_implies, true_implies, true_and, and_true, ob_sub1, Nat.add_sub_cancel, nI_1, ob_ix, ob_iy, ob_ix24, ob_iy24, ob_ix10, ob_iy10, ob_ix4, ob_iy4, ob_ix3, ob_iy3, ob_s1, ob_s2, ob_s3, ob_s4, ob_ltl, ob_lel, ob_eql, ob_ltr, ob_ler, ob_uN, Nat.add_one_ne_zero, ob_xs3, ob_lnn, ob_ltn, ob_eqn, Nat.not_lt_zero, Nat.zero_le, Nat.reduceEqDiff, Nat.reduceLeDiff, Nat.reduceLT, ob_eqll, Int32.reduceLT, Int32.reduceLE, eq_self_iff_true]
        unfold wX_unwind_69
        simp (disch := first | omega | decide) only [forall_eq, not_true, not_false_iff, false_implies, true_implies, true_and, and_true, ob_sub1, Nat.add_sub_cancel, nI_1, ob_ix, ob_iy, ob_ix24, ob_iy24, ob_ix10, ob_iy10, ob_ix4, ob_iy4, ob_ix3, ob_iy3, ob_s1, ob_s2, ob_s3, ob_s4, ob_ltl, ob_lel, ob_eql, ob_ltr, ob_ler, ob_uN, Nat.add_one_ne_zero, ob_xs3, ob_lnn, ob_ltn, ob_eqn, Nat.not_lt_zero, Nat.zero_le, Nat.reduceEqDiff, Nat.reduceLeDiff, Nat.reduceLT, ob_eqll, Int32.reduceLT, Int32.reduceLE, eq_self_iff_true]
        exact hXp _ hp
      · unfold wpY_land
        simp (disch := first | omega | decide) only [f8, ← Nat.add_assoc, y, forall_eq, not_true, not_false_iff, false_implies, true_implies, true_and, and_true, ob_sub1, Nat.add_sub_cancel, nI_1, ob_ix, ob_iy, ob_ix24, ob_iy24, ob_ix10, ob_iy10, ob_ix4, ob_iy4, ob_ix3, ob_iy3, ob_s1, ob_s2, ob_s3, ob_s4, ob_ltl, ob_lel, ob_eql, ob_ltr, ob_ler, ob_uN, Nat.add_one_ne_zero, ob_xs3, ob_lnn, ob_ltn, ob_eqn, Nat.not_lt_zero, Nat.zero_le, Nat.reduceEqDiff, Nat.reduceLeDiff, Nat.reduceLT, ob_eqll, Int32.reduceLT, Int32.reduceLE, eq_self_iff_true]
        unfold wY_land_66
        simp (disch := first | omega | decide) only [forall_eq, not_true, not_false_iff, false_implies, true_implies, true_and, and_true, ob_sub1, Nat.add_sub_cancel, nI_1, ob_ix, ob_iy, ob_ix24, ob_iy24, ob_ix10, ob_iy10, ob_ix4, ob_iy4, ob_ix3, ob_iy3, ob_s1, ob_s2, ob_s3, ob_s4, ob_ltl, ob_lel, ob_eql, ob_ltr, ob_ler, ob_uN, Nat.add_one_ne_zero, ob_xs3, ob_lnn, ob_ltn, ob_eqn, Nat.not_lt_zero, Nat.zero_le, Nat.reduceEqDiff, Nat.reduceLeDiff, Nat.reduceLT, ob_eqll, Int32.reduceLT, Int32.reduceLE, eq_self_iff_true]
        exact hYp _ hp
end
end
section
/-! ===== a call begins ===== -/
def ob_cnt (S : Nat → Nat) : Nat → Nat
  | 0 => 0
  | k + 1 => ob_cnt S k + (if S k = 0 then 0 else 1)
theorem ob_cnt_le (S : Nat → Nat) : ∀ k, ob_cnt S k ≤ k
  | 0 => Nat.le_refl _
  | k + 1 => by
    have := ob_cnt_le S k
    show ob_cnt S k + _ ≤ _
    split <;> omega
theorem ob_cnt_all {S : Nat → Nat} : ∀ {k}, (∀ a, a < k → S a ≠ 0) → ob_cnt S k = k
  | 0, _ => rfl
  | k + 1, h => by
    show ob_cnt S k + _ = _
    rw [ob_cnt_all (fun a ha => h a (by omega)), if_neg (h k (by omega))]
theorem ob_cnt_lt {S : Nat → Nat} {a : Nat} (h : S a = 0) : ∀ {k}, a < k → ob_cnt S k < k
  | 0, h0 => absurd h0 (by omega)
  | k + 1, h1 => by
    show ob_cnt S k + _ < _
    have h2 := ob_cnt_le S k
    by_cases e : a = k
    · subst e
      rw [if_pos h]
      omega
    · have := ob_cnt_lt h (k := k) (by omega)
      split <;> omega
theorem ob_free (S : Nat → Nat) : ∀ k, (∀ a, a < k → S a ≠ 0) ∨ ∃ a, a < k ∧ S a = 0 ∧ ∀ q, q < a → S q ≠ 0
  | 0 => Or.inl (fun a h => absurd h (by omega))
  | k + 1 => by
    rcases ob_free S k with h | ⟨a, h1, h2, h3⟩
    · by_cases z : S k = 0
      · exact Or.inr ⟨k, by omega, z, h⟩
      · exact Or.inl (fun a ha => by
          by_cases y : a = k
          · rw [y]; exact z
          · exact h a (by omega))
    · exact Or.inr ⟨a, by omega, h2, h3⟩
theorem ob_th0 (s : Nat) : (ob_th s = 0) = (s = 0) := by
  unfold ob_th
  split
  · rename_i h; simp [h]
  · rename_i h; simp [h]
section
variable {n : Nat} {d : Nat} {b : Nat} {m : Nat} {deep : Int32} {res : Int64} {thr : Int32} {thn : Int64} {CL : Nat → Nat} {cStr : Nat → Int32} {cOp : Nat → Int32} {cA : Nat → Int32} {cB : Nat → Int32} {OK : Nat → Nat} {oKin : Nat → Int32} {oOpen : Nat → Int32} {pVal : Nat → Int64} {aOut : Nat → Int32} {aVar : Nat → Int64} {FC : Nat → Nat} {FA : Nat → Nat} {FP : Nat → Nat} {FH : Nat → Nat} {FT : Nat → Nat} {fSelf : Nat → Int64} {stk : Nat → Int64} {TA : Nat → Nat} {TH : Nat → Nat} {xFc : Nat → Int32} {xFs : Nat → Int32} {xPc : Nat → Int32} {xKo : Nat → Int32} {xPk : Nat → Int32} {tw : Nat → Bool} {te : Nat → Bool} {tc : Nat → Bool} {xSet : Nat → Int64} {S : Nat → Nat} {XH : Nat → Nat} {xHeld : Nat → Int64} {xArg : Nat → Int64} {yCo : Nat → Int32} {yAr : Nat → Int32} {M : Nat → Nat} {yPair : Nat → Int32} {ySeen : Nat → Int32} {ySet : Nat → Int64} {yStay : Nat → Int32} {yArg : Nat → Int64} {yHan : Nat → Int32} {yKept : Nat → Int64} {yGiven : Int32}
variable {e a : Nat}
theorem ob_freeX1 (ha : a < 24) (h0 : S a = 0) (h : ∀ q, q < a → S q ≠ 0) (hS : ∀ q, q < 24 → S q ≤ 2) (post : Int32 → Prop) (hp : post (nI a)) : ∀ j k, j + k = a → wX_freeActivation_2 post (nI n) (nI d) (nI b) deep res thr thn (fun zz => nI (CL zz)) cStr cOp cA cB (fun zz => nI (OK zz)) oKin oOpen xFc xFs xPc xKo xPk (fun zz => ob_xa (tw zz) (te zz) (tc zz)) pVal xSet (fun zz => nI (S zz)) aOut aVar (fun zz => nI (FC zz)) (fun zz => nI (FP zz)) (fun zz => nI (FA zz)) (fun zz => nI (FH zz)) (fun zz => nI (XH zz)) (fun zz => nI (FT zz)) fSelf xHeld stk (fun zz => nI (TA zz)) (fun zz => nI (TH zz)) xArg (j + 1) (nI k)
  | 0, k, e => by
    have e' : k = a := by omega
    subst e'
    unfold wX_freeActivation_2
    have h1 : ¬ 24 ≤ k := by omega
    simp (disch := first | omega | decide) only [h0, h1, forall_eq, not_true, not_false_iff, false_implies, true_implies, true_and, and_true, ob_sub1, Nat.add_sub_cancel, nI_1, ob_ix, ob_iy, ob_ix24, ob_iy24, ob_ix10, ob_iy10, ob_ix4, ob_iy4, ob_ix3, ob_iy3, ob_s1, ob_s2, ob_s3, ob_s4, ob_ltl, ob_lel, ob_eql, ob_ltr, ob_ler, ob_uN, Nat.add_one_ne_zero, ob_xs3, ob_lnn, ob_ltn, ob_eqn, Nat.not_lt_zero, Nat.zero_le, Nat.reduceEqDiff, Nat.reduceLeDiff, Nat.reduceLT, ob_eqll, Int32.reduceLT, Int32.reduceLE, eq_self_iff_true]
    exact hp
  | j + 1, k, e => by
    have h1 : ¬ 24 ≤ k := by omega
    have h2 := h k (by omega)
    have h3 := hS k (by omega)
    unfold wX_freeActivation_2
    simp (disch := first | omega | decide) only [h2, h1, forall_eq, not_true, not_false_iff, false_implies, true_implies, true_and, and_true, ob_sub1, Nat.add_sub_cancel, nI_1, ob_ix, ob_iy, ob_ix24, ob_iy24, ob_ix10, ob_iy10, ob_ix4, ob_iy4, ob_ix3, ob_iy3, ob_s1, ob_s2, ob_s3, ob_s4, ob_ltl, ob_lel, ob_eql, ob_ltr, ob_ler, ob_uN, Nat.add_one_ne_zero, ob_xs3, ob_lnn, ob_ltn, ob_eqn, Nat.not_lt_zero, Nat.zero_le, Nat.reduceEqDiff, Nat.reduceLeDiff, Nat.reduceLT, ob_eqll, Int32.reduceLT, Int32.reduceLE, eq_self_iff_true]
    exact ob_freeX1 ha h0 h hS post hp j (k + 1) (by omega)
theorem ob_freeX (ha : a < 24) (h0 : S a = 0) (h : ∀ q, q < a → S q ≠ 0) (hS : ∀ q, q < 24 → S q ≤ 2) (post : Int32 → Prop) (hp : post (nI a)) : wpX_freeActivation post (nI n, nI d, nI b, deep, res, thr, thn, (fun zz => nI (CL zz)), cStr, cOp, cA, cB, (fun zz => nI (OK zz)), oKin, oOpen, xFc, xFs, xPc, xKo, xPk, (fun zz => ob_xa (tw zz) (te zz) (tc zz)), pVal, xSet, (fun zz => nI (S zz)), aOut, aVar, (fun zz => nI (FC zz)), (fun zz => nI (FP zz)), (fun zz => nI (FA zz)), (fun zz => nI (FH zz)), (fun zz => nI (XH zz)), (fun zz => nI (FT zz)), fSelf, xHeld, stk, (fun zz => nI (TA zz)), (fun zz => nI (TH zz)), xArg) :=
  ⟨a + 1, ob_freeX1 ha h0 h hS post hp a 0 (by omega)⟩
theorem ob_freeN1 (h : ∀ q, q < 24 → S q ≠ 0) (hS : ∀ q, q < 24 → S q ≤ 2) (post : Int32 → Prop) (hp : post (-1)) : ∀ j k, j + k = 24 → wX_freeActivation_2 post (nI n) (nI d) (nI b) deep res thr thn (fun zz => nI (CL zz)) cStr cOp cA cB (fun zz => nI (OK zz)) oKin oOpen xFc xFs xPc xKo xPk (fun zz => ob_xa (tw zz) (te zz) (tc zz)) pVal xSet (fun zz => nI (S zz)) aOut aVar (fun zz => nI (FC zz)) (fun zz => nI (FP zz)) (fun zz => nI (FA zz)) (fun zz => nI (FH zz)) (fun zz => nI (XH zz)) (fun zz => nI (FT zz)) fSelf xHeld stk (fun zz => nI (TA zz)) (fun zz => nI (TH zz)) xArg (j + 1) (nI k)
  | 0, k, e => by
    have e' : k = 24 := by omega
    subst e'
    unfold wX_freeActivation_2
    exact br_t (by decide) hp
  | j + 1, k, e => by
    have h1 : ¬ 24 ≤ k := by omega
    have h2 := h k (by omega)
    have h3 := hS k (by omega)
    unfold wX_freeActivation_2
    simp (disch := first | omega | decide) only [h2, h1, forall_eq, not_true, not_false_iff, false_implies, true_implies, true_and, and_true, ob_sub1, Nat.add_sub_cancel, nI_1, ob_ix, ob_iy, ob_ix24, ob_iy24, ob_ix10, ob_iy10, ob_ix4, ob_iy4, ob_ix3, ob_iy3, ob_s1, ob_s2, ob_s3, ob_s4, ob_ltl, ob_lel, ob_eql, ob_ltr, ob_ler, ob_uN, Nat.add_one_ne_zero, ob_xs3, ob_lnn, ob_ltn, ob_eqn, Nat.not_lt_zero, Nat.zero_le, Nat.reduceEqDiff, Nat.reduceLeDiff, Nat.reduceLT, ob_eqll, Int32.reduceLT, Int32.reduceLE, eq_self_iff_true]
    exact ob_freeN1 h hS post hp j (k + 1) (by omega)
theorem ob_freeN (h : ∀ q, q < 24 → S q ≠ 0) (hS : ∀ q, q < 24 → S q ≤ 2) (post : Int32 → Prop) (hp : post (-1)) : wpX_freeActivation post (nI n, nI d, nI b, deep, res, thr, thn, (fun zz => nI (CL zz)), cStr, cOp, cA, cB, (fun zz => nI (OK zz)), oKin, oOpen, xFc, xFs, xPc, xKo, xPk, (fun zz => ob_xa (tw zz) (te zz) (tc zz)), pVal, xSet, (fun zz => nI (S zz)), aOut, aVar, (fun zz => nI (FC zz)), (fun zz => nI (FP zz)), (fun zz => nI (FA zz)), (fun zz => nI (FH zz)), (fun zz => nI (XH zz)), (fun zz => nI (FT zz)), fSelf, xHeld, stk, (fun zz => nI (TA zz)), (fun zz => nI (TH zz)), xArg) :=
  ⟨25, ob_freeN1 h hS post hp 24 0 (by omega)⟩
theorem ob_actsY1 (post : Int32 → Prop) (hp : post (nI (ob_cnt S 24))) : ∀ j k, j + k = 24 → wY_activations_4 post (nI n) (nI m) yGiven (nI d) deep (nI b) thr thn res cStr (fun zz => nI (CL zz)) cOp cA cB (fun zz => nI (OK zz)) oKin yCo yAr oOpen (fun zz => nI (M zz)) (fun zz => ob_yf (tw zz) (te zz) (tc zz)) yPair ySeen pVal ySet (fun zz => ob_th (S zz)) yStay aOut aVar yArg (fun zz => nI (FC zz)) (fun zz => nI (FA zz)) (fun zz => nI (FP zz)) (fun zz => nI (FH zz)) yHan (fun zz => nI (FT zz)) (fun zz => nI (TA zz)) (fun zz => nI (TH zz)) fSelf yKept stk (j + 1) (nI (ob_cnt S k)) (nI k)
  | 0, k, e => by
    have e' : k = 24 := by omega
    subst e'
    unfold wY_activations_4
    exact br_t (by decide) hp
  | j + 1, k, e => by
    have h1 : ¬ 24 ≤ k := by omega
    have ih := ob_actsY1 post hp j (k + 1) (by omega)
    have hc : ob_cnt S (k + 1) = ob_cnt S k + (if S k = 0 then 0 else 1) := rfl
    unfold wY_activations_4
    by_cases z : S k = 0
    · rw [hc, if_pos z] at ih
      simp (disch := first | omega | decide) only [h1, ob_th0, z, forall_eq, not_true, not_false_iff, false_implies, true_implies, true_and, and_true, ob_sub1, Nat.add_sub_cancel, nI_1, ob_ix, ob_iy, ob_ix24, ob_iy24, ob_ix10, ob_iy10, ob_ix4, ob_iy4, ob_ix3, ob_iy3, ob_s1, ob_s2, ob_s3, ob_s4, ob_ltl, ob_lel, ob_eql, ob_ltr, ob_ler, ob_uN, Nat.add_one_ne_zero, ob_xs3, ob_lnn, ob_ltn, ob_eqn, Nat.not_lt_zero, Nat.zero_le, Nat.reduceEqDiff, Nat.reduceLeDiff, Nat.reduceLT, ob_eqll, Int32.reduceLT, Int32.reduceLE, eq_self_iff_true]
      exact ih
    · rw [hc, if_neg z] at ih
      simp (disch := first | omega | decide) only [h1, ob_th0, z, forall_eq, not_true, not_false_iff, false_implies, true_implies, true_and, and_true, ob_sub1, Nat.add_sub_cancel, nI_1, ob_ix, ob_iy, ob_ix24, ob_iy24, ob_ix10, ob_iy10, ob_ix4, ob_iy4, ob_ix3, ob_iy3, ob_s1, ob_s2, ob_s3, ob_s4, ob_ltl, ob_lel, ob_eql, ob_ltr, ob_ler, ob_uN, Nat.add_one_ne_zero, ob_xs3, ob_lnn, ob_ltn, ob_eqn, Nat.not_lt_zero, Nat.zero_le, Nat.reduceEqDiff, Nat.reduceLeDiff, Nat.reduceLT, ob_eqll, Int32.reduceLT, Int32.reduceLE, eq_self_iff_true]
      exact ih
theorem ob_actsY (post : Int32 → Prop) (hp : post (nI (ob_cnt S 24))) : wpY_activations post (nI n, nI m, yGiven, nI d, deep, nI b, thr, thn, res, cStr, (fun zz => nI (CL zz)), cOp, cA, cB, (fun zz => nI (OK zz)), oKin, yCo, yAr, oOpen, (fun zz => nI (M zz)), (fun zz => ob_yf (tw zz) (te zz) (tc zz)), yPair, ySeen, pVal, ySet, (fun zz => ob_th (S zz)), yStay, aOut, aVar, yArg, (fun zz => nI (FC zz)), (fun zz => nI (FA zz)), (fun zz => nI (FP zz)), (fun zz => nI (FH zz)), yHan, (fun zz => nI (FT zz)), (fun zz => nI (TA zz)), (fun zz => nI (TH zz)), fSelf, yKept, stk) :=
  ⟨25, ob_actsY1 post hp 24 0 (by omega)⟩
theorem ob_actsX1 (hS : ∀ q, q < 24 → S q ≤ 2) (post : Int32 → Prop) (hp : post (nI (ob_cnt S 24))) : ∀ j k, j + k = 24 → wX_countActivations_4 post (nI n) (nI d) (nI b) deep res thr thn (fun zz => nI (CL zz)) cStr cOp cA cB (fun zz => nI (OK zz)) oKin oOpen xFc xFs xPc xKo xPk (fun zz => ob_xa (tw zz) (te zz) (tc zz)) pVal xSet (fun zz => nI (S zz)) aOut aVar (fun zz => nI (FC zz)) (fun zz => nI (FP zz)) (fun zz => nI (FA zz)) (fun zz => nI (FH zz)) (fun zz => nI (XH zz)) (fun zz => nI (FT zz)) fSelf xHeld stk (fun zz => nI (TA zz)) (fun zz => nI (TH zz)) xArg (j + 1) (nI (ob_cnt S k)) (nI k)
  | 0, k, e => by
    have e' : k = 24 := by omega
    subst e'
    unfold wX_countActivations_4
    exact br_t (by decide) hp
  | j + 1, k, e => by
    have h1 : ¬ 24 ≤ k := by omega
    have h3 := hS k (by omega)
    have ih := ob_actsX1 hS post hp j (k + 1) (by omega)
    have hc : ob_cnt S (k + 1) = ob_cnt S k + (if S k = 0 then 0 else 1) := rfl
    unfold wX_countActivations_4
    by_cases z : S k = 0
    · rw [hc, if_pos z] at ih
      simp (disch := first | omega | decide) only [h1, z, forall_eq, not_true, not_false_iff, false_implies, true_implies, true_and, and_true, ob_sub1, Nat.add_sub_cancel, nI_1, ob_ix, ob_iy, ob_ix24, ob_iy24, ob_ix10, ob_iy10, ob_ix4, ob_iy4, ob_ix3, ob_iy3, ob_s1, ob_s2, ob_s3, ob_s4, ob_ltl, ob_lel, ob_eql, ob_ltr, ob_ler, ob_uN, Nat.add_one_ne_zero, ob_xs3, ob_lnn, ob_ltn, ob_eqn, Nat.not_lt_zero, Nat.zero_le, Nat.reduceEqDiff, Nat.reduceLeDiff, Nat.reduceLT, ob_eqll, Int32.reduceLT, Int32.reduceLE, eq_self_iff_true]
      exact ih
    · rw [hc, if_neg z] at ih
      simp (disch := first | omega | decide) only [h1, z, forall_eq, not_true, not_false_iff, false_implies, true_implies, true_and, and_true, ob_sub1, Nat.add_sub_cancel, nI_1, ob_ix, ob_iy, ob_ix24, ob_iy24, ob_ix10, ob_iy10, ob_ix4, ob_iy4, ob_ix3, ob_iy3, ob_s1, ob_s2, ob_s3, ob_s4, ob_ltl, ob_lel, ob_eql, ob_ltr, ob_ler, ob_uN, Nat.add_one_ne_zero, ob_xs3, ob_lnn, ob_ltn, ob_eqn, Nat.not_lt_zero, Nat.zero_le, Nat.reduceEqDiff, Nat.reduceLeDiff, Nat.reduceLT, ob_eqll, Int32.reduceLT, Int32.reduceLE, eq_self_iff_true]
      exact ih
theorem ob_actsX (hS : ∀ q, q < 24 → S q ≤ 2) (post : Int32 → Prop) (hp : post (nI (ob_cnt S 24))) : wpX_countActivations post (nI n, nI d, nI b, deep, res, thr, thn, (fun zz => nI (CL zz)), cStr, cOp, cA, cB, (fun zz => nI (OK zz)), oKin, oOpen, xFc, xFs, xPc, xKo, xPk, (fun zz => ob_xa (tw zz) (te zz) (tc zz)), pVal, xSet, (fun zz => nI (S zz)), aOut, aVar, (fun zz => nI (FC zz)), (fun zz => nI (FP zz)), (fun zz => nI (FA zz)), (fun zz => nI (FH zz)), (fun zz => nI (XH zz)), (fun zz => nI (FT zz)), fSelf, xHeld, stk, (fun zz => nI (TA zz)), (fun zz => nI (TH zz)), xArg) :=
  ⟨25, ob_actsX1 hS post hp 24 0 (by omega)⟩
end
end
section
/-! ===== a call begins: the new frame ===== -/
/-- the variables of activation a, the first i of them set -/
def ob_av (aVar arg : Nat → Int64) (a c : Nat) : Nat → Nat → Int64
  | 0 => aVar
  | i + 1 => vp_updL (ob_av aVar arg a c i) (4 * a + i) (if i < c then arg i else 8589934592)
theorem ob_av_o {aVar arg : Nat → Int64} {a c : Nat} : ∀ {i j : Nat}, (j < 4 * a ∨ 4 * a + i ≤ j) → ob_av aVar arg a c i j = aVar j
  | 0, _, _ => rfl
  | i + 1, j, h => by
    show vp_updL _ _ _ j = _
    rw [pk_uLn (by omega)]
    exact ob_av_o (by omega)
theorem ob_av_V {aVar arg : Nat → Int64} {a c n : Nat} (h : ∀ k, k < c → ob_V n (arg k)) : ∀ {i k : Nat}, k < i → ob_V n (ob_av aVar arg a c i (4 * a + k))
  | 0, _, hk => absurd hk (by omega)
  | i + 1, k, hk => by
    show ob_V n (vp_updL _ _ _ _)
    rw [ob_uaL]
    split
    · split
      · rename_i z; exact h i z
      · exact ob_V_U n
    · exact ob_av_V h (by omega)
theorem ob_um0 (F : Nat → Nat) (i x : Nat) : (fun zz => nI (ob_um F i x zz)) = fun zz => nI (ob_um F i x zz) := rfl
section
variable {n : Nat} {d : Nat} {b : Nat} {m : Nat} {deep : Int32} {res : Int64} {thr : Int32} {thn : Int64} {CL : Nat → Nat} {cStr : Nat → Int32} {cOp : Nat → Int32} {cA : Nat → Int32} {cB : Nat → Int32} {OK : Nat → Nat} {oKin : Nat → Int32} {oOpen : Nat → Int32} {pVal : Nat → Int64} {aOut : Nat → Int32} {aVar : Nat → Int64} {FC : Nat → Nat} {FA : Nat → Nat} {FP : Nat → Nat} {FH : Nat → Nat} {FT : Nat → Nat} {fSelf : Nat → Int64} {stk : Nat → Int64} {TA : Nat → Nat} {TH : Nat → Nat} {xFc : Nat → Int32} {xFs : Nat → Int32} {xPc : Nat → Int32} {xKo : Nat → Int32} {xPk : Nat → Int32} {tw : Nat → Bool} {te : Nat → Bool} {tc : Nat → Bool} {xSet : Nat → Int64} {S : Nat → Nat} {XH : Nat → Nat} {xHeld : Nat → Int64} {xArg : Nat → Int64} {yCo : Nat → Int32} {yAr : Nat → Int32} {M : Nat → Nat} {yPair : Nat → Int32} {ySeen : Nat → Int32} {ySet : Nat → Int64} {yStay : Nat → Int32} {yArg : Nat → Int64} {yHan : Nat → Int32} {yKept : Nat → Int64} {yGiven : Int32}
variable {e a c t o cc : Nat} {self held kept : Int64} {deep' : Int32}
theorem ob_bcX (hd : d < 6) (ho : o < 32) (ha : a < 24) (hcc : xFc o = nI cc) (hc : c ≤ 4) (hdeep : deep' = if nI (d + 1) ≤ deep then deep else nI (d + 1)) (post : SX → Prop)
    (hp : post (nI n, nI (d+1), nI b, deep', res, thr, thn, (fun zz => nI (CL zz)), cStr, cOp, cA, cB, (fun zz => nI (OK zz)), oKin, oOpen, xFc, xFs, xPc, xKo, xPk, (fun zz => ob_xa (tw zz) (te zz) (tc zz)), pVal, xSet, (fun zz => nI (S zz)), aOut, (ob_av aVar xArg a c 4), (fun zz => nI ((ob_um FC d cc) zz)), (fun zz => nI ((ob_um FP d 0) zz)), (fun zz => nI ((ob_um FA d a) zz)), (fun zz => nI ((ob_um FH d 0) zz)), (fun zz => nI ((ob_um XH d 0) zz)), (fun zz => nI ((ob_um FT d t) zz)), (vp_updL fSelf d self), (vp_updL xHeld d held), stk, (fun zz => nI (TA zz)), (fun zz => nI (TH zz)), xArg)) :
    ∀ j i, j + i = 4 → wX_beginCall_84 post self (nI c) (nI t) held (nI o) (nI a) (nI n) (nI d) (nI b) deep res thr thn (j + 1) (nI i) (fun zz => nI (CL zz)) cStr cOp cA cB (fun zz => nI (OK zz)) oKin oOpen xFc xFs xPc xKo xPk (fun zz => ob_xa (tw zz) (te zz) (tc zz)) pVal xSet (fun zz => nI (S zz)) aOut (ob_av aVar xArg a c i) (fun zz => nI (FC zz)) (fun zz => nI (FP zz)) (fun zz => nI (FA zz)) (fun zz => nI (FH zz)) (fun zz => nI (XH zz)) (fun zz => nI (FT zz)) fSelf xHeld stk (fun zz => nI (TA zz)) (fun zz => nI (TH zz)) xArg
  | 0, i, e => by
    have e' : i = 4 := by omega
    subst e'
    unfold wX_beginCall_84
    have h4 : 4 ≤ 4 := Nat.le_refl 4
    simp (disch := first | omega | decide) only [h4, hcc, ob_uN0, forall_eq, not_true, not_false_iff, false_implies, true_implies, true_and, and_true, ob_sub1, Nat.add_sub_cancel, nI_1, ob_ix, ob_iy, ob_ix24, ob_iy24, ob_ix10, ob_iy10, ob_ix4, ob_iy4, ob_ix3, ob_iy3, ob_s1, ob_s2, ob_s3, ob_s4, ob_ltl, ob_lel, ob_eql, ob_ltr, ob_ler, ob_uN, Nat.add_one_ne_zero, ob_xs3, ob_lnn, ob_ltn, ob_eqn, Nat.not_lt_zero, Nat.zero_le, Nat.reduceEqDiff, Nat.reduceLeDiff, Nat.reduceLT, ob_eqll, Int32.reduceLT, Int32.reduceLE, eq_self_iff_true]
    by_cases z : nI (d + 1) ≤ deep
    · rw [if_pos z] at hdeep
      subst hdeep
      exact br_t z hp
    · rw [if_neg z] at hdeep
      subst hdeep
      exact br_f z hp
  | j + 1, i, e => by
    have ih := ob_bcX hd ho ha hcc hc hdeep post hp j (i + 1) (by omega)
    have h4 : ¬ 4 ≤ i := by omega
    unfold wX_beginCall_84
    simp (disch := first | omega | decide) only [h4, forall_eq, not_true, not_false_iff, false_implies, true_implies, true_and, and_true, ob_sub1, Nat.add_sub_cancel, nI_1, ob_ix, ob_iy, ob_ix24, ob_iy24, ob_ix10, ob_iy10, ob_ix4, ob_iy4, ob_ix3, ob_iy3, ob_s1, ob_s2, ob_s3, ob_s4, ob_ltl, ob_lel, ob_eql, ob_ltr, ob_ler, ob_uN, Nat.add_one_ne_zero, ob_xs3, ob_lnn, ob_ltn, ob_eqn, Nat.not_lt_zero, Nat.zero_le, Nat.reduceEqDiff, Nat.reduceLeDiff, Nat.reduceLT, ob_eqll, Int32.reduceLT, Int32.reduceLE, eq_self_iff_true]
    by_cases z : c ≤ i
    · have z' : ¬ i < c := by omega
      simp only [ob_av, if_neg z'] at ih
      simp (disch := first | omega | decide) only [z, forall_eq, not_true, not_false_iff, false_implies, true_implies, true_and, and_true, ob_sub1, Nat.add_sub_cancel, nI_1, ob_ix, ob_iy, ob_ix24, ob_iy24, ob_ix10, ob_iy10, ob_ix4, ob_iy4, ob_ix3, ob_iy3, ob_s1, ob_s2, ob_s3, ob_s4, ob_ltl, ob_lel, ob_eql, ob_ltr, ob_ler, ob_uN, Nat.add_one_ne_zero, ob_xs3, ob_lnn, ob_ltn, ob_eqn, Nat.not_lt_zero, Nat.zero_le, Nat.reduceEqDiff, Nat.reduceLeDiff, Nat.reduceLT, ob_eqll, Int32.reduceLT, Int32.reduceLE, eq_self_iff_true]
      exact ih
    · have z' : i < c := by omega
      simp only [ob_av, if_pos z'] at ih
      simp (disch := first | omega | decide) only [z, forall_eq, not_true, not_false_iff, false_implies, true_implies, true_and, and_true, ob_sub1, Nat.add_sub_cancel, nI_1, ob_ix, ob_iy, ob_ix24, ob_iy24, ob_ix10, ob_iy10, ob_ix4, ob_iy4, ob_ix3, ob_iy3, ob_s1, ob_s2, ob_s3, ob_s4, ob_ltl, ob_lel, ob_eql, ob_ltr, ob_ler, ob_uN, Nat.add_one_ne_zero, ob_xs3, ob_lnn, ob_ltn, ob_eqn, Nat.not_lt_zero, Nat.zero_le, Nat.reduceEqDiff, Nat.reduceLeDiff, Nat.reduceLT, ob_eqll, Int32.reduceLT, Int32.reduceLE, eq_self_iff_true]
      exact ih
theorem ob_enY (hd : d < 6) (ho : o < 32) (ha : a < 24) (hcc : yCo o = nI cc) (hc : c ≤ 4) (harg : ∀ k, k < c → yArg k = xArg k) (hdeep : deep' = if nI (d + 1) ≤ deep then deep else nI (d + 1)) (post : SY → Prop)
    (hp : post (nI n, nI m, (nI c), nI (d+1), deep', nI b, thr, thn, res, cStr, (fun zz => nI (CL zz)), cOp, cA, cB, (fun zz => nI (OK zz)), oKin, yCo, yAr, oOpen, (fun zz => nI (M zz)), (fun zz => ob_yf (tw zz) (te zz) (tc zz)), yPair, ySeen, pVal, ySet, (fun zz => ob_th (S zz)), yStay, aOut, (ob_av aVar xArg a c 4), yArg, (fun zz => nI ((ob_um FC d cc) zz)), (fun zz => nI ((ob_um FA d a) zz)), (fun zz => nI ((ob_um FP d 0) zz)), (fun zz => nI ((ob_um FH d 0) zz)), (upd yHan d 0), (fun zz => nI ((ob_um FT d t) zz)), (fun zz => nI (TA zz)), (fun zz => nI (TH zz)), (vp_updL fSelf d self), (vp_updL yKept d kept), stk)) :
    ∀ j i, j + i = 4 → wY_enter_120 post self (nI t) kept (nI o) (nI a) (nI d) (nI n) (nI m) (nI c) (nI (d+1)) deep (nI b) thr thn res (j + 1) (nI i) cStr (fun zz => nI (CL zz)) cOp cA cB (fun zz => nI (OK zz)) oKin yCo yAr oOpen (fun zz => nI (M zz)) (fun zz => ob_yf (tw zz) (te zz) (tc zz)) yPair ySeen pVal ySet (fun zz => ob_th (S zz)) yStay aOut (ob_av aVar xArg a c i) yArg (fun zz => nI (FC zz)) (fun zz => nI (FA zz)) (fun zz => nI (FP zz)) (fun zz => nI (FH zz)) yHan (fun zz => nI (FT zz)) (fun zz => nI (TA zz)) (fun zz => nI (TH zz)) fSelf yKept stk
  | 0, i, e => by
    have e' : i = 4 := by omega
    subst e'
    unfold wY_enter_120
    have h4 : 4 ≤ 4 := Nat.le_refl 4
    simp (disch := first | omega | decide) only [h4, hcc, ob_uN0, forall_eq, not_true, not_false_iff, false_implies, true_implies, true_and, and_true, ob_sub1, Nat.add_sub_cancel, nI_1, ob_ix, ob_iy, ob_ix24, ob_iy24, ob_ix10, ob_iy10, ob_ix4, ob_iy4, ob_ix3, ob_iy3, ob_s1, ob_s2, ob_s3, ob_s4, ob_ltl, ob_lel, ob_eql, ob_ltr, ob_ler, ob_uN, Nat.add_one_ne_zero, ob_xs3, ob_lnn, ob_ltn, ob_eqn, Nat.not_lt_zero, Nat.zero_le, Nat.reduceEqDiff, Nat.reduceLeDiff, Nat.reduceLT, ob_eqll, Int32.reduceLT, Int32.reduceLE, eq_self_iff_true]
    by_cases z : nI (d + 1) ≤ deep
    · rw [if_pos z] at hdeep
      subst hdeep
      exact br_t z hp
    · rw [if_neg z] at hdeep
      subst hdeep
      exact br_f z hp
  | j + 1, i, e => by
    have ih := ob_enY hd ho ha hcc hc harg hdeep post hp j (i + 1) (by omega)
    have h4 : ¬ 4 ≤ i := by omega
    unfold wY_enter_120
    simp (disch := first | omega | decide) only [h4, forall_eq, not_true, not_false_iff, false_implies, true_implies, true_and, and_true, ob_sub1, Nat.add_sub_cancel, nI_1, ob_ix, ob_iy, ob_ix24, ob_iy24, ob_ix10, ob_iy10, ob_ix4, ob_iy4, ob_ix3, ob_iy3, ob_s1, ob_s2, ob_s3, ob_s4, ob_ltl, ob_lel, ob_eql, ob_ltr, ob_ler, ob_uN, Nat.add_one_ne_zero, ob_xs3, ob_lnn, ob_ltn, ob_eqn, Nat.not_lt_zero, Nat.zero_le, Nat.reduceEqDiff, Nat.reduceLeDiff, Nat.reduceLT, ob_eqll, Int32.reduceLT, Int32.reduceLE, eq_self_iff_true]
    by_cases z : c ≤ i
    · have z' : ¬ i < c := by omega
      simp only [ob_av, if_neg z'] at ih
      simp (disch := first | omega | decide) only [z, forall_eq, not_true, not_false_iff, false_implies, true_implies, true_and, and_true, ob_sub1, Nat.add_sub_cancel, nI_1, ob_ix, ob_iy, ob_ix24, ob_iy24, ob_ix10, ob_iy10, ob_ix4, ob_iy4, ob_ix3, ob_iy3, ob_s1, ob_s2, ob_s3, ob_s4, ob_ltl, ob_lel, ob_eql, ob_ltr, ob_ler, ob_uN, Nat.add_one_ne_zero, ob_xs3, ob_lnn, ob_ltn, ob_eqn, Nat.not_lt_zero, Nat.zero_le, Nat.reduceEqDiff, Nat.reduceLeDiff, Nat.reduceLT, ob_eqll, Int32.reduceLT, Int32.reduceLE, eq_self_iff_true]
      exact ih
    · have z' : i < c := by omega
      simp only [ob_av, if_pos z'] at ih
      simp (disch := first | omega | decide) only [z, harg i z', forall_eq, not_true, not_false_iff, false_implies, true_implies, true_and, and_true, ob_sub1, Nat.add_sub_cancel, nI_1, ob_ix, ob_iy, ob_ix24, ob_iy24, ob_ix10, ob_iy10, ob_ix4, ob_iy4, ob_ix3, ob_iy3, ob_s1, ob_s2, ob_s3, ob_s4, ob_ltl, ob_lel, ob_eql, ob_ltr, ob_ler, ob_uN, Nat.add_one_ne_zero, ob_xs3, ob_lnn, ob_ltn, ob_eqn, Nat.not_lt_zero, Nat.zero_le, Nat.reduceEqDiff, Nat.reduceLeDiff, Nat.reduceLT, ob_eqll, Int32.reduceLT, Int32.reduceLE, eq_self_iff_true]
      exact ih
theorem ob_nar1t : vp_nar .boolean 1 = ob_th 1 := rfl
theorem ob_en71 (hd : d < 6) (ho : o < 32) (ha : a < 24) (h0 : S a = 0) (hq : ∀ q, q < a → S q ≠ 0) (hcc : yCo o = nI cc) (hc : c ≤ 4) (harg : ∀ k, k < c → yArg k = xArg k) (hdeep : deep' = if nI (d + 1) ≤ deep then deep else nI (d + 1)) (post : SY → Prop)
    (hp : post (nI n, nI m, (nI c), nI (d+1), deep', nI b, thr, thn, res, cStr, (fun zz => nI (CL zz)), cOp, cA, cB, (fun zz => nI (OK zz)), oKin, yCo, yAr, oOpen, (fun zz => nI (M zz)), (fun zz => ob_yf (tw zz) (te zz) (tc zz)), yPair, ySeen, pVal, ySet, (fun zz => ob_th ((ob_um S a 1) zz)), (upd yStay a 0), (upd aOut a (yAr o)), (ob_av aVar xArg a c 4), yArg, (fun zz => nI ((ob_um FC d cc) zz)), (fun zz => nI ((ob_um FA d a) zz)), (fun zz => nI ((ob_um FP d 0) zz)), (fun zz => nI ((ob_um FH d 0) zz)), (upd yHan d 0), (fun zz => nI ((ob_um FT d t) zz)), (fun zz => nI (TA zz)), (fun zz => nI (TH zz)), (vp_updL fSelf d self), (vp_updL yKept d kept), stk)) :
    ∀ j k, j + k = a → wY_enter_71 post self (nI t) kept (nI o) (nI d) (nI n) (nI m) (nI c) (nI (d+1)) deep (nI b) thr thn res cStr (fun zz => nI (CL zz)) cOp cA cB (fun zz => nI (OK zz)) oKin yCo yAr oOpen (fun zz => nI (M zz)) (fun zz => ob_yf (tw zz) (te zz) (tc zz)) yPair ySeen pVal ySet (fun zz => ob_th (S zz)) yStay aOut aVar yArg (fun zz => nI (FC zz)) (fun zz => nI (FA zz)) (fun zz => nI (FP zz)) (fun zz => nI (FH zz)) yHan (fun zz => nI (FT zz)) (fun zz => nI (TA zz)) (fun zz => nI (TH zz)) fSelf yKept stk (j + 1) (nI k)
  | 0, k, e => by
    have e' : k = a := by omega
    subst e'
    unfold wY_enter_71
    simp (disch := first | omega | decide) only [ob_th0, h0, ob_nar1t, ob_nar0, ob_uT, forall_eq, not_true, not_false_iff, false_implies, true_implies, true_and, and_true, ob_sub1, Nat.add_sub_cancel, nI_1, ob_ix, ob_iy, ob_ix24, ob_iy24, ob_ix10, ob_iy10, ob_ix4, ob_iy4, ob_ix3, ob_iy3, ob_s1, ob_s2, ob_s3, ob_s4, ob_ltl, ob_lel, ob_eql, ob_ltr, ob_ler, ob_uN, Nat.add_one_ne_zero, ob_xs3, ob_lnn, ob_ltn, ob_eqn, Nat.not_lt_zero, Nat.zero_le, Nat.reduceEqDiff, Nat.reduceLeDiff, Nat.reduceLT, ob_eqll, Int32.reduceLT, Int32.reduceLE, eq_self_iff_true]
    exact ⟨5, ob_enY hd ho ha hcc hc harg hdeep post hp 4 0 rfl⟩
  | j + 1, k, e => by
    have h2 := hq k (by omega)
    unfold wY_enter_71
    simp (disch := first | omega | decide) only [ob_th0, h2, forall_eq, not_true, not_false_iff, false_implies, true_implies, true_and, and_true, ob_sub1, Nat.add_sub_cancel, nI_1, ob_ix, ob_iy, ob_ix24, ob_iy24, ob_ix10, ob_iy10, ob_ix4, ob_iy4, ob_ix3, ob_iy3, ob_s1, ob_s2, ob_s3, ob_s4, ob_ltl, ob_lel, ob_eql, ob_ltr, ob_ler, ob_uN, Nat.add_one_ne_zero, ob_xs3, ob_lnn, ob_ltn, ob_eqn, Nat.not_lt_zero, Nat.zero_le, Nat.reduceEqDiff, Nat.reduceLeDiff, Nat.reduceLT, ob_eqll, Int32.reduceLT, Int32.reduceLE, eq_self_iff_true]
    exact ob_en71 hd ho ha h0 hq hcc hc harg hdeep post hp j (k + 1) (by omega)
/-- both sides begin a call: TYPE, RANGE, or a new frame -/
theorem ob_enter {fn : Int64} (R : ob_R n d b m res thr thn CL cOp cA cB OK oKin pVal aOut aVar FC FA FP FH FT fSelf stk TA TH xFc xFs xPc xKo xPk tw tc xSet S XH xHeld yCo yAr M yPair ySet yStay yHan yKept) (hres : res = 8589934592) (hf : ob_V n fn) (hs : ob_V n self) (ht : t ≤ 2) (hk : t ≠ 0 → held = kept ∧ ob_V n kept) (hc : c ≤ 4) (harg : ∀ k, k < c → yArg k = xArg k ∧ ob_V n (xArg k)) :
    ∃ d' deep' thr' thn' S' aOut' aVar' FC' FA' FP' FH' FT' fSelf' XH' yHan' xHeld' yKept' yStay',
    ob_R n d' b m res thr' thn' CL cOp cA cB OK oKin pVal aOut' aVar' FC' FA' FP' FH' FT' fSelf' stk TA TH xFc xFs xPc xKo xPk tw tc xSet S' XH' xHeld' yCo yAr M yPair ySet yStay' yHan' yKept' ∧
    4 * d' + ob_hs XH' d' ≤ 4 * d + ob_hs XH d + 4 ∧
    (∀ post, post (nI n, nI d', nI b, deep', res, thr', thn', (fun zz => nI (CL zz)), cStr, cOp, cA, cB, (fun zz => nI (OK zz)), oKin, oOpen, xFc, xFs, xPc, xKo, xPk, (fun zz => ob_xa (tw zz) (te zz) (tc zz)), pVal, xSet, (fun zz => nI (S' zz)), aOut', aVar', (fun zz => nI (FC' zz)), (fun zz => nI (FP' zz)), (fun zz => nI (FA' zz)), (fun zz => nI (FH' zz)), (fun zz => nI (XH' zz)), (fun zz => nI (FT' zz)), fSelf', xHeld', stk, (fun zz => nI (TA zz)), (fun zz => nI (TH zz)), xArg) → wpX_beginCall post (nI n, nI d, nI b, deep, res, thr, thn, (fun zz => nI (CL zz)), cStr, cOp, cA, cB, (fun zz => nI (OK zz)), oKin, oOpen, xFc, xFs, xPc, xKo, xPk, (fun zz => ob_xa (tw zz) (te zz) (tc zz)), pVal, xSet, (fun zz => nI (S zz)), aOut, aVar, (fun zz => nI (FC zz)), (fun zz => nI (FP zz)), (fun zz => nI (FA zz)), (fun zz => nI (FH zz)), (fun zz => nI (XH zz)), (fun zz => nI (FT zz)), fSelf, xHeld, stk, (fun zz => nI (TA zz)), (fun zz => nI (TH zz)), xArg) fn self (nI c) (nI t) held) ∧
    (∀ post, post (nI n, nI m, (nI c), nI d', deep', nI b, thr', thn', res, cStr, (fun zz => nI (CL zz)), cOp, cA, cB, (fun zz => nI (OK zz)), oKin, yCo, yAr, oOpen, (fun zz => nI (M zz)), (fun zz => ob_yf (tw zz) (te zz) (tc zz)), yPair, ySeen, pVal, ySet, (fun zz => ob_th (S' zz)), yStay', aOut', aVar', yArg, (fun zz => nI (FC' zz)), (fun zz => nI (FA' zz)), (fun zz => nI (FP' zz)), (fun zz => nI (FH' zz)), yHan', (fun zz => nI (FT' zz)), (fun zz => nI (TA zz)), (fun zz => nI (TH zz)), fSelf', yKept', stk) → wpY_enter post (nI n, nI m, (nI c), nI d, deep, nI b, thr, thn, res, cStr, (fun zz => nI (CL zz)), cOp, cA, cB, (fun zz => nI (OK zz)), oKin, yCo, yAr, oOpen, (fun zz => nI (M zz)), (fun zz => ob_yf (tw zz) (te zz) (tc zz)), yPair, ySeen, pVal, ySet, (fun zz => ob_th (S zz)), yStay, aOut, aVar, yArg, (fun zz => nI (FC zz)), (fun zz => nI (FA zz)), (fun zz => nI (FP zz)), (fun zz => nI (FH zz)), yHan, (fun zz => nI (FT zz)), (fun zz => nI (TA zz)), (fun zz => nI (TH zz)), fSelf, yKept, stk) fn self (nI t) kept) := by
  have hn : n ≤ 32 := R.2.1.1.2
  have hd6 : d ≤ 6 := R.2.2.2.2.2.2.1.1
  have hS2 : ∀ q, q < 24 → S q ≤ 2 := fun q hq => (R.2.2.2.2.2.1.2 q hq).1
  rcases ob_cls hf with hl | ⟨o, ho, rfl⟩
  · refine ⟨d, deep, 1, 8589934596, S, aOut, aVar, FC, FA, FP, FH, FT, fSelf, XH, yHan, xHeld, yKept, yStay, ob_raise R (ob_V_Ty n), by omega, fun post hp => ?_, fun post hp => ?_⟩
    · unfold wpX_beginCall
      exact ob_objN hl _ (br_t (by decide) hp)
    · unfold wpY_enter wpY_isFunction
      exact ob_isoF hl _ (br_t rfl (br_t rfl (br_t rfl hp)))
  · have hOK : OK o ≤ 2 := (R.2.1.2 o ho).1
    by_cases h2 : OK o = 2
    · have hYf : ∀ post : Int32 → Prop, post 1 → wpY_isFunction post (nI n, nI m, (nI c), nI d, deep, nI b, thr, thn, res, cStr, (fun zz => nI (CL zz)), cOp, cA, cB, (fun zz => nI (OK zz)), oKin, yCo, yAr, oOpen, (fun zz => nI (M zz)), (fun zz => ob_yf (tw zz) (te zz) (tc zz)), yPair, ySeen, pVal, ySet, (fun zz => ob_th (S zz)), yStay, aOut, aVar, yArg, (fun zz => nI (FC zz)), (fun zz => nI (FA zz)), (fun zz => nI (FP zz)), (fun zz => nI (FH zz)), yHan, (fun zz => nI (FT zz)), (fun zz => nI (TA zz)), (fun zz => nI (TH zz)), fSelf, yKept, stk) (lN (17179869184 + o)) := by
        intro post hp
        unfold wpY_isFunction
        refine ob_isoT o (by omega) _ ?_
        refine br_f (by decide) ?_
        unfold wpY_number
        rw [ob_numb]
        simp (disch := first | omega | decide) only [h2, forall_eq, not_true, not_false_iff, false_implies, true_implies, true_and, and_true, ob_sub1, Nat.add_sub_cancel, nI_1, ob_ix, ob_iy, ob_ix24, ob_iy24, ob_ix10, ob_iy10, ob_ix4, ob_iy4, ob_ix3, ob_iy3, ob_s1, ob_s2, ob_s3, ob_s4, ob_ltl, ob_lel, ob_eql, ob_ltr, ob_ler, ob_uN, Nat.add_one_ne_zero, ob_xs3, ob_lnn, ob_ltn, ob_eqn, Nat.not_lt_zero, Nat.zero_le, Nat.reduceEqDiff, Nat.reduceLeDiff, Nat.reduceLT, ob_eqll, Int32.reduceLT, Int32.reduceLE, eq_self_iff_true]
        exact hp
      have h10 : ¬ (1 : Int32) = 0 := by decide
      by_cases hd : d = 6
      · have h6 : 6 ≤ d := by omega
        refine ⟨d, deep, 1, 8589934597, S, aOut, aVar, FC, FA, FP, FH, FT, fSelf, XH, yHan, xHeld, yKept, yStay, ob_raise R (ob_V_Ra n), by omega, fun post hp => ?_, fun post hp => ?_⟩
        · unfold wpX_beginCall
          refine ob_objO hn ho _ ?_
          simp (disch := first | omega | decide) only [h2, h6, forall_eq, not_true, not_false_iff, false_implies, true_implies, true_and, and_true, ob_sub1, Nat.add_sub_cancel, nI_1, ob_ix, ob_iy, ob_ix24, ob_iy24, ob_ix10, ob_iy10, ob_ix4, ob_iy4, ob_ix3, ob_iy3, ob_s1, ob_s2, ob_s3, ob_s4, ob_ltl, ob_lel, ob_eql, ob_ltr, ob_ler, ob_uN, Nat.add_one_ne_zero, ob_xs3, ob_lnn, ob_ltn, ob_eqn, Nat.not_lt_zero, Nat.zero_le, Nat.reduceEqDiff, Nat.reduceLeDiff, Nat.reduceLT, ob_eqll, Int32.reduceLT, Int32.reduceLE, eq_self_iff_true]
          rcases ob_free S 24 with h | ⟨a, ha, h0, h⟩
          · exact ob_freeN h hS2 _ hp
          · exact ob_freeX ha h0 h hS2 _ hp
        · unfold wpY_enter
          refine hYf _ ?_
          exact br_f h10 (br_t (by rw [hd]; rfl) (br_f h10 hp))
      · have hd6' : ¬ nI d = 6 := fun z => hd ((nI_eq (b := 6) (by omega) (by decide)).mp z)
        have hd6'' : ¬ 6 ≤ d := by omega
        rcases ob_free S 24 with h | ⟨a, ha, h0, h⟩
        · refine ⟨d, deep, 1, 8589934597, S, aOut, aVar, FC, FA, FP, FH, FT, fSelf, XH, yHan, xHeld, yKept, yStay, ob_raise R (ob_V_Ra n), by omega, fun post hp => ?_, fun post hp => ?_⟩
          · unfold wpX_beginCall
            refine ob_objO hn ho _ ?_
            simp (disch := first | omega | decide) only [h2, hd6'', forall_eq, not_true, not_false_iff, false_implies, true_implies, true_and, and_true, ob_sub1, Nat.add_sub_cancel, nI_1, ob_ix, ob_iy, ob_ix24, ob_iy24, ob_ix10, ob_iy10, ob_ix4, ob_iy4, ob_ix3, ob_iy3, ob_s1, ob_s2, ob_s3, ob_s4, ob_ltl, ob_lel, ob_eql, ob_ltr, ob_ler, ob_uN, Nat.add_one_ne_zero, ob_xs3, ob_lnn, ob_ltn, ob_eqn, Nat.not_lt_zero, Nat.zero_le, Nat.reduceEqDiff, Nat.reduceLeDiff, Nat.reduceLT, ob_eqll, Int32.reduceLT, Int32.reduceLE, eq_self_iff_true]
            exact ob_freeN h hS2 _ (br_f (by decide) hp)
          · unfold wpY_enter
            refine hYf _ ?_
            refine br_f h10 (br_f hd6' ?_)
            refine ob_actsY _ ?_
            rw [ob_cnt_all h]
            exact br_t rfl (br_f h10 hp)
        · obtain ⟨hC, hO, hP, hL, hY, hA, hF, hT⟩ := R
          obtain ⟨g1, ⟨cc, hcc, g2⟩, g3, g4⟩ := hA.1 o ho h2
          have hdeep : (if nI (d + 1) ≤ deep then deep else nI (d + 1)) = if nI (d + 1) ≤ deep then deep else nI (d + 1) := rfl
          refine ⟨d + 1, if nI (d + 1) ≤ deep then deep else nI (d + 1), thr, thn, ob_um S a 1, upd aOut a (yAr o), ob_av aVar xArg a c 4, ob_um FC d cc, ob_um FA d a, ob_um FP d 0, ob_um FH d 0, ob_um FT d t, vp_updL fSelf d self, ob_um XH d 0, upd yHan d 0, vp_updL xHeld d held, vp_updL yKept d kept, upd yStay a 0,
            ⟨hC, hO, hP, hL, hY, ob_gA_enter hA h0 g4 (fun k hk => ob_av_V (fun k hk => (harg k hk).2) hk) (fun q k hq hk => ob_av_o (by omega)), ob_gF_enter hF (by omega) hcc ha h0 (by decide) ht hs hk, hT.1, hT.2.1, fun _ => hres⟩, ?_, fun post hp => ?_, fun post hp => ?_⟩
          · show 4 * (d + 1) + (ob_hs (ob_um XH d 0) d + ob_um XH d 0 d) ≤ _
            rw [ob_hs_u, ob_um_s]
            omega
          · unfold wpX_beginCall
            refine ob_objO hn ho _ ?_
            simp (disch := first | omega | decide) only [h2, hd6'', forall_eq, not_true, not_false_iff, false_implies, true_implies, true_and, and_true, ob_sub1, Nat.add_sub_cancel, nI_1, ob_ix, ob_iy, ob_ix24, ob_iy24, ob_ix10, ob_iy10, ob_ix4, ob_iy4, ob_ix3, ob_iy3, ob_s1, ob_s2, ob_s3, ob_s4, ob_ltl, ob_lel, ob_eql, ob_ltr, ob_ler, ob_uN, Nat.add_one_ne_zero, ob_xs3, ob_lnn, ob_ltn, ob_eqn, Nat.not_lt_zero, Nat.zero_le, Nat.reduceEqDiff, Nat.reduceLeDiff, Nat.reduceLT, ob_eqll, Int32.reduceLT, Int32.reduceLE, eq_self_iff_true]
            refine ob_freeX ha h0 h hS2 _ ?_
            simp (disch := first | omega | decide) only [ob_uN1, g3, forall_eq, not_true, not_false_iff, false_implies, true_implies, true_and, and_true, ob_sub1, Nat.add_sub_cancel, nI_1, ob_ix, ob_iy, ob_ix24, ob_iy24, ob_ix10, ob_iy10, ob_ix4, ob_iy4, ob_ix3, ob_iy3, ob_s1, ob_s2, ob_s3, ob_s4, ob_ltl, ob_lel, ob_eql, ob_ltr, ob_ler, ob_uN, Nat.add_one_ne_zero, ob_xs3, ob_lnn, ob_ltn, ob_eqn, Nat.not_lt_zero, Nat.zero_le, Nat.reduceEqDiff, Nat.reduceLeDiff, Nat.reduceLT, ob_eqll, Int32.reduceLT, Int32.reduceLE, eq_self_iff_true]
            exact ⟨5, ob_bcX (by omega) (by omega) ha (g1.trans g2) hc hdeep post hp 4 0 rfl⟩
          · unfold wpY_enter
            refine hYf _ ?_
            refine br_f h10 (br_f hd6' ?_)
            refine ob_actsY _ ?_
            have hlt := ob_cnt_lt h0 ha
            refine br_f (fun z => ?_) ?_
            · have := (nI_eq (b := 24) (by omega) (by decide)).mp z
              omega
            · unfold wpY_number
              rw [ob_numb, nI_1]
              exact nm_e ⟨a + 1, ob_en71 (by omega) (by omega) ha h0 h g2 hc (fun k hk => (harg k hk).1) hdeep post hp a 0 rfl⟩
    · refine ⟨d, deep, 1, 8589934596, S, aOut, aVar, FC, FA, FP, FH, FT, fSelf, XH, yHan, xHeld, yKept, yStay, ob_raise R (ob_V_Ty n), by omega, fun post hp => ?_, fun post hp => ?_⟩
      · unfold wpX_beginCall
        refine ob_objO hn ho _ ?_
        simp (disch := first | omega | decide) only [h2, forall_eq, not_true, not_false_iff, false_implies, true_implies, true_and, and_true, ob_sub1, Nat.add_sub_cancel, nI_1, ob_ix, ob_iy, ob_ix24, ob_iy24, ob_ix10, ob_iy10, ob_ix4, ob_iy4, ob_ix3, ob_iy3, ob_s1, ob_s2, ob_s3, ob_s4, ob_ltl, ob_lel, ob_eql, ob_ltr, ob_ler, ob_uN, Nat.add_one_ne_zero, ob_xs3, ob_lnn, ob_ltn, ob_eqn, Nat.not_lt_zero, Nat.zero_le, Nat.reduceEqDiff, Nat.reduceLeDiff, Nat.reduceLT, ob_eqll, Int32.reduceLT, Int32.reduceLE, eq_self_iff_true]
        exact hp
      · unfold wpY_enter wpY_isFunction
        refine ob_isoT o (by omega) _ ?_
        refine br_f (by decide) ?_
        unfold wpY_number
        rw [ob_numb]
        simp (disch := first | omega | decide) only [h2, forall_eq, not_true, not_false_iff, false_implies, true_implies, true_and, and_true, ob_sub1, Nat.add_sub_cancel, nI_1, ob_ix, ob_iy, ob_ix24, ob_iy24, ob_ix10, ob_iy10, ob_ix4, ob_iy4, ob_ix3, ob_iy3, ob_s1, ob_s2, ob_s3, ob_s4, ob_ltl, ob_lel, ob_eql, ob_ltr, ob_ler, ob_uN, Nat.add_one_ne_zero, ob_xs3, ob_lnn, ob_ltn, ob_eqn, Nat.not_lt_zero, Nat.zero_le, Nat.reduceEqDiff, Nat.reduceLeDiff, Nat.reduceLT, ob_eqll, Int32.reduceLT, Int32.reduceLE, eq_self_iff_true]
        exact br_t rfl hp
end
end
section
/-! ===== LOOKING along the prototypes ===== -/
theorem ob_sl_0 {n M : Nat} {v xs ys : Int64} {pk pr : Int32} {w : Bool} (h : ob_sl n M v pk w xs pr ys) : pk = 0 ↔ M = 0 := by
  rcases h with ⟨h1, h2⟩ | ⟨h1, _, ⟨_, h2⟩ | ⟨_, h2, _⟩⟩
  · exact ⟨fun _ => h1, fun _ => h2⟩
  · exact ⟨fun z => absurd (h2.symm.trans z) (by decide), fun z => absurd z h1⟩
  · exact ⟨fun z => absurd (h2.symm.trans z) (by decide), fun z => absurd z h1⟩
section
variable {n : Nat} {d : Nat} {b : Nat} {m : Nat} {deep : Int32} {res : Int64} {thr : Int32} {thn : Int64} {CL : Nat → Nat} {cStr : Nat → Int32} {cOp : Nat → Int32} {cA : Nat → Int32} {cB : Nat → Int32} {OK : Nat → Nat} {oKin : Nat → Int32} {oOpen : Nat → Int32} {pVal : Nat → Int64} {aOut : Nat → Int32} {aVar : Nat → Int64} {FC : Nat → Nat} {FA : Nat → Nat} {FP : Nat → Nat} {FH : Nat → Nat} {FT : Nat → Nat} {fSelf : Nat → Int64} {stk : Nat → Int64} {TA : Nat → Nat} {TH : Nat → Nat} {xFc : Nat → Int32} {xFs : Nat → Int32} {xPc : Nat → Int32} {xKo : Nat → Int32} {xPk : Nat → Int32} {tw : Nat → Bool} {te : Nat → Bool} {tc : Nat → Bool} {xSet : Nat → Int64} {S : Nat → Nat} {XH : Nat → Nat} {xHeld : Nat → Int64} {xArg : Nat → Int64} {yCo : Nat → Int32} {yAr : Nat → Int32} {M : Nat → Nat} {yPair : Nat → Int32} {ySeen : Nat → Int32} {ySet : Nat → Int64} {yStay : Nat → Int32} {yArg : Nat → Int64} {yHan : Nat → Int32} {yKept : Nat → Int64} {yGiven : Int32}
variable {k B w : Nat}
theorem ob_look1 (hO : ob_gO n OK oKin) (hP : ob_gP n m M pVal xPk tw xSet yPair ySet) (hm : m < 2 ^ 31) (hk : k < 32) : ∀ o, o < n → ∃ r : Int32, (r = -1 ∨ ∃ q, q ≤ o ∧ M (32 * q + k) ≠ 0 ∧ r = nI (32 * q + k)) ∧
    (∀ post : Int32 → Prop, post r → ∀ j i, o + 2 ≤ j → i + o ≤ 31 → wX_find_5 post (nI k) (nI n) (nI d) (nI b) deep res thr thn (fun zz => nI (CL zz)) cStr cOp cA cB (fun zz => nI (OK zz)) oKin oOpen xFc xFs xPc xKo xPk (fun zz => ob_xa (tw zz) (te zz) (tc zz)) pVal xSet (fun zz => nI (S zz)) aOut aVar (fun zz => nI (FC zz)) (fun zz => nI (FP zz)) (fun zz => nI (FA zz)) (fun zz => nI (FH zz)) (fun zz => nI (XH zz)) (fun zz => nI (FT zz)) fSelf xHeld stk (fun zz => nI (TA zz)) (fun zz => nI (TH zz)) xArg j (nI o) (nI i)) ∧
    (∀ post : Int32 → Prop, post r → ∀ j, o + 2 ≤ j → wY_look_2 post (nI k) (nI n) (nI m) yGiven (nI d) deep (nI b) thr thn res cStr (fun zz => nI (CL zz)) cOp cA cB (fun zz => nI (OK zz)) oKin yCo yAr oOpen (fun zz => nI (M zz)) (fun zz => ob_yf (tw zz) (te zz) (tc zz)) yPair ySeen pVal ySet (fun zz => ob_th (S zz)) yStay aOut aVar yArg (fun zz => nI (FC zz)) (fun zz => nI (FA zz)) (fun zz => nI (FP zz)) (fun zz => nI (FH zz)) yHan (fun zz => nI (FT zz)) (fun zz => nI (TA zz)) (fun zz => nI (TH zz)) fSelf yKept stk j (nI o)) := by
  intro o
  induction o using Nat.strongRecOn with
  | ind o ih =>
    intro ho
    have hn := hO.1.2
    have hsl := ob_sl_0 (hP.2.2 (32 * o + k) (by omega))
    have hMm := hP.1 (32 * o + k)
    by_cases z : M (32 * o + k) = 0
    · have z' := hsl.mpr z
      rcases (hO.2 o ho).2 with e | ⟨p, hp, e⟩
      · refine ⟨-1, Or.inl rfl, fun post hpost j i hj hi => ?_, fun post hpost j hj => ?_⟩
        · obtain ⟨j, rfl⟩ : ∃ q, j = q + 2 := ⟨j - 2, by omega⟩
          have hi' : ¬ 32 ≤ i := by omega
          unfold wX_find_5
          simp (disch := first | omega | decide) only [hi', z', e, forall_eq, not_true, not_false_iff, false_implies, true_implies, true_and, and_true, ob_sub1, Nat.add_sub_cancel, nI_1, ob_ix, ob_iy, ob_ix24, ob_iy24, ob_ix10, ob_iy10, ob_ix4, ob_iy4, ob_ix3, ob_iy3, ob_s1, ob_s2, ob_s3, ob_s4, ob_ltl, ob_lel, ob_eql, ob_ltr, ob_ler, ob_uN, Nat.add_one_ne_zero, ob_xs3, ob_lnn, ob_ltn, ob_eqn, Nat.not_lt_zero, Nat.zero_le, Nat.reduceEqDiff, Nat.reduceLeDiff, Nat.reduceLT, ob_eqll, Int32.reduceLT, Int32.reduceLE, eq_self_iff_true]
          unfold wX_find_5
          exact br_c (fun _ => hpost) (fun _ => br_t (by decide) hpost)
        · obtain ⟨j, rfl⟩ : ∃ q, j = q + 2 := ⟨j - 2, by omega⟩
          unfold wY_look_2
          simp (disch := first | omega | decide) only [z, e, forall_eq, not_true, not_false_iff, false_implies, true_implies, true_and, and_true, ob_sub1, Nat.add_sub_cancel, nI_1, ob_ix, ob_iy, ob_ix24, ob_iy24, ob_ix10, ob_iy10, ob_ix4, ob_iy4, ob_ix3, ob_iy3, ob_s1, ob_s2, ob_s3, ob_s4, ob_ltl, ob_lel, ob_eql, ob_ltr, ob_ler, ob_uN, Nat.add_one_ne_zero, ob_xs3, ob_lnn, ob_ltn, ob_eqn, Nat.not_lt_zero, Nat.zero_le, Nat.reduceEqDiff, Nat.reduceLeDiff, Nat.reduceLT, ob_eqll, Int32.reduceLT, Int32.reduceLE, eq_self_iff_true]
          unfold wY_look_2 wY_look_30
          exact br_t (by decide) (br_f (by decide) hpost)
      · obtain ⟨r, hr, hX, hY⟩ := ih p hp (by omega)
        refine ⟨r, ?_, fun post hpost j i hj hi => ?_, fun post hpost j hj => ?_⟩
        · rcases hr with h | ⟨q, h1, h2⟩
          · exact Or.inl h
          · exact Or.inr ⟨q, by omega, h2⟩
        · obtain ⟨j, rfl⟩ : ∃ q, j = q + 1 := ⟨j - 1, by omega⟩
          have hi' : ¬ 32 ≤ i := by omega
          unfold wX_find_5
          simp (disch := first | omega | decide) only [hi', z', e, forall_eq, not_true, not_false_iff, false_implies, true_implies, true_and, and_true, ob_sub1, Nat.add_sub_cancel, nI_1, ob_ix, ob_iy, ob_ix24, ob_iy24, ob_ix10, ob_iy10, ob_ix4, ob_iy4, ob_ix3, ob_iy3, ob_s1, ob_s2, ob_s3, ob_s4, ob_ltl, ob_lel, ob_eql, ob_ltr, ob_ler, ob_uN, Nat.add_one_ne_zero, ob_xs3, ob_lnn, ob_ltn, ob_eqn, Nat.not_lt_zero, Nat.zero_le, Nat.reduceEqDiff, Nat.reduceLeDiff, Nat.reduceLT, ob_eqll, Int32.reduceLT, Int32.reduceLE, eq_self_iff_true]
          exact hX post hpost j (i + 1) (by omega) (by omega)
        · obtain ⟨j, rfl⟩ : ∃ q, j = q + 1 := ⟨j - 1, by omega⟩
          unfold wY_look_2
          simp (disch := first | omega | decide) only [z, e, forall_eq, not_true, not_false_iff, false_implies, true_implies, true_and, and_true, ob_sub1, Nat.add_sub_cancel, nI_1, ob_ix, ob_iy, ob_ix24, ob_iy24, ob_ix10, ob_iy10, ob_ix4, ob_iy4, ob_ix3, ob_iy3, ob_s1, ob_s2, ob_s3, ob_s4, ob_ltl, ob_lel, ob_eql, ob_ltr, ob_ler, ob_uN, Nat.add_one_ne_zero, ob_xs3, ob_lnn, ob_ltn, ob_eqn, Nat.not_lt_zero, Nat.zero_le, Nat.reduceEqDiff, Nat.reduceLeDiff, Nat.reduceLT, ob_eqll, Int32.reduceLT, Int32.reduceLE, eq_self_iff_true]
          exact hY post hpost j (by omega)
    · have z' : ¬ xPk (32 * o + k) = 0 := fun y => z (hsl.mp y)
      refine ⟨nI (32 * o + k), Or.inr ⟨o, Nat.le_refl _, z, rfl⟩, fun post hpost j i hj hi => ?_, fun post hpost j hj => ?_⟩
      · obtain ⟨j, rfl⟩ : ∃ q, j = q + 1 := ⟨j - 1, by omega⟩
        have hi' : ¬ 32 ≤ i := by omega
        unfold wX_find_5
        simp (disch := first | omega | decide) only [hi', z', forall_eq, not_true, not_false_iff, false_implies, true_implies, true_and, and_true, ob_sub1, Nat.add_sub_cancel, nI_1, ob_ix, ob_iy, ob_ix24, ob_iy24, ob_ix10, ob_iy10, ob_ix4, ob_iy4, ob_ix3, ob_iy3, ob_s1, ob_s2, ob_s3, ob_s4, ob_ltl, ob_lel, ob_eql, ob_ltr, ob_ler, ob_uN, Nat.add_one_ne_zero, ob_xs3, ob_lnn, ob_ltn, ob_eqn, Nat.not_lt_zero, Nat.zero_le, Nat.reduceEqDiff, Nat.reduceLeDiff, Nat.reduceLT, ob_eqll, Int32.reduceLT, Int32.reduceLE, eq_self_iff_true]
        exact hpost
      · obtain ⟨j, rfl⟩ : ∃ q, j = q + 1 := ⟨j - 1, by omega⟩
        unfold wY_look_2 wY_look_30
        simp (disch := first | omega | decide) only [z, forall_eq, not_true, not_false_iff, false_implies, true_implies, true_and, and_true, ob_sub1, Nat.add_sub_cancel, nI_1, ob_ix, ob_iy, ob_ix24, ob_iy24, ob_ix10, ob_iy10, ob_ix4, ob_iy4, ob_ix3, ob_iy3, ob_s1, ob_s2, ob_s3, ob_s4, ob_ltl, ob_lel, ob_eql, ob_ltr, ob_ler, ob_uN, Nat.add_one_ne_zero, ob_xs3, ob_lnn, ob_ltn, ob_eqn, Nat.not_lt_zero, Nat.zero_le, Nat.reduceEqDiff, Nat.reduceLeDiff, Nat.reduceLT, ob_eqll, Int32.reduceLT, Int32.reduceLE, eq_self_iff_true]
        exact hpost
/-- what is found: nothing, or a present slot -/
theorem ob_look (hO : ob_gO n OK oKin) (hP : ob_gP n m M pVal xPk tw xSet yPair ySet) (hm : m < 2 ^ 31) (hk : k < 32) {o : Nat} (ho : o < n) : ∃ r : Int32, (r = -1 ∨ ∃ q, q ≤ o ∧ M (32 * q + k) ≠ 0 ∧ r = nI (32 * q + k)) ∧
    (∀ post : Int32 → Prop, post r → wpX_find post (nI n, nI d, nI b, deep, res, thr, thn, (fun zz => nI (CL zz)), cStr, cOp, cA, cB, (fun zz => nI (OK zz)), oKin, oOpen, xFc, xFs, xPc, xKo, xPk, (fun zz => ob_xa (tw zz) (te zz) (tc zz)), pVal, xSet, (fun zz => nI (S zz)), aOut, aVar, (fun zz => nI (FC zz)), (fun zz => nI (FP zz)), (fun zz => nI (FA zz)), (fun zz => nI (FH zz)), (fun zz => nI (XH zz)), (fun zz => nI (FT zz)), fSelf, xHeld, stk, (fun zz => nI (TA zz)), (fun zz => nI (TH zz)), xArg) (nI o) (nI k)) ∧
    (∀ post : Int32 → Prop, post r → wpY_look post (nI n, nI m, yGiven, nI d, deep, nI b, thr, thn, res, cStr, (fun zz => nI (CL zz)), cOp, cA, cB, (fun zz => nI (OK zz)), oKin, yCo, yAr, oOpen, (fun zz => nI (M zz)), (fun zz => ob_yf (tw zz) (te zz) (tc zz)), yPair, ySeen, pVal, ySet, (fun zz => ob_th (S zz)), yStay, aOut, aVar, yArg, (fun zz => nI (FC zz)), (fun zz => nI (FA zz)), (fun zz => nI (FP zz)), (fun zz => nI (FH zz)), yHan, (fun zz => nI (FT zz)), (fun zz => nI (TA zz)), (fun zz => nI (TH zz)), fSelf, yKept, stk) (nI o) (nI k)) := by
  have hn := hO.1.2
  obtain ⟨r, hr, hX, hY⟩ := ob_look1 (n := n) (d := d) (b := b) (m := m) (deep := deep) (res := res) (thr := thr) (thn := thn) (CL := CL) (cStr := cStr) (cOp := cOp) (cA := cA) (cB := cB) (OK := OK) (oKin := oKin) (oOpen := oOpen) (pVal := pVal) (aOut := aOut) (aVar := aVar) (FC := FC) (FA := FA) (FP := FP) (FH := FH) (FT := FT) (fSelf := fSelf) (stk := stk) (TA := TA) (TH := TH) (xFc := xFc) (xFs := xFs) (xPc := xPc) (xKo := xKo) (xPk := xPk) (tw := tw) (te := te) (tc := tc) (xSet := xSet) (S := S) (XH := XH) (xHeld := xHeld) (xArg := xArg) (yCo := yCo) (yAr := yAr) (M := M) (yPair := yPair) (ySeen := ySeen) (ySet := ySet) (yStay := yStay) (yArg := yArg) (yHan := yHan) (yKept := yKept) (yGiven := yGiven) hO hP hm hk o ho
  exact ⟨r, hr, fun post hp => ⟨o + 2, hX post hp _ 0 (Nat.le_refl _) (by omega)⟩, fun post hp => ⟨o + 2, hY post hp _ (Nat.le_refl _)⟩⟩
theorem ob_findN (post : Int32 → Prop) (hp : post (-1)) : wpX_find post (nI n, nI d, nI b, deep, res, thr, thn, (fun zz => nI (CL zz)), cStr, cOp, cA, cB, (fun zz => nI (OK zz)), oKin, oOpen, xFc, xFs, xPc, xKo, xPk, (fun zz => ob_xa (tw zz) (te zz) (tc zz)), pVal, xSet, (fun zz => nI (S zz)), aOut, aVar, (fun zz => nI (FC zz)), (fun zz => nI (FP zz)), (fun zz => nI (FA zz)), (fun zz => nI (FH zz)), (fun zz => nI (XH zz)), (fun zz => nI (FT zz)), fSelf, xHeld, stk, (fun zz => nI (TA zz)), (fun zz => nI (TH zz)), xArg) (-1) (nI k) := by
  refine ⟨1, ?_⟩
  unfold wX_find_5
  exact br_f (by decide) (br_t (by decide) hp)
theorem ob_S_mk (R : ob_R n d b m res thr thn CL cOp cA cB OK oKin pVal aOut aVar FC FA FP FH FT fSelf stk TA TH xFc xFs xPc xKo xPk tw tc xSet S XH xHeld yCo yAr M yPair ySet yStay yHan yKept) (hm : m ≤ B) (hw : 4 * d + ob_hs XH d ≤ w) : ob_S b B w (nI n, nI d, nI b, deep, res, thr, thn, (fun zz => nI (CL zz)), cStr, cOp, cA, cB, (fun zz => nI (OK zz)), oKin, oOpen, xFc, xFs, xPc, xKo, xPk, (fun zz => ob_xa (tw zz) (te zz) (tc zz)), pVal, xSet, (fun zz => nI (S zz)), aOut, aVar, (fun zz => nI (FC zz)), (fun zz => nI (FP zz)), (fun zz => nI (FA zz)), (fun zz => nI (FH zz)), (fun zz => nI (XH zz)), (fun zz => nI (FT zz)), fSelf, xHeld, stk, (fun zz => nI (TA zz)), (fun zz => nI (TH zz)), xArg) (nI n, nI m, yGiven, nI d, deep, nI b, thr, thn, res, cStr, (fun zz => nI (CL zz)), cOp, cA, cB, (fun zz => nI (OK zz)), oKin, yCo, yAr, oOpen, (fun zz => nI (M zz)), (fun zz => ob_yf (tw zz) (te zz) (tc zz)), yPair, ySeen, pVal, ySet, (fun zz => ob_th (S zz)), yStay, aOut, aVar, yArg, (fun zz => nI (FC zz)), (fun zz => nI (FA zz)), (fun zz => nI (FP zz)), (fun zz => nI (FH zz)), yHan, (fun zz => nI (FT zz)), (fun zz => nI (TA zz)), (fun zz => nI (TH zz)), fSelf, yKept, stk) :=
  ⟨n, d, m, deep, res, thr, thn, CL, cStr, cOp, cA, cB, OK, oKin, oOpen, pVal, aOut, aVar, FC, FA, FP, FH, FT, fSelf, stk, TA, TH, xFc, xFs, xPc, xKo, xPk, tw, te, tc, xSet, S, XH, xHeld, xArg, yCo, yAr, M, yPair, ySeen, ySet, yStay, yArg, yHan, yKept, yGiven, rfl, rfl, R, hm, hw⟩
end
end
section
/-! ===== GET ===== -/
theorem ob_objU (o : Nat) (h : o < 2 ^ 31) : ¬ lN (17179869184 + o) = 8589934592 := by
  rw [show (8589934592 : Int64) = lN 8589934592 from rfl, pk_lEQ (by omega) (by omega)]
  omega
theorem ob_objNu (o : Nat) (h : o < 2 ^ 31) : ¬ lN (17179869184 + o) = 8589934593 := by
  rw [show (8589934593 : Int64) = lN 8589934593 from rfl, pk_lEQ (by omega) (by omega)]
  omega
section
variable {n : Nat} {d : Nat} {b : Nat} {m : Nat} {deep : Int32} {res : Int64} {thr : Int32} {thn : Int64} {CL : Nat → Nat} {cStr : Nat → Int32} {cOp : Nat → Int32} {cA : Nat → Int32} {cB : Nat → Int32} {OK : Nat → Nat} {oKin : Nat → Int32} {oOpen : Nat → Int32} {pVal : Nat → Int64} {aOut : Nat → Int32} {aVar : Nat → Int64} {FC : Nat → Nat} {FA : Nat → Nat} {FP : Nat → Nat} {FH : Nat → Nat} {FT : Nat → Nat} {fSelf : Nat → Int64} {stk : Nat → Int64} {TA : Nat → Nat} {TH : Nat → Nat} {xFc : Nat → Int32} {xFs : Nat → Int32} {xPc : Nat → Int32} {xKo : Nat → Int32} {xPk : Nat → Int32} {tw : Nat → Bool} {te : Nat → Bool} {tc : Nat → Bool} {xSet : Nat → Int64} {S : Nat → Nat} {XH : Nat → Nat} {xHeld : Nat → Int64} {xArg : Nat → Int64} {yCo : Nat → Int32} {yAr : Nat → Int32} {M : Nat → Nat} {yPair : Nat → Int32} {ySeen : Nat → Int32} {ySet : Nat → Int64} {yStay : Nat → Int32} {yArg : Nat → Int64} {yHan : Nat → Int32} {yKept : Nat → Int64} {yGiven : Int32}
variable {k B w : Nat}
theorem ob_fetch {base : Int64} (R : ob_R n d b m res thr thn CL cOp cA cB OK oKin pVal aOut aVar FC FA FP FH FT fSelf stk TA TH xFc xFs xPc xKo xPk tw tc xSet S XH xHeld yCo yAr M yPair ySet yStay yHan yKept) (hres : res = 8589934592) (hb : ob_V n base) (hk : k < 32) (hm : m ≤ B) (hB : B < 2 ^ 31) (hw : 4 * d + ob_hs XH d ≤ w) :
    ∃ u' v', ob_S b B (w + 4) u' v' ∧ (∀ post : SX → Prop, post u' → wpX_getValue post (nI n, nI d, nI b, deep, res, thr, thn, (fun zz => nI (CL zz)), cStr, cOp, cA, cB, (fun zz => nI (OK zz)), oKin, oOpen, xFc, xFs, xPc, xKo, xPk, (fun zz => ob_xa (tw zz) (te zz) (tc zz)), pVal, xSet, (fun zz => nI (S zz)), aOut, aVar, (fun zz => nI (FC zz)), (fun zz => nI (FP zz)), (fun zz => nI (FA zz)), (fun zz => nI (FH zz)), (fun zz => nI (XH zz)), (fun zz => nI (FT zz)), fSelf, xHeld, stk, (fun zz => nI (TA zz)), (fun zz => nI (TH zz)), xArg) base (nI k)) ∧ (∀ post : SY → Prop, post v' → wpY_fetch post (nI n, nI m, yGiven, nI d, deep, nI b, thr, thn, res, cStr, (fun zz => nI (CL zz)), cOp, cA, cB, (fun zz => nI (OK zz)), oKin, yCo, yAr, oOpen, (fun zz => nI (M zz)), (fun zz => ob_yf (tw zz) (te zz) (tc zz)), yPair, ySeen, pVal, ySet, (fun zz => ob_th (S zz)), yStay, aOut, aVar, yArg, (fun zz => nI (FC zz)), (fun zz => nI (FA zz)), (fun zz => nI (FP zz)), (fun zz => nI (FH zz)), yHan, (fun zz => nI (FT zz)), (fun zz => nI (TA zz)), (fun zz => nI (TH zz)), fSelf, yKept, stk) base (nI k)) := by
  have hn : n ≤ 32 := R.2.1.1.2
  have hTY : (base = 8589934592 ∨ base = 8589934593) → base < 17179869184 → ∃ u' v', ob_S b B (w + 4) u' v' ∧ (∀ post : SX → Prop, post u' → wpX_getValue post (nI n, nI d, nI b, deep, res, thr, thn, (fun zz => nI (CL zz)), cStr, cOp, cA, cB, (fun zz => nI (OK zz)), oKin, oOpen, xFc, xFs, xPc, xKo, xPk, (fun zz => ob_xa (tw zz) (te zz) (tc zz)), pVal, xSet, (fun zz => nI (S zz)), aOut, aVar, (fun zz => nI (FC zz)), (fun zz => nI (FP zz)), (fun zz => nI (FA zz)), (fun zz => nI (FH zz)), (fun zz => nI (XH zz)), (fun zz => nI (FT zz)), fSelf, xHeld, stk, (fun zz => nI (TA zz)), (fun zz => nI (TH zz)), xArg) base (nI k)) ∧ (∀ post : SY → Prop, post v' → wpY_fetch post (nI n, nI m, yGiven, nI d, deep, nI b, thr, thn, res, cStr, (fun zz => nI (CL zz)), cOp, cA, cB, (fun zz => nI (OK zz)), oKin, yCo, yAr, oOpen, (fun zz => nI (M zz)), (fun zz => ob_yf (tw zz) (te zz) (tc zz)), yPair, ySeen, pVal, ySet, (fun zz => ob_th (S zz)), yStay, aOut, aVar, yArg, (fun zz => nI (FC zz)), (fun zz => nI (FA zz)), (fun zz => nI (FP zz)), (fun zz => nI (FH zz)), yHan, (fun zz => nI (FT zz)), (fun zz => nI (TA zz)), (fun zz => nI (TH zz)), fSelf, yKept, stk) base (nI k)) := by
    intro hbs hlt
    refine ⟨_, _, ob_S_mk (deep := deep) (cStr := cStr) (oOpen := oOpen) (te := te) (xArg := xArg) (ySeen := ySeen) (yArg := yArg) (yGiven := 0) (ob_raise R (ob_V_Ty n)) hm (by omega), fun post hp => ?_, fun post hp => ?_⟩
    · unfold wpX_getValue wX_getValue_16
      rcases hbs with h | h
      · exact br_t h hp
      · by_cases hU : base = 8589934592
        · exact br_t hU hp
        · exact br_f hU (br_t h hp)
    · unfold wpY_fetch
      refine ob_isoF hlt _ (br_t rfl ?_)
      unfold wY_fetch_20 wY_fetch_43
      rcases hbs with h | h
      · exact br_t h hp
      · by_cases hU : base = 8589934592
        · exact br_t hU hp
        · exact br_f hU (br_t h hp)
  by_cases hU : base = 8589934592
  · exact hTY (Or.inl hU) (by rw [hU]; decide)
  by_cases hN : base = 8589934593
  · exact hTY (Or.inr hN) (by rw [hN]; decide)
  have hnone : (∀ post : SX → Prop, wpX_push post (nI n, nI d, nI b, deep, res, thr, thn, (fun zz => nI (CL zz)), cStr, cOp, cA, cB, (fun zz => nI (OK zz)), oKin, oOpen, xFc, xFs, xPc, xKo, xPk, (fun zz => ob_xa (tw zz) (te zz) (tc zz)), pVal, xSet, (fun zz => nI (S zz)), aOut, aVar, (fun zz => nI (FC zz)), (fun zz => nI (FP zz)), (fun zz => nI (FA zz)), (fun zz => nI (FH zz)), (fun zz => nI (XH zz)), (fun zz => nI (FT zz)), fSelf, xHeld, stk, (fun zz => nI (TA zz)), (fun zz => nI (TH zz)), xArg) 8589934592 → wpX_getValue post (nI n, nI d, nI b, deep, res, thr, thn, (fun zz => nI (CL zz)), cStr, cOp, cA, cB, (fun zz => nI (OK zz)), oKin, oOpen, xFc, xFs, xPc, xKo, xPk, (fun zz => ob_xa (tw zz) (te zz) (tc zz)), pVal, xSet, (fun zz => nI (S zz)), aOut, aVar, (fun zz => nI (FC zz)), (fun zz => nI (FP zz)), (fun zz => nI (FA zz)), (fun zz => nI (FH zz)), (fun zz => nI (XH zz)), (fun zz => nI (FT zz)), fSelf, xHeld, stk, (fun zz => nI (TA zz)), (fun zz => nI (TH zz)), xArg) base (nI k)) → (∀ post : SY → Prop, wY_fetch_20 post base (-1) (nI n) (nI m) yGiven (nI d) deep (nI b) thr thn res cStr (fun zz => nI (CL zz)) cOp cA cB (fun zz => nI (OK zz)) oKin yCo yAr oOpen (fun zz => nI (M zz)) (fun zz => ob_yf (tw zz) (te zz) (tc zz)) yPair ySeen pVal ySet (fun zz => ob_th (S zz)) yStay aOut aVar yArg (fun zz => nI (FC zz)) (fun zz => nI (FA zz)) (fun zz => nI (FP zz)) (fun zz => nI (FH zz)) yHan (fun zz => nI (FT zz)) (fun zz => nI (TA zz)) (fun zz => nI (TH zz)) fSelf yKept stk → wpY_fetch post (nI n, nI m, yGiven, nI d, deep, nI b, thr, thn, res, cStr, (fun zz => nI (CL zz)), cOp, cA, cB, (fun zz => nI (OK zz)), oKin, yCo, yAr, oOpen, (fun zz => nI (M zz)), (fun zz => ob_yf (tw zz) (te zz) (tc zz)), yPair, ySeen, pVal, ySet, (fun zz => ob_th (S zz)), yStay, aOut, aVar, yArg, (fun zz => nI (FC zz)), (fun zz => nI (FA zz)), (fun zz => nI (FP zz)), (fun zz => nI (FH zz)), yHan, (fun zz => nI (FT zz)), (fun zz => nI (TA zz)), (fun zz => nI (TH zz)), fSelf, yKept, stk) base (nI k)) →
      ∃ u' v', ob_S b B (w + 4) u' v' ∧ (∀ post : SX → Prop, post u' → wpX_getValue post (nI n, nI d, nI b, deep, res, thr, thn, (fun zz => nI (CL zz)), cStr, cOp, cA, cB, (fun zz => nI (OK zz)), oKin, oOpen, xFc, xFs, xPc, xKo, xPk, (fun zz => ob_xa (tw zz) (te zz) (tc zz)), pVal, xSet, (fun zz => nI (S zz)), aOut, aVar, (fun zz => nI (FC zz)), (fun zz => nI (FP zz)), (fun zz => nI (FA zz)), (fun zz => nI (FH zz)), (fun zz => nI (XH zz)), (fun zz => nI (FT zz)), fSelf, xHeld, stk, (fun zz => nI (TA zz)), (fun zz => nI (TH zz)), xArg) base (nI k)) ∧ (∀ post : SY → Prop, post v' → wpY_fetch post (nI n, nI m, yGiven, nI d, deep, nI b, thr, thn, res, cStr, (fun zz => nI (CL zz)), cOp, cA, cB, (fun zz => nI (OK zz)), oKin, yCo, yAr, oOpen, (fun zz => nI (M zz)), (fun zz => ob_yf (tw zz) (te zz) (tc zz)), yPair, ySeen, pVal, ySet, (fun zz => ob_th (S zz)), yStay, aOut, aVar, yArg, (fun zz => nI (FC zz)), (fun zz => nI (FA zz)), (fun zz => nI (FP zz)), (fun zz => nI (FH zz)), yHan, (fun zz => nI (FT zz)), (fun zz => nI (TA zz)), (fun zz => nI (TH zz)), fSelf, yKept, stk) base (nI k)) := by
    intro hX hY
    obtain ⟨res', thr', thn', FH', stk', R2, hXp, hYp⟩ := ob_push (deep := deep) (cStr := cStr) (oOpen := oOpen) (te := te) (xArg := xArg) (ySeen := ySeen) (yArg := yArg) (yGiven := 0) R (ob_V_U n)
    refine ⟨_, _, ob_S_mk (deep := deep) (cStr := cStr) (oOpen := oOpen) (te := te) (xArg := xArg) (ySeen := ySeen) (yArg := yArg) (yGiven := 0) R2 hm (by omega), fun post hp => hX post (hXp _ hp), fun post hp => hY post ?_⟩
    unfold wY_fetch_20
    refine br_f hU (br_f hN (br_t (by decide) ?_))
    unfold wY_fetch_82
    refine br_f (by decide) ?_
    unfold wY_fetch_101
    exact hYp _ hp
  rcases ob_cls hb with hl | ⟨o, ho, rfl⟩
  · refine hnone (fun post hp => ?_) (fun post hp => ?_)
    · unfold wpX_getValue
      refine br_f hU (br_f hN (ob_objN hl _ ?_))
      exact ob_findN _ (br_f (by decide) hp)
    · unfold wpY_fetch
      exact ob_isoF hl _ (br_t rfl hp)
  · obtain ⟨r, hr, hXl, hYl⟩ := ob_look (n := n) (d := d) (b := b) (m := m) (deep := deep) (res := res) (thr := thr) (thn := thn) (CL := CL) (cStr := cStr) (cOp := cOp) (cA := cA) (cB := cB) (OK := OK) (oKin := oKin) (oOpen := oOpen) (pVal := pVal) (aOut := aOut) (aVar := aVar) (FC := FC) (FA := FA) (FP := FP) (FH := FH) (FT := FT) (fSelf := fSelf) (stk := stk) (TA := TA) (TH := TH) (xFc := xFc) (xFs := xFs) (xPc := xPc) (xKo := xKo) (xPk := xPk) (tw := tw) (te := te) (tc := tc) (xSet := xSet) (S := S) (XH := XH) (xHeld := xHeld) (xArg := xArg) (yCo := yCo) (yAr := yAr) (M := M) (yPair := yPair) (ySeen := ySeen) (ySet := ySet) (yStay := yStay) (yArg := yArg) (yHan := yHan) (yKept := yKept) (yGiven := yGiven) R.2.1 R.2.2.1 (by omega) hk ho
    rcases hr with rfl | ⟨q, hq, hM, rfl⟩
    · refine hnone (fun post hp => ?_) (fun post hp => ?_)
      · unfold wpX_getValue
        refine br_f hU (br_f hN (ob_objO hn ho _ ?_))
        exact hXl _ (br_f (by decide) hp)
      · unfold wpY_fetch
        refine ob_isoT o (by omega) _ (br_f (by decide) ?_)
        unfold wpY_number
        rw [ob_numb]
        exact hYl _ hp
    · have hi : 32 * q + k < 1024 := by omega
      have hs := R.2.2.1.2.2 (32 * q + k) (by omega)
      rcases hs with ⟨h0, _⟩ | ⟨_, hv, hs⟩
      · exact absurd h0 hM
      by_cases hpush : yPair (32 * q + k) = 0 ∨ pVal (32 * q + k) = 8589934592
      · obtain ⟨res', thr', thn', FH', stk', R2, hXp, hYp⟩ := ob_push (deep := deep) (cStr := cStr) (oOpen := oOpen) (te := te) (xArg := xArg) (ySeen := ySeen) (yArg := yArg) (yGiven := 0) R hv
        refine ⟨_, _, ob_S_mk (deep := deep) (cStr := cStr) (oOpen := oOpen) (te := te) (xArg := xArg) (ySeen := ySeen) (yArg := yArg) (yGiven := 0) R2 hm (by omega), fun post hp => ?_, fun post hp => ?_⟩
        · have h80 : wX_getValue_80 post (nI (32 * q + k)) (nI n) (nI d) (nI b) deep res thr thn (fun zz => nI (CL zz)) cStr cOp cA cB (fun zz => nI (OK zz)) oKin oOpen xFc xFs xPc xKo xPk (fun zz => ob_xa (tw zz) (te zz) (tc zz)) pVal xSet (fun zz => nI (S zz)) aOut aVar (fun zz => nI (FC zz)) (fun zz => nI (FP zz)) (fun zz => nI (FA zz)) (fun zz => nI (FH zz)) (fun zz => nI (XH zz)) (fun zz => nI (FT zz)) fSelf xHeld stk (fun zz => nI (TA zz)) (fun zz => nI (TH zz)) xArg := by
            unfold wX_getValue_80
            simp (disch := first | omega | decide) only [forall_eq, not_true, not_false_iff, false_implies, true_implies, true_and, and_true, ob_sub1, Nat.add_sub_cancel, nI_1, ob_ix, ob_iy, ob_ix24, ob_iy24, ob_ix10, ob_iy10, ob_ix4, ob_iy4, ob_ix3, ob_iy3, ob_s1, ob_s2, ob_s3, ob_s4, ob_ltl, ob_lel, ob_eql, ob_ltr, ob_ler, ob_uN, Nat.add_one_ne_zero, ob_xs3, ob_lnn, ob_ltn, ob_eqn, Nat.not_lt_zero, Nat.zero_le, Nat.reduceEqDiff, Nat.reduceLeDiff, Nat.reduceLT, ob_eqll, Int32.reduceLT, Int32.reduceLE, eq_self_iff_true]
            exact hXp _ hp
          unfold wpX_getValue
          refine br_f hU (br_f hN (ob_objO hn ho _ ?_))
          refine hXl _ ?_
          simp (disch := first | omega | decide) only [forall_eq, not_true, not_false_iff, false_implies, true_implies, true_and, and_true, ob_sub1, Nat.add_sub_cancel, nI_1, ob_ix, ob_iy, ob_ix24, ob_iy24, ob_ix10, ob_iy10, ob_ix4, ob_iy4, ob_ix3, ob_iy3, ob_s1, ob_s2, ob_s3, ob_s4, ob_ltl, ob_lel, ob_eql, ob_ltr, ob_ler, ob_uN, Nat.add_one_ne_zero, ob_xs3, ob_lnn, ob_ltn, ob_eqn, Nat.not_lt_zero, Nat.zero_le, Nat.reduceEqDiff, Nat.reduceLeDiff, Nat.reduceLT, ob_eqll, Int32.reduceLT, Int32.reduceLE, eq_self_iff_true]
          by_cases h1 : xPk (32 * q + k) = 1
          · exact br_t h1 h80
          · refine br_f h1 (br_t ?_ h80)
            rcases hpush with h | h
            · rcases hs with ⟨_, h2⟩ | ⟨h2, _⟩
              · exact absurd h2 h1
              · exact absurd (h.symm.trans h2) (by decide)
            · exact h
        · have h82 : wY_fetch_82 post (nI (32 * q + k)) (nI n) (nI m) 0 (nI d) deep (nI b) thr thn res cStr (fun zz => nI (CL zz)) cOp cA cB (fun zz => nI (OK zz)) oKin yCo yAr oOpen (fun zz => nI (M zz)) (fun zz => ob_yf (tw zz) (te zz) (tc zz)) yPair ySeen pVal ySet (fun zz => ob_th (S zz)) yStay aOut aVar yArg (fun zz => nI (FC zz)) (fun zz => nI (FA zz)) (fun zz => nI (FP zz)) (fun zz => nI (FH zz)) yHan (fun zz => nI (FT zz)) (fun zz => nI (TA zz)) (fun zz => nI (TH zz)) fSelf yKept stk := by
            unfold wY_fetch_82 wY_fetch_101
            simp (disch := first | omega | decide) only [forall_eq, not_true, not_false_iff, false_implies, true_implies, true_and, and_true, ob_sub1, Nat.add_sub_cancel, nI_1, ob_ix, ob_iy, ob_ix24, ob_iy24, ob_ix10, ob_iy10, ob_ix4, ob_iy4, ob_ix3, ob_iy3, ob_s1, ob_s2, ob_s3, ob_s4, ob_ltl, ob_lel, ob_eql, ob_ltr, ob_ler, ob_uN, Nat.add_one_ne_zero, ob_xs3, ob_lnn, ob_ltn, ob_eqn, Nat.not_lt_zero, Nat.zero_le, Nat.reduceEqDiff, Nat.reduceLeDiff, Nat.reduceLT, ob_eqll, Int32.reduceLT, Int32.reduceLE, eq_self_iff_true]
            exact hYp _ hp
          unfold wpY_fetch
          refine ob_isoT o (by omega) _ (br_f (by decide) ?_)
          unfold wpY_number
          rw [ob_numb]
          refine hYl _ ?_
          unfold wY_fetch_20
          refine br_f hU (br_f hN ?_)
          simp (disch := first | omega | decide) only [forall_eq, not_true, not_false_iff, false_implies, true_implies, true_and, and_true, ob_sub1, Nat.add_sub_cancel, nI_1, ob_ix, ob_iy, ob_ix24, ob_iy24, ob_ix10, ob_iy10, ob_ix4, ob_iy4, ob_ix3, ob_iy3, ob_s1, ob_s2, ob_s3, ob_s4, ob_ltl, ob_lel, ob_eql, ob_ltr, ob_ler, ob_uN, Nat.add_one_ne_zero, ob_xs3, ob_lnn, ob_ltn, ob_eqn, Nat.not_lt_zero, Nat.zero_le, Nat.reduceEqDiff, Nat.reduceLeDiff, Nat.reduceLT, ob_eqll, Int32.reduceLT, Int32.reduceLE, eq_self_iff_true]
          by_cases h1 : yPair (32 * q + k) = 0
          · exact br_t h1 h82
          · refine br_f h1 (br_t ?_ h82)
            rcases hpush with h | h
            · exact absurd h h1
            · exact h
      · have hp1 : ¬ yPair (32 * q + k) = 0 := fun z => hpush (Or.inl z)
        have hp2 : ¬ pVal (32 * q + k) = 8589934592 := fun z => hpush (Or.inr z)
        have hp3 : ¬ xPk (32 * q + k) = 1 := by
          rcases hs with ⟨h2, _⟩ | ⟨_, h2, _⟩
          · exact absurd h2 hp1
          · rw [h2]; decide
        obtain ⟨d', deep', thr', thn', S', aOut', aVar', FC', FA', FP', FH', FT', fSelf', XH', yHan', xHeld', yKept', yStay', R2, hw2, hXe, hYe⟩ := ob_enter (self := lN (17179869184 + o)) (held := 8589934592) (kept := 0) (c := 0) (t := 0) (deep := deep) (cStr := cStr) (oOpen := oOpen) (te := te) (xArg := xArg) (ySeen := ySeen) (yArg := yArg) R hres hv hb (by decide) (fun z => absurd rfl z) (by decide) (fun k hk => absurd hk (by omega))
        refine ⟨_, _, ob_S_mk (deep := deep') (cStr := cStr) (oOpen := oOpen) (te := te) (xArg := xArg) (ySeen := ySeen) (yArg := yArg) (yGiven := 0) R2 hm (by omega), fun post hp => ?_, fun post hp => ?_⟩
        · unfold wpX_getValue
          refine br_f hU (br_f hN (ob_objO hn ho _ ?_))
          refine hXl _ ?_
          simp (disch := first | omega | decide) only [hp2, hp3, forall_eq, not_true, not_false_iff, false_implies, true_implies, true_and, and_true, ob_sub1, Nat.add_sub_cancel, nI_1, ob_ix, ob_iy, ob_ix24, ob_iy24, ob_ix10, ob_iy10, ob_ix4, ob_iy4, ob_ix3, ob_iy3, ob_s1, ob_s2, ob_s3, ob_s4, ob_ltl, ob_lel, ob_eql, ob_ltr, ob_ler, ob_uN, Nat.add_one_ne_zero, ob_xs3, ob_lnn, ob_ltn, ob_eqn, Nat.not_lt_zero, Nat.zero_le, Nat.reduceEqDiff, Nat.reduceLeDiff, Nat.reduceLT, ob_eqll, Int32.reduceLT, Int32.reduceLE, eq_self_iff_true]
          exact hXe _ hp
        · unfold wpY_fetch
          refine ob_isoT o (by omega) _ (br_f (by decide) ?_)
          unfold wpY_number
          rw [ob_numb]
          refine hYl _ ?_
          unfold wY_fetch_20
          refine br_f hU (br_f hN ?_)
          simp (disch := first | omega | decide) only [hp1, hp2, forall_eq, not_true, not_false_iff, false_implies, true_implies, true_and, and_true, ob_sub1, Nat.add_sub_cancel, nI_1, ob_ix, ob_iy, ob_ix24, ob_iy24, ob_ix10, ob_iy10, ob_ix4, ob_iy4, ob_ix3, ob_iy3, ob_s1, ob_s2, ob_s3, ob_s4, ob_ltl, ob_lel, ob_eql, ob_ltr, ob_ler, ob_uN, Nat.add_one_ne_zero, ob_xs3, ob_lnn, ob_ltn, ob_eqn, Nat.not_lt_zero, Nat.zero_le, Nat.reduceEqDiff, Nat.reduceLeDiff, Nat.reduceLT, ob_eqll, Int32.reduceLT, Int32.reduceLE, eq_self_iff_true]
          exact hYe _ hp
end
end
section
/-! ===== a property is stored: storeProperty and apply ===== -/
/-- what is said of an attribute is the same on both sides -/
def ob_po (sW sE sC oW oE oC pW pE pC : Bool) : Prop := (sW = true → pW = oW) ∧ (sE = true → pE = oE) ∧ (sC = true → pC = oC)
theorem ob_po1 {s p q : Bool} (h : s = true → p = q) (x : Bool) : (if s = true then p else x) = if s = true then q else x := by
  cases s
  · rfl
  · exact h rfl
theorem ob_po2 {s p q : Bool} (h : s = true → p = q) : (s && p) = (s && q) := by
  cases s
  · rfl
  · exact h rfl
theorem ob_po3 {s p q e : Bool} (h : s = true → p = q) : (s && (p != e)) = (s && (q != e)) := by
  cases s
  · rfl
  · rw [h rfl]
section
variable {n : Nat} {d : Nat} {b : Nat} {m : Nat} {deep : Int32} {res : Int64} {thr : Int32} {thn : Int64} {CL : Nat → Nat} {cStr : Nat → Int32} {cOp : Nat → Int32} {cA : Nat → Int32} {cB : Nat → Int32} {OK : Nat → Nat} {oKin : Nat → Int32} {oOpen : Nat → Int32} {pVal : Nat → Int64} {aOut : Nat → Int32} {aVar : Nat → Int64} {FC : Nat → Nat} {FA : Nat → Nat} {FP : Nat → Nat} {FH : Nat → Nat} {FT : Nat → Nat} {fSelf : Nat → Int64} {stk : Nat → Int64} {TA : Nat → Nat} {TH : Nat → Nat} {xFc : Nat → Int32} {xFs : Nat → Int32} {xPc : Nat → Int32} {xKo : Nat → Int32} {xPk : Nat → Int32} {tw : Nat → Bool} {te : Nat → Bool} {tc : Nat → Bool} {xSet : Nat → Int64} {S : Nat → Nat} {XH : Nat → Nat} {xHeld : Nat → Int64} {xArg : Nat → Int64} {yCo : Nat → Int32} {yAr : Nat → Int32} {M : Nat → Nat} {yPair : Nat → Int32} {ySeen : Nat → Int32} {ySet : Nat → Int64} {yStay : Nat → Int32} {yArg : Nat → Int64} {yHan : Nat → Int32} {yKept : Nat → Int64} {yGiven : Int32}
variable {o k i : Nat} {sV sG sS sW sE sC oW oE oC pW pE pC : Bool} {v w : Int64}
/-- the value that a store leaves -/
def ob_nv (says cv : Bool) (v old : Int64) : Int64 := if says then v else if cv then 8589934592 else old
theorem ob_st176 (hi : i < 1024) (post : SX → Prop)
    (hp : post (nI n, nI d, nI b, deep, res, thr, thn, (fun zz => nI (CL zz)), cStr, cOp, cA, cB, (fun zz => nI (OK zz)), oKin, oOpen, xFc, xFs, xPc, xKo, xPk, (fun zz => ob_xa ((ob_ub tw i (if sW then oW else tw i)) zz) ((ob_ub te i (if sE then oE else te i)) zz) ((ob_ub tc i (if sC then oC else tc i)) zz)), pVal, xSet, (fun zz => nI (S zz)), aOut, aVar, (fun zz => nI (FC zz)), (fun zz => nI (FP zz)), (fun zz => nI (FA zz)), (fun zz => nI (FH zz)), (fun zz => nI (XH zz)), (fun zz => nI (FT zz)), fSelf, xHeld, stk, (fun zz => nI (TA zz)), (fun zz => nI (TH zz)), xArg)) :
    wX_storeProperty_176 post (ob_xs sV sG sS sW sE sC oW oE oC) (nI i) (nI n) (nI d) (nI b) deep res thr thn (fun zz => nI (CL zz)) cStr cOp cA cB (fun zz => nI (OK zz)) oKin oOpen xFc xFs xPc xKo xPk (fun zz => ob_xa (tw zz) (te zz) (tc zz)) pVal xSet (fun zz => nI (S zz)) aOut aVar (fun zz => nI (FC zz)) (fun zz => nI (FP zz)) (fun zz => nI (FA zz)) (fun zz => nI (FH zz)) (fun zz => nI (XH zz)) (fun zz => nI (FT zz)) fSelf xHeld stk (fun zz => nI (TA zz)) (fun zz => nI (TH zz)) xArg := by
  unfold wX_storeProperty_176
  simp (disch := first | omega | decide) only [ob_xch, ob_xon, ob_xnew, ob_uA, forall_eq, not_true, not_false_iff, false_implies, true_implies, true_and, and_true, ob_sub1, Nat.add_sub_cancel, nI_1, ob_ix, ob_iy, ob_ix24, ob_iy24, ob_ix10, ob_iy10, ob_ix4, ob_iy4, ob_ix3, ob_iy3, ob_s1, ob_s2, ob_s3, ob_s4, ob_ltl, ob_lel, ob_eql, ob_ltr, ob_ler, ob_uN, Nat.add_one_ne_zero, ob_xs3, ob_lnn, ob_ltn, ob_eqn, Nat.not_lt_zero, Nat.zero_le, Nat.reduceEqDiff, Nat.reduceLeDiff, Nat.reduceLT, ob_eqll, Int32.reduceLT, Int32.reduceLE, eq_self_iff_true]
  exact hp
theorem ob_st159 (hi : i < 1024) (post : SX → Prop)
    (hp : post (nI n, nI d, nI b, deep, res, thr, thn, (fun zz => nI (CL zz)), cStr, cOp, cA, cB, (fun zz => nI (OK zz)), oKin, oOpen, xFc, xFs, xPc, xKo, xPk, (fun zz => ob_xa ((ob_ub tw i (if sW then oW else tw i)) zz) ((ob_ub te i (if sE then oE else te i)) zz) ((ob_ub tc i (if sC then oC else tc i)) zz)), pVal, (vp_updL xSet i (ob_nv sS false w (xSet i))), (fun zz => nI (S zz)), aOut, aVar, (fun zz => nI (FC zz)), (fun zz => nI (FP zz)), (fun zz => nI (FA zz)), (fun zz => nI (FH zz)), (fun zz => nI (XH zz)), (fun zz => nI (FT zz)), fSelf, xHeld, stk, (fun zz => nI (TA zz)), (fun zz => nI (TH zz)), xArg)) :
    wX_storeProperty_159 post (ob_xs sV sG sS sW sE sC oW oE oC) w (nI i) (nI n) (nI d) (nI b) deep res thr thn (fun zz => nI (CL zz)) cStr cOp cA cB (fun zz => nI (OK zz)) oKin oOpen xFc xFs xPc xKo xPk (fun zz => ob_xa (tw zz) (te zz) (tc zz)) pVal xSet (fun zz => nI (S zz)) aOut aVar (fun zz => nI (FC zz)) (fun zz => nI (FP zz)) (fun zz => nI (FA zz)) (fun zz => nI (FH zz)) (fun zz => nI (XH zz)) (fun zz => nI (FT zz)) fSelf xHeld stk (fun zz => nI (TA zz)) (fun zz => nI (TH zz)) xArg := by
  unfold wX_storeProperty_159
  cases sS
  · rw [show ob_nv false false w (xSet i) = xSet i from rfl, ob_uiL rfl] at hp
    exact br_t ((ob_xsS _ _ _ _ _ _ _ _ _).mpr rfl) (ob_st176 hi post hp)
  · refine br_f (fun z => absurd ((ob_xsS _ _ _ _ _ _ _ _ _).mp z) (by decide)) ?_
    simp (disch := first | omega | decide) only [forall_eq, not_true, not_false_iff, false_implies, true_implies, true_and, and_true, ob_sub1, Nat.add_sub_cancel, nI_1, ob_ix, ob_iy, ob_ix24, ob_iy24, ob_ix10, ob_iy10, ob_ix4, ob_iy4, ob_ix3, ob_iy3, ob_s1, ob_s2, ob_s3, ob_s4, ob_ltl, ob_lel, ob_eql, ob_ltr, ob_ler, ob_uN, Nat.add_one_ne_zero, ob_xs3, ob_lnn, ob_ltn, ob_eqn, Nat.not_lt_zero, Nat.zero_le, Nat.reduceEqDiff, Nat.reduceLeDiff, Nat.reduceLT, ob_eqll, Int32.reduceLT, Int32.reduceLE, eq_self_iff_true]
    exact ob_st176 hi post hp
theorem ob_st142 (hi : i < 1024) (post : SX → Prop)
    (hp : post (nI n, nI d, nI b, deep, res, thr, thn, (fun zz => nI (CL zz)), cStr, cOp, cA, cB, (fun zz => nI (OK zz)), oKin, oOpen, xFc, xFs, xPc, xKo, xPk, (fun zz => ob_xa ((ob_ub tw i (if sW then oW else tw i)) zz) ((ob_ub te i (if sE then oE else te i)) zz) ((ob_ub tc i (if sC then oC else tc i)) zz)), (vp_updL pVal i (ob_nv (sV || sG) false v (pVal i))), (vp_updL xSet i (ob_nv sS false w (xSet i))), (fun zz => nI (S zz)), aOut, aVar, (fun zz => nI (FC zz)), (fun zz => nI (FP zz)), (fun zz => nI (FA zz)), (fun zz => nI (FH zz)), (fun zz => nI (XH zz)), (fun zz => nI (FT zz)), fSelf, xHeld, stk, (fun zz => nI (TA zz)), (fun zz => nI (TH zz)), xArg)) :
    wX_storeProperty_142 post (ob_xs sV sG sS sW sE sC oW oE oC) v w (nI i) (nI n) (nI d) (nI b) deep res thr thn (fun zz => nI (CL zz)) cStr cOp cA cB (fun zz => nI (OK zz)) oKin oOpen xFc xFs xPc xKo xPk (fun zz => ob_xa (tw zz) (te zz) (tc zz)) pVal xSet (fun zz => nI (S zz)) aOut aVar (fun zz => nI (FC zz)) (fun zz => nI (FP zz)) (fun zz => nI (FA zz)) (fun zz => nI (FH zz)) (fun zz => nI (XH zz)) (fun zz => nI (FT zz)) fSelf xHeld stk (fun zz => nI (TA zz)) (fun zz => nI (TH zz)) xArg := by
  unfold wX_storeProperty_142
  by_cases z : (sV || sG) = false
  · rw [z, show ob_nv false false v (pVal i) = pVal i from rfl, ob_uiL rfl] at hp
    exact br_t ((ob_xsVG _ _ _ _ _ _ _ _ _).mpr (by simpa using z)) (ob_st159 hi post hp)
  · have z1 : (sV || sG) = true := eq_true_of_ne_false z
    rw [z1] at hp
    refine br_f (fun y => z (by simpa using (ob_xsVG _ _ _ _ _ _ _ _ _).mp y)) ?_
    simp (disch := first | omega | decide) only [forall_eq, not_true, not_false_iff, false_implies, true_implies, true_and, and_true, ob_sub1, Nat.add_sub_cancel, nI_1, ob_ix, ob_iy, ob_ix24, ob_iy24, ob_ix10, ob_iy10, ob_ix4, ob_iy4, ob_ix3, ob_iy3, ob_s1, ob_s2, ob_s3, ob_s4, ob_ltl, ob_lel, ob_eql, ob_ltr, ob_ler, ob_uN, Nat.add_one_ne_zero, ob_xs3, ob_lnn, ob_ltn, ob_eqn, Nat.not_lt_zero, Nat.zero_le, Nat.reduceEqDiff, Nat.reduceLeDiff, Nat.reduceLT, ob_eqll, Int32.reduceLT, Int32.reduceLE, eq_self_iff_true]
    exact ob_st159 hi post hp
/-- behind the order: was and kind are known -/
theorem ob_st94 {was kd : Int32} (hi : i < 1024) (cv : Bool) (hcv : cv = decide (kd ≠ was)) (hpk : xPk i = was) (post : SX → Prop)
    (hp : post (nI n, nI d, nI b, deep, res, thr, thn, (fun zz => nI (CL zz)), cStr, cOp, cA, cB, (fun zz => nI (OK zz)), oKin, oOpen, xFc, xFs, xPc, xKo, (upd xPk i kd), (fun zz => ob_xa ((ob_ub tw i (if sW then oW else if cv then false else tw i)) zz) ((ob_ub te i (if sE then oE else te i)) zz) ((ob_ub tc i (if sC then oC else tc i)) zz)), (vp_updL pVal i (ob_nv (sV || sG) cv v (pVal i))), (vp_updL xSet i (ob_nv sS cv w (xSet i))), (fun zz => nI (S zz)), aOut, aVar, (fun zz => nI (FC zz)), (fun zz => nI (FP zz)), (fun zz => nI (FA zz)), (fun zz => nI (FH zz)), (fun zz => nI (XH zz)), (fun zz => nI (FT zz)), fSelf, xHeld, stk, (fun zz => nI (TA zz)), (fun zz => nI (TH zz)), xArg)) :
    wX_storeProperty_94 post (ob_xs sV sG sS sW sE sC oW oE oC) v w (nI i) was kd (nI n) (nI d) (nI b) deep res thr thn (fun zz => nI (CL zz)) cStr cOp cA cB (fun zz => nI (OK zz)) oKin oOpen xFc xFs xPc xKo xPk (fun zz => ob_xa (tw zz) (te zz) (tc zz)) pVal xSet (fun zz => nI (S zz)) aOut aVar (fun zz => nI (FC zz)) (fun zz => nI (FP zz)) (fun zz => nI (FA zz)) (fun zz => nI (FH zz)) (fun zz => nI (XH zz)) (fun zz => nI (FT zz)) fSelf xHeld stk (fun zz => nI (TA zz)) (fun zz => nI (TH zz)) xArg := by
  unfold wX_storeProperty_94
  by_cases z : kd = was
  · have hc : cv = false := by rw [hcv]; simp [z]
    subst hc
    rw [ob_ui (hpk.trans z.symm)] at hp
    exact br_t z (ob_st142 hi post hp)
  · have hc : cv = true := by rw [hcv]; simp [z]
    subst hc
    refine br_f z ?_
    simp (disch := first | omega | decide) only [ob_xaN, ob_uA, ob_ub_i, forall_eq, not_true, not_false_iff, false_implies, true_implies, true_and, and_true, ob_sub1, Nat.add_sub_cancel, nI_1, ob_ix, ob_iy, ob_ix24, ob_iy24, ob_ix10, ob_iy10, ob_ix4, ob_iy4, ob_ix3, ob_iy3, ob_s1, ob_s2, ob_s3, ob_s4, ob_ltl, ob_lel, ob_eql, ob_ltr, ob_ler, ob_uN, Nat.add_one_ne_zero, ob_xs3, ob_lnn, ob_ltn, ob_eqn, Nat.not_lt_zero, Nat.zero_le, Nat.reduceEqDiff, Nat.reduceLeDiff, Nat.reduceLT, ob_eqll, Int32.reduceLT, Int32.reduceLE, eq_self_iff_true]
    refine ob_st142 hi post ?_
    have e1 : vp_updL (vp_updL pVal i 8589934592) i (ob_nv (sV || sG) false v (vp_updL pVal i 8589934592 i)) = vp_updL pVal i (ob_nv (sV || sG) true v (pVal i)) := by
      rw [ob_uuL, pk_uLs]; unfold ob_nv; cases (sV || sG) <;> rfl
    have e2 : vp_updL (vp_updL xSet i 8589934592) i (ob_nv sS false w (vp_updL xSet i 8589934592 i)) = vp_updL xSet i (ob_nv sS true w (xSet i)) := by
      rw [ob_uuL, pk_uLs]; unfold ob_nv; cases sS <;> rfl
    rw [e1, e2, ob_ub_u, ob_ub_s]
    exact hp
/-- the reference: flags, value, setter -/
theorem ob_ap152 (hi : i < 1024) (post : SY → Prop) (hp : post (nI n, nI m, yGiven, nI d, deep, nI b, thr, thn, res, cStr, (fun zz => nI (CL zz)), cOp, cA, cB, (fun zz => nI (OK zz)), oKin, yCo, yAr, oOpen, (fun zz => nI (M zz)), (fun zz => ob_yf (tw zz) (te zz) (tc zz)), yPair, ySeen, pVal, (vp_updL ySet i (ob_nv sS false w (ySet i))), (fun zz => ob_th (S zz)), yStay, aOut, aVar, yArg, (fun zz => nI (FC zz)), (fun zz => nI (FA zz)), (fun zz => nI (FP zz)), (fun zz => nI (FH zz)), yHan, (fun zz => nI (FT zz)), (fun zz => nI (TA zz)), (fun zz => nI (TH zz)), fSelf, yKept, stk)) :
    wY_apply_152 post (nI i) (ob_ys sV sG sS sW sE sC) w (nI n) (nI m) yGiven (nI d) deep (nI b) thr thn res cStr (fun zz => nI (CL zz)) cOp cA cB (fun zz => nI (OK zz)) oKin yCo yAr oOpen (fun zz => nI (M zz)) (fun zz => ob_yf (tw zz) (te zz) (tc zz)) yPair ySeen pVal ySet (fun zz => ob_th (S zz)) yStay aOut aVar yArg (fun zz => nI (FC zz)) (fun zz => nI (FA zz)) (fun zz => nI (FP zz)) (fun zz => nI (FH zz)) yHan (fun zz => nI (FT zz)) (fun zz => nI (TA zz)) (fun zz => nI (TH zz)) fSelf yKept stk := by
  unfold wY_apply_152
  cases sS
  · rw [show ob_nv false false w (ySet i) = ySet i from rfl, ob_uiL rfl] at hp
    exact br_t ((ob_ysS _ _ _ _ _ _).mpr rfl) hp
  · refine br_f (fun z => absurd ((ob_ysS _ _ _ _ _ _).mp z) (by decide)) ?_
    simp (disch := first | omega | decide) only [forall_eq, not_true, not_false_iff, false_implies, true_implies, true_and, and_true, ob_sub1, Nat.add_sub_cancel, nI_1, ob_ix, ob_iy, ob_ix24, ob_iy24, ob_ix10, ob_iy10, ob_ix4, ob_iy4, ob_ix3, ob_iy3, ob_s1, ob_s2, ob_s3, ob_s4, ob_ltl, ob_lel, ob_eql, ob_ltr, ob_ler, ob_uN, Nat.add_one_ne_zero, ob_xs3, ob_lnn, ob_ltn, ob_eqn, Nat.not_lt_zero, Nat.zero_le, Nat.reduceEqDiff, Nat.reduceLeDiff, Nat.reduceLT, ob_eqll, Int32.reduceLT, Int32.reduceLE, eq_self_iff_true]
    exact hp
theorem ob_ap116 (hpo : ob_po sW sE sC oW oE oC pW pE pC) (hi : i < 1024) (post : SY → Prop)
    (hp : post (nI n, nI m, yGiven, nI d, deep, nI b, thr, thn, res, cStr, (fun zz => nI (CL zz)), cOp, cA, cB, (fun zz => nI (OK zz)), oKin, yCo, yAr, oOpen, (fun zz => nI (M zz)), (fun zz => ob_yf ((ob_ub tw i (if sW then oW else tw i)) zz) ((ob_ub te i (if sE then oE else te i)) zz) ((ob_ub tc i (if sC then oC else tc i)) zz)), yPair, ySeen, (vp_updL pVal i (ob_nv (sV || sG) false v (pVal i))), (vp_updL ySet i (ob_nv sS false w (ySet i))), (fun zz => ob_th (S zz)), yStay, aOut, aVar, yArg, (fun zz => nI (FC zz)), (fun zz => nI (FA zz)), (fun zz => nI (FP zz)), (fun zz => nI (FH zz)), yHan, (fun zz => nI (FT zz)), (fun zz => nI (TA zz)), (fun zz => nI (TH zz)), fSelf, yKept, stk)) :
    wY_apply_116 post (nI i) (ob_ys sV sG sS sW sE sC) (ob_yf pW pE pC) v w (ob_yf sW sE sC) (nI n) (nI m) yGiven (nI d) deep (nI b) thr thn res cStr (fun zz => nI (CL zz)) cOp cA cB (fun zz => nI (OK zz)) oKin yCo yAr oOpen (fun zz => nI (M zz)) (fun zz => ob_yf (tw zz) (te zz) (tc zz)) yPair ySeen pVal ySet (fun zz => ob_th (S zz)) yStay aOut aVar yArg (fun zz => nI (FC zz)) (fun zz => nI (FA zz)) (fun zz => nI (FP zz)) (fun zz => nI (FH zz)) yHan (fun zz => nI (FT zz)) (fun zz => nI (TA zz)) (fun zz => nI (TH zz)) fSelf yKept stk := by
  unfold wY_apply_116
  simp (disch := first | omega | decide) only [ob_ynew, ob_po1 hpo.1, ob_po1 hpo.2.1, ob_po1 hpo.2.2, ob_uF, forall_eq, not_true, not_false_iff, false_implies, true_implies, true_and, and_true, ob_sub1, Nat.add_sub_cancel, nI_1, ob_ix, ob_iy, ob_ix24, ob_iy24, ob_ix10, ob_iy10, ob_ix4, ob_iy4, ob_ix3, ob_iy3, ob_s1, ob_s2, ob_s3, ob_s4, ob_ltl, ob_lel, ob_eql, ob_ltr, ob_ler, ob_uN, Nat.add_one_ne_zero, ob_xs3, ob_lnn, ob_ltn, ob_eqn, Nat.not_lt_zero, Nat.zero_le, Nat.reduceEqDiff, Nat.reduceLeDiff, Nat.reduceLT, ob_eqll, Int32.reduceLT, Int32.reduceLE, eq_self_iff_true]
  by_cases z : (sV || sG) = false
  · rw [z, show ob_nv false false v (pVal i) = pVal i from rfl, ob_uiL rfl] at hp
    exact br_t ((ob_ysVG _ _ _ _ _ _).mpr (by simpa using z)) (ob_ap152 hi post hp)
  · have z1 : (sV || sG) = true := eq_true_of_ne_false z
    rw [z1] at hp
    refine br_f (fun y => z (by simpa using (ob_ysVG _ _ _ _ _ _).mp y)) ?_
    exact ob_ap152 hi post hp
/-- the reference: data becomes a pair, or a pair data -/
theorem ob_ap79 {x : Int32} (hpo : ob_po sW sE sC oW oE oC pW pE pC) (hi : i < 1024) (hx : vp_nar .boolean x = x) (post : SY → Prop)
    (hp : post (nI n, nI m, yGiven, nI d, deep, nI b, thr, thn, res, cStr, (fun zz => nI (CL zz)), cOp, cA, cB, (fun zz => nI (OK zz)), oKin, yCo, yAr, oOpen, (fun zz => nI (M zz)), (fun zz => ob_yf ((ob_ub tw i (if sW then oW else false)) zz) ((ob_ub te i (if sE then oE else te i)) zz) ((ob_ub tc i (if sC then oC else tc i)) zz)), (upd yPair i x), ySeen, (vp_updL pVal i (ob_nv (sV || sG) true v (pVal i))), (vp_updL ySet i (ob_nv sS true w (ySet i))), (fun zz => ob_th (S zz)), yStay, aOut, aVar, yArg, (fun zz => nI (FC zz)), (fun zz => nI (FA zz)), (fun zz => nI (FP zz)), (fun zz => nI (FH zz)), yHan, (fun zz => nI (FT zz)), (fun zz => nI (TA zz)), (fun zz => nI (TH zz)), fSelf, yKept, stk)) :
    wY_apply_79 post (nI i) (ob_ys sV sG sS sW sE sC) (ob_yf pW pE pC) v w x (ob_yf sW sE sC) (nI n) (nI m) yGiven (nI d) deep (nI b) thr thn res cStr (fun zz => nI (CL zz)) cOp cA cB (fun zz => nI (OK zz)) oKin yCo yAr oOpen (fun zz => nI (M zz)) (fun zz => ob_yf (tw zz) (te zz) (tc zz)) yPair ySeen pVal ySet (fun zz => ob_th (S zz)) yStay aOut aVar yArg (fun zz => nI (FC zz)) (fun zz => nI (FA zz)) (fun zz => nI (FP zz)) (fun zz => nI (FH zz)) yHan (fun zz => nI (FT zz)) (fun zz => nI (TA zz)) (fun zz => nI (TH zz)) fSelf yKept stk := by
  unfold wY_apply_79
  simp (disch := first | omega | decide) only [ob_yfN, ob_uF, ob_ub_i, hx, forall_eq, not_true, not_false_iff, false_implies, true_implies, true_and, and_true, ob_sub1, Nat.add_sub_cancel, nI_1, ob_ix, ob_iy, ob_ix24, ob_iy24, ob_ix10, ob_iy10, ob_ix4, ob_iy4, ob_ix3, ob_iy3, ob_s1, ob_s2, ob_s3, ob_s4, ob_ltl, ob_lel, ob_eql, ob_ltr, ob_ler, ob_uN, Nat.add_one_ne_zero, ob_xs3, ob_lnn, ob_ltn, ob_eqn, Nat.not_lt_zero, Nat.zero_le, Nat.reduceEqDiff, Nat.reduceLeDiff, Nat.reduceLT, ob_eqll, Int32.reduceLT, Int32.reduceLE, eq_self_iff_true]
  refine ob_ap116 hpo hi post ?_
  have e1 : vp_updL (vp_updL pVal i 8589934592) i (ob_nv (sV || sG) false v (vp_updL pVal i 8589934592 i)) = vp_updL pVal i (ob_nv (sV || sG) true v (pVal i)) := by
    rw [ob_uuL, pk_uLs]; unfold ob_nv; cases (sV || sG) <;> rfl
  have e2 : vp_updL (vp_updL ySet i 8589934592) i (ob_nv sS false w (vp_updL ySet i 8589934592 i)) = vp_updL ySet i (ob_nv sS true w (ySet i)) := by
    rw [ob_uuL, pk_uLs]; unfold ob_nv; cases sS <;> rfl
  rw [e1, e2, ob_ub_u, ob_ub_s]
  exact hp
end
end
section
/-! ===== a property is stored: both sides ===== -/
def ob_kd (D A : Bool) (z : Int32) : Int32 := if D then 1 else if A then 2 else z
def ob_01 (b : Bool) : Int32 := if b then 1 else 0
section
variable {n : Nat} {d : Nat} {b : Nat} {m : Nat} {deep : Int32} {res : Int64} {thr : Int32} {thn : Int64} {CL : Nat → Nat} {cStr : Nat → Int32} {cOp : Nat → Int32} {cA : Nat → Int32} {cB : Nat → Int32} {OK : Nat → Nat} {oKin : Nat → Int32} {oOpen : Nat → Int32} {pVal : Nat → Int64} {aOut : Nat → Int32} {aVar : Nat → Int64} {FC : Nat → Nat} {FA : Nat → Nat} {FP : Nat → Nat} {FH : Nat → Nat} {FT : Nat → Nat} {fSelf : Nat → Int64} {stk : Nat → Int64} {TA : Nat → Nat} {TH : Nat → Nat} {xFc : Nat → Int32} {xFs : Nat → Int32} {xPc : Nat → Int32} {xKo : Nat → Int32} {xPk : Nat → Int32} {tw : Nat → Bool} {te : Nat → Bool} {tc : Nat → Bool} {xSet : Nat → Int64} {S : Nat → Nat} {XH : Nat → Nat} {xHeld : Nat → Int64} {xArg : Nat → Int64} {yCo : Nat → Int32} {yAr : Nat → Int32} {M : Nat → Nat} {yPair : Nat → Int32} {ySeen : Nat → Int32} {ySet : Nat → Int64} {yStay : Nat → Int32} {yArg : Nat → Int64} {yHan : Nat → Int32} {yKept : Nat → Int64} {yGiven : Int32}
variable {o k i : Nat} {sV sG sS sW sE sC oW oE oC pW pE pC : Bool} {v w : Int64}
theorem ob_st28 {x1 x2 x8 was z0 : Int32} (post : SX → Prop) (h : wX_storeProperty_54 post x1 x2 (ob_xs sV sG sS sW sE sC oW oE oC) v w x8 was (ob_kd (sV || sW) (sG || sS) z0) (nI n) (nI d) (nI b) deep res thr thn (fun zz => nI (CL zz)) cStr cOp cA cB (fun zz => nI (OK zz)) oKin oOpen xFc xFs xPc xKo xPk (fun zz => ob_xa (tw zz) (te zz) (tc zz)) pVal xSet (fun zz => nI (S zz)) aOut aVar (fun zz => nI (FC zz)) (fun zz => nI (FP zz)) (fun zz => nI (FA zz)) (fun zz => nI (FH zz)) (fun zz => nI (XH zz)) (fun zz => nI (FT zz)) fSelf xHeld stk (fun zz => nI (TA zz)) (fun zz => nI (TH zz)) xArg) :
    wX_storeProperty_28 post x1 x2 (ob_xs sV sG sS sW sE sC oW oE oC) v w x8 was z0 (nI n) (nI d) (nI b) deep res thr thn (fun zz => nI (CL zz)) cStr cOp cA cB (fun zz => nI (OK zz)) oKin oOpen xFc xFs xPc xKo xPk (fun zz => ob_xa (tw zz) (te zz) (tc zz)) pVal xSet (fun zz => nI (S zz)) aOut aVar (fun zz => nI (FC zz)) (fun zz => nI (FP zz)) (fun zz => nI (FA zz)) (fun zz => nI (FH zz)) (fun zz => nI (XH zz)) (fun zz => nI (FT zz)) fSelf xHeld stk (fun zz => nI (TA zz)) (fun zz => nI (TH zz)) xArg := by
  unfold wX_storeProperty_28
  by_cases hD : (sV || sW) = true
  · rw [hD] at h
    refine br_f (fun z => ?_) h
    have := (ob_xsD _ _ _ _ _ _ _ _ _).mp z
    simp [this.1, this.2] at hD
  · have hD' : (sV || sW) = false := by simpa using hD
    rw [hD'] at h
    refine br_t ((ob_xsD _ _ _ _ _ _ _ _ _).mpr (by simpa using hD')) ?_
    by_cases hA : (sG || sS) = true
    · rw [hA] at h
      refine br_f (fun z => ?_) h
      have := (ob_xsA _ _ _ _ _ _ _ _ _).mp z
      simp [this.1, this.2] at hA
    · have hA' : (sG || sS) = false := by simpa using hA
      rw [hA'] at h
      exact br_t ((ob_xsA _ _ _ _ _ _ _ _ _).mpr (by simpa using hA')) h
theorem ob_ap25 {on : Int32} (post : SY → Prop) (h : wY_apply_25 post (nI i) (ob_ys sV sG sS sW sE sC) on v w (ob_01 (sV || sW)) (ob_01 (sG || sS)) (nI n) (nI m) yGiven (nI d) deep (nI b) thr thn res cStr (fun zz => nI (CL zz)) cOp cA cB (fun zz => nI (OK zz)) oKin yCo yAr oOpen (fun zz => nI (M zz)) (fun zz => ob_yf (tw zz) (te zz) (tc zz)) yPair ySeen pVal ySet (fun zz => ob_th (S zz)) yStay aOut aVar yArg (fun zz => nI (FC zz)) (fun zz => nI (FA zz)) (fun zz => nI (FP zz)) (fun zz => nI (FH zz)) yHan (fun zz => nI (FT zz)) (fun zz => nI (TA zz)) (fun zz => nI (TH zz)) fSelf yKept stk) :
    wpY_apply post (nI n, nI m, yGiven, nI d, deep, nI b, thr, thn, res, cStr, (fun zz => nI (CL zz)), cOp, cA, cB, (fun zz => nI (OK zz)), oKin, yCo, yAr, oOpen, (fun zz => nI (M zz)), (fun zz => ob_yf (tw zz) (te zz) (tc zz)), yPair, ySeen, pVal, ySet, (fun zz => ob_th (S zz)), yStay, aOut, aVar, yArg, (fun zz => nI (FC zz)), (fun zz => nI (FA zz)), (fun zz => nI (FP zz)), (fun zz => nI (FH zz)), yHan, (fun zz => nI (FT zz)), (fun zz => nI (TA zz)), (fun zz => nI (TH zz)), fSelf, yKept, stk) (nI i) (ob_ys sV sG sS sW sE sC) on v w := by
  unfold wpY_apply
  have h11 : ∀ z0 : Int32, wY_apply_25 post (nI i) (ob_ys sV sG sS sW sE sC) on v w z0 (ob_01 (sG || sS)) (nI n) (nI m) yGiven (nI d) deep (nI b) thr thn res cStr (fun zz => nI (CL zz)) cOp cA cB (fun zz => nI (OK zz)) oKin yCo yAr oOpen (fun zz => nI (M zz)) (fun zz => ob_yf (tw zz) (te zz) (tc zz)) yPair ySeen pVal ySet (fun zz => ob_th (S zz)) yStay aOut aVar yArg (fun zz => nI (FC zz)) (fun zz => nI (FA zz)) (fun zz => nI (FP zz)) (fun zz => nI (FH zz)) yHan (fun zz => nI (FT zz)) (fun zz => nI (TA zz)) (fun zz => nI (TH zz)) fSelf yKept stk → wY_apply_11 post (nI i) (ob_ys sV sG sS sW sE sC) on v w z0 (nI n) (nI m) yGiven (nI d) deep (nI b) thr thn res cStr (fun zz => nI (CL zz)) cOp cA cB (fun zz => nI (OK zz)) oKin yCo yAr oOpen (fun zz => nI (M zz)) (fun zz => ob_yf (tw zz) (te zz) (tc zz)) yPair ySeen pVal ySet (fun zz => ob_th (S zz)) yStay aOut aVar yArg (fun zz => nI (FC zz)) (fun zz => nI (FA zz)) (fun zz => nI (FP zz)) (fun zz => nI (FH zz)) yHan (fun zz => nI (FT zz)) (fun zz => nI (TA zz)) (fun zz => nI (TH zz)) fSelf yKept stk := by
    intro z0 h
    unfold wY_apply_11
    by_cases hA : (sG || sS) = true
    · rw [hA] at h
      refine br_f (fun z => ?_) h
      have := (ob_ysA _ _ _ _ _ _).mp z
      simp [this.1, this.2] at hA
    · have hA' : (sG || sS) = false := by simpa using hA
      rw [hA'] at h
      exact br_t ((ob_ysA _ _ _ _ _ _).mpr (by simpa using hA')) h
  by_cases hD : (sV || sW) = true
  · rw [hD] at h
    refine br_f (fun z => ?_) (h11 1 h)
    have := (ob_ysD _ _ _ _ _ _).mp z
    simp [this.1, this.2] at hD
  · have hD' : (sV || sW) = false := by simpa using hD
    rw [hD'] at h
    exact br_t ((ob_ysD _ _ _ _ _ _).mpr (by simpa using hD')) (h11 0 h)
/-- the component stores at a slot that is there -/
theorem ob_stX (ho : o < 32) (hk : k < 32) (hpk : ¬ xPk (32 * o + k) = 0) (cv : Bool) (hcv : cv = decide (ob_kd (sV || sW) (sG || sS) (xPk (32 * o + k)) ≠ xPk (32 * o + k))) (post : SX → Prop)
    (hp : post (nI n, nI d, nI b, deep, res, thr, thn, (fun zz => nI (CL zz)), cStr, cOp, cA, cB, (fun zz => nI (OK zz)), oKin, oOpen, xFc, xFs, xPc, xKo, (upd xPk (32 * o + k) (ob_kd (sV || sW) (sG || sS) (xPk (32 * o + k)))), (fun zz => ob_xa ((ob_ub tw (32 * o + k) (if sW then oW else if cv then false else tw (32 * o + k))) zz) ((ob_ub te (32 * o + k) (if sE then oE else te (32 * o + k))) zz) ((ob_ub tc (32 * o + k) (if sC then oC else tc (32 * o + k))) zz)), (vp_updL pVal (32 * o + k) (ob_nv (sV || sG) cv v (pVal (32 * o + k)))), (vp_updL xSet (32 * o + k) (ob_nv sS cv w (xSet (32 * o + k)))), (fun zz => nI (S zz)), aOut, aVar, (fun zz => nI (FC zz)), (fun zz => nI (FP zz)), (fun zz => nI (FA zz)), (fun zz => nI (FH zz)), (fun zz => nI (XH zz)), (fun zz => nI (FT zz)), fSelf, xHeld, stk, (fun zz => nI (TA zz)), (fun zz => nI (TH zz)), xArg)) :
    wpX_storeProperty post (nI n, nI d, nI b, deep, res, thr, thn, (fun zz => nI (CL zz)), cStr, cOp, cA, cB, (fun zz => nI (OK zz)), oKin, oOpen, xFc, xFs, xPc, xKo, xPk, (fun zz => ob_xa (tw zz) (te zz) (tc zz)), pVal, xSet, (fun zz => nI (S zz)), aOut, aVar, (fun zz => nI (FC zz)), (fun zz => nI (FP zz)), (fun zz => nI (FA zz)), (fun zz => nI (FH zz)), (fun zz => nI (XH zz)), (fun zz => nI (FT zz)), fSelf, xHeld, stk, (fun zz => nI (TA zz)), (fun zz => nI (TH zz)), xArg) (nI o) (nI k) (ob_xs sV sG sS sW sE sC oW oE oC) v w := by
  unfold wpX_storeProperty
  simp (disch := first | omega | decide) only [hpk, forall_eq, not_true, not_false_iff, false_implies, true_implies, true_and, and_true, ob_sub1, Nat.add_sub_cancel, nI_1, ob_ix, ob_iy, ob_ix24, ob_iy24, ob_ix10, ob_iy10, ob_ix4, ob_iy4, ob_ix3, ob_iy3, ob_s1, ob_s2, ob_s3, ob_s4, ob_ltl, ob_lel, ob_eql, ob_ltr, ob_ler, ob_uN, Nat.add_one_ne_zero, ob_xs3, ob_lnn, ob_ltn, ob_eqn, Nat.not_lt_zero, Nat.zero_le, Nat.reduceEqDiff, Nat.reduceLeDiff, Nat.reduceLT, ob_eqll, Int32.reduceLT, Int32.reduceLE, eq_self_iff_true]
  refine ob_st28 post ?_
  unfold wX_storeProperty_54
  refine br_f hpk ?_
  exact ob_st94 (by omega) cv hcv rfl post hp
/-- the component stores a new property -/
theorem ob_stXn {c : Nat} (ho : o < 32) (hk : k < 32) (hpk : xPk (32 * o + k) = 0) (hc : c < 32) (hpc : xPc o = nI c) (post : SX → Prop)
    (hp : post (nI n, nI d, nI b, deep, res, thr, thn, (fun zz => nI (CL zz)), cStr, cOp, cA, cB, (fun zz => nI (OK zz)), oKin, oOpen, xFc, xFs, (upd xPc o (nI (c + 1))), (upd xKo (32 * o + c) (nI k)), (upd xPk (32 * o + k) (ob_kd (sV || sW) (sG || sS) 1)), (fun zz => ob_xa ((ob_ub tw (32 * o + k) (if sW then oW else false)) zz) ((ob_ub te (32 * o + k) (if sE then oE else false)) zz) ((ob_ub tc (32 * o + k) (if sC then oC else false)) zz)), (vp_updL pVal (32 * o + k) (ob_nv (sV || sG) true v (pVal (32 * o + k)))), (vp_updL xSet (32 * o + k) (ob_nv sS true w (xSet (32 * o + k)))), (fun zz => nI (S zz)), aOut, aVar, (fun zz => nI (FC zz)), (fun zz => nI (FP zz)), (fun zz => nI (FA zz)), (fun zz => nI (FH zz)), (fun zz => nI (XH zz)), (fun zz => nI (FT zz)), fSelf, xHeld, stk, (fun zz => nI (TA zz)), (fun zz => nI (TH zz)), xArg)) :
    wpX_storeProperty post (nI n, nI d, nI b, deep, res, thr, thn, (fun zz => nI (CL zz)), cStr, cOp, cA, cB, (fun zz => nI (OK zz)), oKin, oOpen, xFc, xFs, xPc, xKo, xPk, (fun zz => ob_xa (tw zz) (te zz) (tc zz)), pVal, xSet, (fun zz => nI (S zz)), aOut, aVar, (fun zz => nI (FC zz)), (fun zz => nI (FP zz)), (fun zz => nI (FA zz)), (fun zz => nI (FH zz)), (fun zz => nI (XH zz)), (fun zz => nI (FT zz)), fSelf, xHeld, stk, (fun zz => nI (TA zz)), (fun zz => nI (TH zz)), xArg) (nI o) (nI k) (ob_xs sV sG sS sW sE sC oW oE oC) v w := by
  unfold wpX_storeProperty
  simp (disch := first | omega | decide) only [hpk, forall_eq, not_true, not_false_iff, false_implies, true_implies, true_and, and_true, ob_sub1, Nat.add_sub_cancel, nI_1, ob_ix, ob_iy, ob_ix24, ob_iy24, ob_ix10, ob_iy10, ob_ix4, ob_iy4, ob_ix3, ob_iy3, ob_s1, ob_s2, ob_s3, ob_s4, ob_ltl, ob_lel, ob_eql, ob_ltr, ob_ler, ob_uN, Nat.add_one_ne_zero, ob_xs3, ob_lnn, ob_ltn, ob_eqn, Nat.not_lt_zero, Nat.zero_le, Nat.reduceEqDiff, Nat.reduceLeDiff, Nat.reduceLT, ob_eqll, Int32.reduceLT, Int32.reduceLE, eq_self_iff_true]
  refine ob_st28 post ?_
  unfold wX_storeProperty_54
  refine br_t rfl ?_
  simp (disch := first | omega | decide) only [hpc, ob_uA0, forall_eq, not_true, not_false_iff, false_implies, true_implies, true_and, and_true, ob_sub1, Nat.add_sub_cancel, nI_1, ob_ix, ob_iy, ob_ix24, ob_iy24, ob_ix10, ob_iy10, ob_ix4, ob_iy4, ob_ix3, ob_iy3, ob_s1, ob_s2, ob_s3, ob_s4, ob_ltl, ob_lel, ob_eql, ob_ltr, ob_ler, ob_uN, Nat.add_one_ne_zero, ob_xs3, ob_lnn, ob_ltn, ob_eqn, Nat.not_lt_zero, Nat.zero_le, Nat.reduceEqDiff, Nat.reduceLeDiff, Nat.reduceLT, ob_eqll, Int32.reduceLT, Int32.reduceLE, eq_self_iff_true]
  refine ob_st94 (by omega) true ?_ hpk post ?_
  · unfold ob_kd
    cases (sV || sW) <;> cases (sG || sS) <;> rfl
  · simp only [ob_ub_u, ob_ub_s]
    exact hp
/-- the reference stores at a slot that is there -/
theorem ob_apY (hpo : ob_po sW sE sC oW oE oC pW pE pC) (hi : i < 1024) (hm : M i < 2 ^ 31) (hM : M i ≠ 0) (hpr : yPair i = 0 ∨ yPair i = 1) (cv : Bool) (hcv : cv = ((sG || sS) && decide (yPair i = 0) || !(sG || sS) && (sV || sW) && decide (yPair i = 1))) (hDA : ((sV || sW) && (sG || sS)) = false) (post : SY → Prop)
    (hp : post (nI n, nI m, yGiven, nI d, deep, nI b, thr, thn, res, cStr, (fun zz => nI (CL zz)), cOp, cA, cB, (fun zz => nI (OK zz)), oKin, yCo, yAr, oOpen, (fun zz => nI (M zz)), (fun zz => ob_yf ((ob_ub tw i (if sW then oW else if cv then false else tw i)) zz) ((ob_ub te i (if sE then oE else te i)) zz) ((ob_ub tc i (if sC then oC else tc i)) zz)), (upd yPair i (if cv then ob_01 (sG || sS) else yPair i)), ySeen, (vp_updL pVal i (ob_nv (sV || sG) cv v (pVal i))), (vp_updL ySet i (ob_nv sS cv w (ySet i))), (fun zz => ob_th (S zz)), yStay, aOut, aVar, yArg, (fun zz => nI (FC zz)), (fun zz => nI (FA zz)), (fun zz => nI (FP zz)), (fun zz => nI (FH zz)), yHan, (fun zz => nI (FT zz)), (fun zz => nI (TA zz)), (fun zz => nI (TH zz)), fSelf, yKept, stk)) :
    wpY_apply post (nI n, nI m, yGiven, nI d, deep, nI b, thr, thn, res, cStr, (fun zz => nI (CL zz)), cOp, cA, cB, (fun zz => nI (OK zz)), oKin, yCo, yAr, oOpen, (fun zz => nI (M zz)), (fun zz => ob_yf (tw zz) (te zz) (tc zz)), yPair, ySeen, pVal, ySet, (fun zz => ob_th (S zz)), yStay, aOut, aVar, yArg, (fun zz => nI (FC zz)), (fun zz => nI (FA zz)), (fun zz => nI (FP zz)), (fun zz => nI (FH zz)), yHan, (fun zz => nI (FT zz)), (fun zz => nI (TA zz)), (fun zz => nI (TH zz)), fSelf, yKept, stk) (nI i) (ob_ys sV sG sS sW sE sC) (ob_yf pW pE pC) v w := by
  refine ob_ap25 post ?_
  unfold wY_apply_25
  simp (disch := first | omega | decide) only [hM, ob_yab, forall_eq, not_true, not_false_iff, false_implies, true_implies, true_and, and_true, ob_sub1, Nat.add_sub_cancel, nI_1, ob_ix, ob_iy, ob_ix24, ob_iy24, ob_ix10, ob_iy10, ob_ix4, ob_iy4, ob_ix3, ob_iy3, ob_s1, ob_s2, ob_s3, ob_s4, ob_ltl, ob_lel, ob_eql, ob_ltr, ob_ler, ob_uN, Nat.add_one_ne_zero, ob_xs3, ob_lnn, ob_ltn, ob_eqn, Nat.not_lt_zero, Nat.zero_le, Nat.reduceEqDiff, Nat.reduceLeDiff, Nat.reduceLT, ob_eqll, Int32.reduceLT, Int32.reduceLE, eq_self_iff_true]
  unfold wY_apply_51
  cases hA : (sG || sS)
  · rw [hA] at hcv hp
    refine br_t rfl ?_
    unfold wY_apply_65
    cases hD : (sV || sW)
    · rw [hD] at hcv
      have hc : cv = false := by rw [hcv]; simp
      subst hc
      rw [show (if false = true then ob_01 false else yPair i) = yPair i from rfl, ob_ui rfl] at hp
      exact br_t rfl (ob_ap116 hpo hi post hp)
    · rw [hD] at hcv
      refine br_f (by decide) ?_
      simp (disch := first | omega | decide) only [forall_eq, not_true, not_false_iff, false_implies, true_implies, true_and, and_true, ob_sub1, Nat.add_sub_cancel, nI_1, ob_ix, ob_iy, ob_ix24, ob_iy24, ob_ix10, ob_iy10, ob_ix4, ob_iy4, ob_ix3, ob_iy3, ob_s1, ob_s2, ob_s3, ob_s4, ob_ltl, ob_lel, ob_eql, ob_ltr, ob_ler, ob_uN, Nat.add_one_ne_zero, ob_xs3, ob_lnn, ob_ltn, ob_eqn, Nat.not_lt_zero, Nat.zero_le, Nat.reduceEqDiff, Nat.reduceLeDiff, Nat.reduceLT, ob_eqll, Int32.reduceLT, Int32.reduceLE, eq_self_iff_true]
      rcases hpr with h | h
      · have hc : cv = false := by simp [hcv, h]
        subst hc
        rw [show (if false = true then ob_01 false else yPair i) = yPair i from rfl, ob_ui rfl] at hp
        exact br_t h (ob_ap116 hpo hi post hp)
      · have hc : cv = true := by simp [hcv, h]
        subst hc
        exact br_f (by rw [h]; decide) (ob_ap79 hpo hi rfl post hp)
  · rw [hA] at hcv hp hDA
    refine br_f (by decide) ?_
    simp (disch := first | omega | decide) only [forall_eq, not_true, not_false_iff, false_implies, true_implies, true_and, and_true, ob_sub1, Nat.add_sub_cancel, nI_1, ob_ix, ob_iy, ob_ix24, ob_iy24, ob_ix10, ob_iy10, ob_ix4, ob_iy4, ob_ix3, ob_iy3, ob_s1, ob_s2, ob_s3, ob_s4, ob_ltl, ob_lel, ob_eql, ob_ltr, ob_ler, ob_uN, Nat.add_one_ne_zero, ob_xs3, ob_lnn, ob_ltn, ob_eqn, Nat.not_lt_zero, Nat.zero_le, Nat.reduceEqDiff, Nat.reduceLeDiff, Nat.reduceLT, ob_eqll, Int32.reduceLT, Int32.reduceLE, eq_self_iff_true]
    rcases hpr with h | h
    · have hc : cv = true := by simp [hcv, h]
      subst hc
      exact br_t h (ob_ap79 hpo hi rfl post hp)
    · have hc : cv = false := by simp [hcv, h]
      subst hc
      refine br_f (by rw [h]; decide) ?_
      rw [show (if false = true then ob_01 true else yPair i) = yPair i from rfl, ob_ui rfl] at hp
      have hD : (sV || sW) = false := by simpa using hDA
      unfold wY_apply_65
      rw [hD]
      exact br_t rfl (ob_ap116 hpo hi post hp)
/-- the reference stores a new property -/
theorem ob_apYn (hpo : ob_po sW sE sC oW oE oC pW pE pC) (hi : i < 1024) (hM : M i = 0) (hDA : ((sV || sW) && (sG || sS)) = false) (post : SY → Prop)
    (hp : post (nI n, nI (m+1), yGiven, nI d, deep, nI b, thr, thn, res, cStr, (fun zz => nI (CL zz)), cOp, cA, cB, (fun zz => nI (OK zz)), oKin, yCo, yAr, oOpen, (fun zz => nI ((ob_um M i (m + 1)) zz)), (fun zz => ob_yf ((ob_ub tw i (if sW then oW else false)) zz) ((ob_ub te i (if sE then oE else false)) zz) ((ob_ub tc i (if sC then oC else false)) zz)), (upd yPair i (ob_01 (sG || sS))), ySeen, (vp_updL pVal i (ob_nv (sV || sG) true v (pVal i))), (vp_updL ySet i (ob_nv sS (sG || sS) w (ySet i))), (fun zz => ob_th (S zz)), yStay, aOut, aVar, yArg, (fun zz => nI (FC zz)), (fun zz => nI (FA zz)), (fun zz => nI (FP zz)), (fun zz => nI (FH zz)), yHan, (fun zz => nI (FT zz)), (fun zz => nI (TA zz)), (fun zz => nI (TH zz)), fSelf, yKept, stk)) :
    wpY_apply post (nI n, nI m, yGiven, nI d, deep, nI b, thr, thn, res, cStr, (fun zz => nI (CL zz)), cOp, cA, cB, (fun zz => nI (OK zz)), oKin, yCo, yAr, oOpen, (fun zz => nI (M zz)), (fun zz => ob_yf (tw zz) (te zz) (tc zz)), yPair, ySeen, pVal, ySet, (fun zz => ob_th (S zz)), yStay, aOut, aVar, yArg, (fun zz => nI (FC zz)), (fun zz => nI (FA zz)), (fun zz => nI (FP zz)), (fun zz => nI (FH zz)), yHan, (fun zz => nI (FT zz)), (fun zz => nI (TA zz)), (fun zz => nI (TH zz)), fSelf, yKept, stk) (nI i) (ob_ys sV sG sS sW sE sC) (ob_yf pW pE pC) v w := by
  have e1 : vp_updL (vp_updL pVal i 8589934592) i (ob_nv (sV || sG) false v (vp_updL pVal i 8589934592 i)) = vp_updL pVal i (ob_nv (sV || sG) true v (pVal i)) := by
    rw [ob_uuL, pk_uLs]; unfold ob_nv; cases (sV || sG) <;> rfl
  have e3 : vp_updL (vp_updL pVal i 8589934592) i (ob_nv (sV || sG) true v (vp_updL pVal i 8589934592 i)) = vp_updL pVal i (ob_nv (sV || sG) true v (pVal i)) := by
    rw [ob_uuL, pk_uLs]; unfold ob_nv; cases (sV || sG) <;> rfl
  refine ob_ap25 post ?_
  unfold wY_apply_25
  simp (disch := first | omega | decide) only [hM, ob_yab, forall_eq, not_true, not_false_iff, false_implies, true_implies, true_and, and_true, ob_sub1, Nat.add_sub_cancel, nI_1, ob_ix, ob_iy, ob_ix24, ob_iy24, ob_ix10, ob_iy10, ob_ix4, ob_iy4, ob_ix3, ob_iy3, ob_s1, ob_s2, ob_s3, ob_s4, ob_ltl, ob_lel, ob_eql, ob_ltr, ob_ler, ob_uN, Nat.add_one_ne_zero, ob_xs3, ob_lnn, ob_ltn, ob_eqn, Nat.not_lt_zero, Nat.zero_le, Nat.reduceEqDiff, Nat.reduceLeDiff, Nat.reduceLT, ob_eqll, Int32.reduceLT, Int32.reduceLE, eq_self_iff_true]
  unfold wpY_appear
  simp (disch := first | omega | decide) only [ob_nar0, ob_uF0, forall_eq, not_true, not_false_iff, false_implies, true_implies, true_and, and_true, ob_sub1, Nat.add_sub_cancel, nI_1, ob_ix, ob_iy, ob_ix24, ob_iy24, ob_ix10, ob_iy10, ob_ix4, ob_iy4, ob_ix3, ob_iy3, ob_s1, ob_s2, ob_s3, ob_s4, ob_ltl, ob_lel, ob_eql, ob_ltr, ob_ler, ob_uN, Nat.add_one_ne_zero, ob_xs3, ob_lnn, ob_ltn, ob_eqn, Nat.not_lt_zero, Nat.zero_le, Nat.reduceEqDiff, Nat.reduceLeDiff, Nat.reduceLT, ob_eqll, Int32.reduceLT, Int32.reduceLE, eq_self_iff_true]
  unfold wY_apply_51
  cases hA : (sG || sS)
  · have hS : sS = false := by
      cases sS
      · rfl
      · simp at hA
    subst hS
    rw [hA, show ob_01 false = 0 from rfl] at hp
    refine br_t rfl ?_
    have h116 : wY_apply_116 post (nI i) (ob_ys sV sG false sW sE sC) (ob_yf pW pE pC) v w (ob_yf sW sE sC) (nI n) (nI (m+1)) yGiven (nI d) deep (nI b) thr thn res cStr (fun zz => nI (CL zz)) cOp cA cB (fun zz => nI (OK zz)) oKin yCo yAr oOpen (fun zz => nI ((ob_um M i (m + 1)) zz)) (fun zz => ob_yf ((ob_ub tw i false) zz) ((ob_ub te i false) zz) ((ob_ub tc i false) zz)) (upd yPair i 0) ySeen (vp_updL pVal i 8589934592) ySet (fun zz => ob_th (S zz)) yStay aOut aVar yArg (fun zz => nI (FC zz)) (fun zz => nI (FA zz)) (fun zz => nI (FP zz)) (fun zz => nI (FH zz)) yHan (fun zz => nI (FT zz)) (fun zz => nI (TA zz)) (fun zz => nI (TH zz)) fSelf yKept stk := by
      refine ob_ap116 hpo hi post ?_
      simp only [e1, ob_ub_u, ob_ub_s]
      exact hp
    unfold wY_apply_65
    cases hD : (sV || sW)
    · exact br_t rfl h116
    · refine br_f (by decide) ?_
      simp (disch := first | omega | decide) only [pk_us, forall_eq, not_true, not_false_iff, false_implies, true_implies, true_and, and_true, ob_sub1, Nat.add_sub_cancel, nI_1, ob_ix, ob_iy, ob_ix24, ob_iy24, ob_ix10, ob_iy10, ob_ix4, ob_iy4, ob_ix3, ob_iy3, ob_s1, ob_s2, ob_s3, ob_s4, ob_ltl, ob_lel, ob_eql, ob_ltr, ob_ler, ob_uN, Nat.add_one_ne_zero, ob_xs3, ob_lnn, ob_ltn, ob_eqn, Nat.not_lt_zero, Nat.zero_le, Nat.reduceEqDiff, Nat.reduceLeDiff, Nat.reduceLT, ob_eqll, Int32.reduceLT, Int32.reduceLE, eq_self_iff_true]
      exact h116
  · rw [hA, show ob_01 true = 1 from rfl] at hp
    refine br_f (by decide) ?_
    simp (disch := first | omega | decide) only [pk_us, forall_eq, not_true, not_false_iff, false_implies, true_implies, true_and, and_true, ob_sub1, Nat.add_sub_cancel, nI_1, ob_ix, ob_iy, ob_ix24, ob_iy24, ob_ix10, ob_iy10, ob_ix4, ob_iy4, ob_ix3, ob_iy3, ob_s1, ob_s2, ob_s3, ob_s4, ob_ltl, ob_lel, ob_eql, ob_ltr, ob_ler, ob_uN, Nat.add_one_ne_zero, ob_xs3, ob_lnn, ob_ltn, ob_eqn, Nat.not_lt_zero, Nat.zero_le, Nat.reduceEqDiff, Nat.reduceLeDiff, Nat.reduceLT, ob_eqll, Int32.reduceLT, Int32.reduceLE, eq_self_iff_true]
    refine ob_ap79 (x := 1) hpo hi rfl post ?_
    simp only [e3, ob_uu, ob_ub_u, ob_ub_s]
    exact hp
end
end
section
/-! ===== a property is stored: the groups behind it ===== -/
section
variable {n : Nat} {d : Nat} {b : Nat} {m : Nat} {deep : Int32} {res : Int64} {thr : Int32} {thn : Int64} {CL : Nat → Nat} {cStr : Nat → Int32} {cOp : Nat → Int32} {cA : Nat → Int32} {cB : Nat → Int32} {OK : Nat → Nat} {oKin : Nat → Int32} {oOpen : Nat → Int32} {pVal : Nat → Int64} {aOut : Nat → Int32} {aVar : Nat → Int64} {FC : Nat → Nat} {FA : Nat → Nat} {FP : Nat → Nat} {FH : Nat → Nat} {FT : Nat → Nat} {fSelf : Nat → Int64} {stk : Nat → Int64} {TA : Nat → Nat} {TH : Nat → Nat} {xFc : Nat → Int32} {xFs : Nat → Int32} {xPc : Nat → Int32} {xKo : Nat → Int32} {xPk : Nat → Int32} {tw : Nat → Bool} {te : Nat → Bool} {tc : Nat → Bool} {xSet : Nat → Int64} {S : Nat → Nat} {XH : Nat → Nat} {xHeld : Nat → Int64} {xArg : Nat → Int64} {yCo : Nat → Int32} {yAr : Nat → Int32} {M : Nat → Nat} {yPair : Nat → Int32} {ySeen : Nat → Int32} {ySet : Nat → Int64} {yStay : Nat → Int32} {yArg : Nat → Int64} {yHan : Nat → Int32} {yKept : Nat → Int64} {yGiven : Int32}
variable {o k : Nat} {sV sG sS sW sE sC oW oE oC pW pE pC : Bool} {v w wy : Int64}
theorem ob_store (hpo : ob_po sW sE sC oW oE oC pW pE pC) (hO : ob_gO n OK oKin) (hP : ob_gP n m M pVal xPk tw xSet yPair ySet) (hL : ob_gL n M xPc xKo) (ho : o < n) (hk : k < 32) (hm : m < 2 ^ 31) (hDA : ((sV || sW) && (sG || sS)) = false)
    (hv : (sV || sG) = true → ob_V n v) (hw : sS = true → ob_V n wy ∧ w = wy) :
    ∃ (m' : Nat) (M' : Nat → Nat) (xPc' : Nat → Int32) (xKo' : Nat → Int32) (pVal' : Nat → Int64) (xPk' : Nat → Int32) (tw' : Nat → Bool) (te' : Nat → Bool) (tc' : Nat → Bool) (xSet' : Nat → Int64) (yPair' : Nat → Int32) (ySet' : Nat → Int64), ob_gP n m' M' pVal' xPk' tw' xSet' yPair' ySet' ∧ ob_gL n M' xPc' xKo' ∧ m ≤ m' ∧ m' ≤ m + 1 ∧ M' (32 * o + k) ≠ 0 ∧
      (∀ j, j ≠ 32 * o + k → M' j = M j ∧ pVal' j = pVal j ∧ yPair' j = yPair j ∧ tc' j = tc j) ∧
      (M (32 * o + k) ≠ 0 → yPair (32 * o + k) = 0 → (sG || sS) = false → yPair' (32 * o + k) = 0 ∧ pVal' (32 * o + k) = (if (sV || sG) = true then v else pVal (32 * o + k)) ∧ tc' (32 * o + k) = if sC = true then oC else tc (32 * o + k)) ∧
      (sV = true → sG = false → sS = false → yPair' (32 * o + k) = 0 ∧ pVal' (32 * o + k) = v ∧ (M (32 * o + k) = 0 → tc' (32 * o + k) = if sC = true then oC else false)) ∧
      (∀ post : SX → Prop, post (nI n, nI d, nI b, deep, res, thr, thn, (fun zz => nI (CL zz)), cStr, cOp, cA, cB, (fun zz => nI (OK zz)), oKin, oOpen, xFc, xFs, xPc', xKo', xPk', (fun zz => ob_xa (tw' zz) (te' zz) (tc' zz)), pVal', xSet', (fun zz => nI (S zz)), aOut, aVar, (fun zz => nI (FC zz)), (fun zz => nI (FP zz)), (fun zz => nI (FA zz)), (fun zz => nI (FH zz)), (fun zz => nI (XH zz)), (fun zz => nI (FT zz)), fSelf, xHeld, stk, (fun zz => nI (TA zz)), (fun zz => nI (TH zz)), xArg) → wpX_storeProperty post (nI n, nI d, nI b, deep, res, thr, thn, (fun zz => nI (CL zz)), cStr, cOp, cA, cB, (fun zz => nI (OK zz)), oKin, oOpen, xFc, xFs, xPc, xKo, xPk, (fun zz => ob_xa (tw zz) (te zz) (tc zz)), pVal, xSet, (fun zz => nI (S zz)), aOut, aVar, (fun zz => nI (FC zz)), (fun zz => nI (FP zz)), (fun zz => nI (FA zz)), (fun zz => nI (FH zz)), (fun zz => nI (XH zz)), (fun zz => nI (FT zz)), fSelf, xHeld, stk, (fun zz => nI (TA zz)), (fun zz => nI (TH zz)), xArg) (nI o) (nI k) (ob_xs sV sG sS sW sE sC oW oE oC) v w) ∧
      (∀ post : SY → Prop, post (nI n, nI m', yGiven, nI d, deep, nI b, thr, thn, res, cStr, (fun zz => nI (CL zz)), cOp, cA, cB, (fun zz => nI (OK zz)), oKin, yCo, yAr, oOpen, (fun zz => nI (M' zz)), (fun zz => ob_yf (tw' zz) (te' zz) (tc' zz)), yPair', ySeen, pVal', ySet', (fun zz => ob_th (S zz)), yStay, aOut, aVar, yArg, (fun zz => nI (FC zz)), (fun zz => nI (FA zz)), (fun zz => nI (FP zz)), (fun zz => nI (FH zz)), yHan, (fun zz => nI (FT zz)), (fun zz => nI (TA zz)), (fun zz => nI (TH zz)), fSelf, yKept, stk) → wpY_apply post (nI n, nI m, yGiven, nI d, deep, nI b, thr, thn, res, cStr, (fun zz => nI (CL zz)), cOp, cA, cB, (fun zz => nI (OK zz)), oKin, yCo, yAr, oOpen, (fun zz => nI (M zz)), (fun zz => ob_yf (tw zz) (te zz) (tc zz)), yPair, ySeen, pVal, ySet, (fun zz => ob_th (S zz)), yStay, aOut, aVar, yArg, (fun zz => nI (FC zz)), (fun zz => nI (FA zz)), (fun zz => nI (FP zz)), (fun zz => nI (FH zz)), yHan, (fun zz => nI (FT zz)), (fun zz => nI (TA zz)), (fun zz => nI (TH zz)), fSelf, yKept, stk) (nI (32 * o + k)) (ob_ys sV sG sS sW sE sC) (ob_yf pW pE pC) v wy) := by
  have hn : n ≤ 32 := hO.1.2
  have hi : 32 * o + k < 1024 := by omega
  have hnv : ∀ (cv : Bool) (old : Int64), (cv = false → ob_V n old) → ob_V n (ob_nv (sV || sG) cv v old) := by
    intro cv old h
    unfold ob_nv
    cases hs : (sV || sG)
    · rw [if_neg (by decide)]
      cases cv
      · exact h rfl
      · exact ob_V_U n
    · exact hv hs
  have hnw : ∀ (cv : Bool) (old : Int64), (cv = false → ob_V n old) → ob_V n (ob_nv sS cv wy old) := by
    intro cv old h
    unfold ob_nv
    cases hs : sS
    · rw [if_neg (by decide)]
      cases cv
      · exact h rfl
      · exact ob_V_U n
    · exact (hw hs).1
  have hnn : ∀ (cv : Bool) (old : Int64), ob_nv sS cv w old = ob_nv sS cv wy old := by
    intro cv old
    unfold ob_nv
    cases hs : sS
    · rfl
    · exact (hw hs).2
  by_cases hM : M (32 * o + k) = 0
  · have hpk := (ob_sl_0 (hP.2.2 (32 * o + k) (by omega))).mpr hM
    obtain ⟨c, hc, hpc, hL'⟩ := ob_gL_add hL hP.1 ho hk hM
    refine ⟨m + 1, ob_um M (32 * o + k) (m + 1), upd xPc o (nI (c + 1)), upd xKo (32 * o + c) (nI k), vp_updL pVal (32 * o + k) (ob_nv (sV || sG) true v (pVal (32 * o + k))), upd xPk (32 * o + k) (ob_kd (sV || sW) (sG || sS) 1),
      ob_ub tw (32 * o + k) (if sW then oW else false), ob_ub te (32 * o + k) (if sE then oE else false), ob_ub tc (32 * o + k) (if sC then oC else false), vp_updL xSet (32 * o + k) (ob_nv sS true w (xSet (32 * o + k))), upd yPair (32 * o + k) (ob_01 (sG || sS)), vp_updL ySet (32 * o + k) (ob_nv sS (sG || sS) wy (ySet (32 * o + k))), ?_, hL', by omega, by omega, by rw [ob_um_s]; omega, ?_, fun h => absurd hM h, ?_, fun post hp => ob_stXn (by omega) hk hpk hc hpc post hp, fun post hp => ob_apYn hpo hi hM hDA post hp⟩
    · refine ob_gP_c (i := 32 * o + k) hP (fun j => ?_) (fun j hj => ?_) (fun j hj hne => ?_) (fun _ => ?_)
      · unfold ob_um
        have := hP.1 j
        split <;> omega
      · rw [ob_um_n _ _ (by omega)]
        exact hP.2.1 j hj
      · exact ⟨ob_um_n _ _ hne, pk_uLn hne, pk_un hne, ob_ub_n _ _ hne, pk_uLn hne, pk_un hne, pk_uLn hne⟩
      · rw [ob_um_s, pk_uLs, pk_us, ob_ub_s, pk_uLs, pk_us, pk_uLs]
        refine Or.inr ⟨by omega, hnv _ _ (fun h => absurd h (by decide)), ?_⟩
        cases hA : (sG || sS)
        · refine Or.inl ⟨rfl, ?_⟩
          unfold ob_kd
          cases (sV || sW) <;> rfl
        · rw [hA] at hDA
          have hD : (sV || sW) = false := by simpa using hDA
          have hW : sW = false := by
            cases sW
            · rfl
            · simp at hD
          refine Or.inr ⟨rfl, by rw [hD]; rfl, by rw [hW]; rfl, hnn _ _, hnw _ _ (fun h => absurd h (by decide))⟩
    · intro j hne
      exact ⟨ob_um_n _ _ hne, pk_uLn hne, pk_un hne, ob_ub_n _ _ hne⟩
    · intro h1 h2 h3
      subst h1 h2 h3
      rw [pk_us, pk_uLs, ob_ub_s]
      exact ⟨rfl, rfl, fun _ => rfl⟩
  · have hpk : ¬ xPk (32 * o + k) = 0 := fun z => hM ((ob_sl_0 (hP.2.2 (32 * o + k) (by omega))).mp z)
    have hMm := hP.1 (32 * o + k)
    have hsl : ob_V n (pVal (32 * o + k)) ∧ ((yPair (32 * o + k) = 0 ∧ xPk (32 * o + k) = 1) ∨ (yPair (32 * o + k) = 1 ∧ xPk (32 * o + k) = 2 ∧ tw (32 * o + k) = false ∧ xSet (32 * o + k) = ySet (32 * o + k) ∧ ob_V n (ySet (32 * o + k)))) := by
      rcases hP.2.2 (32 * o + k) (by omega) with ⟨h0, _⟩ | ⟨_, h1, h2⟩
      · exact absurd h0 hM
      · exact ⟨h1, h2⟩
    have hpr : yPair (32 * o + k) = 0 ∨ yPair (32 * o + k) = 1 := by
      rcases hsl.2 with h | h
      · exact Or.inl h.1
      · exact Or.inr h.1
    obtain ⟨cv, hcX, hcY⟩ : ∃ cv : Bool, cv = decide (ob_kd (sV || sW) (sG || sS) (xPk (32 * o + k)) ≠ xPk (32 * o + k)) ∧ cv = ((sG || sS) && decide (yPair (32 * o + k) = 0) || !(sG || sS) && (sV || sW) && decide (yPair (32 * o + k) = 1)) := by
      refine ⟨_, rfl, ?_⟩
      rcases hsl.2 with ⟨h1, h2⟩ | ⟨h1, h2, _⟩
      · rw [h1, h2]
        revert hDA
        cases (sV || sW) <;> cases (sG || sS) <;> decide
      · rw [h1, h2]
        revert hDA
        cases (sV || sW) <;> cases (sG || sS) <;> decide
    refine ⟨m, M, xPc, xKo, vp_updL pVal (32 * o + k) (ob_nv (sV || sG) cv v (pVal (32 * o + k))), upd xPk (32 * o + k) (ob_kd (sV || sW) (sG || sS) (xPk (32 * o + k))), ob_ub tw (32 * o + k) (if sW then oW else if cv then false else tw (32 * o + k)), ob_ub te (32 * o + k) (if sE then oE else te (32 * o + k)), ob_ub tc (32 * o + k) (if sC then oC else tc (32 * o + k)), vp_updL xSet (32 * o + k) (ob_nv sS cv w (xSet (32 * o + k))), upd yPair (32 * o + k) (if cv then ob_01 (sG || sS) else yPair (32 * o + k)), vp_updL ySet (32 * o + k) (ob_nv sS cv wy (ySet (32 * o + k))), ?_, hL, by omega, by omega, hM, ?_, ?_, ?_, fun post hp => ob_stX (by omega) hk hpk cv hcX post hp, fun post hp => ob_apY hpo hi (by omega) hM hpr cv hcY hDA post hp⟩
    · refine ob_gP_c (i := 32 * o + k) hP hP.1 hP.2.1 (fun j hj hne => ?_) (fun _ => ?_)
      · exact ⟨rfl, pk_uLn hne, pk_un hne, ob_ub_n _ _ hne, pk_uLn hne, pk_un hne, pk_uLn hne⟩
      · rw [pk_uLs, pk_us, ob_ub_s, pk_uLs, pk_us, pk_uLs]
        refine Or.inr ⟨hM, hnv _ _ (fun _ => hsl.1), ?_⟩
        rcases hsl.2 with ⟨h1, h2⟩ | ⟨h1, h2, h3, h4, h5⟩
        · cases hA : (sG || sS)
          · left
            rw [hA, h1] at hcY
            have hc : cv = false := by rw [hcY]; simp
            subst hc
            rw [h2]
            refine ⟨h1, ?_⟩
            unfold ob_kd
            cases (sV || sW) <;> rfl
          · right
            rw [hA, h1] at hcY
            have hc : cv = true := by rw [hcY]; simp
            subst hc
            rw [hA] at hDA
            have hD : (sV || sW) = false := by simpa using hDA
            have hW : sW = false := by
              cases sW
              · rfl
              · simp at hD
            exact ⟨rfl, by rw [hD]; rfl, by rw [hW]; rfl, hnn _ _, hnw _ _ (fun h => absurd h (by decide))⟩
        · cases hA : (sG || sS)
          · cases hD : (sV || sW)
            · right
              rw [hA, hD, h1] at hcY
              have hc : cv = false := by rw [hcY]; simp
              subst hc
              have hW : sW = false := by
                cases sW
                · rfl
                · simp at hD
              refine ⟨h1, by rw [h2]; rfl, by rw [hW]; exact h3, by rw [h4, hnn], hnw _ _ (fun _ => h5)⟩
            · left
              rw [hA, hD, h1] at hcY
              have hc : cv = true := by rw [hcY]; simp
              subst hc
              exact ⟨rfl, rfl⟩
          · right
            rw [hA, h1] at hcY
            have hc : cv = false := by rw [hcY]; simp
            subst hc
            rw [hA] at hDA
            have hD : (sV || sW) = false := by simpa using hDA
            have hW : sW = false := by
              cases sW
              · rfl
              · simp at hD
            exact ⟨h1, by rw [hD]; rfl, by rw [hW]; exact h3, by rw [h4, hnn], hnw _ _ (fun _ => h5)⟩
    · intro j hne
      exact ⟨rfl, pk_uLn hne, pk_un hne, ob_ub_n _ _ hne⟩
    · intro _ h1 h2
      rw [h2, h1] at hcY
      have hc : cv = false := by rw [hcY]; simp
      subst hc
      rw [pk_us, pk_uLs, ob_ub_s]
      exact ⟨h1, rfl, rfl⟩
    · intro h1 h2 h3
      subst h1 h2 h3
      rw [pk_us, pk_uLs]
      refine ⟨?_, rfl, fun z => absurd z hM⟩
      rcases hpr with h | h
      · rw [h] at hcY
        have hc : cv = false := by rw [hcY]; simp
        rw [hc]
        exact h
      · rw [h] at hcY
        have hc : cv = true := by rw [hcY]; simp
        rw [hc]
        rfl
end
end
section
/-! ===== what may be done: isForbidden and allows ===== -/
def ob_alw (sV sG sS sW sE sC oW oE oC w e c pair eqV eqS : Bool) : Bool :=
  c || (!(sC && oC) && !(sE && (oE != e)) && (if pair then !(sV || sW) && (!sG || eqV) && (!sS || eqS) else !(sG || sS) && (w || (!(sW && oW) && (!sV || eqV)))))
section
variable {n : Nat} {d : Nat} {b : Nat} {m : Nat} {deep : Int32} {res : Int64} {thr : Int32} {thn : Int64} {CL : Nat → Nat} {cStr : Nat → Int32} {cOp : Nat → Int32} {cA : Nat → Int32} {cB : Nat → Int32} {OK : Nat → Nat} {oKin : Nat → Int32} {oOpen : Nat → Int32} {pVal : Nat → Int64} {aOut : Nat → Int32} {aVar : Nat → Int64} {FC : Nat → Nat} {FA : Nat → Nat} {FP : Nat → Nat} {FH : Nat → Nat} {FT : Nat → Nat} {fSelf : Nat → Int64} {stk : Nat → Int64} {TA : Nat → Nat} {TH : Nat → Nat} {xFc : Nat → Int32} {xFs : Nat → Int32} {xPc : Nat → Int32} {xKo : Nat → Int32} {xPk : Nat → Int32} {tw : Nat → Bool} {te : Nat → Bool} {tc : Nat → Bool} {xSet : Nat → Int64} {S : Nat → Nat} {XH : Nat → Nat} {xHeld : Nat → Int64} {xArg : Nat → Int64} {yCo : Nat → Int32} {yAr : Nat → Int32} {M : Nat → Nat} {yPair : Nat → Int32} {ySeen : Nat → Int32} {ySet : Nat → Int64} {yStay : Nat → Int32} {yArg : Nat → Int64} {yHan : Nat → Int32} {yKept : Nat → Int64} {yGiven : Int32}
variable {o k i : Nat} {sV sG sS sW sE sC oW oE oC pW pE pC : Bool} {v w wy : Int64}
theorem ob_forbX (ho : o < 32) (hk : k < 32) (hpk : xPk (32 * o + k) = 1 ∨ xPk (32 * o + k) = 2) (post : Int32 → Prop)
    (hp : post (ob_01 (!ob_alw sV sG sS sW sE sC oW oE oC (tw (32 * o + k)) (te (32 * o + k)) (tc (32 * o + k)) (decide (xPk (32 * o + k) = 2)) (decide (v = pVal (32 * o + k))) (decide (w = xSet (32 * o + k)))))) :
    wpX_isForbidden post (nI n, nI d, nI b, deep, res, thr, thn, (fun zz => nI (CL zz)), cStr, cOp, cA, cB, (fun zz => nI (OK zz)), oKin, oOpen, xFc, xFs, xPc, xKo, xPk, (fun zz => ob_xa (tw zz) (te zz) (tc zz)), pVal, xSet, (fun zz => nI (S zz)), aOut, aVar, (fun zz => nI (FC zz)), (fun zz => nI (FP zz)), (fun zz => nI (FA zz)), (fun zz => nI (FH zz)), (fun zz => nI (XH zz)), (fun zz => nI (FT zz)), fSelf, xHeld, stk, (fun zz => nI (TA zz)), (fun zz => nI (TH zz)), xArg) (nI o) (nI k) (ob_xs sV sG sS sW sE sC oW oE oC) v w := by
  have hpk0 : ¬ xPk (32 * o + k) = 0 := by
    rcases hpk with h | h <;> rw [h] <;> decide
  unfold wpX_isForbidden
  simp (disch := first | omega | decide) only [hpk0, ob_xso, forall_eq, not_true, not_false_iff, false_implies, true_implies, true_and, and_true, ob_sub1, Nat.add_sub_cancel, nI_1, ob_ix, ob_iy, ob_ix24, ob_iy24, ob_ix10, ob_iy10, ob_ix4, ob_iy4, ob_ix3, ob_iy3, ob_s1, ob_s2, ob_s3, ob_s4, ob_ltl, ob_lel, ob_eql, ob_ltr, ob_ler, ob_uN, Nat.add_one_ne_zero, ob_xs3, ob_lnn, ob_ltn, ob_eqn, Nat.not_lt_zero, Nat.zero_le, Nat.reduceEqDiff, Nat.reduceLeDiff, Nat.reduceLT, ob_eqll, Int32.reduceLT, Int32.reduceLE, eq_self_iff_true]
  unfold ob_alw at hp
  generalize htc : tc (32 * o + k) = c at hp ⊢
  generalize htw : tw (32 * o + k) = a at hp ⊢
  generalize hte : te (32 * o + k) = b' at hp ⊢
  cases c
  · refine br_t ((ob_xaC _ _ _).mpr rfl) ?_
    by_cases hC : (sC && oC) = true
    · rw [hC] at hp ⊢
      exact br_f (fun z => absurd ((ob_xaC _ _ _).mp z) (by decide)) hp
    · have hC' : (sC && oC) = false := by simpa using hC
      rw [hC'] at hp ⊢
      refine br_t ((ob_xaC _ _ _).mpr rfl) ?_
      have h94 : (sE && (oE != b')) = false → wX_isForbidden_94 post (ob_xs sV sG sS sW sE sC oW oE oC) v w (nI (32 * o + k)) (xPk (32 * o + k)) (ob_xa a b' false) (ob_xa (sW && oW) (sE && oE) false) (nI n) (nI d) (nI b) deep res thr thn (fun zz => nI (CL zz)) cStr cOp cA cB (fun zz => nI (OK zz)) oKin oOpen xFc xFs xPc xKo xPk (fun zz => ob_xa (tw zz) (te zz) (tc zz)) pVal xSet (fun zz => nI (S zz)) aOut aVar (fun zz => nI (FC zz)) (fun zz => nI (FP zz)) (fun zz => nI (FA zz)) (fun zz => nI (FH zz)) (fun zz => nI (XH zz)) (fun zz => nI (FT zz)) fSelf xHeld stk (fun zz => nI (TA zz)) (fun zz => nI (TH zz)) xArg := by
        intro hE
        rw [hE] at hp
        unfold wX_isForbidden_94
        simp (disch := first | omega | decide) only [forall_eq, not_true, not_false_iff, false_implies, true_implies, true_and, and_true, ob_sub1, Nat.add_sub_cancel, nI_1, ob_ix, ob_iy, ob_ix24, ob_iy24, ob_ix10, ob_iy10, ob_ix4, ob_iy4, ob_ix3, ob_iy3, ob_s1, ob_s2, ob_s3, ob_s4, ob_ltl, ob_lel, ob_eql, ob_ltr, ob_ler, ob_uN, Nat.add_one_ne_zero, ob_xs3, ob_lnn, ob_ltn, ob_eqn, Nat.not_lt_zero, Nat.zero_le, Nat.reduceEqDiff, Nat.reduceLeDiff, Nat.reduceLT, ob_eqll, Int32.reduceLT, Int32.reduceLE, eq_self_iff_true]
        have h112 : ∀ z0 : Int32, (z0 = 0 ∧ decide (v = pVal (32 * o + k)) = true ∨ z0 = 1 ∧ decide (v = pVal (32 * o + k)) = false) → wX_isForbidden_112 post (ob_xs sV sG sS sW sE sC oW oE oC) w (nI (32 * o + k)) (xPk (32 * o + k)) (ob_xa a b' false) (ob_xa (sW && oW) (sE && oE) false) z0 (nI n) (nI d) (nI b) deep res thr thn (fun zz => nI (CL zz)) cStr cOp cA cB (fun zz => nI (OK zz)) oKin oOpen xFc xFs xPc xKo xPk (fun zz => ob_xa (tw zz) (te zz) (tc zz)) pVal xSet (fun zz => nI (S zz)) aOut aVar (fun zz => nI (FC zz)) (fun zz => nI (FP zz)) (fun zz => nI (FA zz)) (fun zz => nI (FH zz)) (fun zz => nI (XH zz)) (fun zz => nI (FT zz)) fSelf xHeld stk (fun zz => nI (TA zz)) (fun zz => nI (TH zz)) xArg := by
          intro z0 hz
          unfold wX_isForbidden_112
          rcases hpk with h | h
          · rw [h] at hp ⊢
            refine br_f (by decide) ?_
            cases hA : (sG || sS)
            · rw [hA] at hp
              refine br_t ((ob_xsA _ _ _ _ _ _ _ _ _).mpr (by simpa using hA)) ?_
              cases a
              · refine br_t ((ob_xaW _ _ _).mpr rfl) ?_
                cases hW : (sW && oW)
                · rw [hW] at hp
                  refine br_t ((ob_xaW _ _ _).mpr rfl) ?_
                  cases sV
                  · exact br_t ((ob_xsV _ _ _ _ _ _ _ _ _).mpr rfl) hp
                  · refine br_f (fun z => absurd ((ob_xsV _ _ _ _ _ _ _ _ _).mp z) (by decide)) ?_
                    rcases hz with ⟨rfl, hz⟩ | ⟨rfl, hz⟩
                    · rw [hz] at hp
                      exact br_t rfl hp
                    · rw [hz] at hp
                      exact br_f (by decide) hp
                · rw [hW] at hp
                  exact br_f (fun z => absurd ((ob_xaW _ _ _).mp z) (by decide)) hp
              · exact br_f (fun z => absurd ((ob_xaW _ _ _).mp z) (by decide)) hp
            · rw [hA] at hp
              refine br_f (fun z => ?_) hp
              have := (ob_xsA _ _ _ _ _ _ _ _ _).mp z
              simp [this.1, this.2] at hA
          · rw [h] at hp ⊢
            refine br_t rfl ?_
            have h166 : ∀ x13 z1 : Int32, (x13 = 0 ∧ (!sG || decide (v = pVal (32 * o + k))) = true ∨ x13 = 1 ∧ (!sG || decide (v = pVal (32 * o + k))) = false) → (z1 = 0 ∧ (!sS || decide (w = xSet (32 * o + k))) = true ∨ z1 = 1 ∧ (!sS || decide (w = xSet (32 * o + k))) = false) →
                wX_isForbidden_166 post (ob_xs sV sG sS sW sE sC oW oE oC) x13 z1 (nI n) (nI d) (nI b) deep res thr thn (fun zz => nI (CL zz)) cStr cOp cA cB (fun zz => nI (OK zz)) oKin oOpen xFc xFs xPc xKo xPk (fun zz => ob_xa (tw zz) (te zz) (tc zz)) pVal xSet (fun zz => nI (S zz)) aOut aVar (fun zz => nI (FC zz)) (fun zz => nI (FP zz)) (fun zz => nI (FA zz)) (fun zz => nI (FH zz)) (fun zz => nI (XH zz)) (fun zz => nI (FT zz)) fSelf xHeld stk (fun zz => nI (TA zz)) (fun zz => nI (TH zz)) xArg := by
              intro x13 z1 h13 h1
              unfold wX_isForbidden_166
              cases hD : (sV || sW)
              · rw [hD] at hp
                refine br_t ((ob_xsD _ _ _ _ _ _ _ _ _).mpr (by simpa using hD)) ?_
                rcases h13 with ⟨rfl, h13⟩ | ⟨rfl, h13⟩
                · rw [h13] at hp
                  refine br_t rfl ?_
                  rcases h1 with ⟨rfl, h1⟩ | ⟨rfl, h1⟩
                  · rw [h1] at hp
                    exact br_t rfl hp
                  · rw [h1] at hp
                    exact br_f (by decide) hp
                · rw [h13] at hp
                  exact br_f (by decide) hp
              · rw [hD] at hp
                refine br_f (fun z => ?_) hp
                have := (ob_xsD _ _ _ _ _ _ _ _ _).mp z
                simp [this.1, this.2] at hD
            have h138 : ∀ x13 : Int32, (x13 = 0 ∧ (!sG || decide (v = pVal (32 * o + k))) = true ∨ x13 = 1 ∧ (!sG || decide (v = pVal (32 * o + k))) = false) → wX_isForbidden_138 post (ob_xs sV sG sS sW sE sC oW oE oC) w (nI (32 * o + k)) x13 (nI n) (nI d) (nI b) deep res thr thn (fun zz => nI (CL zz)) cStr cOp cA cB (fun zz => nI (OK zz)) oKin oOpen xFc xFs xPc xKo xPk (fun zz => ob_xa (tw zz) (te zz) (tc zz)) pVal xSet (fun zz => nI (S zz)) aOut aVar (fun zz => nI (FC zz)) (fun zz => nI (FP zz)) (fun zz => nI (FA zz)) (fun zz => nI (FH zz)) (fun zz => nI (XH zz)) (fun zz => nI (FT zz)) fSelf xHeld stk (fun zz => nI (TA zz)) (fun zz => nI (TH zz)) xArg := by
              intro x13 h13
              unfold wX_isForbidden_138 wX_isForbidden_165
              cases hS : sS
              · subst hS
                exact br_t ((ob_xsS _ _ _ _ _ _ _ _ _).mpr rfl) (h166 x13 0 h13 (Or.inl ⟨rfl, rfl⟩))
              · subst hS
                refine br_f (fun z => absurd ((ob_xsS _ _ _ _ _ _ _ _ _).mp z) (by decide)) ?_
                simp (disch := first | omega | decide) only [forall_eq, not_true, not_false_iff, false_implies, true_implies, true_and, and_true, ob_sub1, Nat.add_sub_cancel, nI_1, ob_ix, ob_iy, ob_ix24, ob_iy24, ob_ix10, ob_iy10, ob_ix4, ob_iy4, ob_ix3, ob_iy3, ob_s1, ob_s2, ob_s3, ob_s4, ob_ltl, ob_lel, ob_eql, ob_ltr, ob_ler, ob_uN, Nat.add_one_ne_zero, ob_xs3, ob_lnn, ob_ltn, ob_eqn, Nat.not_lt_zero, Nat.zero_le, Nat.reduceEqDiff, Nat.reduceLeDiff, Nat.reduceLT, ob_eqll, Int32.reduceLT, Int32.reduceLE, eq_self_iff_true]
                by_cases hq : w = xSet (32 * o + k)
                · exact br_t hq (h166 x13 0 h13 (Or.inl ⟨rfl, by simp [hq]⟩))
                · exact br_f hq (h166 x13 1 h13 (Or.inr ⟨rfl, by simp [hq]⟩))
            unfold wX_isForbidden_137
            cases hG : sG
            · subst hG
              exact br_t ((ob_xsG _ _ _ _ _ _ _ _ _).mpr rfl) (h138 0 (Or.inl ⟨rfl, rfl⟩))
            · subst hG
              refine br_f (fun z => absurd ((ob_xsG _ _ _ _ _ _ _ _ _).mp z) (by decide)) ?_
              rcases hz with ⟨rfl, hz⟩ | ⟨rfl, hz⟩
              · exact br_t rfl (h138 0 (Or.inl ⟨rfl, by rw [hz]; rfl⟩))
              · exact br_f (by decide) (h138 1 (Or.inr ⟨rfl, by rw [hz]; rfl⟩))
        by_cases hq : v = pVal (32 * o + k)
        · exact br_t hq (h112 0 (Or.inl ⟨rfl, by simp [hq]⟩))
        · exact br_f hq (h112 1 (Or.inr ⟨rfl, by simp [hq]⟩))
      cases hE : sE
      · subst hE
        exact br_t ((ob_xsE _ _ _ _ _ _ _ _ _).mpr rfl) (h94 rfl)
      · subst hE
        refine br_f (fun z => absurd ((ob_xsE _ _ _ _ _ _ _ _ _).mp z) (by decide)) ?_
        by_cases hq : oE = b'
        · exact br_t ((ob_xaEE _ _ _ _ _ _).mpr (by simpa using hq)) (h94 (by simp [hq]))
        · refine br_f (fun z => hq (by simpa using (ob_xaEE _ _ _ _ _ _).mp z)) ?_
          have hE2 : (oE != b') = true := by simpa using hq
          rw [hE2] at hp
          exact hp
  · exact br_f (fun z => absurd ((ob_xaC _ _ _).mp z) (by decide)) hp
theorem ob_alwY (hpo : ob_po sW sE sC oW oE oC pW pE pC) (hi : i < 1024) (hpr : yPair i = 0 ∨ yPair i = 1) (post : Int32 → Prop)
    (hp : post (ob_01 (ob_alw sV sG sS sW sE sC oW oE oC (tw i) (te i) (tc i) (decide (yPair i = 1)) (decide (v = pVal i)) (decide (wy = ySet i))))) :
    wpY_allows post (nI n, nI m, yGiven, nI d, deep, nI b, thr, thn, res, cStr, (fun zz => nI (CL zz)), cOp, cA, cB, (fun zz => nI (OK zz)), oKin, yCo, yAr, oOpen, (fun zz => nI (M zz)), (fun zz => ob_yf (tw zz) (te zz) (tc zz)), yPair, ySeen, pVal, ySet, (fun zz => ob_th (S zz)), yStay, aOut, aVar, yArg, (fun zz => nI (FC zz)), (fun zz => nI (FA zz)), (fun zz => nI (FP zz)), (fun zz => nI (FH zz)), yHan, (fun zz => nI (FT zz)), (fun zz => nI (TA zz)), (fun zz => nI (TH zz)), fSelf, yKept, stk) (nI i) (ob_ys sV sG sS sW sE sC) (ob_yf pW pE pC) v wy := by
  have h25 : wY_allows_25 post (nI i) (ob_ys sV sG sS sW sE sC) (ob_yf pW pE pC) v wy (ob_01 (sV || sW)) (ob_01 (sG || sS)) (nI n) (nI m) yGiven (nI d) deep (nI b) thr thn res cStr (fun zz => nI (CL zz)) cOp cA cB (fun zz => nI (OK zz)) oKin yCo yAr oOpen (fun zz => nI (M zz)) (fun zz => ob_yf (tw zz) (te zz) (tc zz)) yPair ySeen pVal ySet (fun zz => ob_th (S zz)) yStay aOut aVar yArg (fun zz => nI (FC zz)) (fun zz => nI (FA zz)) (fun zz => nI (FP zz)) (fun zz => nI (FH zz)) yHan (fun zz => nI (FT zz)) (fun zz => nI (TA zz)) (fun zz => nI (TH zz)) fSelf yKept stk := by
    unfold wY_allows_25
    simp (disch := first | omega | decide) only [forall_eq, not_true, not_false_iff, false_implies, true_implies, true_and, and_true, ob_sub1, Nat.add_sub_cancel, nI_1, ob_ix, ob_iy, ob_ix24, ob_iy24, ob_ix10, ob_iy10, ob_ix4, ob_iy4, ob_ix3, ob_iy3, ob_s1, ob_s2, ob_s3, ob_s4, ob_ltl, ob_lel, ob_eql, ob_ltr, ob_ler, ob_uN, Nat.add_one_ne_zero, ob_xs3, ob_lnn, ob_ltn, ob_eqn, Nat.not_lt_zero, Nat.zero_le, Nat.reduceEqDiff, Nat.reduceLeDiff, Nat.reduceLT, ob_eqll, Int32.reduceLT, Int32.reduceLE, eq_self_iff_true]
    unfold ob_alw at hp
    generalize htc : tc i = c at hp ⊢
    generalize htw : tw i = a at hp ⊢
    generalize hte : te i = b' at hp ⊢
    cases c
    · refine br_t ((ob_yfC _ _ _).mpr rfl) ?_
      by_cases hC : (sC && oC) = true
      · rw [hC] at hp
        exact br_f (fun z => absurd ((ob_ysC _ _ _ _ _ _ _ _ _).mp z) (by rw [ob_po2 hpo.2.2, hC]; decide)) hp
      have hC' : (sC && oC) = false := by simpa using hC
      rw [hC'] at hp
      refine br_t ((ob_ysC _ _ _ _ _ _ _ _ _).mpr ((ob_po2 hpo.2.2).trans hC')) ?_
      by_cases hE : (sE && (oE != b')) = true
      · rw [hE] at hp
        exact br_f (fun z => absurd ((ob_ysE _ _ _ _ _ _ _ _ _ _ _ _).mp z) (by rw [ob_po3 hpo.2.1, hE]; decide)) hp
      have hE' : (sE && (oE != b')) = false := by simpa using hE
      rw [hE'] at hp
      refine br_t ((ob_ysE _ _ _ _ _ _ _ _ _ _ _ _).mpr ((ob_po3 hpo.2.1).trans hE')) ?_
      rcases hpr with h | h
      · rw [h] at hp
        have h80 : wY_allows_80 post (nI i) (ob_ys sV sG sS sW sE sC) (ob_yf pW pE pC) v wy (ob_01 (sG || sS)) (nI n) (nI m) yGiven (nI d) deep (nI b) thr thn res cStr (fun zz => nI (CL zz)) cOp cA cB (fun zz => nI (OK zz)) oKin yCo yAr oOpen (fun zz => nI (M zz)) (fun zz => ob_yf (tw zz) (te zz) (tc zz)) yPair ySeen pVal ySet (fun zz => ob_th (S zz)) yStay aOut aVar yArg (fun zz => nI (FC zz)) (fun zz => nI (FA zz)) (fun zz => nI (FP zz)) (fun zz => nI (FH zz)) yHan (fun zz => nI (FT zz)) (fun zz => nI (TA zz)) (fun zz => nI (TH zz)) fSelf yKept stk := by
          unfold wY_allows_80
          cases hA : (sG || sS)
          · rw [hA] at hp
            refine br_t rfl ?_
            unfold wY_allows_96
            simp (disch := first | omega | decide) only [h, htw, hte, htc, forall_eq, not_true, not_false_iff, false_implies, true_implies, true_and, and_true, ob_sub1, Nat.add_sub_cancel, nI_1, ob_ix, ob_iy, ob_ix24, ob_iy24, ob_ix10, ob_iy10, ob_ix4, ob_iy4, ob_ix3, ob_iy3, ob_s1, ob_s2, ob_s3, ob_s4, ob_ltl, ob_lel, ob_eql, ob_ltr, ob_ler, ob_uN, Nat.add_one_ne_zero, ob_xs3, ob_lnn, ob_ltn, ob_eqn, Nat.not_lt_zero, Nat.zero_le, Nat.reduceEqDiff, Nat.reduceLeDiff, Nat.reduceLT, ob_eqll, Int32.reduceLT, Int32.reduceLE, eq_self_iff_true]
            cases a
            · refine br_t ((ob_yfW _ _ _).mpr rfl) ?_
              cases hW : (sW && oW)
              · rw [hW] at hp
                refine br_t ((ob_ysW _ _ _ _ _ _ _ _ _).mpr ((ob_po2 hpo.1).trans hW)) ?_
                cases sV
                · exact br_t ((ob_ysV _ _ _ _ _ _).mpr rfl) hp
                · refine br_f (fun z => absurd ((ob_ysV _ _ _ _ _ _).mp z) (by decide)) ?_
                  by_cases hq : v = pVal i
                  · rw [decide_eq_true hq] at hp
                    exact br_t hq hp
                  · rw [decide_eq_false hq] at hp
                    exact br_f hq hp
              · rw [hW] at hp
                exact br_f (fun z => absurd ((ob_ysW _ _ _ _ _ _ _ _ _).mp z) (by rw [ob_po2 hpo.1, hW]; decide)) hp
            · exact br_f (fun z => absurd ((ob_yfW _ _ _).mp z) (by decide)) hp
          · rw [hA] at hp
            refine br_f (by decide) ?_
            simp (disch := first | omega | decide) only [h, forall_eq, not_true, not_false_iff, false_implies, true_implies, true_and, and_true, ob_sub1, Nat.add_sub_cancel, nI_1, ob_ix, ob_iy, ob_ix24, ob_iy24, ob_ix10, ob_iy10, ob_ix4, ob_iy4, ob_ix3, ob_iy3, ob_s1, ob_s2, ob_s3, ob_s4, ob_ltl, ob_lel, ob_eql, ob_ltr, ob_ler, ob_uN, Nat.add_one_ne_zero, ob_xs3, ob_lnn, ob_ltn, ob_eqn, Nat.not_lt_zero, Nat.zero_le, Nat.reduceEqDiff, Nat.reduceLeDiff, Nat.reduceLT, ob_eqll, Int32.reduceLT, Int32.reduceLE, eq_self_iff_true]
            exact hp
        cases hD : (sV || sW)
        · exact br_t rfl h80
        · refine br_f (by decide) ?_
          exact br_t h h80
      · rw [h] at hp
        have h10 : ¬ yPair i = 0 := by rw [h]; decide
        have h96 : (sV || sW) = false → wY_allows_96 post (nI i) (ob_ys sV sG sS sW sE sC) (ob_yf pW pE pC) v wy (nI n) (nI m) yGiven (nI d) deep (nI b) thr thn res cStr (fun zz => nI (CL zz)) cOp cA cB (fun zz => nI (OK zz)) oKin yCo yAr oOpen (fun zz => nI (M zz)) (fun zz => ob_yf (tw zz) (te zz) (tc zz)) yPair ySeen pVal ySet (fun zz => ob_th (S zz)) yStay aOut aVar yArg (fun zz => nI (FC zz)) (fun zz => nI (FA zz)) (fun zz => nI (FP zz)) (fun zz => nI (FH zz)) yHan (fun zz => nI (FT zz)) (fun zz => nI (TA zz)) (fun zz => nI (TH zz)) fSelf yKept stk := by
          intro hD
          rw [hD] at hp
          have h123 : (!sG || decide (v = pVal i)) = true → wY_allows_123 post (nI i) (ob_ys sV sG sS sW sE sC) wy (nI n) (nI m) yGiven (nI d) deep (nI b) thr thn res cStr (fun zz => nI (CL zz)) cOp cA cB (fun zz => nI (OK zz)) oKin yCo yAr oOpen (fun zz => nI (M zz)) (fun zz => ob_yf (tw zz) (te zz) (tc zz)) yPair ySeen pVal ySet (fun zz => ob_th (S zz)) yStay aOut aVar yArg (fun zz => nI (FC zz)) (fun zz => nI (FA zz)) (fun zz => nI (FP zz)) (fun zz => nI (FH zz)) yHan (fun zz => nI (FT zz)) (fun zz => nI (TA zz)) (fun zz => nI (TH zz)) fSelf yKept stk := by
            intro hg
            rw [hg] at hp
            unfold wY_allows_123
            cases sS
            · exact br_t ((ob_ysS _ _ _ _ _ _).mpr rfl) hp
            · refine br_f (fun z => absurd ((ob_ysS _ _ _ _ _ _).mp z) (by decide)) ?_
              simp (disch := first | omega | decide) only [forall_eq, not_true, not_false_iff, false_implies, true_implies, true_and, and_true, ob_sub1, Nat.add_sub_cancel, nI_1, ob_ix, ob_iy, ob_ix24, ob_iy24, ob_ix10, ob_iy10, ob_ix4, ob_iy4, ob_ix3, ob_iy3, ob_s1, ob_s2, ob_s3, ob_s4, ob_ltl, ob_lel, ob_eql, ob_ltr, ob_ler, ob_uN, Nat.add_one_ne_zero, ob_xs3, ob_lnn, ob_ltn, ob_eqn, Nat.not_lt_zero, Nat.zero_le, Nat.reduceEqDiff, Nat.reduceLeDiff, Nat.reduceLT, ob_eqll, Int32.reduceLT, Int32.reduceLE, eq_self_iff_true]
              by_cases hq : wy = ySet i
              · rw [decide_eq_true hq] at hp
                exact br_t hq hp
              · rw [decide_eq_false hq] at hp
                exact br_f hq hp
          unfold wY_allows_96
          simp (disch := first | omega | decide) only [h10, forall_eq, not_true, not_false_iff, false_implies, true_implies, true_and, and_true, ob_sub1, Nat.add_sub_cancel, nI_1, ob_ix, ob_iy, ob_ix24, ob_iy24, ob_ix10, ob_iy10, ob_ix4, ob_iy4, ob_ix3, ob_iy3, ob_s1, ob_s2, ob_s3, ob_s4, ob_ltl, ob_lel, ob_eql, ob_ltr, ob_ler, ob_uN, Nat.add_one_ne_zero, ob_xs3, ob_lnn, ob_ltn, ob_eqn, Nat.not_lt_zero, Nat.zero_le, Nat.reduceEqDiff, Nat.reduceLeDiff, Nat.reduceLT, ob_eqll, Int32.reduceLT, Int32.reduceLE, eq_self_iff_true]
          cases sG
          · exact br_t ((ob_ysG _ _ _ _ _ _).mpr rfl) (h123 rfl)
          · refine br_f (fun z => absurd ((ob_ysG _ _ _ _ _ _).mp z) (by decide)) ?_
            by_cases hq : v = pVal i
            · exact br_t hq (h123 (by simp [hq]))
            · rw [decide_eq_false hq] at hp
              exact br_f hq hp
        have h80 : (sV || sW) = false → wY_allows_80 post (nI i) (ob_ys sV sG sS sW sE sC) (ob_yf pW pE pC) v wy (ob_01 (sG || sS)) (nI n) (nI m) yGiven (nI d) deep (nI b) thr thn res cStr (fun zz => nI (CL zz)) cOp cA cB (fun zz => nI (OK zz)) oKin yCo yAr oOpen (fun zz => nI (M zz)) (fun zz => ob_yf (tw zz) (te zz) (tc zz)) yPair ySeen pVal ySet (fun zz => ob_th (S zz)) yStay aOut aVar yArg (fun zz => nI (FC zz)) (fun zz => nI (FA zz)) (fun zz => nI (FP zz)) (fun zz => nI (FH zz)) yHan (fun zz => nI (FT zz)) (fun zz => nI (TA zz)) (fun zz => nI (TH zz)) fSelf yKept stk := by
          intro hD
          unfold wY_allows_80
          cases hA : (sG || sS)
          · exact br_t rfl (h96 hD)
          · refine br_f (by decide) ?_
            simp (disch := first | omega | decide) only [h10, forall_eq, not_true, not_false_iff, false_implies, true_implies, true_and, and_true, ob_sub1, Nat.add_sub_cancel, nI_1, ob_ix, ob_iy, ob_ix24, ob_iy24, ob_ix10, ob_iy10, ob_ix4, ob_iy4, ob_ix3, ob_iy3, ob_s1, ob_s2, ob_s3, ob_s4, ob_ltl, ob_lel, ob_eql, ob_ltr, ob_ler, ob_uN, Nat.add_one_ne_zero, ob_xs3, ob_lnn, ob_ltn, ob_eqn, Nat.not_lt_zero, Nat.zero_le, Nat.reduceEqDiff, Nat.reduceLeDiff, Nat.reduceLT, ob_eqll, Int32.reduceLT, Int32.reduceLE, eq_self_iff_true]
            exact h96 hD
        cases hD : (sV || sW)
        · exact br_t rfl (h80 hD)
        · rw [hD] at hp
          refine br_f (by decide) ?_
          exact br_f h10 hp
    · exact br_f (fun z => absurd ((ob_yfC _ _ _).mp z) (by decide)) hp
  unfold wpY_allows
  have h11 : wY_allows_11 post (nI i) (ob_ys sV sG sS sW sE sC) (ob_yf pW pE pC) v wy (ob_01 (sV || sW)) (nI n) (nI m) yGiven (nI d) deep (nI b) thr thn res cStr (fun zz => nI (CL zz)) cOp cA cB (fun zz => nI (OK zz)) oKin yCo yAr oOpen (fun zz => nI (M zz)) (fun zz => ob_yf (tw zz) (te zz) (tc zz)) yPair ySeen pVal ySet (fun zz => ob_th (S zz)) yStay aOut aVar yArg (fun zz => nI (FC zz)) (fun zz => nI (FA zz)) (fun zz => nI (FP zz)) (fun zz => nI (FH zz)) yHan (fun zz => nI (FT zz)) (fun zz => nI (TA zz)) (fun zz => nI (TH zz)) fSelf yKept stk := by
    unfold wY_allows_11
    cases hA : (sG || sS)
    · rw [hA] at h25
      exact br_t ((ob_ysA _ _ _ _ _ _).mpr (by simpa using hA)) h25
    · rw [hA] at h25
      refine br_f (fun z => ?_) h25
      have := (ob_ysA _ _ _ _ _ _).mp z
      simp [this.1, this.2] at hA
  cases hD : (sV || sW)
  · rw [hD] at h11
    exact br_t ((ob_ysD _ _ _ _ _ _).mpr (by simpa using hD)) h11
  · rw [hD] at h11
    refine br_f (fun z => ?_) h11
    have := (ob_ysD _ _ _ _ _ _).mp z
    simp [this.1, this.2] at hD
end
end
section
/-! ===== a property goes ===== -/
section
variable {n : Nat} {d : Nat} {b : Nat} {m : Nat} {deep : Int32} {res : Int64} {thr : Int32} {thn : Int64} {CL : Nat → Nat} {cStr : Nat → Int32} {cOp : Nat → Int32} {cA : Nat → Int32} {cB : Nat → Int32} {OK : Nat → Nat} {oKin : Nat → Int32} {oOpen : Nat → Int32} {pVal : Nat → Int64} {aOut : Nat → Int32} {aVar : Nat → Int64} {FC : Nat → Nat} {FA : Nat → Nat} {FP : Nat → Nat} {FH : Nat → Nat} {FT : Nat → Nat} {fSelf : Nat → Int64} {stk : Nat → Int64} {TA : Nat → Nat} {TH : Nat → Nat} {xFc : Nat → Int32} {xFs : Nat → Int32} {xPc : Nat → Int32} {xKo : Nat → Int32} {xPk : Nat → Int32} {tw : Nat → Bool} {te : Nat → Bool} {tc : Nat → Bool} {xSet : Nat → Int64} {S : Nat → Nat} {XH : Nat → Nat} {xHeld : Nat → Int64} {xArg : Nat → Int64} {yCo : Nat → Int32} {yAr : Nat → Int32} {M : Nat → Nat} {yPair : Nat → Int32} {ySeen : Nat → Int32} {ySet : Nat → Int64} {yStay : Nat → Int32} {yArg : Nat → Int64} {yHan : Nat → Int32} {yKept : Nat → Int64} {yGiven : Int32}
variable {o k i : Nat} {L : List Nat}
theorem ob_rem38 (ho : o < 32) (hk : k < 32) (hl : L.length ≤ 32) (hx : ∀ p x, L[p]? = some x → xKo (32 * o + p) = nI x ∧ x < 32) :
    ∀ j p kept ko', j + p = L.length → ob_rm o k L xKo p kept ko' → ∃ kept' ko'', ob_rm o k L xKo L.length kept' ko'' ∧
      ∀ post : SX → Prop, post (nI n, nI d, nI b, deep, res, thr, thn, (fun zz => nI (CL zz)), cStr, cOp, cA, cB, (fun zz => nI (OK zz)), oKin, oOpen, xFc, xFs, (upd xPc o (nI kept')), ko'', xPk, (fun zz => ob_xa (tw zz) (te zz) (tc zz)), pVal, xSet, (fun zz => nI (S zz)), aOut, aVar, (fun zz => nI (FC zz)), (fun zz => nI (FP zz)), (fun zz => nI (FA zz)), (fun zz => nI (FH zz)), (fun zz => nI (XH zz)), (fun zz => nI (FT zz)), fSelf, xHeld, stk, (fun zz => nI (TA zz)), (fun zz => nI (TH zz)), xArg) → wX_removeProperty_38 post (nI o) (nI k) (nI L.length) (nI n) (nI d) (nI b) deep res thr thn (j + 1) (nI kept) (nI p) (fun zz => nI (CL zz)) cStr cOp cA cB (fun zz => nI (OK zz)) oKin oOpen xFc xFs xPc ko' xPk (fun zz => ob_xa (tw zz) (te zz) (tc zz)) pVal xSet (fun zz => nI (S zz)) aOut aVar (fun zz => nI (FC zz)) (fun zz => nI (FP zz)) (fun zz => nI (FA zz)) (fun zz => nI (FH zz)) (fun zz => nI (XH zz)) (fun zz => nI (FT zz)) fSelf xHeld stk (fun zz => nI (TA zz)) (fun zz => nI (TH zz)) xArg
  | 0, p, kept, ko', e, h => by
    have e' : p = L.length := by omega
    subst e'
    refine ⟨kept, ko', h, fun post hp => ?_⟩
    unfold wX_removeProperty_38
    have hle : L.length ≤ L.length := Nat.le_refl _
    simp (disch := first | omega | decide) only [hle, forall_eq, not_true, not_false_iff, false_implies, true_implies, true_and, and_true, ob_sub1, Nat.add_sub_cancel, nI_1, ob_ix, ob_iy, ob_ix24, ob_iy24, ob_ix10, ob_iy10, ob_ix4, ob_iy4, ob_ix3, ob_iy3, ob_s1, ob_s2, ob_s3, ob_s4, ob_ltl, ob_lel, ob_eql, ob_ltr, ob_ler, ob_uN, Nat.add_one_ne_zero, ob_xs3, ob_lnn, ob_ltn, ob_eqn, Nat.not_lt_zero, Nat.zero_le, Nat.reduceEqDiff, Nat.reduceLeDiff, Nat.reduceLT, ob_eqll, Int32.reduceLT, Int32.reduceLE, eq_self_iff_true]
    exact hp
  | j + 1, p, kept, ko', e, h => by
    have hlt : p < L.length := by omega
    obtain ⟨hx1, hx2⟩ := hx p L[p] (List.getElem?_eq_getElem hlt)
    have hq : L[p]? = some L[p] := List.getElem?_eq_getElem hlt
    have hko : ko' (32 * o + p) = nI L[p] := by rw [h.2.2.2.1 p (Nat.le_refl _) (by omega)]; exact hx1
    have hkp : kept ≤ p := h.2.1
    have hnle : ¬ L.length ≤ p := by omega
    by_cases z : L[p] = k
    · obtain ⟨kept', ko'', h1, h2⟩ := ob_rem38 ho hk hl hx j (p + 1) kept ko' (by omega) (ob_rm_k (by rw [hq, z]) h)
      refine ⟨kept', ko'', h1, fun post hp => ?_⟩
      unfold wX_removeProperty_38
      simp (disch := first | omega | decide) only [hnle, hko, z, forall_eq, not_true, not_false_iff, false_implies, true_implies, true_and, and_true, ob_sub1, Nat.add_sub_cancel, nI_1, ob_ix, ob_iy, ob_ix24, ob_iy24, ob_ix10, ob_iy10, ob_ix4, ob_iy4, ob_ix3, ob_iy3, ob_s1, ob_s2, ob_s3, ob_s4, ob_ltl, ob_lel, ob_eql, ob_ltr, ob_ler, ob_uN, Nat.add_one_ne_zero, ob_xs3, ob_lnn, ob_ltn, ob_eqn, Nat.not_lt_zero, Nat.zero_le, Nat.reduceEqDiff, Nat.reduceLeDiff, Nat.reduceLT, ob_eqll, Int32.reduceLT, Int32.reduceLE, eq_self_iff_true]
      exact h2 post hp
    · obtain ⟨kept', ko'', h1, h2⟩ := ob_rem38 ho hk hl hx j (p + 1) (kept + 1) _ (by omega) (ob_rm_n hq z hl h)
      refine ⟨kept', ko'', h1, fun post hp => ?_⟩
      unfold wX_removeProperty_38
      simp (disch := first | omega | decide) only [hnle, hko, z, forall_eq, not_true, not_false_iff, false_implies, true_implies, true_and, and_true, ob_sub1, Nat.add_sub_cancel, nI_1, ob_ix, ob_iy, ob_ix24, ob_iy24, ob_ix10, ob_iy10, ob_ix4, ob_iy4, ob_ix3, ob_iy3, ob_s1, ob_s2, ob_s3, ob_s4, ob_ltl, ob_lel, ob_eql, ob_ltr, ob_ler, ob_uN, Nat.add_one_ne_zero, ob_xs3, ob_lnn, ob_ltn, ob_eqn, Nat.not_lt_zero, Nat.zero_le, Nat.reduceEqDiff, Nat.reduceLeDiff, Nat.reduceLT, ob_eqll, Int32.reduceLT, Int32.reduceLE, eq_self_iff_true]
      exact h2 post hp
theorem ob_remX (hP : ob_gP n m M pVal xPk tw xSet yPair ySet) (hL : ob_gL n M xPc xKo) (hn : n ≤ 32) (ho : o < n) (hk : k < 32) :
    ∃ (xPc' : Nat → Int32) (xKo' : Nat → Int32), ob_gL n (ob_um M (32 * o + k) 0) xPc' xKo' ∧ ∀ post : SX → Prop, post (nI n, nI d, nI b, deep, res, thr, thn, (fun zz => nI (CL zz)), cStr, cOp, cA, cB, (fun zz => nI (OK zz)), oKin, oOpen, xFc, xFs, xPc', xKo', (upd xPk (32 * o + k) 0), (fun zz => ob_xa (tw zz) (te zz) (tc zz)), pVal, xSet, (fun zz => nI (S zz)), aOut, aVar, (fun zz => nI (FC zz)), (fun zz => nI (FP zz)), (fun zz => nI (FA zz)), (fun zz => nI (FH zz)), (fun zz => nI (XH zz)), (fun zz => nI (FT zz)), fSelf, xHeld, stk, (fun zz => nI (TA zz)), (fun zz => nI (TH zz)), xArg) → wpX_removeProperty post (nI n, nI d, nI b, deep, res, thr, thn, (fun zz => nI (CL zz)), cStr, cOp, cA, cB, (fun zz => nI (OK zz)), oKin, oOpen, xFc, xFs, xPc, xKo, xPk, (fun zz => ob_xa (tw zz) (te zz) (tc zz)), pVal, xSet, (fun zz => nI (S zz)), aOut, aVar, (fun zz => nI (FC zz)), (fun zz => nI (FP zz)), (fun zz => nI (FA zz)), (fun zz => nI (FH zz)), (fun zz => nI (XH zz)), (fun zz => nI (FT zz)), fSelf, xHeld, stk, (fun zz => nI (TA zz)), (fun zz => nI (TH zz)), xArg) (nI o) (nI k) := by
  have hsl := ob_sl_0 (hP.2.2 (32 * o + k) (by omega))
  by_cases z : xPk (32 * o + k) = 0
  · refine ⟨xPc, xKo, by rw [ob_um_i (hsl.mp z)]; exact hL, fun post hp => ?_⟩
    rw [ob_ui z] at hp
    unfold wpX_removeProperty
    simp (disch := first | omega | decide) only [z, forall_eq, not_true, not_false_iff, false_implies, true_implies, true_and, and_true, ob_sub1, Nat.add_sub_cancel, nI_1, ob_ix, ob_iy, ob_ix24, ob_iy24, ob_ix10, ob_iy10, ob_ix4, ob_iy4, ob_ix3, ob_iy3, ob_s1, ob_s2, ob_s3, ob_s4, ob_ltl, ob_lel, ob_eql, ob_ltr, ob_ler, ob_uN, Nat.add_one_ne_zero, ob_xs3, ob_lnn, ob_ltn, ob_eqn, Nat.not_lt_zero, Nat.zero_le, Nat.reduceEqDiff, Nat.reduceLeDiff, Nat.reduceLT, ob_eqll, Int32.reduceLT, Int32.reduceLE, eq_self_iff_true]
    exact hp
  · obtain ⟨L, h1, h2, h3⟩ := hL o ho
    have hl := ob_ord_len h3
    have hx : ∀ p x, L[p]? = some x → xKo (32 * o + p) = nI x ∧ x < 32 := fun p x hpx => ⟨h2 p x hpx, ((h3.2 x).mp (List.mem_of_getElem? hpx)).1⟩
    obtain ⟨kept', ko'', g1, g2⟩ := ob_rem38 (n := n) (d := d) (b := b) (deep := deep) (res := res) (thr := thr) (thn := thn) (CL := CL) (cStr := cStr) (cOp := cOp) (cA := cA) (cB := cB) (OK := OK) (oKin := oKin) (oOpen := oOpen) (pVal := pVal) (aOut := aOut) (aVar := aVar) (FC := FC) (FA := FA) (FP := FP) (FH := FH) (FT := FT) (fSelf := fSelf) (stk := stk) (TA := TA) (TH := TH) (xFc := xFc) (xFs := xFs) (xPc := xPc) (xKo := xKo) (xPk := upd xPk (32 * o + k) 0) (tw := tw) (te := te) (tc := tc) (xSet := xSet) (S := S) (XH := XH) (xHeld := xHeld) (xArg := xArg) (by omega) hk hl hx L.length 0 0 xKo (by omega) ob_rm_0
    refine ⟨upd xPc o (nI kept'), ko'', ob_gL_del hL ho h1 h3 hk g1, fun post hp => ?_⟩
    unfold wpX_removeProperty
    simp (disch := first | omega | decide) only [z, h1, forall_eq, not_true, not_false_iff, false_implies, true_implies, true_and, and_true, ob_sub1, Nat.add_sub_cancel, nI_1, ob_ix, ob_iy, ob_ix24, ob_iy24, ob_ix10, ob_iy10, ob_ix4, ob_iy4, ob_ix3, ob_iy3, ob_s1, ob_s2, ob_s3, ob_s4, ob_ltl, ob_lel, ob_eql, ob_ltr, ob_ler, ob_uN, Nat.add_one_ne_zero, ob_xs3, ob_lnn, ob_ltn, ob_eqn, Nat.not_lt_zero, Nat.zero_le, Nat.reduceEqDiff, Nat.reduceLeDiff, Nat.reduceLT, ob_eqll, Int32.reduceLT, Int32.reduceLE, eq_self_iff_true]
    exact ⟨L.length + 1, g2 post hp⟩
/-- removal keeps the slots' group -/
theorem ob_gP_del (hP : ob_gP n m M pVal xPk tw xSet yPair ySet) : ob_gP n m (ob_um M i 0) pVal (upd xPk i 0) tw xSet yPair ySet := by
  refine ob_gP_c (i := i) hP (fun j => ?_) (fun j hj => ?_) (fun j hj hne => ?_) (fun _ => ?_)
  · unfold ob_um
    have := hP.1 j
    split <;> omega
  · unfold ob_um
    split
    · rfl
    · exact hP.2.1 j hj
  · exact ⟨ob_um_n _ _ hne, rfl, pk_un hne, rfl, rfl, rfl, rfl⟩
  · rw [ob_um_s, pk_us]
    exact Or.inl ⟨rfl, rfl⟩
theorem ob_gY_del (hY : ob_gY n OK M tc pVal yPair) (hi : ∀ q, q < n → OK q = 1 → i ≠ 32 * q + 16) : ob_gY n OK (ob_um M i 0) tc pVal yPair := by
  intro q hq h1
  obtain ⟨a1, a2, a3, l, a4, a5, a6⟩ := hY q hq h1
  refine ⟨by rw [ob_um_n _ _ (fun z => hi q hq h1 z.symm)]; exact a1, a2, a3, l, a4, a5, fun j hj hj2 => ?_⟩
  unfold ob_um
  split
  · rfl
  · exact a6 j hj hj2
end
end
section
/-! ===== an array grows shorter ===== -/
/-- no element at s or beyond -/
def ob_cut (M : Nat → Nat) (o s : Nat) : Nat → Nat := fun j => if 32 * o + s ≤ j ∧ j < 32 * o + 16 then 0 else M j
theorem ob_cut_16 (M : Nat → Nat) (o : Nat) : ob_cut M o 16 = M := by
  funext j; unfold ob_cut; rw [if_neg (by omega)]
theorem ob_cut_s (M : Nat → Nat) (o : Nat) {s : Nat} (hs : s < 16) : ob_um (ob_cut M o (s + 1)) (32 * o + s) 0 = ob_cut M o s := by
  funext j
  unfold ob_um ob_cut
  by_cases h : j = 32 * o + s
  · rw [if_pos h, if_pos (by omega)]
  · rw [if_neg h]
    by_cases h2 : 32 * o + (s + 1) ≤ j ∧ j < 32 * o + 16
    · rw [if_pos h2, if_pos (by omega)]
    · rw [if_neg h2, if_neg (by omega)]
theorem ob_cut_lo (M : Nat → Nat) {o s j : Nat} (h : j < 32 * o + s ∨ 32 * o + 16 ≤ j) : ob_cut M o s j = M j := by
  unfold ob_cut; rw [if_neg (by omega)]
theorem ob_cut_e {M : Nat → Nat} {o s : Nat} (h : ∀ q, s ≤ q → q < 16 → M (32 * o + q) = 0) : ob_cut M o s = M := by
  funext j
  unfold ob_cut
  split
  · rename_i z
    have := h (j - 32 * o) (by omega) (by omega)
    rw [show 32 * o + (j - 32 * o) = j from by omega] at this
    exact this.symm
  · rfl
/-- how far an array goes down towards l -/
def ob_rch (M : Nat → Nat) (tc : Nat → Bool) (o l r : Nat) : Prop :=
  l ≤ r ∧ r ≤ 16 ∧ (∀ q, r ≤ q → q < 16 → M (32 * o + q) = 0 ∨ tc (32 * o + q) = true) ∧ (r = l ∨ ∃ q, r = q + 1 ∧ l ≤ q ∧ M (32 * o + q) ≠ 0 ∧ tc (32 * o + q) = false)
theorem ob_rch_ex (M : Nat → Nat) (tc : Nat → Bool) (o l : Nat) : ∀ t s, s = l + t → s ≤ 16 → (∀ q, s ≤ q → q < 16 → M (32 * o + q) = 0 ∨ tc (32 * o + q) = true) → ∃ r, ob_rch M tc o l r
  | 0, s, e, hs, h => ⟨s, by omega, hs, h, Or.inl (by omega)⟩
  | t + 1, s, e, hs, h => by
    by_cases z : M (32 * o + (l + t)) = 0 ∨ tc (32 * o + (l + t)) = true
    · refine ob_rch_ex M tc o l t (l + t) rfl (by omega) (fun q hq hq2 => ?_)
      by_cases y : q = l + t
      · rw [y]; exact z
      · exact h q (by omega) hq2
    · refine ⟨s, by omega, hs, h, Or.inr ⟨l + t, by omega, by omega, fun y => z (Or.inl y), ?_⟩⟩
      cases hh : tc (32 * o + (l + t))
      · rfl
      · exact absurd (Or.inr hh) z
theorem ob_m1lt {s : Nat} (h : s < 2 ^ 31) : nI s + (-1) < nI s := by
  cases s with
  | zero => decide
  | succ s => rw [pk_m1]; exact nI_lt (by omega) h
section
variable {n : Nat} {d : Nat} {b : Nat} {m : Nat} {deep : Int32} {res : Int64} {thr : Int32} {thn : Int64} {CL : Nat → Nat} {cStr : Nat → Int32} {cOp : Nat → Int32} {cA : Nat → Int32} {cB : Nat → Int32} {OK : Nat → Nat} {oKin : Nat → Int32} {oOpen : Nat → Int32} {pVal : Nat → Int64} {aOut : Nat → Int32} {aVar : Nat → Int64} {FC : Nat → Nat} {FA : Nat → Nat} {FP : Nat → Nat} {FH : Nat → Nat} {FT : Nat → Nat} {fSelf : Nat → Int64} {stk : Nat → Int64} {TA : Nat → Nat} {TH : Nat → Nat} {xFc : Nat → Int32} {xFs : Nat → Int32} {xPc : Nat → Int32} {xKo : Nat → Int32} {xPk : Nat → Int32} {tw : Nat → Bool} {te : Nat → Bool} {tc : Nat → Bool} {xSet : Nat → Int64} {S : Nat → Nat} {XH : Nat → Nat} {xHeld : Nat → Int64} {xArg : Nat → Int64} {yCo : Nat → Int32} {yAr : Nat → Int32} {M : Nat → Nat} {yPair : Nat → Int32} {ySeen : Nat → Int32} {ySet : Nat → Int64} {yStay : Nat → Int32} {yArg : Nat → Int64} {yHan : Nat → Int32} {yKept : Nat → Int64} {yGiven : Int32}
variable {o k i l r : Nat}
theorem ob_leastX (ho : o < n) (hn : n ≤ 32) (hP : ob_gP n m M pVal xPk tw xSet yPair ySet) (hr : ob_rch M tc o l r) (post : Int32 → Prop) (hp : post (nI r)) :
    ∀ t s, s = r + t → s ≤ 16 → wX_leastLength_3 post (nI o) (nI l) (nI n) (nI d) (nI b) deep res thr thn (fun zz => nI (CL zz)) cStr cOp cA cB (fun zz => nI (OK zz)) oKin oOpen xFc xFs xPc xKo xPk (fun zz => ob_xa (tw zz) (te zz) (tc zz)) pVal xSet (fun zz => nI (S zz)) aOut aVar (fun zz => nI (FC zz)) (fun zz => nI (FP zz)) (fun zz => nI (FA zz)) (fun zz => nI (FH zz)) (fun zz => nI (XH zz)) (fun zz => nI (FT zz)) fSelf xHeld stk (fun zz => nI (TA zz)) (fun zz => nI (TH zz)) xArg (t + 1) (nI s + (-1))
  | 0, s, e, hs => by
    have e' : s = r := by omega
    subst e'
    obtain ⟨h1, h2, h3, h4⟩ := hr
    unfold wX_leastLength_3
    rcases h4 with h4 | ⟨q, h5, h6, h7, h8⟩
    · subst h4
      exact br_t (ob_m1lt (by omega)) hp
    · subst h5
      have hsl := ob_sl_0 (hP.2.2 (32 * o + q) (by omega))
      have hpk : ¬ xPk (32 * o + q) = 0 := fun z => h7 (hsl.mp z)
      have hnl : ¬ q < l := by omega
      rw [pk_m1]
      simp (disch := first | omega | decide) only [hnl, hpk, h8, forall_eq, not_true, not_false_iff, false_implies, true_implies, true_and, and_true, ob_sub1, Nat.add_sub_cancel, nI_1, ob_ix, ob_iy, ob_ix24, ob_iy24, ob_ix10, ob_iy10, ob_ix4, ob_iy4, ob_ix3, ob_iy3, ob_s1, ob_s2, ob_s3, ob_s4, ob_ltl, ob_lel, ob_eql, ob_ltr, ob_ler, ob_uN, Nat.add_one_ne_zero, ob_xs3, ob_lnn, ob_ltn, ob_eqn, Nat.not_lt_zero, Nat.zero_le, Nat.reduceEqDiff, Nat.reduceLeDiff, Nat.reduceLT, ob_eqll, Int32.reduceLT, Int32.reduceLE, eq_self_iff_true]
      exact br_t ((ob_xaC _ _ _).mpr rfl) hp
  | t + 1, s, e, hs => by
    obtain ⟨q, rfl⟩ : ∃ q, s = q + 1 := ⟨s - 1, by omega⟩
    have ih := ob_leastX ho hn hP hr post hp t q (by omega) (by omega)
    have hq := hr.2.2.1 q (by omega) (by omega)
    have hl := hr.1
    have hnl : ¬ q < l := by omega
    have hsl := ob_sl_0 (hP.2.2 (32 * o + q) (by omega))
    unfold wX_leastLength_3
    rw [pk_m1]
    by_cases hpk : xPk (32 * o + q) = 0
    · simp (disch := first | omega | decide) only [hnl, hpk, forall_eq, not_true, not_false_iff, false_implies, true_implies, true_and, and_true, ob_sub1, Nat.add_sub_cancel, nI_1, ob_ix, ob_iy, ob_ix24, ob_iy24, ob_ix10, ob_iy10, ob_ix4, ob_iy4, ob_ix3, ob_iy3, ob_s1, ob_s2, ob_s3, ob_s4, ob_ltl, ob_lel, ob_eql, ob_ltr, ob_ler, ob_uN, Nat.add_one_ne_zero, ob_xs3, ob_lnn, ob_ltn, ob_eqn, Nat.not_lt_zero, Nat.zero_le, Nat.reduceEqDiff, Nat.reduceLeDiff, Nat.reduceLT, ob_eqll, Int32.reduceLT, Int32.reduceLE, eq_self_iff_true]
      exact ih
    · have htc : tc (32 * o + q) = true := by
        rcases hq with h | h
        · exact absurd (hsl.mpr h) hpk
        · exact h
      simp (disch := first | omega | decide) only [hnl, hpk, htc, forall_eq, not_true, not_false_iff, false_implies, true_implies, true_and, and_true, ob_sub1, Nat.add_sub_cancel, nI_1, ob_ix, ob_iy, ob_ix24, ob_iy24, ob_ix10, ob_iy10, ob_ix4, ob_iy4, ob_ix3, ob_iy3, ob_s1, ob_s2, ob_s3, ob_s4, ob_ltl, ob_lel, ob_eql, ob_ltr, ob_ler, ob_uN, Nat.add_one_ne_zero, ob_xs3, ob_lnn, ob_ltn, ob_eqn, Nat.not_lt_zero, Nat.zero_le, Nat.reduceEqDiff, Nat.reduceLeDiff, Nat.reduceLT, ob_eqll, Int32.reduceLT, Int32.reduceLE, eq_self_iff_true]
      exact br_f (fun z => absurd ((ob_xaC _ _ _).mp z) (by decide)) ih
/-- the component removes the elements from 15 down to r -/
theorem ob_cutX {said x11 : Int32} {v w : Int64} {x2 x10 : Int32} (ho : o < n) (hn : n ≤ 32) (hr : r ≤ 16) :
    ∀ t s xPc xKo xPk, s = r + t → s ≤ 16 → ob_gP n m (ob_cut M o s) pVal xPk tw xSet yPair ySet → ob_gL n (ob_cut M o s) xPc xKo →
    ∃ (xPc' : Nat → Int32) (xKo' : Nat → Int32) (xPk' : Nat → Int32), ob_gP n m (ob_cut M o r) pVal xPk' tw xSet yPair ySet ∧ ob_gL n (ob_cut M o r) xPc' xKo' ∧
      ∀ post : Int32 → SX → Prop, wX_defineProperty_189 post (nI o) x2 said v w x10 x11 (nI r).toInt64 (nI n) (nI d) (nI b) deep res thr thn (fun zz => nI (CL zz)) cStr cOp cA cB (fun zz => nI (OK zz)) oKin oOpen xFc xFs xPc' xKo' xPk' (fun zz => ob_xa (tw zz) (te zz) (tc zz)) pVal xSet (fun zz => nI (S zz)) aOut aVar (fun zz => nI (FC zz)) (fun zz => nI (FP zz)) (fun zz => nI (FA zz)) (fun zz => nI (FH zz)) (fun zz => nI (XH zz)) (fun zz => nI (FT zz)) fSelf xHeld stk (fun zz => nI (TA zz)) (fun zz => nI (TH zz)) xArg → wX_defineProperty_164 post (nI o) x2 said v w x10 x11 (nI r) (t + 1) (nI s + (-1)) (nI n) (nI d) (nI b) deep res thr thn (fun zz => nI (CL zz)) cStr cOp cA cB (fun zz => nI (OK zz)) oKin oOpen xFc xFs xPc xKo xPk (fun zz => ob_xa (tw zz) (te zz) (tc zz)) pVal xSet (fun zz => nI (S zz)) aOut aVar (fun zz => nI (FC zz)) (fun zz => nI (FP zz)) (fun zz => nI (FA zz)) (fun zz => nI (FH zz)) (fun zz => nI (XH zz)) (fun zz => nI (FT zz)) fSelf xHeld stk (fun zz => nI (TA zz)) (fun zz => nI (TH zz)) xArg
  | 0, s, xPc, xKo, xPk, e, hs, hP, hL => by
    have e' : s = r := by omega
    subst e'
    refine ⟨xPc, xKo, xPk, hP, hL, fun post hp => ?_⟩
    unfold wX_defineProperty_164
    exact br_t (ob_m1lt (by omega)) hp
  | t + 1, s, xPc, xKo, xPk, e, hs, hP, hL => by
    obtain ⟨q, rfl⟩ : ∃ q, s = q + 1 := ⟨s - 1, by omega⟩
    have hq16 : q < 16 := by omega
    have hP1 := ob_gP_del (i := 32 * o + q) hP
    obtain ⟨xPc1, xKo1, hL1, hX1⟩ := ob_remX (d := d) (b := b) (deep := deep) (res := res) (thr := thr) (thn := thn) (CL := CL) (cStr := cStr) (cOp := cOp) (cA := cA) (cB := cB) (OK := OK) (oKin := oKin) (oOpen := oOpen) (aOut := aOut) (aVar := aVar) (FC := FC) (FA := FA) (FP := FP) (FH := FH) (FT := FT) (fSelf := fSelf) (stk := stk) (TA := TA) (TH := TH) (xFc := xFc) (xFs := xFs) (te := te) (tc := tc) (S := S) (XH := XH) (xHeld := xHeld) (xArg := xArg) (k := q) hP hL hn ho (by omega)
    rw [ob_cut_s M o hq16] at hP1 hL1
    obtain ⟨xPc2, xKo2, xPk2, hP2, hL2, h2⟩ := ob_cutX ho hn hr t q xPc1 xKo1 _ (by omega) (by omega) hP1 hL1
    refine ⟨xPc2, xKo2, xPk2, hP2, hL2, fun post hp => ?_⟩
    unfold wX_defineProperty_164
    rw [pk_m1]
    have hnl : ¬ q < r := by omega
    simp (disch := first | omega | decide) only [hnl, forall_eq, not_true, not_false_iff, false_implies, true_implies, true_and, and_true, ob_sub1, Nat.add_sub_cancel, nI_1, ob_ix, ob_iy, ob_ix24, ob_iy24, ob_ix10, ob_iy10, ob_ix4, ob_iy4, ob_ix3, ob_iy3, ob_s1, ob_s2, ob_s3, ob_s4, ob_ltl, ob_lel, ob_eql, ob_ltr, ob_ler, ob_uN, Nat.add_one_ne_zero, ob_xs3, ob_lnn, ob_ltn, ob_eqn, Nat.not_lt_zero, Nat.zero_le, Nat.reduceEqDiff, Nat.reduceLeDiff, Nat.reduceLT, ob_eqll, Int32.reduceLT, Int32.reduceLE, eq_self_iff_true]
    refine hX1 _ ?_
    exact h2 post hp
/-- the reference the same -/
theorem ob_cutY {said on : Int32} (ho : o < 32) (hl : l ≤ 16) (hm : ∀ j, M j ≤ m) (hm2 : m < 2 ^ 31) (hr : ob_rch M tc o l r) (post : Int32 → SY → Prop)
    (hp : wY_shorten_93 post (nI o) said on (nI l) (nI (32 * o + 16)) (nI (32 * o + r) + (-1)) (nI n) (nI m) yGiven (nI d) deep (nI b) thr thn res cStr (fun zz => nI (CL zz)) cOp cA cB (fun zz => nI (OK zz)) oKin yCo yAr oOpen (fun zz => nI ((ob_cut M o r) zz)) (fun zz => ob_yf (tw zz) (te zz) (tc zz)) yPair ySeen pVal ySet (fun zz => ob_th (S zz)) yStay aOut aVar yArg (fun zz => nI (FC zz)) (fun zz => nI (FA zz)) (fun zz => nI (FP zz)) (fun zz => nI (FH zz)) yHan (fun zz => nI (FT zz)) (fun zz => nI (TA zz)) (fun zz => nI (TH zz)) fSelf yKept stk) :
    ∀ t s, s = r + t → s ≤ 16 → wY_shorten_44 post (nI o) said on (nI l) (nI (32 * o + 16)) (nI n) (nI m) yGiven (nI d) deep (nI b) thr thn res (t + 1) (nI (32 * o + s) + (-1)) cStr (fun zz => nI (CL zz)) cOp cA cB (fun zz => nI (OK zz)) oKin yCo yAr oOpen (fun zz => nI ((ob_cut M o s) zz)) (fun zz => ob_yf (tw zz) (te zz) (tc zz)) yPair ySeen pVal ySet (fun zz => ob_th (S zz)) yStay aOut aVar yArg (fun zz => nI (FC zz)) (fun zz => nI (FA zz)) (fun zz => nI (FP zz)) (fun zz => nI (FH zz)) yHan (fun zz => nI (FT zz)) (fun zz => nI (TA zz)) (fun zz => nI (TH zz)) fSelf yKept stk
  | 0, s, e, hs => by
    have e' : s = r := by omega
    subst e'
    obtain ⟨h1, h2, h3, h4⟩ := hr
    unfold wY_shorten_44
    rcases h4 with h4 | ⟨q, h5, h6, h7, h8⟩
    · subst h4
      rw [ob_iy]
      exact br_t (ob_m1lt (by omega)) hp
    · subst h5
      have hnl : ¬ 32 * o + q < 32 * o + l := by omega
      have hcut : ob_cut M o (q + 1) (32 * o + q) = M (32 * o + q) := ob_cut_lo M (by omega)
      have hMm := hm (32 * o + q)
      rw [show 32 * o + (q + 1) = (32 * o + q) + 1 from rfl, pk_m1] at hp ⊢
      simp (disch := first | omega | decide) only [hnl, hcut, h7, h8, forall_eq, not_true, not_false_iff, false_implies, true_implies, true_and, and_true, ob_sub1, Nat.add_sub_cancel, nI_1, ob_ix, ob_iy, ob_ix24, ob_iy24, ob_ix10, ob_iy10, ob_ix4, ob_iy4, ob_ix3, ob_iy3, ob_s1, ob_s2, ob_s3, ob_s4, ob_ltl, ob_lel, ob_eql, ob_ltr, ob_ler, ob_uN, Nat.add_one_ne_zero, ob_xs3, ob_lnn, ob_ltn, ob_eqn, Nat.not_lt_zero, Nat.zero_le, Nat.reduceEqDiff, Nat.reduceLeDiff, Nat.reduceLT, ob_eqll, Int32.reduceLT, Int32.reduceLE, eq_self_iff_true]
      exact br_t ((ob_yfC _ _ _).mpr rfl) hp
  | t + 1, s, e, hs => by
    obtain ⟨q, rfl⟩ : ∃ q, s = q + 1 := ⟨s - 1, by omega⟩
    have ih := ob_cutY ho hl hm hm2 hr post hp t q (by omega) (by omega)
    have hq := hr.2.2.1 q (by omega) (by omega)
    have hlr := hr.1
    have hnl : ¬ 32 * o + q < 32 * o + l := by omega
    have hcut : ob_cut M o (q + 1) (32 * o + q) = M (32 * o + q) := ob_cut_lo M (by omega)
    have hMm := hm (32 * o + q)
    have hcs := ob_cut_s M o (s := q) (by omega)
    unfold wY_shorten_44
    rw [show 32 * o + (q + 1) = (32 * o + q) + 1 from rfl, pk_m1]
    by_cases hM : M (32 * o + q) = 0
    · simp (disch := first | omega | decide) only [hnl, hcut, hM, ob_uN0, hcs, forall_eq, not_true, not_false_iff, false_implies, true_implies, true_and, and_true, ob_sub1, Nat.add_sub_cancel, nI_1, ob_ix, ob_iy, ob_ix24, ob_iy24, ob_ix10, ob_iy10, ob_ix4, ob_iy4, ob_ix3, ob_iy3, ob_s1, ob_s2, ob_s3, ob_s4, ob_ltl, ob_lel, ob_eql, ob_ltr, ob_ler, ob_uN, Nat.add_one_ne_zero, ob_xs3, ob_lnn, ob_ltn, ob_eqn, Nat.not_lt_zero, Nat.zero_le, Nat.reduceEqDiff, Nat.reduceLeDiff, Nat.reduceLT, ob_eqll, Int32.reduceLT, Int32.reduceLE, eq_self_iff_true]
      exact ih
    · have htc : tc (32 * o + q) = true := by
        rcases hq with h | h
        · exact absurd h hM
        · exact h
      simp (disch := first | omega | decide) only [hnl, hcut, hM, htc, ob_uN0, hcs, forall_eq, not_true, not_false_iff, false_implies, true_implies, true_and, and_true, ob_sub1, Nat.add_sub_cancel, nI_1, ob_ix, ob_iy, ob_ix24, ob_iy24, ob_ix10, ob_iy10, ob_ix4, ob_iy4, ob_ix3, ob_iy3, ob_s1, ob_s2, ob_s3, ob_s4, ob_ltl, ob_lel, ob_eql, ob_ltr, ob_ler, ob_uN, Nat.add_one_ne_zero, ob_xs3, ob_lnn, ob_ltn, ob_eqn, Nat.not_lt_zero, Nat.zero_le, Nat.reduceEqDiff, Nat.reduceLeDiff, Nat.reduceLT, ob_eqll, Int32.reduceLT, Int32.reduceLE, eq_self_iff_true]
      exact br_f (fun z => absurd ((ob_yfC _ _ _).mp z) (by decide)) ih
end
end
section
/-! ===== DEFINE: defineProperty and settle ===== -/
theorem ob_lN16 {v : Int64} (h0 : ¬ v < 0) (h : v ≤ 16) : ∃ l, l ≤ 16 ∧ v = lN l := by
  obtain ⟨l, hl, rfl⟩ := pk_lOf h0
  exact ⟨l, (pk_lLE (b := 16) hl (by decide)).mp h, rfl⟩
theorem ob_lNnum {l : Nat} (h : l < 2 ^ 31) : lN l = (lN l).toInt32.toInt64 := by
  rw [lN_i, nI_l h]
theorem ob_lNV (n : Nat) {l : Nat} (h : l < 2 ^ 31) : ob_V n (lN l) := Or.inl (ob_lNnum h)
theorem ob_isnT {l : Nat} (h : l < 2 ^ 31) (post : Int32 → Prop) (hp : post 1) : wpY_isNumber post (lN l) := by
  unfold wpY_isNumber
  exact br_t (ob_lNnum h) hp
section
variable {n : Nat} {d : Nat} {b : Nat} {m : Nat} {deep : Int32} {res : Int64} {thr : Int32} {thn : Int64} {CL : Nat → Nat} {cStr : Nat → Int32} {cOp : Nat → Int32} {cA : Nat → Int32} {cB : Nat → Int32} {OK : Nat → Nat} {oKin : Nat → Int32} {oOpen : Nat → Int32} {pVal : Nat → Int64} {aOut : Nat → Int32} {aVar : Nat → Int64} {FC : Nat → Nat} {FA : Nat → Nat} {FP : Nat → Nat} {FH : Nat → Nat} {FT : Nat → Nat} {fSelf : Nat → Int64} {stk : Nat → Int64} {TA : Nat → Nat} {TH : Nat → Nat} {xFc : Nat → Int32} {xFs : Nat → Int32} {xPc : Nat → Int32} {xKo : Nat → Int32} {xPk : Nat → Int32} {tw : Nat → Bool} {te : Nat → Bool} {tc : Nat → Bool} {xSet : Nat → Int64} {S : Nat → Nat} {XH : Nat → Nat} {xHeld : Nat → Int64} {xArg : Nat → Int64} {yCo : Nat → Int32} {yAr : Nat → Int32} {M : Nat → Nat} {yPair : Nat → Int32} {ySeen : Nat → Int32} {ySet : Nat → Int64} {yStay : Nat → Int32} {yArg : Nat → Int64} {yHan : Nat → Int32} {yKept : Nat → Int64} {yGiven : Int32}
variable {o k i l : Nat} {sV sG sS sW sE sC oW oE oC pW pE pC : Bool} {v w wy : Int64}
/-- the array's group behind a store -/
theorem ob_gY_st {M' : Nat → Nat} {pVal' : Nat → Int64} {yPair' : Nat → Int32} {tc' : Nat → Bool} (hY : ob_gY n OK M tc pVal yPair) (hk : k < 32)
    (ho : ∀ j, j ≠ 32 * o + k → M' j = M j ∧ pVal' j = pVal j ∧ yPair' j = yPair j ∧ tc' j = tc j) (hM : M' (32 * o + k) ≠ 0)
    (h16 : OK o = 1 → k = 16 → yPair' (32 * o + 16) = 0 ∧ tc' (32 * o + 16) = false ∧ ∃ l', l' ≤ 16 ∧ pVal' (32 * o + 16) = lN l' ∧ ∀ q, l' ≤ q → q < 16 → M (32 * o + q) = 0)
    (hlt : OK o = 1 → k < 16 → ∀ l, l ≤ 16 → pVal (32 * o + 16) = lN l → k < l) : ob_gY n OK M' tc' pVal' yPair' := by
  intro q hq h1
  obtain ⟨a1, a2, a3, l, a4, a5, a6⟩ := hY q hq h1
  by_cases z : q = o
  · subst z
    by_cases y : k = 16
    · subst y
      obtain ⟨b1, b2, l', b3, b4, b5⟩ := h16 h1 rfl
      exact ⟨hM, b1, b2, l', b3, b4, fun j hj hj2 => by rw [(ho _ (by omega)).1]; exact b5 j hj hj2⟩
    · obtain ⟨c1, c2, c3, c4⟩ := ho (32 * q + 16) (by omega)
      refine ⟨by rw [c1]; exact a1, by rw [c3]; exact a2, by rw [c4]; exact a3, l, a4, by rw [c2]; exact a5, fun j hj hj2 => ?_⟩
      by_cases x : j = k
      · have := hlt h1 (by omega) l a4 a5
        omega
      · rw [(ho _ (by omega)).1]
        exact a6 j hj hj2
  · obtain ⟨c1, c2, c3, c4⟩ := ho (32 * q + 16) (by omega)
    refine ⟨by rw [c1]; exact a1, by rw [c3]; exact a2, by rw [c4]; exact a3, l, a4, by rw [c2]; exact a5, fun j hj hj2 => ?_⟩
    rw [(ho _ (by omega)).1]
    exact a6 j hj hj2
/-- an element beyond the length: LENGTH follows -/
theorem ob_gY_gr {M' : Nat → Nat} {pVal' : Nat → Int64} {yPair' : Nat → Int32} {tc' : Nat → Bool} (hY : ob_gY n OK M tc pVal yPair) (hk : k < 16) (hl : l ≤ k) (hlv : pVal (32 * o + 16) = lN l)
    (ho : ∀ j, j ≠ 32 * o + k → M' j = M j ∧ pVal' j = pVal j ∧ yPair' j = yPair j ∧ tc' j = tc j) : ob_gY n OK M' tc' (vp_updL pVal' (32 * o + 16) (lN (k + 1))) yPair' := by
  intro q hq h1
  obtain ⟨a1, a2, a3, l2, a4, a5, a6⟩ := hY q hq h1
  obtain ⟨c1, c2, c3, c4⟩ := ho (32 * q + 16) (by omega)
  by_cases z : q = o
  · subst z
    have e : l2 = l := (pk_lEQ (by omega) (by omega)).mp (a5.symm.trans hlv)
    subst e
    refine ⟨by rw [c1]; exact a1, by rw [c3]; exact a2, by rw [c4]; exact a3, k + 1, by omega, pk_uLs, fun j hj hj2 => ?_⟩
    rw [(ho _ (by omega)).1]
    exact a6 j (by omega) hj2
  · refine ⟨by rw [c1]; exact a1, by rw [c3]; exact a2, by rw [c4]; exact a3, l2, a4, by rw [pk_uLn (by omega), c2]; exact a5, fun j hj hj2 => ?_⟩
    rw [(ho _ (by omega)).1]
    exact a6 j hj hj2
/-- is it forbidden? both sides -/
theorem ob_fb (hpo : ob_po sW sE sC oW oE oC pW pE pC) (hO : ob_gO n OK oKin) (hP : ob_gP n m M pVal xPk tw xSet yPair ySet) (ho : o < n) (hk : k < 32) (hm : m < 2 ^ 31) (hw : sS = true → w = wy) : ∃ fb : Bool,
    (fb = false → M (32 * o + k) ≠ 0 → ∃ eqS, ob_alw sV sG sS sW sE sC oW oE oC (tw (32 * o + k)) (te (32 * o + k)) (tc (32 * o + k)) (decide (yPair (32 * o + k) = 1)) (decide (v = pVal (32 * o + k))) eqS = true) ∧
    (fb = true → M (32 * o + k) ≠ 0 → yPair (32 * o + k) = 0 → ∀ eqS, ob_alw sV sG sS sW sE sC oW oE oC (tw (32 * o + k)) (te (32 * o + k)) (tc (32 * o + k)) false (decide (v = pVal (32 * o + k))) eqS = false) ∧
    (∀ post : Int32 → Prop, post (ob_01 fb) → wpX_isForbidden post (nI n, nI d, nI b, deep, res, thr, thn, (fun zz => nI (CL zz)), cStr, cOp, cA, cB, (fun zz => nI (OK zz)), oKin, oOpen, xFc, xFs, xPc, xKo, xPk, (fun zz => ob_xa (tw zz) (te zz) (tc zz)), pVal, xSet, (fun zz => nI (S zz)), aOut, aVar, (fun zz => nI (FC zz)), (fun zz => nI (FP zz)), (fun zz => nI (FA zz)), (fun zz => nI (FH zz)), (fun zz => nI (XH zz)), (fun zz => nI (FT zz)), fSelf, xHeld, stk, (fun zz => nI (TA zz)), (fun zz => nI (TH zz)), xArg) (nI o) (nI k) (ob_xs sV sG sS sW sE sC oW oE oC) v w) ∧
    (∀ (post : Int32 → SY → Prop) (x10 x12 : Int32), (fb = true → post 0 (nI n, nI m, yGiven, nI d, deep, nI b, thr, thn, res, cStr, (fun zz => nI (CL zz)), cOp, cA, cB, (fun zz => nI (OK zz)), oKin, yCo, yAr, oOpen, (fun zz => nI (M zz)), (fun zz => ob_yf (tw zz) (te zz) (tc zz)), yPair, ySeen, pVal, ySet, (fun zz => ob_th (S zz)), yStay, aOut, aVar, yArg, (fun zz => nI (FC zz)), (fun zz => nI (FA zz)), (fun zz => nI (FP zz)), (fun zz => nI (FH zz)), yHan, (fun zz => nI (FT zz)), (fun zz => nI (TA zz)), (fun zz => nI (TH zz)), fSelf, yKept, stk)) → (fb = false → wY_settle_201 post (nI k) (ob_ys sV sG sS sW sE sC) (ob_yf pW pE pC) v wy (nI (32 * o + k)) x10 x12 (nI n) (nI m) yGiven (nI d) deep (nI b) thr thn res cStr (fun zz => nI (CL zz)) cOp cA cB (fun zz => nI (OK zz)) oKin yCo yAr oOpen (fun zz => nI (M zz)) (fun zz => ob_yf (tw zz) (te zz) (tc zz)) yPair ySeen pVal ySet (fun zz => ob_th (S zz)) yStay aOut aVar yArg (fun zz => nI (FC zz)) (fun zz => nI (FA zz)) (fun zz => nI (FP zz)) (fun zz => nI (FH zz)) yHan (fun zz => nI (FT zz)) (fun zz => nI (TA zz)) (fun zz => nI (TH zz)) fSelf yKept stk) → wY_settle_161 post (nI o) (nI k) (ob_ys sV sG sS sW sE sC) (ob_yf pW pE pC) v wy (nI (32 * o + k)) x10 x12 (nI n) (nI m) yGiven (nI d) deep (nI b) thr thn res cStr (fun zz => nI (CL zz)) cOp cA cB (fun zz => nI (OK zz)) oKin yCo yAr oOpen (fun zz => nI (M zz)) (fun zz => ob_yf (tw zz) (te zz) (tc zz)) yPair ySeen pVal ySet (fun zz => ob_th (S zz)) yStay aOut aVar yArg (fun zz => nI (FC zz)) (fun zz => nI (FA zz)) (fun zz => nI (FP zz)) (fun zz => nI (FH zz)) yHan (fun zz => nI (FT zz)) (fun zz => nI (TA zz)) (fun zz => nI (TH zz)) fSelf yKept stk) := by
  have hn := hO.1.2
  have hMm := hP.1 (32 * o + k)
  rcases hP.2.2 (32 * o + k) (by omega) with ⟨h0, hpk⟩ | ⟨hM, hv, hs⟩
  · refine ⟨decide (oOpen o = 0), fun _ h => absurd h0 h, fun _ h => absurd h0 h, fun post hp => ?_, fun post x10 x12 hT hF => ?_⟩
    · unfold wpX_isForbidden
      simp (disch := first | omega | decide) only [hpk, forall_eq, not_true, not_false_iff, false_implies, true_implies, true_and, and_true, ob_sub1, Nat.add_sub_cancel, nI_1, ob_ix, ob_iy, ob_ix24, ob_iy24, ob_ix10, ob_iy10, ob_ix4, ob_iy4, ob_ix3, ob_iy3, ob_s1, ob_s2, ob_s3, ob_s4, ob_ltl, ob_lel, ob_eql, ob_ltr, ob_ler, ob_uN, Nat.add_one_ne_zero, ob_xs3, ob_lnn, ob_ltn, ob_eqn, Nat.not_lt_zero, Nat.zero_le, Nat.reduceEqDiff, Nat.reduceLeDiff, Nat.reduceLT, ob_eqll, Int32.reduceLT, Int32.reduceLE, eq_self_iff_true]
      by_cases z : oOpen o = 0
      · rw [decide_eq_true z] at hp
        exact br_t z hp
      · rw [decide_eq_false z] at hp
        exact br_f z hp
    · unfold wY_settle_161
      simp (disch := first | omega | decide) only [h0, forall_eq, not_true, not_false_iff, false_implies, true_implies, true_and, and_true, ob_sub1, Nat.add_sub_cancel, nI_1, ob_ix, ob_iy, ob_ix24, ob_iy24, ob_ix10, ob_iy10, ob_ix4, ob_iy4, ob_ix3, ob_iy3, ob_s1, ob_s2, ob_s3, ob_s4, ob_ltl, ob_lel, ob_eql, ob_ltr, ob_ler, ob_uN, Nat.add_one_ne_zero, ob_xs3, ob_lnn, ob_ltn, ob_eqn, Nat.not_lt_zero, Nat.zero_le, Nat.reduceEqDiff, Nat.reduceLeDiff, Nat.reduceLT, ob_eqll, Int32.reduceLT, Int32.reduceLE, eq_self_iff_true]
      by_cases z : oOpen o = 0
      · exact br_t z (hT (decide_eq_true z))
      · exact br_f z (hF (decide_eq_false z))
  · have hpr : yPair (32 * o + k) = 0 ∨ yPair (32 * o + k) = 1 := by
      rcases hs with h | h
      · exact Or.inl h.1
      · exact Or.inr h.1
    have hpkk : xPk (32 * o + k) = 1 ∨ xPk (32 * o + k) = 2 := by
      rcases hs with h | h
      · exact Or.inl h.2
      · exact Or.inr h.2.1
    have hpp : decide (xPk (32 * o + k) = 2) = decide (yPair (32 * o + k) = 1) := by
      rcases hs with ⟨h1, h2⟩ | ⟨h1, h2, _⟩
      · rw [h1, h2]; decide
      · rw [h1, h2]; decide
    have hss : ob_alw sV sG sS sW sE sC oW oE oC (tw (32 * o + k)) (te (32 * o + k)) (tc (32 * o + k)) (decide (yPair (32 * o + k) = 1)) (decide (v = pVal (32 * o + k))) (decide (w = xSet (32 * o + k))) = ob_alw sV sG sS sW sE sC oW oE oC (tw (32 * o + k)) (te (32 * o + k)) (tc (32 * o + k)) (decide (yPair (32 * o + k) = 1)) (decide (v = pVal (32 * o + k))) (decide (wy = ySet (32 * o + k))) := by
      rcases hs with ⟨h1, h2⟩ | ⟨h1, h2, h3, h4, _⟩
      · rw [h1]; rfl
      · cases hS : sS
        · rw [h1]; unfold ob_alw; simp
        · rw [hw hS, h4]
    refine ⟨!ob_alw sV sG sS sW sE sC oW oE oC (tw (32 * o + k)) (te (32 * o + k)) (tc (32 * o + k)) (decide (yPair (32 * o + k) = 1)) (decide (v = pVal (32 * o + k))) (decide (wy = ySet (32 * o + k))), fun h _ => ⟨_, by simpa using h⟩, fun h _ h0 eqS => ?_, fun post hp => ?_, fun post x10 x12 hT hF => ?_⟩
    · rw [h0] at h
      have h2 : ob_alw sV sG sS sW sE sC oW oE oC (tw (32 * o + k)) (te (32 * o + k)) (tc (32 * o + k)) false (decide (v = pVal (32 * o + k))) (decide (wy = ySet (32 * o + k))) = false := by simpa using h
      exact h2
    · refine ob_forbX (by omega) hk hpkk post ?_
      rw [hpp, hss]
      exact hp
    · unfold wY_settle_161
      simp (disch := first | omega | decide) only [hM, forall_eq, not_true, not_false_iff, false_implies, true_implies, true_and, and_true, ob_sub1, Nat.add_sub_cancel, nI_1, ob_ix, ob_iy, ob_ix24, ob_iy24, ob_ix10, ob_iy10, ob_ix4, ob_iy4, ob_ix3, ob_iy3, ob_s1, ob_s2, ob_s3, ob_s4, ob_ltl, ob_lel, ob_eql, ob_ltr, ob_ler, ob_uN, Nat.add_one_ne_zero, ob_xs3, ob_lnn, ob_ltn, ob_eqn, Nat.not_lt_zero, Nat.zero_le, Nat.reduceEqDiff, Nat.reduceLeDiff, Nat.reduceLT, ob_eqll, Int32.reduceLT, Int32.reduceLE, eq_self_iff_true]
      refine ob_alwY hpo (by omega) hpr _ ?_
      cases ha : ob_alw sV sG sS sW sE sC oW oE oC (tw (32 * o + k)) (te (32 * o + k)) (tc (32 * o + k)) (decide (yPair (32 * o + k) = 1)) (decide (v = pVal (32 * o + k))) (decide (wy = ySet (32 * o + k)))
      · exact br_t rfl (hT (by rw [ha]; rfl))
      · exact br_f (by decide) (hF (by rw [ha]; rfl))
end
end
section
/-! ===== DEFINE: the walks ===== -/
section
variable {n : Nat} {d : Nat} {b : Nat} {m : Nat} {deep : Int32} {res : Int64} {thr : Int32} {thn : Int64} {CL : Nat → Nat} {cStr : Nat → Int32} {cOp : Nat → Int32} {cA : Nat → Int32} {cB : Nat → Int32} {OK : Nat → Nat} {oKin : Nat → Int32} {oOpen : Nat → Int32} {pVal : Nat → Int64} {aOut : Nat → Int32} {aVar : Nat → Int64} {FC : Nat → Nat} {FA : Nat → Nat} {FP : Nat → Nat} {FH : Nat → Nat} {FT : Nat → Nat} {fSelf : Nat → Int64} {stk : Nat → Int64} {TA : Nat → Nat} {TH : Nat → Nat} {xFc : Nat → Int32} {xFs : Nat → Int32} {xPc : Nat → Int32} {xKo : Nat → Int32} {xPk : Nat → Int32} {tw : Nat → Bool} {te : Nat → Bool} {tc : Nat → Bool} {xSet : Nat → Int64} {S : Nat → Nat} {XH : Nat → Nat} {xHeld : Nat → Int64} {xArg : Nat → Int64} {yCo : Nat → Int32} {yAr : Nat → Int32} {M : Nat → Nat} {yPair : Nat → Int32} {ySeen : Nat → Int32} {ySet : Nat → Int64} {yStay : Nat → Int32} {yArg : Nat → Int64} {yHan : Nat → Int32} {yKept : Nat → Int64} {yGiven : Int32}
variable {o k i l : Nat} {sV sG sS sW sE sC oW oE oC pW pE pC : Bool} {v w wy : Int64}
/-- the component, where LENGTH is not set -/
theorem ob_dpXn (ho : o < 32) (hk : k < 32) (hOK : OK o ≤ 2) (hns : ¬ (OK o = 1 ∧ k = 16 ∧ sV = true)) (hl : OK o = 1 → l ≤ 16 ∧ pVal (32 * o + 16) = lN l) (post : Int32 → SX → Prop)
    (h1 : OK o = 1 → k < 16 → l ≤ k → tw (32 * o + 16) = false → post 0 (nI n, nI d, nI b, deep, res, thr, thn, (fun zz => nI (CL zz)), cStr, cOp, cA, cB, (fun zz => nI (OK zz)), oKin, oOpen, xFc, xFs, xPc, xKo, xPk, (fun zz => ob_xa (tw zz) (te zz) (tc zz)), pVal, xSet, (fun zz => nI (S zz)), aOut, aVar, (fun zz => nI (FC zz)), (fun zz => nI (FP zz)), (fun zz => nI (FA zz)), (fun zz => nI (FH zz)), (fun zz => nI (XH zz)), (fun zz => nI (FT zz)), fSelf, xHeld, stk, (fun zz => nI (TA zz)), (fun zz => nI (TH zz)), xArg))
    (h2 : OK o = 1 → k < 16 → l ≤ k → tw (32 * o + 16) = true → wX_defineProperty_125 post (nI o) (nI k) (ob_xs sV sG sS sW sE sC oW oE oC) v w 0 (nI (32 * o + 16)) 1 (nI n) (nI d) (nI b) deep res thr thn (fun zz => nI (CL zz)) cStr cOp cA cB (fun zz => nI (OK zz)) oKin oOpen xFc xFs xPc xKo xPk (fun zz => ob_xa (tw zz) (te zz) (tc zz)) pVal xSet (fun zz => nI (S zz)) aOut aVar (fun zz => nI (FC zz)) (fun zz => nI (FP zz)) (fun zz => nI (FA zz)) (fun zz => nI (FH zz)) (fun zz => nI (XH zz)) (fun zz => nI (FT zz)) fSelf xHeld stk (fun zz => nI (TA zz)) (fun zz => nI (TH zz)) xArg)
    (h3 : ¬ (OK o = 1 ∧ k < 16 ∧ l ≤ k) → wX_defineProperty_125 post (nI o) (nI k) (ob_xs sV sG sS sW sE sC oW oE oC) v w 0 (nI (32 * o + 16)) 0 (nI n) (nI d) (nI b) deep res thr thn (fun zz => nI (CL zz)) cStr cOp cA cB (fun zz => nI (OK zz)) oKin oOpen xFc xFs xPc xKo xPk (fun zz => ob_xa (tw zz) (te zz) (tc zz)) pVal xSet (fun zz => nI (S zz)) aOut aVar (fun zz => nI (FC zz)) (fun zz => nI (FP zz)) (fun zz => nI (FA zz)) (fun zz => nI (FH zz)) (fun zz => nI (XH zz)) (fun zz => nI (FT zz)) fSelf xHeld stk (fun zz => nI (TA zz)) (fun zz => nI (TH zz)) xArg) :
    wpX_defineProperty post (nI n, nI d, nI b, deep, res, thr, thn, (fun zz => nI (CL zz)), cStr, cOp, cA, cB, (fun zz => nI (OK zz)), oKin, oOpen, xFc, xFs, xPc, xKo, xPk, (fun zz => ob_xa (tw zz) (te zz) (tc zz)), pVal, xSet, (fun zz => nI (S zz)), aOut, aVar, (fun zz => nI (FC zz)), (fun zz => nI (FP zz)), (fun zz => nI (FA zz)), (fun zz => nI (FH zz)), (fun zz => nI (XH zz)), (fun zz => nI (FT zz)), fSelf, xHeld, stk, (fun zz => nI (TA zz)), (fun zz => nI (TH zz)), xArg) (nI o) (nI k) (ob_xs sV sG sS sW sE sC oW oE oC) v w := by
  have h103 : ¬ (OK o = 1 ∧ k < 16 ∧ l ≤ k) → wX_defineProperty_103 post (nI o) (nI k) (ob_xs sV sG sS sW sE sC oW oE oC) v w 0 (nI (32 * o + 16)) (nI n) (nI d) (nI b) deep res thr thn (fun zz => nI (CL zz)) cStr cOp cA cB (fun zz => nI (OK zz)) oKin oOpen xFc xFs xPc xKo xPk (fun zz => ob_xa (tw zz) (te zz) (tc zz)) pVal xSet (fun zz => nI (S zz)) aOut aVar (fun zz => nI (FC zz)) (fun zz => nI (FP zz)) (fun zz => nI (FA zz)) (fun zz => nI (FH zz)) (fun zz => nI (XH zz)) (fun zz => nI (FT zz)) fSelf xHeld stk (fun zz => nI (TA zz)) (fun zz => nI (TH zz)) xArg := fun h => br_t rfl (h3 h)
  have e16 : nI o * 32 + 16 = nI (32 * o + 16) := ob_ix o 16
  unfold wpX_defineProperty
  simp (disch := first | omega | decide) only [forall_eq, not_true, not_false_iff, false_implies, true_implies, true_and, and_true, ob_sub1, Nat.add_sub_cancel, nI_1, ob_ix, ob_iy, ob_ix24, ob_iy24, ob_ix10, ob_iy10, ob_ix4, ob_iy4, ob_ix3, ob_iy3, ob_s1, ob_s2, ob_s3, ob_s4, ob_ltl, ob_lel, ob_eql, ob_ltr, ob_ler, ob_uN, Nat.add_one_ne_zero, ob_xs3, ob_lnn, ob_ltn, ob_eqn, Nat.not_lt_zero, Nat.zero_le, Nat.reduceEqDiff, Nat.reduceLeDiff, Nat.reduceLT, ob_eqll, Int32.reduceLT, Int32.reduceLE, eq_self_iff_true]
  by_cases hA : OK o = 1
  · obtain ⟨hl1, hl2⟩ := hl hA
    refine br_t hA ?_
    unfold wX_defineProperty_15
    refine br_f (by decide) ?_
    have h39 : wX_defineProperty_39 post (nI o) (nI k) (ob_xs sV sG sS sW sE sC oW oE oC) v w 1 (nI n) (nI d) (nI b) deep res thr thn (fun zz => nI (CL zz)) cStr cOp cA cB (fun zz => nI (OK zz)) oKin oOpen xFc xFs xPc xKo xPk (fun zz => ob_xa (tw zz) (te zz) (tc zz)) pVal xSet (fun zz => nI (S zz)) aOut aVar (fun zz => nI (FC zz)) (fun zz => nI (FP zz)) (fun zz => nI (FA zz)) (fun zz => nI (FH zz)) (fun zz => nI (XH zz)) (fun zz => nI (FT zz)) fSelf xHeld stk (fun zz => nI (TA zz)) (fun zz => nI (TH zz)) xArg := by
      unfold wX_defineProperty_39 wX_defineProperty_40
      refine br_t rfl ?_
      unfold wX_defineProperty_66
      rw [e16]
      refine nm_e (br_f (by decide) ?_)
      by_cases h16 : 16 ≤ k
      · simp (disch := first | omega | decide) only [h16, forall_eq, not_true, not_false_iff, false_implies, true_implies, true_and, and_true, ob_sub1, Nat.add_sub_cancel, nI_1, ob_ix, ob_iy, ob_ix24, ob_iy24, ob_ix10, ob_iy10, ob_ix4, ob_iy4, ob_ix3, ob_iy3, ob_s1, ob_s2, ob_s3, ob_s4, ob_ltl, ob_lel, ob_eql, ob_ltr, ob_ler, ob_uN, Nat.add_one_ne_zero, ob_xs3, ob_lnn, ob_ltn, ob_eqn, Nat.not_lt_zero, Nat.zero_le, Nat.reduceEqDiff, Nat.reduceLeDiff, Nat.reduceLT, ob_eqll, Int32.reduceLT, Int32.reduceLE, eq_self_iff_true]
        exact h103 (by omega)
      · have hlt : ((nI k).toInt64 < pVal (32 * o + 16)) = (k < l) := by
          rw [hl2, nI_l (by omega), lN_lt (by omega) (by omega)]
        simp (disch := first | omega | decide) only [h16, hlt, forall_eq, not_true, not_false_iff, false_implies, true_implies, true_and, and_true, ob_sub1, Nat.add_sub_cancel, nI_1, ob_ix, ob_iy, ob_ix24, ob_iy24, ob_ix10, ob_iy10, ob_ix4, ob_iy4, ob_ix3, ob_iy3, ob_s1, ob_s2, ob_s3, ob_s4, ob_ltl, ob_lel, ob_eql, ob_ltr, ob_ler, ob_uN, Nat.add_one_ne_zero, ob_xs3, ob_lnn, ob_ltn, ob_eqn, Nat.not_lt_zero, Nat.zero_le, Nat.reduceEqDiff, Nat.reduceLeDiff, Nat.reduceLT, ob_eqll, Int32.reduceLT, Int32.reduceLE, eq_self_iff_true]
        by_cases hkl : k < l
        · exact br_t hkl (h103 (by omega))
        · refine br_f hkl ?_
          unfold wX_defineProperty_104
          refine br_f (by decide) ?_
          simp (disch := first | omega | decide) only [forall_eq, not_true, not_false_iff, false_implies, true_implies, true_and, and_true, ob_sub1, Nat.add_sub_cancel, nI_1, ob_ix, ob_iy, ob_ix24, ob_iy24, ob_ix10, ob_iy10, ob_ix4, ob_iy4, ob_ix3, ob_iy3, ob_s1, ob_s2, ob_s3, ob_s4, ob_ltl, ob_lel, ob_eql, ob_ltr, ob_ler, ob_uN, Nat.add_one_ne_zero, ob_xs3, ob_lnn, ob_ltn, ob_eqn, Nat.not_lt_zero, Nat.zero_le, Nat.reduceEqDiff, Nat.reduceLeDiff, Nat.reduceLT, ob_eqll, Int32.reduceLT, Int32.reduceLE, eq_self_iff_true]
          cases htw : tw (32 * o + 16)
          · exact br_t ((ob_xaW _ _ _).mpr rfl) (h1 hA (by omega) (by omega) htw)
          · exact br_f (fun z => absurd ((ob_xaW _ _ _).mp z) (by decide)) (h2 hA (by omega) (by omega) htw)
    by_cases h16 : k = 16
    · refine br_t (by rw [h16]; rfl) ?_
      refine br_t ((ob_xsV _ _ _ _ _ _ _ _ _).mpr ?_) h39
      cases hs : sV
      · rfl
      · exact absurd ⟨hA, h16, hs⟩ hns
    · exact br_f (fun z => h16 ((nI_eq (b := 16) (by omega) (by decide)).mp z)) h39
  · refine br_f hA ?_
    unfold wX_defineProperty_15 wX_defineProperty_39 wX_defineProperty_40
    refine br_t rfl (br_t rfl ?_)
    unfold wX_defineProperty_66
    rw [e16]
    exact nm_e (br_t rfl (h103 (fun z => hA z.1)))
/-- the reference the same -/
theorem ob_seYn (ho : o < 32) (hk : k < 32) (hOK : OK o ≤ 2) (hns : ¬ (OK o = 1 ∧ k = 16 ∧ sV = true)) (hl : OK o = 1 → l ≤ 16 ∧ pVal (32 * o + 16) = lN l) (post : Int32 → SY → Prop)
    (h1 : OK o = 1 → k < 16 → l ≤ k → tw (32 * o + 16) = false → post 0 (nI n, nI m, yGiven, nI d, deep, nI b, thr, thn, res, cStr, (fun zz => nI (CL zz)), cOp, cA, cB, (fun zz => nI (OK zz)), oKin, yCo, yAr, oOpen, (fun zz => nI (M zz)), (fun zz => ob_yf (tw zz) (te zz) (tc zz)), yPair, ySeen, pVal, ySet, (fun zz => ob_th (S zz)), yStay, aOut, aVar, yArg, (fun zz => nI (FC zz)), (fun zz => nI (FA zz)), (fun zz => nI (FP zz)), (fun zz => nI (FH zz)), yHan, (fun zz => nI (FT zz)), (fun zz => nI (TA zz)), (fun zz => nI (TH zz)), fSelf, yKept, stk))
    (h2 : OK o = 1 → k < 16 → l ≤ k → tw (32 * o + 16) = true → wY_settle_161 post (nI o) (nI k) (ob_ys sV sG sS sW sE sC) (ob_yf pW pE pC) v wy (nI (32 * o + k)) (nI (32 * o + 16)) 1 (nI n) (nI m) yGiven (nI d) deep (nI b) thr thn res cStr (fun zz => nI (CL zz)) cOp cA cB (fun zz => nI (OK zz)) oKin yCo yAr oOpen (fun zz => nI (M zz)) (fun zz => ob_yf (tw zz) (te zz) (tc zz)) yPair ySeen pVal ySet (fun zz => ob_th (S zz)) yStay aOut aVar yArg (fun zz => nI (FC zz)) (fun zz => nI (FA zz)) (fun zz => nI (FP zz)) (fun zz => nI (FH zz)) yHan (fun zz => nI (FT zz)) (fun zz => nI (TA zz)) (fun zz => nI (TH zz)) fSelf yKept stk)
    (h3 : ¬ (OK o = 1 ∧ k < 16 ∧ l ≤ k) → wY_settle_161 post (nI o) (nI k) (ob_ys sV sG sS sW sE sC) (ob_yf pW pE pC) v wy (nI (32 * o + k)) (nI (32 * o + 16)) 0 (nI n) (nI m) yGiven (nI d) deep (nI b) thr thn res cStr (fun zz => nI (CL zz)) cOp cA cB (fun zz => nI (OK zz)) oKin yCo yAr oOpen (fun zz => nI (M zz)) (fun zz => ob_yf (tw zz) (te zz) (tc zz)) yPair ySeen pVal ySet (fun zz => ob_th (S zz)) yStay aOut aVar yArg (fun zz => nI (FC zz)) (fun zz => nI (FA zz)) (fun zz => nI (FP zz)) (fun zz => nI (FH zz)) yHan (fun zz => nI (FT zz)) (fun zz => nI (TA zz)) (fun zz => nI (TH zz)) fSelf yKept stk) :
    wpY_settle post (nI n, nI m, yGiven, nI d, deep, nI b, thr, thn, res, cStr, (fun zz => nI (CL zz)), cOp, cA, cB, (fun zz => nI (OK zz)), oKin, yCo, yAr, oOpen, (fun zz => nI (M zz)), (fun zz => ob_yf (tw zz) (te zz) (tc zz)), yPair, ySeen, pVal, ySet, (fun zz => ob_th (S zz)), yStay, aOut, aVar, yArg, (fun zz => nI (FC zz)), (fun zz => nI (FA zz)), (fun zz => nI (FP zz)), (fun zz => nI (FH zz)), yHan, (fun zz => nI (FT zz)), (fun zz => nI (TA zz)), (fun zz => nI (TH zz)), fSelf, yKept, stk) (nI o) (nI k) (ob_ys sV sG sS sW sE sC) (ob_yf pW pE pC) v wy := by
  have e16 : 32 * nI o + 16 = nI (32 * o + 16) := ob_iy o 16
  have h79 : ¬ (OK o = 1 ∧ k < 16 ∧ l ≤ k) → wY_settle_79 post (nI o) (nI k) (ob_ys sV sG sS sW sE sC) (ob_yf pW pE pC) v wy (nI (32 * o + k)) (nI (32 * o + 16)) 0 (nI n) (nI m) yGiven (nI d) deep (nI b) thr thn res cStr (fun zz => nI (CL zz)) cOp cA cB (fun zz => nI (OK zz)) oKin yCo yAr oOpen (fun zz => nI (M zz)) (fun zz => ob_yf (tw zz) (te zz) (tc zz)) yPair ySeen pVal ySet (fun zz => ob_th (S zz)) yStay aOut aVar yArg (fun zz => nI (FC zz)) (fun zz => nI (FA zz)) (fun zz => nI (FP zz)) (fun zz => nI (FH zz)) yHan (fun zz => nI (FT zz)) (fun zz => nI (TA zz)) (fun zz => nI (TH zz)) fSelf yKept stk := by
    intro h
    unfold wY_settle_79 wY_settle_80 wY_settle_114 wY_settle_144
    exact br_t rfl (br_t rfl (br_t rfl (h3 h)))
  have h43 : wY_settle_43 post (nI o) (nI k) (ob_ys sV sG sS sW sE sC) (ob_yf pW pE pC) v wy (nI (32 * o + k)) (nI (32 * o + 16)) (nI n) (nI m) yGiven (nI d) deep (nI b) thr thn res cStr (fun zz => nI (CL zz)) cOp cA cB (fun zz => nI (OK zz)) oKin yCo yAr oOpen (fun zz => nI (M zz)) (fun zz => ob_yf (tw zz) (te zz) (tc zz)) yPair ySeen pVal ySet (fun zz => ob_th (S zz)) yStay aOut aVar yArg (fun zz => nI (FC zz)) (fun zz => nI (FA zz)) (fun zz => nI (FP zz)) (fun zz => nI (FH zz)) yHan (fun zz => nI (FT zz)) (fun zz => nI (TA zz)) (fun zz => nI (TH zz)) fSelf yKept stk := by
    unfold wY_settle_43 wY_settle_44
    simp (disch := first | omega | decide) only [forall_eq, not_true, not_false_iff, false_implies, true_implies, true_and, and_true, ob_sub1, Nat.add_sub_cancel, nI_1, ob_ix, ob_iy, ob_ix24, ob_iy24, ob_ix10, ob_iy10, ob_ix4, ob_iy4, ob_ix3, ob_iy3, ob_s1, ob_s2, ob_s3, ob_s4, ob_ltl, ob_lel, ob_eql, ob_ltr, ob_ler, ob_uN, Nat.add_one_ne_zero, ob_xs3, ob_lnn, ob_ltn, ob_eqn, Nat.not_lt_zero, Nat.zero_le, Nat.reduceEqDiff, Nat.reduceLeDiff, Nat.reduceLT, ob_eqll, Int32.reduceLT, Int32.reduceLE, eq_self_iff_true]
    by_cases hA : OK o = 1
    · obtain ⟨hl1, hl2⟩ := hl hA
      refine br_t hA ?_
      by_cases h16 : 16 ≤ k
      · exact br_t h16 (h79 (by omega))
      · have hlt : ((nI k).toInt64 < pVal (32 * o + 16)) = (k < l) := by
          rw [hl2, nI_l (by omega), lN_lt (by omega) (by omega)]
        refine br_f h16 ?_
        rw [hlt]
        by_cases hkl : k < l
        · exact br_t hkl (h79 (by omega))
        · refine br_f hkl ?_
          unfold wY_settle_80 wY_settle_114 wY_settle_144
          refine br_t rfl (br_t rfl (br_f (by decide) ?_))
          simp (disch := first | omega | decide) only [forall_eq, not_true, not_false_iff, false_implies, true_implies, true_and, and_true, ob_sub1, Nat.add_sub_cancel, nI_1, ob_ix, ob_iy, ob_ix24, ob_iy24, ob_ix10, ob_iy10, ob_ix4, ob_iy4, ob_ix3, ob_iy3, ob_s1, ob_s2, ob_s3, ob_s4, ob_ltl, ob_lel, ob_eql, ob_ltr, ob_ler, ob_uN, Nat.add_one_ne_zero, ob_xs3, ob_lnn, ob_ltn, ob_eqn, Nat.not_lt_zero, Nat.zero_le, Nat.reduceEqDiff, Nat.reduceLeDiff, Nat.reduceLT, ob_eqll, Int32.reduceLT, Int32.reduceLE, eq_self_iff_true]
          cases htw : tw (32 * o + 16)
          · exact br_t ((ob_yfW _ _ _).mpr rfl) (h1 hA (by omega) (by omega) htw)
          · exact br_f (fun z => absurd ((ob_yfW _ _ _).mp z) (by decide)) (h2 hA (by omega) (by omega) htw)
    · exact br_f hA (h79 (fun z => hA z.1))
  unfold wpY_settle
  rw [e16]
  simp (disch := first | omega | decide) only [forall_eq, not_true, not_false_iff, false_implies, true_implies, true_and, and_true, ob_sub1, Nat.add_sub_cancel, nI_1, ob_ix, ob_iy, ob_ix24, ob_iy24, ob_ix10, ob_iy10, ob_ix4, ob_iy4, ob_ix3, ob_iy3, ob_s1, ob_s2, ob_s3, ob_s4, ob_ltl, ob_lel, ob_eql, ob_ltr, ob_ler, ob_uN, Nat.add_one_ne_zero, ob_xs3, ob_lnn, ob_ltn, ob_eqn, Nat.not_lt_zero, Nat.zero_le, Nat.reduceEqDiff, Nat.reduceLeDiff, Nat.reduceLT, ob_eqll, Int32.reduceLT, Int32.reduceLE, eq_self_iff_true]
  by_cases hA : OK o = 1
  · refine br_t hA ?_
    by_cases h16 : k = 16
    · refine br_t h16 ?_
      refine br_t ((ob_ysV _ _ _ _ _ _).mpr ?_) h43
      cases hs : sV
      · rfl
      · exact absurd ⟨hA, h16, hs⟩ hns
    · exact br_f h16 h43
  · exact br_f hA h43
/-- behind the ban: the component stores -/
theorem ob_dp189 {x11 : Int32} (hk : k < 32) (ho : o < 32) (g : Bool) (hx : x11 = ob_01 g) (post : Int32 → SX → Prop) {m' : Nat} {M' : Nat → Nat} {pVal' xSet' : Nat → Int64} {xPc' xKo' xPk' : Nat → Int32} {tw' te' tc' : Nat → Bool}
    (hst : ∀ post : SX → Prop, post (nI n, nI d, nI b, deep, res, thr, thn, (fun zz => nI (CL zz)), cStr, cOp, cA, cB, (fun zz => nI (OK zz)), oKin, oOpen, xFc, xFs, xPc', xKo', xPk', (fun zz => ob_xa (tw' zz) (te' zz) (tc' zz)), pVal', xSet', (fun zz => nI (S zz)), aOut, aVar, (fun zz => nI (FC zz)), (fun zz => nI (FP zz)), (fun zz => nI (FA zz)), (fun zz => nI (FH zz)), (fun zz => nI (XH zz)), (fun zz => nI (FT zz)), fSelf, xHeld, stk, (fun zz => nI (TA zz)), (fun zz => nI (TH zz)), xArg) → wpX_storeProperty post (nI n, nI d, nI b, deep, res, thr, thn, (fun zz => nI (CL zz)), cStr, cOp, cA, cB, (fun zz => nI (OK zz)), oKin, oOpen, xFc, xFs, xPc, xKo, xPk, (fun zz => ob_xa (tw zz) (te zz) (tc zz)), pVal, xSet, (fun zz => nI (S zz)), aOut, aVar, (fun zz => nI (FC zz)), (fun zz => nI (FP zz)), (fun zz => nI (FA zz)), (fun zz => nI (FH zz)), (fun zz => nI (XH zz)), (fun zz => nI (FT zz)), fSelf, xHeld, stk, (fun zz => nI (TA zz)), (fun zz => nI (TH zz)), xArg) (nI o) (nI k) (ob_xs sV sG sS sW sE sC oW oE oC) v w)
    (hp : post 1 (nI n, nI d, nI b, deep, res, thr, thn, (fun zz => nI (CL zz)), cStr, cOp, cA, cB, (fun zz => nI (OK zz)), oKin, oOpen, xFc, xFs, xPc', xKo', xPk', (fun zz => ob_xa (tw' zz) (te' zz) (tc' zz)), (if g then vp_updL pVal' (32 * o + 16) (lN (k + 1)) else pVal'), xSet', (fun zz => nI (S zz)), aOut, aVar, (fun zz => nI (FC zz)), (fun zz => nI (FP zz)), (fun zz => nI (FA zz)), (fun zz => nI (FH zz)), (fun zz => nI (XH zz)), (fun zz => nI (FT zz)), fSelf, xHeld, stk, (fun zz => nI (TA zz)), (fun zz => nI (TH zz)), xArg)) :
    wX_defineProperty_189 post (nI o) (nI k) (ob_xs sV sG sS sW sE sC oW oE oC) v w (nI (32 * o + 16)) x11 v (nI n) (nI d) (nI b) deep res thr thn (fun zz => nI (CL zz)) cStr cOp cA cB (fun zz => nI (OK zz)) oKin oOpen xFc xFs xPc xKo xPk (fun zz => ob_xa (tw zz) (te zz) (tc zz)) pVal xSet (fun zz => nI (S zz)) aOut aVar (fun zz => nI (FC zz)) (fun zz => nI (FP zz)) (fun zz => nI (FA zz)) (fun zz => nI (FH zz)) (fun zz => nI (XH zz)) (fun zz => nI (FT zz)) fSelf xHeld stk (fun zz => nI (TA zz)) (fun zz => nI (TH zz)) xArg := by
  unfold wX_defineProperty_189
  refine hst _ ?_
  subst hx
  cases g
  · exact br_t rfl (br_t rfl hp)
  · refine br_f (by decide) ?_
    simp (disch := first | omega | decide) only [nI_l, forall_eq, not_true, not_false_iff, false_implies, true_implies, true_and, and_true, ob_sub1, Nat.add_sub_cancel, nI_1, ob_ix, ob_iy, ob_ix24, ob_iy24, ob_ix10, ob_iy10, ob_ix4, ob_iy4, ob_ix3, ob_iy3, ob_s1, ob_s2, ob_s3, ob_s4, ob_ltl, ob_lel, ob_eql, ob_ltr, ob_ler, ob_uN, Nat.add_one_ne_zero, ob_xs3, ob_lnn, ob_ltn, ob_eqn, Nat.not_lt_zero, Nat.zero_le, Nat.reduceEqDiff, Nat.reduceLeDiff, Nat.reduceLT, ob_eqll, Int32.reduceLT, Int32.reduceLE, eq_self_iff_true]
    exact br_t rfl hp
theorem ob_se201 {x12 : Int32} (hk : k < 32) (ho : o < 32) (g : Bool) (hx : x12 = ob_01 g) (post : Int32 → SY → Prop) {m' : Nat} {M' : Nat → Nat} {pVal' ySet' : Nat → Int64} {yPair' : Nat → Int32} {tw' te' tc' : Nat → Bool}
    (hst : ∀ post : SY → Prop, post (nI n, nI m', yGiven, nI d, deep, nI b, thr, thn, res, cStr, (fun zz => nI (CL zz)), cOp, cA, cB, (fun zz => nI (OK zz)), oKin, yCo, yAr, oOpen, (fun zz => nI (M' zz)), (fun zz => ob_yf (tw' zz) (te' zz) (tc' zz)), yPair', ySeen, pVal', ySet', (fun zz => ob_th (S zz)), yStay, aOut, aVar, yArg, (fun zz => nI (FC zz)), (fun zz => nI (FA zz)), (fun zz => nI (FP zz)), (fun zz => nI (FH zz)), yHan, (fun zz => nI (FT zz)), (fun zz => nI (TA zz)), (fun zz => nI (TH zz)), fSelf, yKept, stk) → wpY_apply post (nI n, nI m, yGiven, nI d, deep, nI b, thr, thn, res, cStr, (fun zz => nI (CL zz)), cOp, cA, cB, (fun zz => nI (OK zz)), oKin, yCo, yAr, oOpen, (fun zz => nI (M zz)), (fun zz => ob_yf (tw zz) (te zz) (tc zz)), yPair, ySeen, pVal, ySet, (fun zz => ob_th (S zz)), yStay, aOut, aVar, yArg, (fun zz => nI (FC zz)), (fun zz => nI (FA zz)), (fun zz => nI (FP zz)), (fun zz => nI (FH zz)), yHan, (fun zz => nI (FT zz)), (fun zz => nI (TA zz)), (fun zz => nI (TH zz)), fSelf, yKept, stk) (nI (32 * o + k)) (ob_ys sV sG sS sW sE sC) (ob_yf pW pE pC) v wy)
    (hp : post 1 (nI n, nI m', yGiven, nI d, deep, nI b, thr, thn, res, cStr, (fun zz => nI (CL zz)), cOp, cA, cB, (fun zz => nI (OK zz)), oKin, yCo, yAr, oOpen, (fun zz => nI (M' zz)), (fun zz => ob_yf (tw' zz) (te' zz) (tc' zz)), yPair', ySeen, (if g then vp_updL pVal' (32 * o + 16) (lN (k + 1)) else pVal'), ySet', (fun zz => ob_th (S zz)), yStay, aOut, aVar, yArg, (fun zz => nI (FC zz)), (fun zz => nI (FA zz)), (fun zz => nI (FP zz)), (fun zz => nI (FH zz)), yHan, (fun zz => nI (FT zz)), (fun zz => nI (TA zz)), (fun zz => nI (TH zz)), fSelf, yKept, stk)) :
    wY_settle_201 post (nI k) (ob_ys sV sG sS sW sE sC) (ob_yf pW pE pC) v wy (nI (32 * o + k)) (nI (32 * o + 16)) x12 (nI n) (nI m) yGiven (nI d) deep (nI b) thr thn res cStr (fun zz => nI (CL zz)) cOp cA cB (fun zz => nI (OK zz)) oKin yCo yAr oOpen (fun zz => nI (M zz)) (fun zz => ob_yf (tw zz) (te zz) (tc zz)) yPair ySeen pVal ySet (fun zz => ob_th (S zz)) yStay aOut aVar yArg (fun zz => nI (FC zz)) (fun zz => nI (FA zz)) (fun zz => nI (FP zz)) (fun zz => nI (FH zz)) yHan (fun zz => nI (FT zz)) (fun zz => nI (TA zz)) (fun zz => nI (TH zz)) fSelf yKept stk := by
  unfold wY_settle_201
  refine hst _ ?_
  subst hx
  cases g
  · exact br_t rfl hp
  · refine br_f (by decide) ?_
    simp (disch := first | omega | decide) only [nI_l, forall_eq, not_true, not_false_iff, false_implies, true_implies, true_and, and_true, ob_sub1, Nat.add_sub_cancel, nI_1, ob_ix, ob_iy, ob_ix24, ob_iy24, ob_ix10, ob_iy10, ob_ix4, ob_iy4, ob_ix3, ob_iy3, ob_s1, ob_s2, ob_s3, ob_s4, ob_ltl, ob_lel, ob_eql, ob_ltr, ob_ler, ob_uN, Nat.add_one_ne_zero, ob_xs3, ob_lnn, ob_ltn, ob_eqn, Nat.not_lt_zero, Nat.zero_le, Nat.reduceEqDiff, Nat.reduceLeDiff, Nat.reduceLT, ob_eqll, Int32.reduceLT, Int32.reduceLE, eq_self_iff_true]
    exact hp
end
end
section
/-! ===== DEFINE: both sides ===== -/
section
variable {n : Nat} {d : Nat} {b : Nat} {m : Nat} {deep : Int32} {res : Int64} {thr : Int32} {thn : Int64} {CL : Nat → Nat} {cStr : Nat → Int32} {cOp : Nat → Int32} {cA : Nat → Int32} {cB : Nat → Int32} {OK : Nat → Nat} {oKin : Nat → Int32} {oOpen : Nat → Int32} {pVal : Nat → Int64} {aOut : Nat → Int32} {aVar : Nat → Int64} {FC : Nat → Nat} {FA : Nat → Nat} {FP : Nat → Nat} {FH : Nat → Nat} {FT : Nat → Nat} {fSelf : Nat → Int64} {stk : Nat → Int64} {TA : Nat → Nat} {TH : Nat → Nat} {xFc : Nat → Int32} {xFs : Nat → Int32} {xPc : Nat → Int32} {xKo : Nat → Int32} {xPk : Nat → Int32} {tw : Nat → Bool} {te : Nat → Bool} {tc : Nat → Bool} {xSet : Nat → Int64} {S : Nat → Nat} {XH : Nat → Nat} {xHeld : Nat → Int64} {xArg : Nat → Int64} {yCo : Nat → Int32} {yAr : Nat → Int32} {M : Nat → Nat} {yPair : Nat → Int32} {ySeen : Nat → Int32} {ySet : Nat → Int64} {yStay : Nat → Int32} {yArg : Nat → Int64} {yHan : Nat → Int32} {yKept : Nat → Int64} {yGiven : Int32}
variable {o k i l : Nat} {sV sG sS sW sE sC oW oE oC pW pE pC : Bool} {v w wy : Int64}
theorem ob_alwC {w' e' c' eqV eqS : Bool} (h : ob_alw sV sG sS sW sE sC oW oE oC w' e' c' false eqV eqS = true) (hc : c' = false) : (sG || sS) = false ∧ (sC && oC) = false := by
  subst hc
  unfold ob_alw at h
  cases hA : (sG || sS)
  · cases hC : (sC && oC)
    · exact ⟨rfl, rfl⟩
    · rw [hC] at h
      simp at h
  · rw [hA] at h
    simp at h
theorem ob_ifC (h : (sC && oC) = false) : (if sC = true then oC else false) = false := by
  cases sC
  · rfl
  · simpa using h
/-- LENGTH is not set: the property is stored, or not -/
theorem ob_settleN (hpo : ob_po sW sE sC oW oE oC pW pE pC) (hO : ob_gO n OK oKin) (hP : ob_gP n m M pVal xPk tw xSet yPair ySet) (hL : ob_gL n M xPc xKo) (hY : ob_gY n OK M tc pVal yPair) (ho : o < n) (hk : k < 32) (hm : m < 2 ^ 31) (hDA : ((sV || sW) && (sG || sS)) = false)
    (hv : (sV || sG) = true → ob_V n v) (hw : sS = true → ob_V n wy ∧ w = wy) (hns : ¬ (OK o = 1 ∧ k = 16 ∧ sV = true)) :
    ∃ (r : Int32) (m' : Nat) (M' : Nat → Nat) (xPc' : Nat → Int32) (xKo' : Nat → Int32) (pVal' : Nat → Int64) (xPk' : Nat → Int32) (tw' : Nat → Bool) (te' : Nat → Bool) (tc' : Nat → Bool) (xSet' : Nat → Int64) (yPair' : Nat → Int32) (ySet' : Nat → Int64), ob_gP n m' M' pVal' xPk' tw' xSet' yPair' ySet' ∧ ob_gL n M' xPc' xKo' ∧ ob_gY n OK M' tc' pVal' yPair' ∧ m' ≤ m + 1 ∧ (r = -2 ∨ r = 0 ∨ r = 1) ∧
      (∀ post : Int32 → SX → Prop, post r (nI n, nI d, nI b, deep, res, thr, thn, (fun zz => nI (CL zz)), cStr, cOp, cA, cB, (fun zz => nI (OK zz)), oKin, oOpen, xFc, xFs, xPc', xKo', xPk', (fun zz => ob_xa (tw' zz) (te' zz) (tc' zz)), pVal', xSet', (fun zz => nI (S zz)), aOut, aVar, (fun zz => nI (FC zz)), (fun zz => nI (FP zz)), (fun zz => nI (FA zz)), (fun zz => nI (FH zz)), (fun zz => nI (XH zz)), (fun zz => nI (FT zz)), fSelf, xHeld, stk, (fun zz => nI (TA zz)), (fun zz => nI (TH zz)), xArg) → wpX_defineProperty post (nI n, nI d, nI b, deep, res, thr, thn, (fun zz => nI (CL zz)), cStr, cOp, cA, cB, (fun zz => nI (OK zz)), oKin, oOpen, xFc, xFs, xPc, xKo, xPk, (fun zz => ob_xa (tw zz) (te zz) (tc zz)), pVal, xSet, (fun zz => nI (S zz)), aOut, aVar, (fun zz => nI (FC zz)), (fun zz => nI (FP zz)), (fun zz => nI (FA zz)), (fun zz => nI (FH zz)), (fun zz => nI (XH zz)), (fun zz => nI (FT zz)), fSelf, xHeld, stk, (fun zz => nI (TA zz)), (fun zz => nI (TH zz)), xArg) (nI o) (nI k) (ob_xs sV sG sS sW sE sC oW oE oC) v w) ∧
      (∀ post : Int32 → SY → Prop, post r (nI n, nI m', yGiven, nI d, deep, nI b, thr, thn, res, cStr, (fun zz => nI (CL zz)), cOp, cA, cB, (fun zz => nI (OK zz)), oKin, yCo, yAr, oOpen, (fun zz => nI (M' zz)), (fun zz => ob_yf (tw' zz) (te' zz) (tc' zz)), yPair', ySeen, pVal', ySet', (fun zz => ob_th (S zz)), yStay, aOut, aVar, yArg, (fun zz => nI (FC zz)), (fun zz => nI (FA zz)), (fun zz => nI (FP zz)), (fun zz => nI (FH zz)), yHan, (fun zz => nI (FT zz)), (fun zz => nI (TA zz)), (fun zz => nI (TH zz)), fSelf, yKept, stk) → wpY_settle post (nI n, nI m, yGiven, nI d, deep, nI b, thr, thn, res, cStr, (fun zz => nI (CL zz)), cOp, cA, cB, (fun zz => nI (OK zz)), oKin, yCo, yAr, oOpen, (fun zz => nI (M zz)), (fun zz => ob_yf (tw zz) (te zz) (tc zz)), yPair, ySeen, pVal, ySet, (fun zz => ob_th (S zz)), yStay, aOut, aVar, yArg, (fun zz => nI (FC zz)), (fun zz => nI (FA zz)), (fun zz => nI (FP zz)), (fun zz => nI (FH zz)), yHan, (fun zz => nI (FT zz)), (fun zz => nI (TA zz)), (fun zz => nI (TH zz)), fSelf, yKept, stk) (nI o) (nI k) (ob_ys sV sG sS sW sE sC) (ob_yf pW pE pC) v wy) := by
  have hn := hO.1.2
  have hOK := (hO.2 o ho).1
  obtain ⟨l, hl⟩ : ∃ l, OK o = 1 → (l ≤ 16 ∧ pVal (32 * o + 16) = lN l) := by
    by_cases hA : OK o = 1
    · obtain ⟨_, _, _, l, a4, a5, _⟩ := hY o ho hA
      exact ⟨l, fun _ => ⟨a4, a5⟩⟩
    · exact ⟨0, fun h => absurd h hA⟩
  obtain ⟨fb, hfb1, hfb2, hfX, hfY⟩ := ob_fb (n := n) (d := d) (b := b) (m := m) (deep := deep) (res := res) (thr := thr) (thn := thn) (CL := CL) (cStr := cStr) (cOp := cOp) (cA := cA) (cB := cB) (OK := OK) (oKin := oKin) (oOpen := oOpen) (pVal := pVal) (aOut := aOut) (aVar := aVar) (FC := FC) (FA := FA) (FP := FP) (FH := FH) (FT := FT) (fSelf := fSelf) (stk := stk) (TA := TA) (TH := TH) (xFc := xFc) (xFs := xFs) (xPc := xPc) (xKo := xKo) (xPk := xPk) (tw := tw) (te := te) (tc := tc) (xSet := xSet) (S := S) (XH := XH) (xHeld := xHeld) (xArg := xArg) (yCo := yCo) (yAr := yAr) (M := M) (yPair := yPair) (ySeen := ySeen) (ySet := ySet) (yStay := yStay) (yArg := yArg) (yHan := yHan) (yKept := yKept) (yGiven := yGiven) (sV := sV) (sG := sG) (sS := sS) (sW := sW) (sE := sE) (sC := sC) (oW := oW) (oE := oE) (oC := oC) (v := v) (w := w) (wy := wy) hpo hO hP ho hk hm (fun h => (hw h).2)
  by_cases hdone : (OK o = 1 ∧ k < 16 ∧ l ≤ k ∧ tw (32 * o + 16) = false) ∨ fb = true
  · refine ⟨0, m, M, xPc, xKo, pVal, xPk, tw, te, tc, xSet, yPair, ySet, hP, hL, hY, by omega, Or.inr (Or.inl rfl), fun post hp => ?_, fun post hp => ?_⟩
    · have h125 : ∀ x11 : Int32, fb = true → wX_defineProperty_125 post (nI o) (nI k) (ob_xs sV sG sS sW sE sC oW oE oC) v w 0 (nI (32 * o + 16)) x11 (nI n) (nI d) (nI b) deep res thr thn (fun zz => nI (CL zz)) cStr cOp cA cB (fun zz => nI (OK zz)) oKin oOpen xFc xFs xPc xKo xPk (fun zz => ob_xa (tw zz) (te zz) (tc zz)) pVal xSet (fun zz => nI (S zz)) aOut aVar (fun zz => nI (FC zz)) (fun zz => nI (FP zz)) (fun zz => nI (FA zz)) (fun zz => nI (FH zz)) (fun zz => nI (XH zz)) (fun zz => nI (FT zz)) fSelf xHeld stk (fun zz => nI (TA zz)) (fun zz => nI (TH zz)) xArg := by
        intro x11 hf
        unfold wX_defineProperty_125
        refine hfX _ ?_
        rw [hf]
        exact br_f (by decide) hp
      refine ob_dpXn (by omega) hk hOK hns hl post (fun _ _ _ _ => hp) (fun a1 a2 a3 a4 => ?_) (fun hg => ?_)
      · rcases hdone with h | h
        · rw [a4] at h; exact absurd h.2.2.2 (by decide)
        · exact h125 1 h
      · rcases hdone with h | h
        · exact absurd ⟨h.1, h.2.1, h.2.2.1⟩ hg
        · exact h125 0 h
    · refine ob_seYn (by omega) hk hOK hns hl post (fun _ _ _ _ => hp) (fun a1 a2 a3 a4 => ?_) (fun hg => ?_)
      · rcases hdone with h | h
        · rw [a4] at h; exact absurd h.2.2.2 (by decide)
        · exact hfY post _ _ (fun _ => hp) (fun h2 => absurd (h.symm.trans h2) (by decide))
      · rcases hdone with h | h
        · exact absurd ⟨h.1, h.2.1, h.2.2.1⟩ hg
        · exact hfY post _ _ (fun _ => hp) (fun h2 => absurd (h.symm.trans h2) (by decide))
  · have hfb : fb = false := by
      cases hh : fb
      · rfl
      · exact absurd (Or.inr hh) hdone
    obtain ⟨m', M', xPc', xKo', pVal', xPk', tw', te', tc', xSet', yPair', ySet', hP', hL', hm1, hm2, hMi, hoth, hF1, hF2, hX, hYY⟩ := ob_store (n := n) (d := d) (b := b) (m := m) (deep := deep) (res := res) (thr := thr) (thn := thn) (CL := CL) (cStr := cStr) (cOp := cOp) (cA := cA) (cB := cB) (OK := OK) (oKin := oKin) (oOpen := oOpen) (pVal := pVal) (aOut := aOut) (aVar := aVar) (FC := FC) (FA := FA) (FP := FP) (FH := FH) (FT := FT) (fSelf := fSelf) (stk := stk) (TA := TA) (TH := TH) (xFc := xFc) (xFs := xFs) (xPc := xPc) (xKo := xKo) (xPk := xPk) (tw := tw) (te := te) (tc := tc) (xSet := xSet) (S := S) (XH := XH) (xHeld := xHeld) (xArg := xArg) (yCo := yCo) (yAr := yAr) (M := M) (yPair := yPair) (ySeen := ySeen) (ySet := ySet) (yStay := yStay) (yArg := yArg) (yHan := yHan) (yKept := yKept) (yGiven := yGiven) (sV := sV) (sG := sG) (sS := sS) (sW := sW) (sE := sE) (sC := sC) (oW := oW) (oE := oE) (oC := oC) (v := v) (w := w) (wy := wy) hpo hO hP hL ho hk hm hDA hv hw
    by_cases hg : OK o = 1 ∧ k < 16 ∧ l ≤ k
    · have htw : tw (32 * o + 16) = true := by
        cases hh : tw (32 * o + 16)
        · exact absurd (Or.inl ⟨hg.1, hg.2.1, hg.2.2, hh⟩) hdone
        · rfl
      refine ⟨1, m', M', xPc', xKo', vp_updL pVal' (32 * o + 16) (lN (k + 1)), xPk', tw', te', tc', xSet', yPair', ySet', ?_, hL', ob_gY_gr hY hg.2.1 hg.2.2 (hl hg.1).2 hoth, hm2, Or.inr (Or.inr rfl), fun post hp => ?_, fun post hp => ?_⟩
      · refine ob_gP_c (i := 32 * o + 16) hP' hP'.1 hP'.2.1 (fun j hj hne => ⟨rfl, pk_uLn hne, rfl, rfl, rfl, rfl, rfl⟩) (fun hi => ?_)
        rw [pk_uLs]
        rcases hP'.2.2 (32 * o + 16) hi with h | ⟨h1, h2, h3⟩
        · exact Or.inl h
        · exact Or.inr ⟨h1, ob_lNV n (by omega), h3⟩
      · refine ob_dpXn (by omega) hk hOK hns hl post (fun _ _ _ a4 => absurd (a4.symm.trans htw) (by decide)) (fun _ _ _ _ => ?_) (fun h => absurd hg h)
        unfold wX_defineProperty_125
        refine hfX _ ?_
        rw [hfb]
        exact br_t rfl (br_t rfl (ob_dp189 (m' := m') (M' := M') hk (by omega) true rfl post hX hp))
      · refine ob_seYn (by omega) hk hOK hns hl post (fun _ _ _ a4 => absurd (a4.symm.trans htw) (by decide)) (fun _ _ _ _ => ?_) (fun h => absurd hg h)
        exact hfY post _ _ (fun h2 => absurd (hfb.symm.trans h2) (by decide)) (fun _ => ob_se201 hk (by omega) true rfl post hYY hp)
    · refine ⟨1, m', M', xPc', xKo', pVal', xPk', tw', te', tc', xSet', yPair', ySet', hP', hL', ?_, hm2, Or.inr (Or.inr rfl), fun post hp => ?_, fun post hp => ?_⟩
      · refine ob_gY_st hY hk hoth hMi (fun hA h16 => ?_) (fun hA h16 l2 hl2 hl3 => ?_)
        · subst h16
          obtain ⟨a1, a2, a3, l2, a4, a5, a6⟩ := hY o ho hA
          obtain ⟨eqS, halw⟩ := hfb1 hfb a1
          rw [a2, show decide ((0 : Int32) = 1) = false from rfl] at halw
          obtain ⟨c1, c2⟩ := ob_alwC halw a3
          obtain ⟨b1, b2, b3⟩ := hF1 a1 a2 c1
          have hsV : sV = false := by
            cases hh : sV
            · rfl
            · exact absurd ⟨hA, rfl, hh⟩ hns
          have hsG : sG = false := by
            cases hh : sG
            · rfl
            · rw [hh] at c1; simp at c1
          refine ⟨b1, by rw [b3, a3]; exact ob_ifC c2, l2, a4, ?_, a6⟩
          rw [b2, hsV, hsG]
          exact a5
        · have e : l2 = l := (pk_lEQ (by omega) (by have := (hl hA).1; omega)).mp (hl3.symm.trans (hl hA).2)
          subst e
          rcases Nat.lt_or_ge k l2 with h | h
          · exact h
          · exact absurd ⟨hA, h16, h⟩ hg
      · refine ob_dpXn (by omega) hk hOK hns hl post (fun a1 a2 a3 _ => absurd ⟨a1, a2, a3⟩ hg) (fun a1 a2 a3 _ => absurd ⟨a1, a2, a3⟩ hg) (fun _ => ?_)
        unfold wX_defineProperty_125
        refine hfX _ ?_
        rw [hfb]
        exact br_t rfl (br_t rfl (ob_dp189 (m' := m') (M' := M') hk (by omega) false rfl post hX hp))
      · refine ob_seYn (by omega) hk hOK hns hl post (fun a1 a2 a3 _ => absurd ⟨a1, a2, a3⟩ hg) (fun a1 a2 a3 _ => absurd ⟨a1, a2, a3⟩ hg) (fun _ => ?_)
        exact hfY post _ _ (fun h2 => absurd (hfb.symm.trans h2) (by decide)) (fun _ => ob_se201 hk (by omega) false rfl post hYY hp)
end
end
section
/-! ===== DEFINE of an array's LENGTH ===== -/
theorem ob_m1p {a : Nat} : nI a + (-1) + 1 = nI a := by
  rw [Int32.add_assoc, show (-1 : Int32) + 1 = 0 from by decide, Int32.add_zero]
section
variable {n : Nat} {d : Nat} {b : Nat} {m : Nat} {deep : Int32} {res : Int64} {thr : Int32} {thn : Int64} {CL : Nat → Nat} {cStr : Nat → Int32} {cOp : Nat → Int32} {cA : Nat → Int32} {cB : Nat → Int32} {OK : Nat → Nat} {oKin : Nat → Int32} {oOpen : Nat → Int32} {pVal : Nat → Int64} {aOut : Nat → Int32} {aVar : Nat → Int64} {FC : Nat → Nat} {FA : Nat → Nat} {FP : Nat → Nat} {FH : Nat → Nat} {FT : Nat → Nat} {fSelf : Nat → Int64} {stk : Nat → Int64} {TA : Nat → Nat} {TH : Nat → Nat} {xFc : Nat → Int32} {xFs : Nat → Int32} {xPc : Nat → Int32} {xKo : Nat → Int32} {xPk : Nat → Int32} {tw : Nat → Bool} {te : Nat → Bool} {tc : Nat → Bool} {xSet : Nat → Int64} {S : Nat → Nat} {XH : Nat → Nat} {xHeld : Nat → Int64} {xArg : Nat → Int64} {yCo : Nat → Int32} {yAr : Nat → Int32} {M : Nat → Nat} {yPair : Nat → Int32} {ySeen : Nat → Int32} {ySet : Nat → Int64} {yStay : Nat → Int32} {yArg : Nat → Int64} {yHan : Nat → Int32} {yKept : Nat → Int64} {yGiven : Int32}
variable {o k i l r : Nat} {sV sG sS sW sE sC oW oE oC pW pE pC : Bool} {v w wy : Int64}
theorem ob_gY_cut (hY : ob_gY n OK M tc pVal yPair) : ob_gY n OK (ob_cut M o r) tc pVal yPair := by
  intro q hq h1
  obtain ⟨a1, a2, a3, l, a4, a5, a6⟩ := hY q hq h1
  refine ⟨by rw [ob_cut_lo M (by omega)]; exact a1, a2, a3, l, a4, a5, fun j hj hj2 => ?_⟩
  unfold ob_cut
  split
  · rfl
  · exact a6 j hj hj2
theorem ob_settleS (hpo : ob_po sW sE sC oW oE oC pW pE pC) (hO : ob_gO n OK oKin) (hP : ob_gP n m M pVal xPk tw xSet yPair ySet) (hL : ob_gL n M xPc xKo) (hY : ob_gY n OK M tc pVal yPair) (ho : o < n) (hm : m < 2 ^ 31) (hDA : ((true || sW) && (sG || sS)) = false)
    (hw : sS = true → ob_V n wy ∧ w = wy) (hA : OK o = 1) :
    ∃ (r : Int32) (m' : Nat) (M' : Nat → Nat) (xPc' : Nat → Int32) (xKo' : Nat → Int32) (pVal' : Nat → Int64) (xPk' : Nat → Int32) (tw' : Nat → Bool) (te' : Nat → Bool) (tc' : Nat → Bool) (xSet' : Nat → Int64) (yPair' : Nat → Int32) (ySet' : Nat → Int64), ob_gP n m' M' pVal' xPk' tw' xSet' yPair' ySet' ∧ ob_gL n M' xPc' xKo' ∧ ob_gY n OK M' tc' pVal' yPair' ∧ m' ≤ m + 1 ∧ (r = -2 ∨ r = 0 ∨ r = 1) ∧
      (∀ post : Int32 → SX → Prop, post r (nI n, nI d, nI b, deep, res, thr, thn, (fun zz => nI (CL zz)), cStr, cOp, cA, cB, (fun zz => nI (OK zz)), oKin, oOpen, xFc, xFs, xPc', xKo', xPk', (fun zz => ob_xa (tw' zz) (te' zz) (tc' zz)), pVal', xSet', (fun zz => nI (S zz)), aOut, aVar, (fun zz => nI (FC zz)), (fun zz => nI (FP zz)), (fun zz => nI (FA zz)), (fun zz => nI (FH zz)), (fun zz => nI (XH zz)), (fun zz => nI (FT zz)), fSelf, xHeld, stk, (fun zz => nI (TA zz)), (fun zz => nI (TH zz)), xArg) → wpX_defineProperty post (nI n, nI d, nI b, deep, res, thr, thn, (fun zz => nI (CL zz)), cStr, cOp, cA, cB, (fun zz => nI (OK zz)), oKin, oOpen, xFc, xFs, xPc, xKo, xPk, (fun zz => ob_xa (tw zz) (te zz) (tc zz)), pVal, xSet, (fun zz => nI (S zz)), aOut, aVar, (fun zz => nI (FC zz)), (fun zz => nI (FP zz)), (fun zz => nI (FA zz)), (fun zz => nI (FH zz)), (fun zz => nI (XH zz)), (fun zz => nI (FT zz)), fSelf, xHeld, stk, (fun zz => nI (TA zz)), (fun zz => nI (TH zz)), xArg) (nI o) (nI 16) (ob_xs true sG sS sW sE sC oW oE oC) v w) ∧
      (∀ post : Int32 → SY → Prop, post r (nI n, nI m', yGiven, nI d, deep, nI b, thr, thn, res, cStr, (fun zz => nI (CL zz)), cOp, cA, cB, (fun zz => nI (OK zz)), oKin, yCo, yAr, oOpen, (fun zz => nI (M' zz)), (fun zz => ob_yf (tw' zz) (te' zz) (tc' zz)), yPair', ySeen, pVal', ySet', (fun zz => ob_th (S zz)), yStay, aOut, aVar, yArg, (fun zz => nI (FC zz)), (fun zz => nI (FA zz)), (fun zz => nI (FP zz)), (fun zz => nI (FH zz)), yHan, (fun zz => nI (FT zz)), (fun zz => nI (TA zz)), (fun zz => nI (TH zz)), fSelf, yKept, stk) → wpY_settle post (nI n, nI m, yGiven, nI d, deep, nI b, thr, thn, res, cStr, (fun zz => nI (CL zz)), cOp, cA, cB, (fun zz => nI (OK zz)), oKin, yCo, yAr, oOpen, (fun zz => nI (M zz)), (fun zz => ob_yf (tw zz) (te zz) (tc zz)), yPair, ySeen, pVal, ySet, (fun zz => ob_th (S zz)), yStay, aOut, aVar, yArg, (fun zz => nI (FC zz)), (fun zz => nI (FA zz)), (fun zz => nI (FP zz)), (fun zz => nI (FH zz)), yHan, (fun zz => nI (FT zz)), (fun zz => nI (TA zz)), (fun zz => nI (TH zz)), fSelf, yKept, stk) (nI o) (nI 16) (ob_ys true sG sS sW sE sC) (ob_yf pW pE pC) v wy) := by
  have hn := hO.1.2
  have e16x : nI o * 32 + 16 = nI (32 * o + 16) := ob_ix o 16
  have e16y : 32 * nI o + 16 = nI (32 * o + 16) := ob_iy o 16
  have hsv : ¬ (ob_xs true sG sS sW sE sC oW oE oC &&& 64) = 0 := fun z => absurd ((ob_xsV _ _ _ _ _ _ _ _ _).mp z) (by decide)
  have hyv : ¬ (ob_ys true sG sS sW sE sC &&& 1) = 0 := fun z => absurd ((ob_ysV _ _ _ _ _ _).mp z) (by decide)
  have hX40 : ∀ post : Int32 → SX → Prop, wX_defineProperty_40 post (nI o) (nI 16) (ob_xs true sG sS sW sE sC oW oE oC) v w 1 1 (nI n) (nI d) (nI b) deep res thr thn (fun zz => nI (CL zz)) cStr cOp cA cB (fun zz => nI (OK zz)) oKin oOpen xFc xFs xPc xKo xPk (fun zz => ob_xa (tw zz) (te zz) (tc zz)) pVal xSet (fun zz => nI (S zz)) aOut aVar (fun zz => nI (FC zz)) (fun zz => nI (FP zz)) (fun zz => nI (FA zz)) (fun zz => nI (FH zz)) (fun zz => nI (XH zz)) (fun zz => nI (FT zz)) fSelf xHeld stk (fun zz => nI (TA zz)) (fun zz => nI (TH zz)) xArg → wpX_defineProperty post (nI n, nI d, nI b, deep, res, thr, thn, (fun zz => nI (CL zz)), cStr, cOp, cA, cB, (fun zz => nI (OK zz)), oKin, oOpen, xFc, xFs, xPc, xKo, xPk, (fun zz => ob_xa (tw zz) (te zz) (tc zz)), pVal, xSet, (fun zz => nI (S zz)), aOut, aVar, (fun zz => nI (FC zz)), (fun zz => nI (FP zz)), (fun zz => nI (FA zz)), (fun zz => nI (FH zz)), (fun zz => nI (XH zz)), (fun zz => nI (FT zz)), fSelf, xHeld, stk, (fun zz => nI (TA zz)), (fun zz => nI (TH zz)), xArg) (nI o) (nI 16) (ob_xs true sG sS sW sE sC oW oE oC) v w := by
    intro post h
    unfold wpX_defineProperty
    simp (disch := first | omega | decide) only [hA, forall_eq, not_true, not_false_iff, false_implies, true_implies, true_and, and_true, ob_sub1, Nat.add_sub_cancel, nI_1, ob_ix, ob_iy, ob_ix24, ob_iy24, ob_ix10, ob_iy10, ob_ix4, ob_iy4, ob_ix3, ob_iy3, ob_s1, ob_s2, ob_s3, ob_s4, ob_ltl, ob_lel, ob_eql, ob_ltr, ob_ler, ob_uN, Nat.add_one_ne_zero, ob_xs3, ob_lnn, ob_ltn, ob_eqn, Nat.not_lt_zero, Nat.zero_le, Nat.reduceEqDiff, Nat.reduceLeDiff, Nat.reduceLT, ob_eqll, Int32.reduceLT, Int32.reduceLE, eq_self_iff_true]
    unfold wX_defineProperty_15
    exact br_f (by decide) (br_t rfl (br_f hsv h))
  have hY80 : ∀ post : Int32 → SY → Prop, wY_settle_80 post (nI o) (nI 16) (ob_ys true sG sS sW sE sC) (ob_yf pW pE pC) v wy (nI (32 * o + 16)) (nI (32 * o + 16)) 1 0 (nI n) (nI m) yGiven (nI d) deep (nI b) thr thn res cStr (fun zz => nI (CL zz)) cOp cA cB (fun zz => nI (OK zz)) oKin yCo yAr oOpen (fun zz => nI (M zz)) (fun zz => ob_yf (tw zz) (te zz) (tc zz)) yPair ySeen pVal ySet (fun zz => ob_th (S zz)) yStay aOut aVar yArg (fun zz => nI (FC zz)) (fun zz => nI (FA zz)) (fun zz => nI (FP zz)) (fun zz => nI (FH zz)) yHan (fun zz => nI (FT zz)) (fun zz => nI (TA zz)) (fun zz => nI (TH zz)) fSelf yKept stk → wpY_settle post (nI n, nI m, yGiven, nI d, deep, nI b, thr, thn, res, cStr, (fun zz => nI (CL zz)), cOp, cA, cB, (fun zz => nI (OK zz)), oKin, yCo, yAr, oOpen, (fun zz => nI (M zz)), (fun zz => ob_yf (tw zz) (te zz) (tc zz)), yPair, ySeen, pVal, ySet, (fun zz => ob_th (S zz)), yStay, aOut, aVar, yArg, (fun zz => nI (FC zz)), (fun zz => nI (FA zz)), (fun zz => nI (FP zz)), (fun zz => nI (FH zz)), yHan, (fun zz => nI (FT zz)), (fun zz => nI (TA zz)), (fun zz => nI (TH zz)), fSelf, yKept, stk) (nI o) (nI 16) (ob_ys true sG sS sW sE sC) (ob_yf pW pE pC) v wy := by
    intro post h
    unfold wpY_settle
    rw [e16y]
    simp (disch := first | omega | decide) only [hA, hyv, forall_eq, not_true, not_false_iff, false_implies, true_implies, true_and, and_true, ob_sub1, Nat.add_sub_cancel, nI_1, ob_ix, ob_iy, ob_ix24, ob_iy24, ob_ix10, ob_iy10, ob_ix4, ob_iy4, ob_ix3, ob_iy3, ob_s1, ob_s2, ob_s3, ob_s4, ob_ltl, ob_lel, ob_eql, ob_ltr, ob_ler, ob_uN, Nat.add_one_ne_zero, ob_xs3, ob_lnn, ob_ltn, ob_eqn, Nat.not_lt_zero, Nat.zero_le, Nat.reduceEqDiff, Nat.reduceLeDiff, Nat.reduceLT, ob_eqll, Int32.reduceLT, Int32.reduceLE, eq_self_iff_true]
    unfold wY_settle_44
    simp (disch := first | omega | decide) only [hA, forall_eq, not_true, not_false_iff, false_implies, true_implies, true_and, and_true, ob_sub1, Nat.add_sub_cancel, nI_1, ob_ix, ob_iy, ob_ix24, ob_iy24, ob_ix10, ob_iy10, ob_ix4, ob_iy4, ob_ix3, ob_iy3, ob_s1, ob_s2, ob_s3, ob_s4, ob_ltl, ob_lel, ob_eql, ob_ltr, ob_ler, ob_uN, Nat.add_one_ne_zero, ob_xs3, ob_lnn, ob_ltn, ob_eqn, Nat.not_lt_zero, Nat.zero_le, Nat.reduceEqDiff, Nat.reduceLeDiff, Nat.reduceLT, ob_eqll, Int32.reduceLT, Int32.reduceLE, eq_self_iff_true]
    exact h
  by_cases hlo : v < 0
  · refine ⟨-2, m, M, xPc, xKo, pVal, xPk, tw, te, tc, xSet, yPair, ySet, hP, hL, hY, by omega, Or.inl rfl, fun post hp => hX40 post ?_, fun post hp => hY80 post ?_⟩
    · unfold wX_defineProperty_40
      exact br_f (by decide) (br_t hlo hp)
    · unfold wY_settle_80
      refine br_f (by decide) ?_
      unfold wpY_isNumber
      exact br_c (fun _ => br_f (by decide) (br_t hlo hp)) (fun _ => br_t rfl hp)
  by_cases hhi : v ≤ 16
  case neg =>
    refine ⟨-2, m, M, xPc, xKo, pVal, xPk, tw, te, tc, xSet, yPair, ySet, hP, hL, hY, by omega, Or.inl rfl, fun post hp => hX40 post ?_, fun post hp => hY80 post ?_⟩
    · unfold wX_defineProperty_40
      exact br_f (by decide) (br_f hlo (br_f hhi hp))
    · unfold wY_settle_80
      refine br_f (by decide) ?_
      unfold wpY_isNumber
      exact br_c (fun _ => br_f (by decide) (br_f hlo (br_f hhi hp))) (fun _ => br_t rfl hp)
  obtain ⟨l', hl', rfl⟩ := ob_lN16 hlo hhi
  obtain ⟨a1, a2, a3, l, a4, a5, a6⟩ := hY o ho hA
  have hacc : (sG || sS) = false := by simpa using hDA
  have hsS : sS = false := by
    cases hh : sS
    · rfl
    · rw [hh] at hacc; simp at hacc
  have hX125 : ∀ post : Int32 → SX → Prop, wX_defineProperty_125 post (nI o) (nI 16) (ob_xs true sG sS sW sE sC oW oE oC) (lN l') w 1 (nI (32 * o + 16)) 0 (nI n) (nI d) (nI b) deep res thr thn (fun zz => nI (CL zz)) cStr cOp cA cB (fun zz => nI (OK zz)) oKin oOpen xFc xFs xPc xKo xPk (fun zz => ob_xa (tw zz) (te zz) (tc zz)) pVal xSet (fun zz => nI (S zz)) aOut aVar (fun zz => nI (FC zz)) (fun zz => nI (FP zz)) (fun zz => nI (FA zz)) (fun zz => nI (FH zz)) (fun zz => nI (XH zz)) (fun zz => nI (FT zz)) fSelf xHeld stk (fun zz => nI (TA zz)) (fun zz => nI (TH zz)) xArg → wpX_defineProperty post (nI n, nI d, nI b, deep, res, thr, thn, (fun zz => nI (CL zz)), cStr, cOp, cA, cB, (fun zz => nI (OK zz)), oKin, oOpen, xFc, xFs, xPc, xKo, xPk, (fun zz => ob_xa (tw zz) (te zz) (tc zz)), pVal, xSet, (fun zz => nI (S zz)), aOut, aVar, (fun zz => nI (FC zz)), (fun zz => nI (FP zz)), (fun zz => nI (FA zz)), (fun zz => nI (FH zz)), (fun zz => nI (XH zz)), (fun zz => nI (FT zz)), fSelf, xHeld, stk, (fun zz => nI (TA zz)), (fun zz => nI (TH zz)), xArg) (nI o) (nI 16) (ob_xs true sG sS sW sE sC oW oE oC) (lN l') w := by
    intro post h
    refine hX40 post ?_
    unfold wX_defineProperty_40
    refine br_f (by decide) (br_f hlo (br_t hhi ?_))
    unfold wX_defineProperty_66
    rw [e16x]
    refine nm_e (br_f (by decide) (br_t (by decide) ?_))
    unfold wX_defineProperty_103 wX_defineProperty_104
    exact br_t rfl h
  have hY114 : ∀ post : Int32 → SY → Prop, wY_settle_114 post (nI o) (nI 16) (ob_ys true sG sS sW sE sC) (ob_yf pW pE pC) (lN l') wy (nI (32 * o + 16)) (nI (32 * o + 16)) 1 0 (nI n) (nI m) yGiven (nI d) deep (nI b) thr thn res cStr (fun zz => nI (CL zz)) cOp cA cB (fun zz => nI (OK zz)) oKin yCo yAr oOpen (fun zz => nI (M zz)) (fun zz => ob_yf (tw zz) (te zz) (tc zz)) yPair ySeen pVal ySet (fun zz => ob_th (S zz)) yStay aOut aVar yArg (fun zz => nI (FC zz)) (fun zz => nI (FA zz)) (fun zz => nI (FP zz)) (fun zz => nI (FH zz)) yHan (fun zz => nI (FT zz)) (fun zz => nI (TA zz)) (fun zz => nI (TH zz)) fSelf yKept stk → wpY_settle post (nI n, nI m, yGiven, nI d, deep, nI b, thr, thn, res, cStr, (fun zz => nI (CL zz)), cOp, cA, cB, (fun zz => nI (OK zz)), oKin, yCo, yAr, oOpen, (fun zz => nI (M zz)), (fun zz => ob_yf (tw zz) (te zz) (tc zz)), yPair, ySeen, pVal, ySet, (fun zz => ob_th (S zz)), yStay, aOut, aVar, yArg, (fun zz => nI (FC zz)), (fun zz => nI (FA zz)), (fun zz => nI (FP zz)), (fun zz => nI (FH zz)), yHan, (fun zz => nI (FT zz)), (fun zz => nI (TA zz)), (fun zz => nI (TH zz)), fSelf, yKept, stk) (nI o) (nI 16) (ob_ys true sG sS sW sE sC) (ob_yf pW pE pC) (lN l') wy := by
    intro post h
    refine hY80 post ?_
    unfold wY_settle_80
    refine br_f (by decide) (ob_isnT (by omega) _ ?_)
    exact br_f (by decide) (br_f hlo (br_t hhi h))
  obtain ⟨fb, hfb1, hfb2, hfX, hfY⟩ := ob_fb (n := n) (d := d) (b := b) (m := m) (deep := deep) (res := res) (thr := thr) (thn := thn) (CL := CL) (cStr := cStr) (cOp := cOp) (cA := cA) (cB := cB) (OK := OK) (oKin := oKin) (oOpen := oOpen) (pVal := pVal) (aOut := aOut) (aVar := aVar) (FC := FC) (FA := FA) (FP := FP) (FH := FH) (FT := FT) (fSelf := fSelf) (stk := stk) (TA := TA) (TH := TH) (xFc := xFc) (xFs := xFs) (xPc := xPc) (xKo := xKo) (xPk := xPk) (tw := tw) (te := te) (tc := tc) (xSet := xSet) (S := S) (XH := XH) (xHeld := xHeld) (xArg := xArg) (yCo := yCo) (yAr := yAr) (M := M) (yPair := yPair) (ySeen := ySeen) (ySet := ySet) (yStay := yStay) (yArg := yArg) (yHan := yHan) (yKept := yKept) (yGiven := yGiven) (k := 16) (sV := true) (sG := sG) (sS := sS) (sW := sW) (sE := sE) (sC := sC) (oW := oW) (oE := oE) (oC := oC) (v := lN l') (w := w) (wy := wy) hpo hO hP ho (by decide) hm (fun h => (hw h).2)
  have h15 : (15 : Int32) = nI 16 + (-1) := by decide
  have hX164 : ∀ (r : Nat) (post : Int32 → SX → Prop), fb = false → ob_rch M tc o l' r → wX_defineProperty_164 post (nI o) (nI 16) (ob_xs true sG sS sW sE sC oW oE oC) (lN l') w (nI (32 * o + 16)) 0 (nI r) (16 - r + 1) (nI 16 + (-1)) (nI n) (nI d) (nI b) deep res thr thn (fun zz => nI (CL zz)) cStr cOp cA cB (fun zz => nI (OK zz)) oKin oOpen xFc xFs xPc xKo xPk (fun zz => ob_xa (tw zz) (te zz) (tc zz)) pVal xSet (fun zz => nI (S zz)) aOut aVar (fun zz => nI (FC zz)) (fun zz => nI (FP zz)) (fun zz => nI (FA zz)) (fun zz => nI (FH zz)) (fun zz => nI (XH zz)) (fun zz => nI (FT zz)) fSelf xHeld stk (fun zz => nI (TA zz)) (fun zz => nI (TH zz)) xArg → wX_defineProperty_125 post (nI o) (nI 16) (ob_xs true sG sS sW sE sC oW oE oC) (lN l') w 1 (nI (32 * o + 16)) 0 (nI n) (nI d) (nI b) deep res thr thn (fun zz => nI (CL zz)) cStr cOp cA cB (fun zz => nI (OK zz)) oKin oOpen xFc xFs xPc xKo xPk (fun zz => ob_xa (tw zz) (te zz) (tc zz)) pVal xSet (fun zz => nI (S zz)) aOut aVar (fun zz => nI (FC zz)) (fun zz => nI (FP zz)) (fun zz => nI (FA zz)) (fun zz => nI (FH zz)) (fun zz => nI (XH zz)) (fun zz => nI (FT zz)) fSelf xHeld stk (fun zz => nI (TA zz)) (fun zz => nI (TH zz)) xArg := by
    intro r post hf hr h
    unfold wX_defineProperty_125
    refine hfX _ ?_
    rw [hf]
    refine br_t rfl (br_f (by decide) ?_)
    unfold wpX_leastLength
    rw [lN_i, h15]
    have hr2 := hr.2.1
    exact ⟨16 - r + 1, ob_leastX ho hn hP hr _ ⟨_, h⟩ (16 - r) 16 (by omega) (by omega)⟩
  have hFalse : fb = true → ∀ post : Int32 → SX → Prop, post 0 (nI n, nI d, nI b, deep, res, thr, thn, (fun zz => nI (CL zz)), cStr, cOp, cA, cB, (fun zz => nI (OK zz)), oKin, oOpen, xFc, xFs, xPc, xKo, xPk, (fun zz => ob_xa (tw zz) (te zz) (tc zz)), pVal, xSet, (fun zz => nI (S zz)), aOut, aVar, (fun zz => nI (FC zz)), (fun zz => nI (FP zz)), (fun zz => nI (FA zz)), (fun zz => nI (FH zz)), (fun zz => nI (XH zz)), (fun zz => nI (FT zz)), fSelf, xHeld, stk, (fun zz => nI (TA zz)), (fun zz => nI (TH zz)), xArg) → wX_defineProperty_125 post (nI o) (nI 16) (ob_xs true sG sS sW sE sC oW oE oC) (lN l') w 1 (nI (32 * o + 16)) 0 (nI n) (nI d) (nI b) deep res thr thn (fun zz => nI (CL zz)) cStr cOp cA cB (fun zz => nI (OK zz)) oKin oOpen xFc xFs xPc xKo xPk (fun zz => ob_xa (tw zz) (te zz) (tc zz)) pVal xSet (fun zz => nI (S zz)) aOut aVar (fun zz => nI (FC zz)) (fun zz => nI (FP zz)) (fun zz => nI (FA zz)) (fun zz => nI (FH zz)) (fun zz => nI (XH zz)) (fun zz => nI (FT zz)) fSelf xHeld stk (fun zz => nI (TA zz)) (fun zz => nI (TH zz)) xArg := by
    intro hf post hp
    unfold wX_defineProperty_125
    refine hfX _ ?_
    rw [hf]
    exact br_f (by decide) hp
  by_cases hll : l ≤ l'
  · have hle : pVal (32 * o + 16) ≤ lN l' := by rw [a5, lN_le (by omega) (by omega)]; exact hll
    have hY161 : ∀ post : Int32 → SY → Prop, wY_settle_161 post (nI o) (nI 16) (ob_ys true sG sS sW sE sC) (ob_yf pW pE pC) (lN l') wy (nI (32 * o + 16)) (nI (32 * o + 16)) 0 (nI n) (nI m) yGiven (nI d) deep (nI b) thr thn res cStr (fun zz => nI (CL zz)) cOp cA cB (fun zz => nI (OK zz)) oKin yCo yAr oOpen (fun zz => nI (M zz)) (fun zz => ob_yf (tw zz) (te zz) (tc zz)) yPair ySeen pVal ySet (fun zz => ob_th (S zz)) yStay aOut aVar yArg (fun zz => nI (FC zz)) (fun zz => nI (FA zz)) (fun zz => nI (FP zz)) (fun zz => nI (FH zz)) yHan (fun zz => nI (FT zz)) (fun zz => nI (TA zz)) (fun zz => nI (TH zz)) fSelf yKept stk → wpY_settle post (nI n, nI m, yGiven, nI d, deep, nI b, thr, thn, res, cStr, (fun zz => nI (CL zz)), cOp, cA, cB, (fun zz => nI (OK zz)), oKin, yCo, yAr, oOpen, (fun zz => nI (M zz)), (fun zz => ob_yf (tw zz) (te zz) (tc zz)), yPair, ySeen, pVal, ySet, (fun zz => ob_th (S zz)), yStay, aOut, aVar, yArg, (fun zz => nI (FC zz)), (fun zz => nI (FA zz)), (fun zz => nI (FP zz)), (fun zz => nI (FH zz)), yHan, (fun zz => nI (FT zz)), (fun zz => nI (TA zz)), (fun zz => nI (TH zz)), fSelf, yKept, stk) (nI o) (nI 16) (ob_ys true sG sS sW sE sC) (ob_yf pW pE pC) (lN l') wy := by
      intro post h
      refine hY114 post ?_
      unfold wY_settle_114
      refine br_f (by decide) ?_
      simp (disch := first | omega | decide) only [forall_eq, not_true, not_false_iff, false_implies, true_implies, true_and, and_true, ob_sub1, Nat.add_sub_cancel, nI_1, ob_ix, ob_iy, ob_ix24, ob_iy24, ob_ix10, ob_iy10, ob_ix4, ob_iy4, ob_ix3, ob_iy3, ob_s1, ob_s2, ob_s3, ob_s4, ob_ltl, ob_lel, ob_eql, ob_ltr, ob_ler, ob_uN, Nat.add_one_ne_zero, ob_xs3, ob_lnn, ob_ltn, ob_eqn, Nat.not_lt_zero, Nat.zero_le, Nat.reduceEqDiff, Nat.reduceLeDiff, Nat.reduceLT, ob_eqll, Int32.reduceLT, Int32.reduceLE, eq_self_iff_true]
      refine br_t hle ?_
      unfold wY_settle_144
      exact br_t rfl h
    cases hf : fb
    · have hrch : ob_rch M tc o l' l' := ⟨Nat.le_refl _, hl', fun q hq hq2 => Or.inl (a6 q (by omega) hq2), Or.inl rfl⟩
      obtain ⟨xPc1, xKo1, xPk1, hP1, hL1, hX1⟩ := ob_cutX (d := d) (b := b) (deep := deep) (res := res) (thr := thr) (thn := thn) (CL := CL) (cStr := cStr) (cOp := cOp) (cA := cA) (cB := cB) (OK := OK) (oKin := oKin) (oOpen := oOpen) (aOut := aOut) (aVar := aVar) (FC := FC) (FA := FA) (FP := FP) (FH := FH) (FT := FT) (fSelf := fSelf) (stk := stk) (TA := TA) (TH := TH) (xFc := xFc) (xFs := xFs) (te := te) (tc := tc) (S := S) (XH := XH) (xHeld := xHeld) (xArg := xArg) (M := M) (r := l') (x2 := nI 16) (x10 := nI (32 * o + 16)) (x11 := 0) (said := ob_xs true sG sS sW sE sC oW oE oC) (v := lN l') (w := w) ho hn hl' (16 - l') 16 xPc xKo xPk (by omega) (by omega) (by rw [ob_cut_16]; exact hP) (by rw [ob_cut_16]; exact hL)
      rw [ob_cut_e (fun q hq hq2 => a6 q (by omega) hq2)] at hP1 hL1
      obtain ⟨m', M', xPc', xKo', pVal', xPk', tw', te', tc', xSet', yPair', ySet', hP', hL', hm1, hm2, hMi, hoth, hF1, hF2, hX, hYY⟩ := ob_store (n := n) (d := d) (b := b) (m := m) (deep := deep) (res := res) (thr := thr) (thn := thn) (CL := CL) (cStr := cStr) (cOp := cOp) (cA := cA) (cB := cB) (OK := OK) (oKin := oKin) (oOpen := oOpen) (pVal := pVal) (aOut := aOut) (aVar := aVar) (FC := FC) (FA := FA) (FP := FP) (FH := FH) (FT := FT) (fSelf := fSelf) (stk := stk) (TA := TA) (TH := TH) (xFc := xFc) (xFs := xFs) (xPc := xPc1) (xKo := xKo1) (xPk := xPk1) (tw := tw) (te := te) (tc := tc) (xSet := xSet) (S := S) (XH := XH) (xHeld := xHeld) (xArg := xArg) (yCo := yCo) (yAr := yAr) (M := M) (yPair := yPair) (ySeen := ySeen) (ySet := ySet) (yStay := yStay) (yArg := yArg) (yHan := yHan) (yKept := yKept) (yGiven := yGiven) (k := 16) (sV := true) (sG := sG) (sS := sS) (sW := sW) (sE := sE) (sC := sC) (oW := oW) (oE := oE) (oC := oC) (v := lN l') (w := w) (wy := wy) hpo hO hP1 hL1 ho (by decide) hm hDA (fun _ => ob_lNV n (by omega)) hw
      obtain ⟨eqS, halw⟩ := hfb1 hf a1
      rw [a2, show decide ((0 : Int32) = 1) = false from rfl] at halw
      obtain ⟨c1, c2⟩ := ob_alwC halw a3
      obtain ⟨b1, b2, b3⟩ := hF1 a1 a2 c1
      refine ⟨1, m', M', xPc', xKo', pVal', xPk', tw', te', tc', xSet', yPair', ySet', hP', hL', ?_, hm2, Or.inr (Or.inr rfl), fun post hp => ?_, fun post hp => ?_⟩
      · refine ob_gY_st hY (by decide) hoth hMi (fun _ _ => ⟨b1, by rw [b3, a3]; exact ob_ifC c2, l', hl', b2, fun q hq hq2 => a6 q (by omega) hq2⟩) (fun _ h => absurd h (by decide))
      · refine hX125 post (hX164 l' post hf hrch (hX1 post ?_))
        rw [nI_l (by omega)]
        exact ob_dp189 (m' := m') (M' := M') (by decide) (by omega) false rfl post hX hp
      · exact hY161 post (hfY post _ _ (fun h2 => absurd (hf.symm.trans h2) (by decide)) (fun _ => ob_se201 (by decide) (by omega) false rfl post hYY hp))
    · exact ⟨0, m, M, xPc, xKo, pVal, xPk, tw, te, tc, xSet, yPair, ySet, hP, hL, hY, by omega, Or.inr (Or.inl rfl), fun post hp => hX125 post (hFalse hf post hp), fun post hp => hY161 post (hfY post _ _ (fun _ => hp) (fun h2 => absurd (hf.symm.trans h2) (by decide)))⟩
  · have hle : ¬ pVal (32 * o + 16) ≤ lN l' := by rw [a5, lN_le (by omega) (by omega)]; omega
    have hYsh : ∀ post : Int32 → SY → Prop, wpY_shorten (fun r u => post r u) (nI n, nI m, yGiven, nI d, deep, nI b, thr, thn, res, cStr, (fun zz => nI (CL zz)), cOp, cA, cB, (fun zz => nI (OK zz)), oKin, yCo, yAr, oOpen, (fun zz => nI (M zz)), (fun zz => ob_yf (tw zz) (te zz) (tc zz)), yPair, ySeen, pVal, ySet, (fun zz => ob_th (S zz)), yStay, aOut, aVar, yArg, (fun zz => nI (FC zz)), (fun zz => nI (FA zz)), (fun zz => nI (FP zz)), (fun zz => nI (FH zz)), yHan, (fun zz => nI (FT zz)), (fun zz => nI (TA zz)), (fun zz => nI (TH zz)), fSelf, yKept, stk) (nI o) (ob_ys true sG sS sW sE sC) (ob_yf pW pE pC) (nI l') → wpY_settle post (nI n, nI m, yGiven, nI d, deep, nI b, thr, thn, res, cStr, (fun zz => nI (CL zz)), cOp, cA, cB, (fun zz => nI (OK zz)), oKin, yCo, yAr, oOpen, (fun zz => nI (M zz)), (fun zz => ob_yf (tw zz) (te zz) (tc zz)), yPair, ySeen, pVal, ySet, (fun zz => ob_th (S zz)), yStay, aOut, aVar, yArg, (fun zz => nI (FC zz)), (fun zz => nI (FA zz)), (fun zz => nI (FP zz)), (fun zz => nI (FH zz)), yHan, (fun zz => nI (FT zz)), (fun zz => nI (TA zz)), (fun zz => nI (TH zz)), fSelf, yKept, stk) (nI o) (nI 16) (ob_ys true sG sS sW sE sC) (ob_yf pW pE pC) (lN l') wy := by
      intro post h
      refine hY114 post ?_
      unfold wY_settle_114
      refine br_f (by decide) ?_
      simp (disch := first | omega | decide) only [forall_eq, not_true, not_false_iff, false_implies, true_implies, true_and, and_true, ob_sub1, Nat.add_sub_cancel, nI_1, ob_ix, ob_iy, ob_ix24, ob_iy24, ob_ix10, ob_iy10, ob_ix4, ob_iy4, ob_ix3, ob_iy3, ob_s1, ob_s2, ob_s3, ob_s4, ob_ltl, ob_lel, ob_eql, ob_ltr, ob_ler, ob_uN, Nat.add_one_ne_zero, ob_xs3, ob_lnn, ob_ltn, ob_eqn, Nat.not_lt_zero, Nat.zero_le, Nat.reduceEqDiff, Nat.reduceLeDiff, Nat.reduceLT, ob_eqll, Int32.reduceLT, Int32.reduceLE, eq_self_iff_true]
      refine br_f hle ?_
      rw [lN_i]
      exact h
    cases htw : tw (32 * o + 16)
    · have hf : fb = true := by
        cases hh : fb
        · obtain ⟨eqS, halw⟩ := hfb1 hh a1
          have hne : decide (lN l' = pVal (32 * o + 16)) = false := by
            rw [a5]
            exact decide_eq_false (fun z => by have := (pk_lEQ (by omega) (by omega)).mp z; omega)
          rw [a2, a3, htw, hne, show decide ((0 : Int32) = 1) = false from rfl] at halw
          unfold ob_alw at halw
          simp at halw
        · rfl
      refine ⟨0, m, M, xPc, xKo, pVal, xPk, tw, te, tc, xSet, yPair, ySet, hP, hL, hY, by omega, Or.inr (Or.inl rfl), fun post hp => hX125 post (hFalse hf post hp), fun post hp => hYsh post ?_⟩
      unfold wpY_shorten
      rw [e16y]
      simp (disch := first | omega | decide) only [htw, forall_eq, not_true, not_false_iff, false_implies, true_implies, true_and, and_true, ob_sub1, Nat.add_sub_cancel, nI_1, ob_ix, ob_iy, ob_ix24, ob_iy24, ob_ix10, ob_iy10, ob_ix4, ob_iy4, ob_ix3, ob_iy3, ob_s1, ob_s2, ob_s3, ob_s4, ob_ltl, ob_lel, ob_eql, ob_ltr, ob_ler, ob_uN, Nat.add_one_ne_zero, ob_xs3, ob_lnn, ob_ltn, ob_eqn, Nat.not_lt_zero, Nat.zero_le, Nat.reduceEqDiff, Nat.reduceLeDiff, Nat.reduceLT, ob_eqll, Int32.reduceLT, Int32.reduceLE, eq_self_iff_true]
      exact br_t ((ob_yfW _ _ _).mpr rfl) hp
    · have hYal : ∀ post : Int32 → SY → Prop, (fb = true → post 0 (nI n, nI m, yGiven, nI d, deep, nI b, thr, thn, res, cStr, (fun zz => nI (CL zz)), cOp, cA, cB, (fun zz => nI (OK zz)), oKin, yCo, yAr, oOpen, (fun zz => nI (M zz)), (fun zz => ob_yf (tw zz) (te zz) (tc zz)), yPair, ySeen, pVal, ySet, (fun zz => ob_th (S zz)), yStay, aOut, aVar, yArg, (fun zz => nI (FC zz)), (fun zz => nI (FA zz)), (fun zz => nI (FP zz)), (fun zz => nI (FH zz)), yHan, (fun zz => nI (FT zz)), (fun zz => nI (TA zz)), (fun zz => nI (TH zz)), fSelf, yKept, stk)) → (fb = false → ∃ n44 : Nat, wY_shorten_44 post (nI o) (ob_ys true sG sS sW sE sC) (ob_yf pW pE pC) (nI l') (nI (32 * o + 16)) (nI n) (nI m) yGiven (nI d) deep (nI b) thr thn res n44 (nI (32 * o + 16) - 1) cStr (fun zz => nI (CL zz)) cOp cA cB (fun zz => nI (OK zz)) oKin yCo yAr oOpen (fun zz => nI (M zz)) (fun zz => ob_yf (tw zz) (te zz) (tc zz)) yPair ySeen pVal ySet (fun zz => ob_th (S zz)) yStay aOut aVar yArg (fun zz => nI (FC zz)) (fun zz => nI (FA zz)) (fun zz => nI (FP zz)) (fun zz => nI (FH zz)) yHan (fun zz => nI (FT zz)) (fun zz => nI (TA zz)) (fun zz => nI (TH zz)) fSelf yKept stk) → wpY_shorten (fun r u => post r u) (nI n, nI m, yGiven, nI d, deep, nI b, thr, thn, res, cStr, (fun zz => nI (CL zz)), cOp, cA, cB, (fun zz => nI (OK zz)), oKin, yCo, yAr, oOpen, (fun zz => nI (M zz)), (fun zz => ob_yf (tw zz) (te zz) (tc zz)), yPair, ySeen, pVal, ySet, (fun zz => ob_th (S zz)), yStay, aOut, aVar, yArg, (fun zz => nI (FC zz)), (fun zz => nI (FA zz)), (fun zz => nI (FP zz)), (fun zz => nI (FH zz)), yHan, (fun zz => nI (FT zz)), (fun zz => nI (TA zz)), (fun zz => nI (TH zz)), fSelf, yKept, stk) (nI o) (ob_ys true sG sS sW sE sC) (ob_yf pW pE pC) (nI l') := by
        intro post h1 h2
        unfold wpY_shorten
        rw [e16y]
        refine nm_e (nm_e ?_)
        have hin : vp_in (nI (32 * o + 16)) 1024 := vp_in_nI (by omega) (by decide)
        refine ⟨hin, ?_⟩
        rw [ob_s3 (by omega)]
        show ((ob_yf (tw (32 * o + 16)) (te (32 * o + 16)) (tc (32 * o + 16)) &&& 2) = 0 → _) ∧ (¬ (ob_yf (tw (32 * o + 16)) (te (32 * o + 16)) (tc (32 * o + 16)) &&& 2) = 0 → _)
        refine br_f (fun z => absurd (htw.symm.trans ((ob_yfW _ _ _).mp z)) (by decide)) ?_
        rw [nI_l (by omega)]
        refine ob_alwY hpo (by omega) (Or.inl a2) _ ?_
        cases hf : fb
        · obtain ⟨eqS, halw⟩ := hfb1 hf a1
          rw [a2, show decide ((0 : Int32) = 1) = false from rfl] at halw
          have halw2 : ob_alw true sG sS sW sE sC oW oE oC (tw (32 * o + 16)) (te (32 * o + 16)) (tc (32 * o + 16)) (decide (yPair (32 * o + 16) = 1)) (decide (lN l' = pVal (32 * o + 16))) (decide (0 = ySet (32 * o + 16))) = true := by
            rw [a2]
            exact halw
          rw [halw2]
          exact br_f (by decide) (h2 hf)
        · have halw2 : ob_alw true sG sS sW sE sC oW oE oC (tw (32 * o + 16)) (te (32 * o + 16)) (tc (32 * o + 16)) (decide (yPair (32 * o + 16) = 1)) (decide (lN l' = pVal (32 * o + 16))) (decide (0 = ySet (32 * o + 16))) = false := by
            rw [a2]
            exact hfb2 hf a1 a2 _
          rw [halw2]
          exact br_t rfl (h1 hf)
      cases hf : fb
      · obtain ⟨r, hr⟩ := ob_rch_ex M tc o l' (16 - l') 16 (by omega) (by omega) (fun q hq hq2 => absurd hq2 (by omega))
        have hr1 := hr.1
        have hr2 := hr.2.1
        obtain ⟨xPc1, xKo1, xPk1, hP1, hL1, hX1⟩ := ob_cutX (d := d) (b := b) (deep := deep) (res := res) (thr := thr) (thn := thn) (CL := CL) (cStr := cStr) (cOp := cOp) (cA := cA) (cB := cB) (OK := OK) (oKin := oKin) (oOpen := oOpen) (aOut := aOut) (aVar := aVar) (FC := FC) (FA := FA) (FP := FP) (FH := FH) (FT := FT) (fSelf := fSelf) (stk := stk) (TA := TA) (TH := TH) (xFc := xFc) (xFs := xFs) (te := te) (tc := tc) (S := S) (XH := XH) (xHeld := xHeld) (xArg := xArg) (M := M) (r := r) (x2 := nI 16) (x10 := nI (32 * o + 16)) (x11 := 0) (said := ob_xs true sG sS sW sE sC oW oE oC) (v := lN l') (w := w) ho hn hr2 (16 - r) 16 xPc xKo xPk (by omega) (by omega) (by rw [ob_cut_16]; exact hP) (by rw [ob_cut_16]; exact hL)
        have hcM : ob_cut M o r (32 * o + 16) = M (32 * o + 16) := ob_cut_lo M (by omega)
        obtain ⟨m', M', xPc', xKo', pVal', xPk', tw', te', tc', xSet', yPair', ySet', hP', hL', hm1, hm2, hMi, hoth, hF1, hF2, hX, hYY⟩ := ob_store (n := n) (d := d) (b := b) (m := m) (deep := deep) (res := res) (thr := thr) (thn := thn) (CL := CL) (cStr := cStr) (cOp := cOp) (cA := cA) (cB := cB) (OK := OK) (oKin := oKin) (oOpen := oOpen) (pVal := pVal) (aOut := aOut) (aVar := aVar) (FC := FC) (FA := FA) (FP := FP) (FH := FH) (FT := FT) (fSelf := fSelf) (stk := stk) (TA := TA) (TH := TH) (xFc := xFc) (xFs := xFs) (xPc := xPc1) (xKo := xKo1) (xPk := xPk1) (tw := tw) (te := te) (tc := tc) (xSet := xSet) (S := S) (XH := XH) (xHeld := xHeld) (xArg := xArg) (yCo := yCo) (yAr := yAr) (M := (ob_cut M o r)) (yPair := yPair) (ySeen := ySeen) (ySet := ySet) (yStay := yStay) (yArg := yArg) (yHan := yHan) (yKept := yKept) (yGiven := yGiven) (k := 16) (sV := true) (sG := sG) (sS := sS) (sW := sW) (sE := sE) (sC := sC) (oW := oW) (oE := oE) (oC := oC) (v := lN r) (w := w) (wy := 0) hpo hO hP1 hL1 ho (by decide) hm hDA (fun _ => ob_lNV n (by omega)) (fun h => absurd (hsS.symm.trans h) (by decide))
        obtain ⟨eqS, halw⟩ := hfb1 hf a1
        rw [a2, show decide ((0 : Int32) = 1) = false from rfl] at halw
        obtain ⟨c1, c2⟩ := ob_alwC halw a3
        obtain ⟨b1, b2, b3⟩ := hF1 (by rw [hcM]; exact a1) a2 c1
        refine ⟨if r = l' then 1 else 0, m', M', xPc', xKo', pVal', xPk', tw', te', tc', xSet', yPair', ySet', hP', hL', ?_, hm2, ?_, fun post hp => ?_, fun post hp => ?_⟩
        · refine ob_gY_st (ob_gY_cut hY) (by decide) hoth hMi (fun _ _ => ⟨b1, by rw [b3, a3]; exact ob_ifC c2, r, hr2, b2, fun q hq hq2 => ?_⟩) (fun _ h => absurd h (by decide))
          unfold ob_cut
          rw [if_pos (by omega)]
        · split
          · exact Or.inr (Or.inr rfl)
          · exact Or.inr (Or.inl rfl)
        · refine hX125 post (hX164 r post hf hr (hX1 post ?_))
          rw [nI_l (by omega)]
          unfold wX_defineProperty_189
          refine hX _ ?_
          refine br_t rfl ?_
          unfold wX_defineProperty_216
          by_cases hrl : r = l'
          · rw [if_pos hrl] at hp
            exact br_t (by rw [hrl]) hp
          · rw [if_neg hrl] at hp
            exact br_f (fun z => hrl ((pk_lEQ (by omega) (by omega)).mp z)) hp
        · refine hYsh post (hYal post (fun h => absurd (hf.symm.trans h) (by decide)) (fun _ => ⟨16 - r + 1, ?_⟩))
          have hcy := ob_cutY (n := n) (d := d) (b := b) (m := m) (deep := deep) (res := res) (thr := thr) (thn := thn) (CL := CL) (cStr := cStr) (cOp := cOp) (cA := cA) (cB := cB) (OK := OK) (oKin := oKin) (oOpen := oOpen) (pVal := pVal) (aOut := aOut) (aVar := aVar) (FC := FC) (FA := FA) (FP := FP) (FH := FH) (FT := FT) (fSelf := fSelf) (stk := stk) (TA := TA) (TH := TH) (tw := tw) (te := te) (tc := tc) (S := S) (yCo := yCo) (yAr := yAr) (M := M) (yPair := yPair) (ySeen := ySeen) (ySet := ySet) (yStay := yStay) (yArg := yArg) (yHan := yHan) (yKept := yKept) (yGiven := yGiven) (said := ob_ys true sG sS sW sE sC) (on := ob_yf pW pE pC) (l := l') (r := r) (by omega) hl' hP.1 hm hr post ?_ (16 - r) 16 (by omega) (by omega)
          · rw [ob_cut_16] at hcy
            rw [Int32.sub_eq_add_neg]
            exact hcy
          · unfold wY_shorten_93
            have e1 : (nI (32 * o + r) + (-1) + 1 - 32 * nI o).toInt64 = lN r := by
              rw [ob_m1p, show 32 * nI o = nI (32 * o) from pk_mul 32 o, pk_sub (by omega), Nat.add_sub_cancel_left, nI_l (by omega)]
            rw [e1, ob_iy]
            refine hYY _ ?_
            by_cases hrl : r = l'
            · rw [if_pos hrl] at hp
              subst hrl
              exact br_f (Int32.not_le.mpr (ob_m1lt (by omega))) hp
            · rw [if_neg hrl] at hp
              obtain ⟨q, rfl⟩ : ∃ q, r = q + 1 := ⟨r - 1, by omega⟩
              refine br_t ?_ hp
              rw [show 32 * o + (q + 1) = (32 * o + q) + 1 from rfl, pk_m1]
              exact nI_le (by omega) (by omega)
      · exact ⟨0, m, M, xPc, xKo, pVal, xPk, tw, te, tc, xSet, yPair, ySet, hP, hL, hY, by omega, Or.inr (Or.inl rfl), fun post hp => hX125 post (hFalse hf post hp), fun post hp => hYsh post (hYal post (fun _ => hp) (fun h2 => absurd (hf.symm.trans h2) (by decide)))⟩
/-- DEFINE: one answer, related states -/
theorem ob_settle (hpo : ob_po sW sE sC oW oE oC pW pE pC) (R : ob_R n d b m res thr thn CL cOp cA cB OK oKin pVal aOut aVar FC FA FP FH FT fSelf stk TA TH xFc xFs xPc xKo xPk tw tc xSet S XH xHeld yCo yAr M yPair ySet yStay yHan yKept) (ho : o < n) (hk : k < 32) (hm : m < 2 ^ 31) (hDA : ((sV || sW) && (sG || sS)) = false) (hv : (sV || sG) = true → ob_V n v) (hw : sS = true → ob_V n wy ∧ w = wy) :
    ∃ (r : Int32) (m' : Nat) (M' : Nat → Nat) (xPc' : Nat → Int32) (xKo' : Nat → Int32) (pVal' : Nat → Int64) (xPk' : Nat → Int32) (tw' : Nat → Bool) (te' : Nat → Bool) (tc' : Nat → Bool) (xSet' : Nat → Int64) (yPair' : Nat → Int32) (ySet' : Nat → Int64), ob_R n d b m' res thr thn CL cOp cA cB OK oKin pVal' aOut aVar FC FA FP FH FT fSelf stk TA TH xFc xFs xPc' xKo' xPk' tw' tc' xSet' S XH xHeld yCo yAr M' yPair' ySet' yStay yHan yKept ∧ m' ≤ m + 1 ∧ (r = -2 ∨ r = 0 ∨ r = 1) ∧
      (∀ post : Int32 → SX → Prop, post r (nI n, nI d, nI b, deep, res, thr, thn, (fun zz => nI (CL zz)), cStr, cOp, cA, cB, (fun zz => nI (OK zz)), oKin, oOpen, xFc, xFs, xPc', xKo', xPk', (fun zz => ob_xa (tw' zz) (te' zz) (tc' zz)), pVal', xSet', (fun zz => nI (S zz)), aOut, aVar, (fun zz => nI (FC zz)), (fun zz => nI (FP zz)), (fun zz => nI (FA zz)), (fun zz => nI (FH zz)), (fun zz => nI (XH zz)), (fun zz => nI (FT zz)), fSelf, xHeld, stk, (fun zz => nI (TA zz)), (fun zz => nI (TH zz)), xArg) → wpX_defineProperty post (nI n, nI d, nI b, deep, res, thr, thn, (fun zz => nI (CL zz)), cStr, cOp, cA, cB, (fun zz => nI (OK zz)), oKin, oOpen, xFc, xFs, xPc, xKo, xPk, (fun zz => ob_xa (tw zz) (te zz) (tc zz)), pVal, xSet, (fun zz => nI (S zz)), aOut, aVar, (fun zz => nI (FC zz)), (fun zz => nI (FP zz)), (fun zz => nI (FA zz)), (fun zz => nI (FH zz)), (fun zz => nI (XH zz)), (fun zz => nI (FT zz)), fSelf, xHeld, stk, (fun zz => nI (TA zz)), (fun zz => nI (TH zz)), xArg) (nI o) (nI k) (ob_xs sV sG sS sW sE sC oW oE oC) v w) ∧
      (∀ post : Int32 → SY → Prop, post r (nI n, nI m', yGiven, nI d, deep, nI b, thr, thn, res, cStr, (fun zz => nI (CL zz)), cOp, cA, cB, (fun zz => nI (OK zz)), oKin, yCo, yAr, oOpen, (fun zz => nI (M' zz)), (fun zz => ob_yf (tw' zz) (te' zz) (tc' zz)), yPair', ySeen, pVal', ySet', (fun zz => ob_th (S zz)), yStay, aOut, aVar, yArg, (fun zz => nI (FC zz)), (fun zz => nI (FA zz)), (fun zz => nI (FP zz)), (fun zz => nI (FH zz)), yHan, (fun zz => nI (FT zz)), (fun zz => nI (TA zz)), (fun zz => nI (TH zz)), fSelf, yKept, stk) → wpY_settle post (nI n, nI m, yGiven, nI d, deep, nI b, thr, thn, res, cStr, (fun zz => nI (CL zz)), cOp, cA, cB, (fun zz => nI (OK zz)), oKin, yCo, yAr, oOpen, (fun zz => nI (M zz)), (fun zz => ob_yf (tw zz) (te zz) (tc zz)), yPair, ySeen, pVal, ySet, (fun zz => ob_th (S zz)), yStay, aOut, aVar, yArg, (fun zz => nI (FC zz)), (fun zz => nI (FA zz)), (fun zz => nI (FP zz)), (fun zz => nI (FH zz)), yHan, (fun zz => nI (FT zz)), (fun zz => nI (TA zz)), (fun zz => nI (TH zz)), fSelf, yKept, stk) (nI o) (nI k) (ob_ys sV sG sS sW sE sC) (ob_yf pW pE pC) v wy) := by
  obtain ⟨hC, hO, hP, hL, hY, hA, hF, hT⟩ := R
  by_cases hns : OK o = 1 ∧ k = 16 ∧ sV = true
  · obtain ⟨h1, rfl, rfl⟩ := hns
    obtain ⟨r, m', M', xPc', xKo', pVal', xPk', tw', te', tc', xSet', yPair', ySet', g1, g2, g3, g4, g5, g6, g7⟩ := ob_settleS (n := n) (d := d) (b := b) (m := m) (deep := deep) (res := res) (thr := thr) (thn := thn) (CL := CL) (cStr := cStr) (cOp := cOp) (cA := cA) (cB := cB) (OK := OK) (oKin := oKin) (oOpen := oOpen) (pVal := pVal) (aOut := aOut) (aVar := aVar) (FC := FC) (FA := FA) (FP := FP) (FH := FH) (FT := FT) (fSelf := fSelf) (stk := stk) (TA := TA) (TH := TH) (xFc := xFc) (xFs := xFs) (xPc := xPc) (xKo := xKo) (xPk := xPk) (tw := tw) (te := te) (tc := tc) (xSet := xSet) (S := S) (XH := XH) (xHeld := xHeld) (xArg := xArg) (yCo := yCo) (yAr := yAr) (M := M) (yPair := yPair) (ySeen := ySeen) (ySet := ySet) (yStay := yStay) (yArg := yArg) (yHan := yHan) (yKept := yKept) (yGiven := yGiven) (sG := sG) (sS := sS) (sW := sW) (sE := sE) (sC := sC) (oW := oW) (oE := oE) (oC := oC) (v := v) (w := w) (wy := wy) hpo hO hP hL hY ho hm hDA hw h1
    exact ⟨r, m', M', xPc', xKo', pVal', xPk', tw', te', tc', xSet', yPair', ySet', ⟨hC, hO, g1, g2, g3, hA, hF, hT⟩, g4, g5, g6, g7⟩
  · obtain ⟨r, m', M', xPc', xKo', pVal', xPk', tw', te', tc', xSet', yPair', ySet', g1, g2, g3, g4, g5, g6, g7⟩ := ob_settleN (n := n) (d := d) (b := b) (m := m) (deep := deep) (res := res) (thr := thr) (thn := thn) (CL := CL) (cStr := cStr) (cOp := cOp) (cA := cA) (cB := cB) (OK := OK) (oKin := oKin) (oOpen := oOpen) (pVal := pVal) (aOut := aOut) (aVar := aVar) (FC := FC) (FA := FA) (FP := FP) (FH := FH) (FT := FT) (fSelf := fSelf) (stk := stk) (TA := TA) (TH := TH) (xFc := xFc) (xFs := xFs) (xPc := xPc) (xKo := xKo) (xPk := xPk) (tw := tw) (te := te) (tc := tc) (xSet := xSet) (S := S) (XH := XH) (xHeld := xHeld) (xArg := xArg) (yCo := yCo) (yAr := yAr) (M := M) (yPair := yPair) (ySeen := ySeen) (ySet := ySet) (yStay := yStay) (yArg := yArg) (yHan := yHan) (yKept := yKept) (yGiven := yGiven) (sV := sV) (sG := sG) (sS := sS) (sW := sW) (sE := sE) (sC := sC) (oW := oW) (oE := oE) (oC := oC) (v := v) (w := w) (wy := wy) hpo hO hP hL hY ho hk hm hDA hv hw hns
    exact ⟨r, m', M', xPc', xKo', pVal', xPk', tw', te', tc', xSet', yPair', ySet', ⟨hC, hO, g1, g2, g3, hA, hF, hT⟩, g4, g5, g6, g7⟩
end
end
section
/-! ===== PUT ===== -/
section
variable {n : Nat} {d : Nat} {b : Nat} {m : Nat} {deep : Int32} {res : Int64} {thr : Int32} {thn : Int64} {CL : Nat → Nat} {cStr : Nat → Int32} {cOp : Nat → Int32} {cA : Nat → Int32} {cB : Nat → Int32} {OK : Nat → Nat} {oKin : Nat → Int32} {oOpen : Nat → Int32} {pVal : Nat → Int64} {aOut : Nat → Int32} {aVar : Nat → Int64} {FC : Nat → Nat} {FA : Nat → Nat} {FP : Nat → Nat} {FH : Nat → Nat} {FT : Nat → Nat} {fSelf : Nat → Int64} {stk : Nat → Int64} {TA : Nat → Nat} {TH : Nat → Nat} {xFc : Nat → Int32} {xFs : Nat → Int32} {xPc : Nat → Int32} {xKo : Nat → Int32} {xPk : Nat → Int32} {tw : Nat → Bool} {te : Nat → Bool} {tc : Nat → Bool} {xSet : Nat → Int64} {S : Nat → Nat} {XH : Nat → Nat} {xHeld : Nat → Int64} {xArg : Nat → Int64} {yCo : Nat → Int32} {yAr : Nat → Int32} {M : Nat → Nat} {yPair : Nat → Int32} {ySeen : Nat → Int32} {ySet : Nat → Int64} {yStay : Nat → Int32} {yArg : Nat → Int64} {yHan : Nat → Int32} {yKept : Nat → Int64} {yGiven : Int32}
variable {o k i l B w : Nat} {base v : Int64} {strict : Int32}
theorem ob_fin (R : ob_R n d b m res thr thn CL cOp cA cB OK oKin pVal aOut aVar FC FA FP FH FT fSelf stk TA TH xFc xFs xPc xKo xPk tw tc xSet S XH xHeld yCo yAr M yPair ySet yStay yHan yKept) (hv : ob_V n v) (hm : m ≤ B) (hw : 4 * d + ob_hs XH d ≤ w) {r : Int32} (hr : r = -2 ∨ r = 0 ∨ r = 1) :
    ∃ u' v', ob_S b B w u' v' ∧ (∀ post : SX → Prop, post u' → wX_putValue_201 post v strict r (nI n) (nI d) (nI b) deep res thr thn (fun zz => nI (CL zz)) cStr cOp cA cB (fun zz => nI (OK zz)) oKin oOpen xFc xFs xPc xKo xPk (fun zz => ob_xa (tw zz) (te zz) (tc zz)) pVal xSet (fun zz => nI (S zz)) aOut aVar (fun zz => nI (FC zz)) (fun zz => nI (FP zz)) (fun zz => nI (FA zz)) (fun zz => nI (FH zz)) (fun zz => nI (XH zz)) (fun zz => nI (FT zz)) fSelf xHeld stk (fun zz => nI (TA zz)) (fun zz => nI (TH zz)) xArg) ∧ (∀ post : SY → Prop, post v' → wY_store_235 post v strict r (nI n) (nI m) yGiven (nI d) deep (nI b) thr thn res cStr (fun zz => nI (CL zz)) cOp cA cB (fun zz => nI (OK zz)) oKin yCo yAr oOpen (fun zz => nI (M zz)) (fun zz => ob_yf (tw zz) (te zz) (tc zz)) yPair ySeen pVal ySet (fun zz => ob_th (S zz)) yStay aOut aVar yArg (fun zz => nI (FC zz)) (fun zz => nI (FA zz)) (fun zz => nI (FP zz)) (fun zz => nI (FH zz)) yHan (fun zz => nI (FT zz)) (fun zz => nI (TA zz)) (fun zz => nI (TH zz)) fSelf yKept stk) := by
  have hpush : (r = 1 ∨ r = 0 ∧ strict = 0) → ∃ u' v', ob_S b B w u' v' ∧ (∀ post : SX → Prop, post u' → wX_putValue_201 post v strict r (nI n) (nI d) (nI b) deep res thr thn (fun zz => nI (CL zz)) cStr cOp cA cB (fun zz => nI (OK zz)) oKin oOpen xFc xFs xPc xKo xPk (fun zz => ob_xa (tw zz) (te zz) (tc zz)) pVal xSet (fun zz => nI (S zz)) aOut aVar (fun zz => nI (FC zz)) (fun zz => nI (FP zz)) (fun zz => nI (FA zz)) (fun zz => nI (FH zz)) (fun zz => nI (XH zz)) (fun zz => nI (FT zz)) fSelf xHeld stk (fun zz => nI (TA zz)) (fun zz => nI (TH zz)) xArg) ∧ (∀ post : SY → Prop, post v' → wY_store_235 post v strict r (nI n) (nI m) yGiven (nI d) deep (nI b) thr thn res cStr (fun zz => nI (CL zz)) cOp cA cB (fun zz => nI (OK zz)) oKin yCo yAr oOpen (fun zz => nI (M zz)) (fun zz => ob_yf (tw zz) (te zz) (tc zz)) yPair ySeen pVal ySet (fun zz => ob_th (S zz)) yStay aOut aVar yArg (fun zz => nI (FC zz)) (fun zz => nI (FA zz)) (fun zz => nI (FP zz)) (fun zz => nI (FH zz)) yHan (fun zz => nI (FT zz)) (fun zz => nI (TA zz)) (fun zz => nI (TH zz)) fSelf yKept stk) := by
    intro h
    obtain ⟨res', thr', thn', FH', stk', R2, hXp, hYp⟩ := ob_push (deep := deep) (cStr := cStr) (oOpen := oOpen) (te := te) (xArg := xArg) (ySeen := ySeen) (yArg := yArg) (yGiven := yGiven) R hv
    refine ⟨_, _, ob_S_mk (deep := deep) (cStr := cStr) (oOpen := oOpen) (te := te) (xArg := xArg) (ySeen := ySeen) (yArg := yArg) (yGiven := yGiven) R2 hm hw, fun post hp => ?_, fun post hp => ?_⟩
    · unfold wX_putValue_201 wX_putValue_238
      rcases h with rfl | ⟨rfl, h⟩
      · exact br_f (by decide) (br_f (by decide) (hXp _ hp))
      · exact br_f (by decide) (br_t rfl (br_t h (hXp _ hp)))
    · unfold wY_store_235 wY_store_271
      rcases h with rfl | ⟨rfl, h⟩
      · exact br_f (by decide) (br_f (by decide) (hYp _ hp))
      · exact br_f (by decide) (br_t rfl (br_t h (hYp _ hp)))
  rcases hr with rfl | rfl | rfl
  · refine ⟨_, _, ob_S_mk (deep := deep) (cStr := cStr) (oOpen := oOpen) (te := te) (xArg := xArg) (ySeen := ySeen) (yArg := yArg) (yGiven := yGiven) (ob_raise R (ob_V_Ra n)) hm hw, fun post hp => ?_, fun post hp => ?_⟩
    · unfold wX_putValue_201
      exact br_t rfl hp
    · unfold wY_store_235 wY_store_250 wY_store_265
      exact br_t (by decide) (br_f (by decide) hp)
  · by_cases hs : strict = 0
    · exact hpush (Or.inr ⟨rfl, hs⟩)
    · refine ⟨_, _, ob_S_mk (deep := deep) (cStr := cStr) (oOpen := oOpen) (te := te) (xArg := xArg) (ySeen := ySeen) (yArg := yArg) (yGiven := yGiven) (ob_raise R (ob_V_Ty n)) hm hw, fun post hp => ?_, fun post hp => ?_⟩
      · unfold wX_putValue_201
        exact br_f (by decide) (br_t rfl (br_f hs hp))
      · unfold wY_store_235 wY_store_250 wY_store_265
        exact br_f (by decide) (br_t rfl (br_f hs (br_t (by decide) hp)))
  · exact hpush (Or.inl rfl)
theorem ob_putv (R : ob_R n d b m res thr thn CL cOp cA cB OK oKin pVal aOut aVar FC FA FP FH FT fSelf stk TA TH xFc xFs xPc xKo xPk tw tc xSet S XH xHeld yCo yAr M yPair ySet yStay yHan yKept) (hres : res = 8589934592) (hb : ob_V n base) (hv : ob_V n v) (hk : k < 32) (hm : m + 1 ≤ B) (hB : B < 2 ^ 31) (hw : 4 * d + ob_hs XH d ≤ w) :
    ∃ u' v', ob_S b B (w + 4) u' v' ∧ (∀ post : SX → Prop, post u' → wpX_putValue post (nI n, nI d, nI b, deep, res, thr, thn, (fun zz => nI (CL zz)), cStr, cOp, cA, cB, (fun zz => nI (OK zz)), oKin, oOpen, xFc, xFs, xPc, xKo, xPk, (fun zz => ob_xa (tw zz) (te zz) (tc zz)), pVal, xSet, (fun zz => nI (S zz)), aOut, aVar, (fun zz => nI (FC zz)), (fun zz => nI (FP zz)), (fun zz => nI (FA zz)), (fun zz => nI (FH zz)), (fun zz => nI (XH zz)), (fun zz => nI (FT zz)), fSelf, xHeld, stk, (fun zz => nI (TA zz)), (fun zz => nI (TH zz)), xArg) base (nI k) v strict) ∧ (∀ post : SY → Prop, post v' → wpY_store post (nI n, nI m, yGiven, nI d, deep, nI b, thr, thn, res, cStr, (fun zz => nI (CL zz)), cOp, cA, cB, (fun zz => nI (OK zz)), oKin, yCo, yAr, oOpen, (fun zz => nI (M zz)), (fun zz => ob_yf (tw zz) (te zz) (tc zz)), yPair, ySeen, pVal, ySet, (fun zz => ob_th (S zz)), yStay, aOut, aVar, yArg, (fun zz => nI (FC zz)), (fun zz => nI (FA zz)), (fun zz => nI (FP zz)), (fun zz => nI (FH zz)), yHan, (fun zz => nI (FT zz)), (fun zz => nI (TA zz)), (fun zz => nI (TH zz)), fSelf, yKept, stk) base (nI k) v strict) := by
  have hn : n ≤ 32 := R.2.1.1.2
  /- nothing done -/
  have hno : (∀ post : SX → Prop, wX_putValue_201 post v strict 0 (nI n) (nI d) (nI b) deep res thr thn (fun zz => nI (CL zz)) cStr cOp cA cB (fun zz => nI (OK zz)) oKin oOpen xFc xFs xPc xKo xPk (fun zz => ob_xa (tw zz) (te zz) (tc zz)) pVal xSet (fun zz => nI (S zz)) aOut aVar (fun zz => nI (FC zz)) (fun zz => nI (FP zz)) (fun zz => nI (FA zz)) (fun zz => nI (FH zz)) (fun zz => nI (XH zz)) (fun zz => nI (FT zz)) fSelf xHeld stk (fun zz => nI (TA zz)) (fun zz => nI (TH zz)) xArg → wpX_putValue post (nI n, nI d, nI b, deep, res, thr, thn, (fun zz => nI (CL zz)), cStr, cOp, cA, cB, (fun zz => nI (OK zz)), oKin, oOpen, xFc, xFs, xPc, xKo, xPk, (fun zz => ob_xa (tw zz) (te zz) (tc zz)), pVal, xSet, (fun zz => nI (S zz)), aOut, aVar, (fun zz => nI (FC zz)), (fun zz => nI (FP zz)), (fun zz => nI (FA zz)), (fun zz => nI (FH zz)), (fun zz => nI (XH zz)), (fun zz => nI (FT zz)), fSelf, xHeld, stk, (fun zz => nI (TA zz)), (fun zz => nI (TH zz)), xArg) base (nI k) v strict) → (∀ post : SY → Prop, wY_store_235 post v strict 0 (nI n) (nI m) 1 (nI d) deep (nI b) thr thn res cStr (fun zz => nI (CL zz)) cOp cA cB (fun zz => nI (OK zz)) oKin yCo yAr oOpen (fun zz => nI (M zz)) (fun zz => ob_yf (tw zz) (te zz) (tc zz)) yPair ySeen pVal ySet (fun zz => ob_th (S zz)) yStay aOut aVar (vp_updL yArg 0 v) (fun zz => nI (FC zz)) (fun zz => nI (FA zz)) (fun zz => nI (FP zz)) (fun zz => nI (FH zz)) yHan (fun zz => nI (FT zz)) (fun zz => nI (TA zz)) (fun zz => nI (TH zz)) fSelf yKept stk → wpY_store post (nI n, nI m, yGiven, nI d, deep, nI b, thr, thn, res, cStr, (fun zz => nI (CL zz)), cOp, cA, cB, (fun zz => nI (OK zz)), oKin, yCo, yAr, oOpen, (fun zz => nI (M zz)), (fun zz => ob_yf (tw zz) (te zz) (tc zz)), yPair, ySeen, pVal, ySet, (fun zz => ob_th (S zz)), yStay, aOut, aVar, yArg, (fun zz => nI (FC zz)), (fun zz => nI (FA zz)), (fun zz => nI (FP zz)), (fun zz => nI (FH zz)), yHan, (fun zz => nI (FT zz)), (fun zz => nI (TA zz)), (fun zz => nI (TH zz)), fSelf, yKept, stk) base (nI k) v strict) →
      ∃ u' v', ob_S b B (w + 4) u' v' ∧ (∀ post : SX → Prop, post u' → wpX_putValue post (nI n, nI d, nI b, deep, res, thr, thn, (fun zz => nI (CL zz)), cStr, cOp, cA, cB, (fun zz => nI (OK zz)), oKin, oOpen, xFc, xFs, xPc, xKo, xPk, (fun zz => ob_xa (tw zz) (te zz) (tc zz)), pVal, xSet, (fun zz => nI (S zz)), aOut, aVar, (fun zz => nI (FC zz)), (fun zz => nI (FP zz)), (fun zz => nI (FA zz)), (fun zz => nI (FH zz)), (fun zz => nI (XH zz)), (fun zz => nI (FT zz)), fSelf, xHeld, stk, (fun zz => nI (TA zz)), (fun zz => nI (TH zz)), xArg) base (nI k) v strict) ∧ (∀ post : SY → Prop, post v' → wpY_store post (nI n, nI m, yGiven, nI d, deep, nI b, thr, thn, res, cStr, (fun zz => nI (CL zz)), cOp, cA, cB, (fun zz => nI (OK zz)), oKin, yCo, yAr, oOpen, (fun zz => nI (M zz)), (fun zz => ob_yf (tw zz) (te zz) (tc zz)), yPair, ySeen, pVal, ySet, (fun zz => ob_th (S zz)), yStay, aOut, aVar, yArg, (fun zz => nI (FC zz)), (fun zz => nI (FA zz)), (fun zz => nI (FP zz)), (fun zz => nI (FH zz)), yHan, (fun zz => nI (FT zz)), (fun zz => nI (TA zz)), (fun zz => nI (TH zz)), fSelf, yKept, stk) base (nI k) v strict) := by
    intro hX hY
    obtain ⟨u', v', hS, h1, h2⟩ := ob_fin (deep := deep) (cStr := cStr) (oOpen := oOpen) (te := te) (xArg := xArg) (ySeen := ySeen) (yArg := (vp_updL yArg 0 v)) (yGiven := 1) (strict := strict) (B := B) (w := w + 4) R hv (by omega) (by omega) (Or.inr (Or.inl rfl))
    exact ⟨u', v', hS, fun post hp => hX post (h1 post hp), fun post hp => hY post (h2 post hp)⟩
  have hTY : (base = 8589934592 ∨ base = 8589934593) → base < 17179869184 → ∃ u' v', ob_S b B (w + 4) u' v' ∧ (∀ post : SX → Prop, post u' → wpX_putValue post (nI n, nI d, nI b, deep, res, thr, thn, (fun zz => nI (CL zz)), cStr, cOp, cA, cB, (fun zz => nI (OK zz)), oKin, oOpen, xFc, xFs, xPc, xKo, xPk, (fun zz => ob_xa (tw zz) (te zz) (tc zz)), pVal, xSet, (fun zz => nI (S zz)), aOut, aVar, (fun zz => nI (FC zz)), (fun zz => nI (FP zz)), (fun zz => nI (FA zz)), (fun zz => nI (FH zz)), (fun zz => nI (XH zz)), (fun zz => nI (FT zz)), fSelf, xHeld, stk, (fun zz => nI (TA zz)), (fun zz => nI (TH zz)), xArg) base (nI k) v strict) ∧ (∀ post : SY → Prop, post v' → wpY_store post (nI n, nI m, yGiven, nI d, deep, nI b, thr, thn, res, cStr, (fun zz => nI (CL zz)), cOp, cA, cB, (fun zz => nI (OK zz)), oKin, yCo, yAr, oOpen, (fun zz => nI (M zz)), (fun zz => ob_yf (tw zz) (te zz) (tc zz)), yPair, ySeen, pVal, ySet, (fun zz => ob_th (S zz)), yStay, aOut, aVar, yArg, (fun zz => nI (FC zz)), (fun zz => nI (FA zz)), (fun zz => nI (FP zz)), (fun zz => nI (FH zz)), yHan, (fun zz => nI (FT zz)), (fun zz => nI (TA zz)), (fun zz => nI (TH zz)), fSelf, yKept, stk) base (nI k) v strict) := by
    intro hbs hlt
    refine ⟨_, _, ob_S_mk (deep := deep) (cStr := cStr) (oOpen := oOpen) (te := te) (xArg := xArg) (ySeen := ySeen) (yArg := (vp_updL yArg 0 v)) (yGiven := 1) (ob_raise R (ob_V_Ty n)) (by omega : m ≤ B) (by omega), fun post hp => ?_, fun post hp => ?_⟩
    · unfold wpX_putValue wX_putValue_16
      rcases hbs with h | h
      · exact br_t h hp
      · by_cases hU : base = 8589934592
        · exact br_t hU hp
        · exact br_f hU (br_t h hp)
    · unfold wpY_store
      refine ob_isoF hlt _ (br_t rfl ?_)
      unfold wY_store_15
      refine br_f (by decide) ?_
      unfold wY_store_33
      refine br_t (by decide) ?_
      unfold wY_store_57 wY_store_58
      refine br_t (by decide) ?_
      unfold wY_store_111 wY_store_112
      refine nm_e (br_t rfl ?_)
      unfold wY_store_157 wY_store_173
      rcases hbs with h | h
      · exact br_t h hp
      · by_cases hU : base = 8589934592
        · exact br_t hU hp
        · exact br_f hU (br_t h hp)
  by_cases hU : base = 8589934592
  · exact hTY (Or.inl hU) (by rw [hU]; decide)
  by_cases hN : base = 8589934593
  · exact hTY (Or.inr hN) (by rw [hN]; decide)
  rcases ob_cls hb with hl | ⟨o, ho, rfl⟩
  · refine hno (fun post hp => ?_) (fun post hp => ?_)
    · unfold wpX_putValue
      refine br_f hU (br_f hN (ob_objN hl _ ?_))
      refine ob_findN _ (br_t (by decide) ?_)
      unfold wX_putValue_95 wX_putValue_116 wX_putValue_117 wX_putValue_140 wX_putValue_141
      exact br_t (by decide) (br_t (by decide) (br_t (by decide) hp))
    · unfold wpY_store
      refine ob_isoF hl _ (br_t rfl ?_)
      unfold wY_store_15
      refine br_f (by decide) ?_
      unfold wY_store_33
      refine br_t (by decide) ?_
      unfold wY_store_57 wY_store_58
      refine br_t (by decide) ?_
      unfold wY_store_111 wY_store_112
      refine nm_e (br_t rfl ?_)
      unfold wY_store_157
      exact br_f hU (br_f hN (br_t (by decide) hp))
  obtain ⟨r, hr, hXl, hYl⟩ := ob_look (n := n) (d := d) (b := b) (m := m) (deep := deep) (res := res) (thr := thr) (thn := thn) (CL := CL) (cStr := cStr) (cOp := cOp) (cA := cA) (cB := cB) (OK := OK) (oKin := oKin) (oOpen := oOpen) (pVal := pVal) (aOut := aOut) (aVar := aVar) (FC := FC) (FA := FA) (FP := FP) (FH := FH) (FT := FT) (fSelf := fSelf) (stk := stk) (TA := TA) (TH := TH) (xFc := xFc) (xFs := xFs) (xPc := xPc) (xKo := xKo) (xPk := xPk) (tw := tw) (te := te) (tc := tc) (xSet := xSet) (S := S) (XH := XH) (xHeld := xHeld) (xArg := xArg) (yCo := yCo) (yAr := yAr) (M := M) (yPair := yPair) (ySeen := ySeen) (ySet := ySet) (yStay := yStay) (yArg := yArg) (yHan := yHan) (yKept := yKept) (yGiven := yGiven) R.2.1 R.2.2.1 (by omega) hk ho
  have hY33 : ∀ post : SY → Prop, wY_store_33 post (lN (17179869184 + o)) (nI k) v strict (nI o) r (nI n) (nI m) yGiven (nI d) deep (nI b) thr thn res cStr (fun zz => nI (CL zz)) cOp cA cB (fun zz => nI (OK zz)) oKin yCo yAr oOpen (fun zz => nI (M zz)) (fun zz => ob_yf (tw zz) (te zz) (tc zz)) yPair ySeen pVal ySet (fun zz => ob_th (S zz)) yStay aOut aVar yArg (fun zz => nI (FC zz)) (fun zz => nI (FA zz)) (fun zz => nI (FP zz)) (fun zz => nI (FH zz)) yHan (fun zz => nI (FT zz)) (fun zz => nI (TA zz)) (fun zz => nI (TH zz)) fSelf yKept stk → wpY_store post (nI n, nI m, yGiven, nI d, deep, nI b, thr, thn, res, cStr, (fun zz => nI (CL zz)), cOp, cA, cB, (fun zz => nI (OK zz)), oKin, yCo, yAr, oOpen, (fun zz => nI (M zz)), (fun zz => ob_yf (tw zz) (te zz) (tc zz)), yPair, ySeen, pVal, ySet, (fun zz => ob_th (S zz)), yStay, aOut, aVar, yArg, (fun zz => nI (FC zz)), (fun zz => nI (FA zz)), (fun zz => nI (FP zz)), (fun zz => nI (FH zz)), yHan, (fun zz => nI (FT zz)), (fun zz => nI (TA zz)), (fun zz => nI (TH zz)), fSelf, yKept, stk) (lN (17179869184 + o)) (nI k) v strict := by
    intro post hp
    unfold wpY_store
    refine ob_isoT o (by omega) _ (br_f (by decide) ?_)
    unfold wpY_number
    rw [ob_numb]
    unfold wY_store_15
    exact br_t (nI_pos' (by omega)) (hYl _ hp)
  /- DEFINE, then the end; x8 is where the look ended -/
  have hdef : ∀ (own : Bool) (x8 : Int32), (x8 < 0 ∨ vp_in x8 1024) → 
      (∀ post : SX → Prop, wX_putValue_183 post (nI k) v strict (nI o) (if own then 64 else 127) (nI n) (nI d) (nI b) deep res thr thn (fun zz => nI (CL zz)) cStr cOp cA cB (fun zz => nI (OK zz)) oKin oOpen xFc xFs xPc xKo xPk (fun zz => ob_xa (tw zz) (te zz) (tc zz)) pVal xSet (fun zz => nI (S zz)) aOut aVar (fun zz => nI (FC zz)) (fun zz => nI (FP zz)) (fun zz => nI (FA zz)) (fun zz => nI (FH zz)) (fun zz => nI (XH zz)) (fun zz => nI (FT zz)) fSelf xHeld stk (fun zz => nI (TA zz)) (fun zz => nI (TH zz)) xArg → wpX_putValue post (nI n, nI d, nI b, deep, res, thr, thn, (fun zz => nI (CL zz)), cStr, cOp, cA, cB, (fun zz => nI (OK zz)), oKin, oOpen, xFc, xFs, xPc, xKo, xPk, (fun zz => ob_xa (tw zz) (te zz) (tc zz)), pVal, xSet, (fun zz => nI (S zz)), aOut, aVar, (fun zz => nI (FC zz)), (fun zz => nI (FP zz)), (fun zz => nI (FA zz)), (fun zz => nI (FH zz)), (fun zz => nI (XH zz)), (fun zz => nI (FT zz)), fSelf, xHeld, stk, (fun zz => nI (TA zz)), (fun zz => nI (TH zz)), xArg) (lN (17179869184 + o)) (nI k) v strict) →
      (∀ post : SY → Prop, wY_store_147 post (lN (17179869184 + o)) v strict x8 1 (if own then 1 else 51) (nI k) (nI o) (nI n) (nI m) 1 (nI d) deep (nI b) thr thn res cStr (fun zz => nI (CL zz)) cOp cA cB (fun zz => nI (OK zz)) oKin yCo yAr oOpen (fun zz => nI (M zz)) (fun zz => ob_yf (tw zz) (te zz) (tc zz)) yPair ySeen pVal ySet (fun zz => ob_th (S zz)) yStay aOut aVar (vp_updL yArg 0 v) (fun zz => nI (FC zz)) (fun zz => nI (FA zz)) (fun zz => nI (FP zz)) (fun zz => nI (FH zz)) yHan (fun zz => nI (FT zz)) (fun zz => nI (TA zz)) (fun zz => nI (TH zz)) fSelf yKept stk → wpY_store post (nI n, nI m, yGiven, nI d, deep, nI b, thr, thn, res, cStr, (fun zz => nI (CL zz)), cOp, cA, cB, (fun zz => nI (OK zz)), oKin, yCo, yAr, oOpen, (fun zz => nI (M zz)), (fun zz => ob_yf (tw zz) (te zz) (tc zz)), yPair, ySeen, pVal, ySet, (fun zz => ob_th (S zz)), yStay, aOut, aVar, yArg, (fun zz => nI (FC zz)), (fun zz => nI (FA zz)), (fun zz => nI (FP zz)), (fun zz => nI (FH zz)), yHan, (fun zz => nI (FT zz)), (fun zz => nI (TA zz)), (fun zz => nI (TH zz)), fSelf, yKept, stk) (lN (17179869184 + o)) (nI k) v strict) →
      ∃ u' v', ob_S b B (w + 4) u' v' ∧ (∀ post : SX → Prop, post u' → wpX_putValue post (nI n, nI d, nI b, deep, res, thr, thn, (fun zz => nI (CL zz)), cStr, cOp, cA, cB, (fun zz => nI (OK zz)), oKin, oOpen, xFc, xFs, xPc, xKo, xPk, (fun zz => ob_xa (tw zz) (te zz) (tc zz)), pVal, xSet, (fun zz => nI (S zz)), aOut, aVar, (fun zz => nI (FC zz)), (fun zz => nI (FP zz)), (fun zz => nI (FA zz)), (fun zz => nI (FH zz)), (fun zz => nI (XH zz)), (fun zz => nI (FT zz)), fSelf, xHeld, stk, (fun zz => nI (TA zz)), (fun zz => nI (TH zz)), xArg) (lN (17179869184 + o)) (nI k) v strict) ∧ (∀ post : SY → Prop, post v' → wpY_store post (nI n, nI m, yGiven, nI d, deep, nI b, thr, thn, res, cStr, (fun zz => nI (CL zz)), cOp, cA, cB, (fun zz => nI (OK zz)), oKin, yCo, yAr, oOpen, (fun zz => nI (M zz)), (fun zz => ob_yf (tw zz) (te zz) (tc zz)), yPair, ySeen, pVal, ySet, (fun zz => ob_th (S zz)), yStay, aOut, aVar, yArg, (fun zz => nI (FC zz)), (fun zz => nI (FA zz)), (fun zz => nI (FP zz)), (fun zz => nI (FH zz)), yHan, (fun zz => nI (FT zz)), (fun zz => nI (TA zz)), (fun zz => nI (TH zz)), fSelf, yKept, stk) (lN (17179869184 + o)) (nI k) v strict) := by
    intro own x8 hx8 hX hY
    have hend : ∀ (r1 : Int32) (x9' : Int32) (post : SY → Prop) (yPair' : Nat → Int32) (m' : Nat) (M' : Nat → Nat) (pVal' : Nat → Int64) (tw' : Nat → Bool) (te' : Nat → Bool) (tc' : Nat → Bool) (ySet' : Nat → Int64), wY_store_235 post v strict r1 (nI n) (nI m') 1 (nI d) deep (nI b) thr thn res cStr (fun zz => nI (CL zz)) cOp cA cB (fun zz => nI (OK zz)) oKin yCo yAr oOpen (fun zz => nI (M' zz)) (fun zz => ob_yf (tw' zz) (te' zz) (tc' zz)) yPair' ySeen pVal' ySet' (fun zz => ob_th (S zz)) yStay aOut aVar (vp_updL yArg 0 v) (fun zz => nI (FC zz)) (fun zz => nI (FA zz)) (fun zz => nI (FP zz)) (fun zz => nI (FH zz)) yHan (fun zz => nI (FT zz)) (fun zz => nI (TA zz)) (fun zz => nI (TH zz)) fSelf yKept stk → wY_store_157 post (lN (17179869184 + o)) v strict x8 r1 1 (nI n) (nI m') 1 (nI d) deep (nI b) thr thn res cStr (fun zz => nI (CL zz)) cOp cA cB (fun zz => nI (OK zz)) oKin yCo yAr oOpen (fun zz => nI (M' zz)) (fun zz => ob_yf (tw' zz) (te' zz) (tc' zz)) yPair' ySeen pVal' ySet' (fun zz => ob_th (S zz)) yStay aOut aVar (vp_updL yArg 0 v) (fun zz => nI (FC zz)) (fun zz => nI (FA zz)) (fun zz => nI (FP zz)) (fun zz => nI (FH zz)) yHan (fun zz => nI (FT zz)) (fun zz => nI (TA zz)) (fun zz => nI (TH zz)) fSelf yKept stk := by
      intro r1 _ post yPair' m' M' pVal' tw' te' tc' ySet' h
      unfold wY_store_157
      refine br_f hU (br_f hN ?_)
      by_cases hx0 : x8 < 0
      · exact br_t hx0 h
      · refine br_f hx0 ?_
        rcases hx8 with hx | hx
        · exact absurd hx hx0
        · exact ⟨hx, br_c (fun _ => h) (fun _ => br_f (by decide) h)⟩
    cases own
    · obtain ⟨r1, m', M', xPc', xKo', pVal', xPk', tw', te', tc', xSet', yPair', ySet', R1, hm1, hr1, hXs, hYs⟩ := ob_settle (deep := deep) (cStr := cStr) (oOpen := oOpen) (te := te) (xArg := xArg) (ySeen := ySeen) (yArg := (vp_updL yArg 0 v)) (yGiven := 1) (sV := true) (sG := false) (sS := false) (sW := true) (sE := true) (sC := true) (oW := true) (oE := true) (oC := true) (pW := true) (pE := true) (pC := true) (v := v) (w := 8589934592) (wy := 0) ⟨fun _ => rfl, fun _ => rfl, fun _ => rfl⟩ R ho hk (by omega) rfl (fun _ => hv) (fun h => absurd h (by decide))
      obtain ⟨u', v', hS, h1, h2⟩ := ob_fin (deep := deep) (cStr := cStr) (oOpen := oOpen) (te := te') (xArg := xArg) (ySeen := ySeen) (yArg := (vp_updL yArg 0 v)) (yGiven := 1) (strict := strict) (B := B) (w := w + 4) R1 hv (by omega) (by omega) hr1
      refine ⟨u', v', hS, fun post hp => hX post ?_, fun post hp => hY post ?_⟩
      · unfold wX_putValue_183
        exact hXs _ (h1 post hp)
      · unfold wY_store_147
        exact hYs _ (hend _ 0 post _ _ _ _ _ _ _ _ (h2 post hp))
    · obtain ⟨r1, m', M', xPc', xKo', pVal', xPk', tw', te', tc', xSet', yPair', ySet', R1, hm1, hr1, hXs, hYs⟩ := ob_settle (deep := deep) (cStr := cStr) (oOpen := oOpen) (te := te) (xArg := xArg) (ySeen := ySeen) (yArg := (vp_updL yArg 0 v)) (yGiven := 1) (sV := true) (sG := false) (sS := false) (sW := false) (sE := false) (sC := false) (oW := false) (oE := false) (oC := false) (pW := true) (pE := true) (pC := true) (v := v) (w := 8589934592) (wy := 0) ⟨fun h => absurd h (by decide), fun h => absurd h (by decide), fun h => absurd h (by decide)⟩ R ho hk (by omega) rfl (fun _ => hv) (fun h => absurd h (by decide))
      obtain ⟨u', v', hS, h1, h2⟩ := ob_fin (deep := deep) (cStr := cStr) (oOpen := oOpen) (te := te') (xArg := xArg) (ySeen := ySeen) (yArg := (vp_updL yArg 0 v)) (yGiven := 1) (strict := strict) (B := B) (w := w + 4) R1 hv (by omega) (by omega) hr1
      refine ⟨u', v', hS, fun post hp => hX post ?_, fun post hp => hY post ?_⟩
      · unfold wX_putValue_183
        exact hXs _ (h1 post hp)
      · unfold wY_store_147
        exact hYs _ (hend _ 0 post _ _ _ _ _ _ _ _ (h2 post hp))
  have hoo : ¬ nI o < 0 := nI_pos (by omega)
  /- nothing of its own, and it may grow, or not -/
  have hgrow : ∀ x8 : Int32, (x8 < 0 ∨ (vp_in x8 1024 ∧ yPair x8.toNatClampNeg = 0)) → 
      (∀ post : SX → Prop, wX_putValue_140 post (nI k) v strict (nI o) 0 (nI n) (nI d) (nI b) deep res thr thn (fun zz => nI (CL zz)) cStr cOp cA cB (fun zz => nI (OK zz)) oKin oOpen xFc xFs xPc xKo xPk (fun zz => ob_xa (tw zz) (te zz) (tc zz)) pVal xSet (fun zz => nI (S zz)) aOut aVar (fun zz => nI (FC zz)) (fun zz => nI (FP zz)) (fun zz => nI (FA zz)) (fun zz => nI (FH zz)) (fun zz => nI (XH zz)) (fun zz => nI (FT zz)) fSelf xHeld stk (fun zz => nI (TA zz)) (fun zz => nI (TH zz)) xArg → wpX_putValue post (nI n, nI d, nI b, deep, res, thr, thn, (fun zz => nI (CL zz)), cStr, cOp, cA, cB, (fun zz => nI (OK zz)), oKin, oOpen, xFc, xFs, xPc, xKo, xPk, (fun zz => ob_xa (tw zz) (te zz) (tc zz)), pVal, xSet, (fun zz => nI (S zz)), aOut, aVar, (fun zz => nI (FC zz)), (fun zz => nI (FP zz)), (fun zz => nI (FA zz)), (fun zz => nI (FH zz)), (fun zz => nI (XH zz)), (fun zz => nI (FT zz)), fSelf, xHeld, stk, (fun zz => nI (TA zz)), (fun zz => nI (TH zz)), xArg) (lN (17179869184 + o)) (nI k) v strict) →
      (∀ post : SY → Prop, wY_store_92 post (lN (17179869184 + o)) (nI k) v strict (nI o) x8 0 0 (nI n) (nI m) yGiven (nI d) deep (nI b) thr thn res cStr (fun zz => nI (CL zz)) cOp cA cB (fun zz => nI (OK zz)) oKin yCo yAr oOpen (fun zz => nI (M zz)) (fun zz => ob_yf (tw zz) (te zz) (tc zz)) yPair ySeen pVal ySet (fun zz => ob_th (S zz)) yStay aOut aVar yArg (fun zz => nI (FC zz)) (fun zz => nI (FA zz)) (fun zz => nI (FP zz)) (fun zz => nI (FH zz)) yHan (fun zz => nI (FT zz)) (fun zz => nI (TA zz)) (fun zz => nI (TH zz)) fSelf yKept stk → wpY_store post (nI n, nI m, yGiven, nI d, deep, nI b, thr, thn, res, cStr, (fun zz => nI (CL zz)), cOp, cA, cB, (fun zz => nI (OK zz)), oKin, yCo, yAr, oOpen, (fun zz => nI (M zz)), (fun zz => ob_yf (tw zz) (te zz) (tc zz)), yPair, ySeen, pVal, ySet, (fun zz => ob_th (S zz)), yStay, aOut, aVar, yArg, (fun zz => nI (FC zz)), (fun zz => nI (FA zz)), (fun zz => nI (FP zz)), (fun zz => nI (FH zz)), yHan, (fun zz => nI (FT zz)), (fun zz => nI (TA zz)), (fun zz => nI (TH zz)), fSelf, yKept, stk) (lN (17179869184 + o)) (nI k) v strict) →
      ∃ u' v', ob_S b B (w + 4) u' v' ∧ (∀ post : SX → Prop, post u' → wpX_putValue post (nI n, nI d, nI b, deep, res, thr, thn, (fun zz => nI (CL zz)), cStr, cOp, cA, cB, (fun zz => nI (OK zz)), oKin, oOpen, xFc, xFs, xPc, xKo, xPk, (fun zz => ob_xa (tw zz) (te zz) (tc zz)), pVal, xSet, (fun zz => nI (S zz)), aOut, aVar, (fun zz => nI (FC zz)), (fun zz => nI (FP zz)), (fun zz => nI (FA zz)), (fun zz => nI (FH zz)), (fun zz => nI (XH zz)), (fun zz => nI (FT zz)), fSelf, xHeld, stk, (fun zz => nI (TA zz)), (fun zz => nI (TH zz)), xArg) (lN (17179869184 + o)) (nI k) v strict) ∧ (∀ post : SY → Prop, post v' → wpY_store post (nI n, nI m, yGiven, nI d, deep, nI b, thr, thn, res, cStr, (fun zz => nI (CL zz)), cOp, cA, cB, (fun zz => nI (OK zz)), oKin, yCo, yAr, oOpen, (fun zz => nI (M zz)), (fun zz => ob_yf (tw zz) (te zz) (tc zz)), yPair, ySeen, pVal, ySet, (fun zz => ob_th (S zz)), yStay, aOut, aVar, yArg, (fun zz => nI (FC zz)), (fun zz => nI (FA zz)), (fun zz => nI (FP zz)), (fun zz => nI (FH zz)), yHan, (fun zz => nI (FT zz)), (fun zz => nI (TA zz)), (fun zz => nI (TH zz)), fSelf, yKept, stk) (lN (17179869184 + o)) (nI k) v strict) := by
    intro x8 hx8 hX hY
    by_cases hop : oOpen o = 0
    · refine hno (fun post hp => hX post ?_) (fun post hp => hY post ?_)
      · unfold wX_putValue_140 wX_putValue_141
        simp (disch := first | omega | decide) only [hop, forall_eq, not_true, not_false_iff, false_implies, true_implies, true_and, and_true, ob_sub1, Nat.add_sub_cancel, nI_1, ob_ix, ob_iy, ob_ix24, ob_iy24, ob_ix10, ob_iy10, ob_ix4, ob_iy4, ob_ix3, ob_iy3, ob_s1, ob_s2, ob_s3, ob_s4, ob_ltl, ob_lel, ob_eql, ob_ltr, ob_ler, ob_uN, Nat.add_one_ne_zero, ob_xs3, ob_lnn, ob_ltn, ob_eqn, Nat.not_lt_zero, Nat.zero_le, Nat.reduceEqDiff, Nat.reduceLeDiff, Nat.reduceLT, ob_eqll, Int32.reduceLT, Int32.reduceLE, eq_self_iff_true]
        exact hp
      · unfold wY_store_92
        simp (disch := first | omega | decide) only [hop, forall_eq, not_true, not_false_iff, false_implies, true_implies, true_and, and_true, ob_sub1, Nat.add_sub_cancel, nI_1, ob_ix, ob_iy, ob_ix24, ob_iy24, ob_ix10, ob_iy10, ob_ix4, ob_iy4, ob_ix3, ob_iy3, ob_s1, ob_s2, ob_s3, ob_s4, ob_ltl, ob_lel, ob_eql, ob_ltr, ob_ler, ob_uN, Nat.add_one_ne_zero, ob_xs3, ob_lnn, ob_ltn, ob_eqn, Nat.not_lt_zero, Nat.zero_le, Nat.reduceEqDiff, Nat.reduceLeDiff, Nat.reduceLT, ob_eqll, Int32.reduceLT, Int32.reduceLE, eq_self_iff_true]
        unfold wY_store_111 wY_store_112
        refine nm_e (br_t rfl ?_)
        unfold wY_store_157
        refine br_f hU (br_f hN ?_)
        by_cases hx0 : x8 < 0
        · exact br_t hx0 hp
        · refine br_f hx0 ?_
          rcases hx8 with hx | hx
          · exact absurd hx hx0
          · exact ⟨hx.1, br_t hx.2 hp⟩
    · refine hdef false x8 (hx8.imp id And.left) (fun post hp => hX post ?_) (fun post hp => hY post ?_)
      · unfold wX_putValue_140 wX_putValue_141
        simp (disch := first | omega | decide) only [hop, forall_eq, not_true, not_false_iff, false_implies, true_implies, true_and, and_true, ob_sub1, Nat.add_sub_cancel, nI_1, ob_ix, ob_iy, ob_ix24, ob_iy24, ob_ix10, ob_iy10, ob_ix4, ob_iy4, ob_ix3, ob_iy3, ob_s1, ob_s2, ob_s3, ob_s4, ob_ltl, ob_lel, ob_eql, ob_ltr, ob_ler, ob_uN, Nat.add_one_ne_zero, ob_xs3, ob_lnn, ob_ltn, ob_eqn, Nat.not_lt_zero, Nat.zero_le, Nat.reduceEqDiff, Nat.reduceLeDiff, Nat.reduceLT, ob_eqll, Int32.reduceLT, Int32.reduceLE, eq_self_iff_true]
        unfold wX_putValue_171
        exact br_t rfl hp
      · unfold wY_store_92
        simp (disch := first | omega | decide) only [hop, forall_eq, not_true, not_false_iff, false_implies, true_implies, true_and, and_true, ob_sub1, Nat.add_sub_cancel, nI_1, ob_ix, ob_iy, ob_ix24, ob_iy24, ob_ix10, ob_iy10, ob_ix4, ob_iy4, ob_ix3, ob_iy3, ob_s1, ob_s2, ob_s3, ob_s4, ob_ltl, ob_lel, ob_eql, ob_ltr, ob_ler, ob_uN, Nat.add_one_ne_zero, ob_xs3, ob_lnn, ob_ltn, ob_eqn, Nat.not_lt_zero, Nat.zero_le, Nat.reduceEqDiff, Nat.reduceLeDiff, Nat.reduceLT, ob_eqll, Int32.reduceLT, Int32.reduceLE, eq_self_iff_true]
        unfold wY_store_107 wY_store_112
        exact nm_e (br_f (by decide) (br_t rfl hp))
  have hX0 : ∀ post : SX → Prop, ((r < 0 → wX_putValue_95 post (nI k) v strict (nI o) r (nI n) (nI d) (nI b) deep res thr thn (fun zz => nI (CL zz)) cStr cOp cA cB (fun zz => nI (OK zz)) oKin oOpen xFc xFs xPc xKo xPk (fun zz => ob_xa (tw zz) (te zz) (tc zz)) pVal xSet (fun zz => nI (S zz)) aOut aVar (fun zz => nI (FC zz)) (fun zz => nI (FP zz)) (fun zz => nI (FA zz)) (fun zz => nI (FH zz)) (fun zz => nI (XH zz)) (fun zz => nI (FT zz)) fSelf xHeld stk (fun zz => nI (TA zz)) (fun zz => nI (TH zz)) xArg) ∧ (¬ r < 0 → (vp_in r 1024 ∧ ((xPk r.toNatClampNeg = 2 → (vp_in r 1024 ∧ ((xSet r.toNatClampNeg = 8589934592 → wX_putValue_95 post (nI k) v strict (nI o) r (nI n) (nI d) (nI b) deep res thr thn (fun zz => nI (CL zz)) cStr cOp cA cB (fun zz => nI (OK zz)) oKin oOpen xFc xFs xPc xKo xPk (fun zz => ob_xa (tw zz) (te zz) (tc zz)) pVal xSet (fun zz => nI (S zz)) aOut aVar (fun zz => nI (FC zz)) (fun zz => nI (FP zz)) (fun zz => nI (FA zz)) (fun zz => nI (FH zz)) (fun zz => nI (XH zz)) (fun zz => nI (FT zz)) fSelf xHeld stk (fun zz => nI (TA zz)) (fun zz => nI (TH zz)) xArg) ∧ (¬ xSet r.toNatClampNeg = 8589934592 → ∀ aa : Nat → Int64, aa = vp_updL xArg 0 v → (vp_in r 1024 ∧ wpX_beginCall post (nI n, nI d, nI b, deep, res, thr, thn, (fun zz => nI (CL zz)), cStr, cOp, cA, cB, (fun zz => nI (OK zz)), oKin, oOpen, xFc, xFs, xPc, xKo, xPk, (fun zz => ob_xa (tw zz) (te zz) (tc zz)), pVal, xSet, (fun zz => nI (S zz)), aOut, aVar, (fun zz => nI (FC zz)), (fun zz => nI (FP zz)), (fun zz => nI (FA zz)), (fun zz => nI (FH zz)), (fun zz => nI (XH zz)), (fun zz => nI (FT zz)), fSelf, xHeld, stk, (fun zz => nI (TA zz)), (fun zz => nI (TH zz)), aa) (xSet r.toNatClampNeg) (lN (17179869184 + o)) 1 1 v))))) ∧ (¬ xPk r.toNatClampNeg = 2 → wX_putValue_95 post (nI k) v strict (nI o) r (nI n) (nI d) (nI b) deep res thr thn (fun zz => nI (CL zz)) cStr cOp cA cB (fun zz => nI (OK zz)) oKin oOpen xFc xFs xPc xKo xPk (fun zz => ob_xa (tw zz) (te zz) (tc zz)) pVal xSet (fun zz => nI (S zz)) aOut aVar (fun zz => nI (FC zz)) (fun zz => nI (FP zz)) (fun zz => nI (FA zz)) (fun zz => nI (FH zz)) (fun zz => nI (XH zz)) (fun zz => nI (FT zz)) fSelf xHeld stk (fun zz => nI (TA zz)) (fun zz => nI (TH zz)) xArg))))) → wpX_putValue post (nI n, nI d, nI b, deep, res, thr, thn, (fun zz => nI (CL zz)), cStr, cOp, cA, cB, (fun zz => nI (OK zz)), oKin, oOpen, xFc, xFs, xPc, xKo, xPk, (fun zz => ob_xa (tw zz) (te zz) (tc zz)), pVal, xSet, (fun zz => nI (S zz)), aOut, aVar, (fun zz => nI (FC zz)), (fun zz => nI (FP zz)), (fun zz => nI (FA zz)), (fun zz => nI (FH zz)), (fun zz => nI (XH zz)), (fun zz => nI (FT zz)), fSelf, xHeld, stk, (fun zz => nI (TA zz)), (fun zz => nI (TH zz)), xArg) (lN (17179869184 + o)) (nI k) v strict := by
    intro post h
    unfold wpX_putValue
    exact br_f hU (br_f hN (ob_objO hn ho _ (hXl _ h)))
  rcases hr with rfl | ⟨q, hq, hM, rfl⟩
  · refine hgrow (-1) (Or.inl (by decide)) (fun post hp => hX0 post (br_t (by decide) ?_)) (fun post hp => hY33 post ?_)
    · unfold wX_putValue_95 wX_putValue_116 wX_putValue_117
      exact br_t (by decide) (br_t (by decide) hp)
    · unfold wY_store_33
      refine br_t (by decide) ?_
      unfold wY_store_57 wY_store_58
      exact br_f hoo (br_t (by decide) hp)
  · have hi : 32 * q + k < 1024 := by omega
    have hin : vp_in (nI (32 * q + k)) 1024 := vp_in_nI hi (by decide)
    have hcl : (nI (32 * q + k)).toNatClampNeg = 32 * q + k := ob_cl hi
    have hrr : ¬ nI (32 * q + k) < 0 := nI_pos (by omega)
    have hdv : nI (32 * q + k) / 32 = nI q := by
      have e := pk_div (a := 32 * q + k) (d := 32) (by omega) (by decide) (by decide)
      rw [show (32 * q + k) / 32 = q from by omega] at e
      exact e
    have h32 : ¬ (32 : Int32) = 0 := by decide
    have heq : (nI (32 * q + k) = nI o * 32 + nI k) = (q = o) := by
      rw [ob_ix, ob_eqn (by omega) (by omega)]
      exact propext ⟨fun z => by omega, fun z => by rw [z]⟩
    have heqd : (nI q = nI o) = (q = o) := ob_eqn (by omega) (by omega)
    /- what the reference does first: is it its own? -/
    have hY58 : ∀ post : SY → Prop, (q = o → wY_store_58 post (lN (17179869184 + o)) (nI k) v strict (nI o) (nI (32 * q + k)) 0 1 (nI n) (nI m) yGiven (nI d) deep (nI b) thr thn res cStr (fun zz => nI (CL zz)) cOp cA cB (fun zz => nI (OK zz)) oKin yCo yAr oOpen (fun zz => nI (M zz)) (fun zz => ob_yf (tw zz) (te zz) (tc zz)) yPair ySeen pVal ySet (fun zz => ob_th (S zz)) yStay aOut aVar yArg (fun zz => nI (FC zz)) (fun zz => nI (FA zz)) (fun zz => nI (FP zz)) (fun zz => nI (FH zz)) yHan (fun zz => nI (FT zz)) (fun zz => nI (TA zz)) (fun zz => nI (TH zz)) fSelf yKept stk) → (¬ q = o → wY_store_58 post (lN (17179869184 + o)) (nI k) v strict (nI o) (nI (32 * q + k)) 0 0 (nI n) (nI m) yGiven (nI d) deep (nI b) thr thn res cStr (fun zz => nI (CL zz)) cOp cA cB (fun zz => nI (OK zz)) oKin yCo yAr oOpen (fun zz => nI (M zz)) (fun zz => ob_yf (tw zz) (te zz) (tc zz)) yPair ySeen pVal ySet (fun zz => ob_th (S zz)) yStay aOut aVar yArg (fun zz => nI (FC zz)) (fun zz => nI (FA zz)) (fun zz => nI (FP zz)) (fun zz => nI (FH zz)) yHan (fun zz => nI (FT zz)) (fun zz => nI (TA zz)) (fun zz => nI (TH zz)) fSelf yKept stk) → wpY_store post (nI n, nI m, yGiven, nI d, deep, nI b, thr, thn, res, cStr, (fun zz => nI (CL zz)), cOp, cA, cB, (fun zz => nI (OK zz)), oKin, yCo, yAr, oOpen, (fun zz => nI (M zz)), (fun zz => ob_yf (tw zz) (te zz) (tc zz)), yPair, ySeen, pVal, ySet, (fun zz => ob_th (S zz)), yStay, aOut, aVar, yArg, (fun zz => nI (FC zz)), (fun zz => nI (FA zz)), (fun zz => nI (FP zz)), (fun zz => nI (FH zz)), yHan, (fun zz => nI (FT zz)), (fun zz => nI (TA zz)), (fun zz => nI (TH zz)), fSelf, yKept, stk) (lN (17179869184 + o)) (nI k) v strict := by
      intro post h1 h2
      refine hY33 post ?_
      unfold wY_store_33
      refine br_f hrr ⟨h32, ?_⟩
      rw [hdv, heqd]
      exact br_c h1 h2
    have hs := R.2.2.1.2.2 (32 * q + k) (by omega)
    rcases hs with ⟨h0, _⟩ | ⟨_, hvv, hs⟩
    · exact absurd h0 hM
    /- read only -/
    have hro : tw (32 * q + k) = false → (¬ (xPk (32 * q + k) = 2 ∧ ¬ xSet (32 * q + k) = 8589934592)) → (¬ yPair (32 * q + k) = 0 → ySet (32 * q + k) = 8589934592) → ∃ u' v', ob_S b B (w + 4) u' v' ∧ (∀ post : SX → Prop, post u' → wpX_putValue post (nI n, nI d, nI b, deep, res, thr, thn, (fun zz => nI (CL zz)), cStr, cOp, cA, cB, (fun zz => nI (OK zz)), oKin, oOpen, xFc, xFs, xPc, xKo, xPk, (fun zz => ob_xa (tw zz) (te zz) (tc zz)), pVal, xSet, (fun zz => nI (S zz)), aOut, aVar, (fun zz => nI (FC zz)), (fun zz => nI (FP zz)), (fun zz => nI (FA zz)), (fun zz => nI (FH zz)), (fun zz => nI (XH zz)), (fun zz => nI (FT zz)), fSelf, xHeld, stk, (fun zz => nI (TA zz)), (fun zz => nI (TH zz)), xArg) (lN (17179869184 + o)) (nI k) v strict) ∧ (∀ post : SY → Prop, post v' → wpY_store post (nI n, nI m, yGiven, nI d, deep, nI b, thr, thn, res, cStr, (fun zz => nI (CL zz)), cOp, cA, cB, (fun zz => nI (OK zz)), oKin, yCo, yAr, oOpen, (fun zz => nI (M zz)), (fun zz => ob_yf (tw zz) (te zz) (tc zz)), yPair, ySeen, pVal, ySet, (fun zz => ob_th (S zz)), yStay, aOut, aVar, yArg, (fun zz => nI (FC zz)), (fun zz => nI (FA zz)), (fun zz => nI (FP zz)), (fun zz => nI (FH zz)), yHan, (fun zz => nI (FT zz)), (fun zz => nI (TA zz)), (fun zz => nI (TH zz)), fSelf, yKept, stk) (lN (17179869184 + o)) (nI k) v strict) := by
      intro htw hnx hny
      refine hno (fun post hp => hX0 post (br_f hrr ⟨hin, ?_⟩)) (fun post hp => ?_)
      · have h95 : wX_putValue_95 post (nI k) v strict (nI o) (nI (32 * q + k)) (nI n) (nI d) (nI b) deep res thr thn (fun zz => nI (CL zz)) cStr cOp cA cB (fun zz => nI (OK zz)) oKin oOpen xFc xFs xPc xKo xPk (fun zz => ob_xa (tw zz) (te zz) (tc zz)) pVal xSet (fun zz => nI (S zz)) aOut aVar (fun zz => nI (FC zz)) (fun zz => nI (FP zz)) (fun zz => nI (FA zz)) (fun zz => nI (FH zz)) (fun zz => nI (XH zz)) (fun zz => nI (FT zz)) fSelf xHeld stk (fun zz => nI (TA zz)) (fun zz => nI (TH zz)) xArg := by
          unfold wX_putValue_95
          refine br_f hrr ⟨hin, ?_⟩
          rw [hcl]
          refine br_t ((ob_xaW _ _ _).mpr htw) ?_
          have h141 : ∀ z0 : Int32, wX_putValue_141 post (nI k) v strict (nI o) 1 z0 (nI n) (nI d) (nI b) deep res thr thn (fun zz => nI (CL zz)) cStr cOp cA cB (fun zz => nI (OK zz)) oKin oOpen xFc xFs xPc xKo xPk (fun zz => ob_xa (tw zz) (te zz) (tc zz)) pVal xSet (fun zz => nI (S zz)) aOut aVar (fun zz => nI (FC zz)) (fun zz => nI (FP zz)) (fun zz => nI (FA zz)) (fun zz => nI (FH zz)) (fun zz => nI (XH zz)) (fun zz => nI (FT zz)) fSelf xHeld stk (fun zz => nI (TA zz)) (fun zz => nI (TH zz)) xArg := by
            intro z0
            unfold wX_putValue_141
            exact br_f hoo (br_f (by decide) hp)
          unfold wX_putValue_117
          exact br_f hrr (br_c (fun _ => h141 1) (fun _ => h141 0))
        rw [hcl]
        refine br_c (fun h2 => ⟨hin, br_c (fun _ => h95) (fun h3 => absurd ⟨h2, h3⟩ hnx)⟩) (fun _ => h95)
      · have h111 : ∀ x10 : Int32, wY_store_111 post (lN (17179869184 + o)) (nI k) v strict (nI o) (nI (32 * q + k)) 0 x10 (nI n) (nI m) yGiven (nI d) deep (nI b) thr thn res cStr (fun zz => nI (CL zz)) cOp cA cB (fun zz => nI (OK zz)) oKin yCo yAr oOpen (fun zz => nI (M zz)) (fun zz => ob_yf (tw zz) (te zz) (tc zz)) yPair ySeen pVal ySet (fun zz => ob_th (S zz)) yStay aOut aVar yArg (fun zz => nI (FC zz)) (fun zz => nI (FA zz)) (fun zz => nI (FP zz)) (fun zz => nI (FH zz)) yHan (fun zz => nI (FT zz)) (fun zz => nI (TA zz)) (fun zz => nI (TH zz)) fSelf yKept stk := by
          intro x10
          unfold wY_store_111 wY_store_112
          refine nm_e (br_t rfl ?_)
          unfold wY_store_157
          refine br_f hU (br_f hN (br_f hrr ⟨hin, ?_⟩))
          rw [hcl]
          exact br_c (fun _ => hp) (fun hne => br_t rfl ⟨hin, br_t (hny hne) hp⟩)
        have h58 : ∀ x10 : Int32, wY_store_58 post (lN (17179869184 + o)) (nI k) v strict (nI o) (nI (32 * q + k)) 0 x10 (nI n) (nI m) yGiven (nI d) deep (nI b) thr thn res cStr (fun zz => nI (CL zz)) cOp cA cB (fun zz => nI (OK zz)) oKin yCo yAr oOpen (fun zz => nI (M zz)) (fun zz => ob_yf (tw zz) (te zz) (tc zz)) yPair ySeen pVal ySet (fun zz => ob_th (S zz)) yStay aOut aVar yArg (fun zz => nI (FC zz)) (fun zz => nI (FA zz)) (fun zz => nI (FP zz)) (fun zz => nI (FH zz)) yHan (fun zz => nI (FT zz)) (fun zz => nI (TA zz)) (fun zz => nI (TH zz)) fSelf yKept stk := by
          intro x10
          unfold wY_store_58
          refine br_f hoo (br_f hrr ⟨hin, ?_⟩)
          rw [hcl]
          refine br_c (fun _ => ⟨hin, br_t ((ob_yfW _ _ _).mpr htw) (h111 x10)⟩) (fun _ => h111 x10)
        exact hY58 post (fun _ => h58 1) (fun _ => h58 0)
    rcases hs with ⟨hpr, hpk⟩ | ⟨hpr, hpk, htw, hxy, hvs⟩
    · have hpk2 : ¬ xPk (32 * q + k) = 2 := by rw [hpk]; decide
      cases htw : tw (32 * q + k)
      · exact hro htw (fun z => hpk2 z.1) (fun z => absurd hpr z)
      · have hX116 : ∀ post : SX → Prop, wX_putValue_116 post (nI k) v strict (nI o) (nI (32 * q + k)) (nI n) (nI d) (nI b) deep res thr thn (fun zz => nI (CL zz)) cStr cOp cA cB (fun zz => nI (OK zz)) oKin oOpen xFc xFs xPc xKo xPk (fun zz => ob_xa (tw zz) (te zz) (tc zz)) pVal xSet (fun zz => nI (S zz)) aOut aVar (fun zz => nI (FC zz)) (fun zz => nI (FP zz)) (fun zz => nI (FA zz)) (fun zz => nI (FH zz)) (fun zz => nI (XH zz)) (fun zz => nI (FT zz)) fSelf xHeld stk (fun zz => nI (TA zz)) (fun zz => nI (TH zz)) xArg → wpX_putValue post (nI n, nI d, nI b, deep, res, thr, thn, (fun zz => nI (CL zz)), cStr, cOp, cA, cB, (fun zz => nI (OK zz)), oKin, oOpen, xFc, xFs, xPc, xKo, xPk, (fun zz => ob_xa (tw zz) (te zz) (tc zz)), pVal, xSet, (fun zz => nI (S zz)), aOut, aVar, (fun zz => nI (FC zz)), (fun zz => nI (FP zz)), (fun zz => nI (FA zz)), (fun zz => nI (FH zz)), (fun zz => nI (XH zz)), (fun zz => nI (FT zz)), fSelf, xHeld, stk, (fun zz => nI (TA zz)), (fun zz => nI (TH zz)), xArg) (lN (17179869184 + o)) (nI k) v strict := by
          intro post hp
          refine hX0 post (br_f hrr ⟨hin, ?_⟩)
          rw [hcl]
          refine br_f hpk2 ?_
          unfold wX_putValue_95
          refine br_f hrr ⟨hin, ?_⟩
          rw [hcl]
          exact br_f (fun z => absurd (htw.symm.trans ((ob_xaW _ _ _).mp z)) (by decide)) hp
        have hY92 : ∀ (post : SY → Prop) (x10 : Int32), wY_store_92 post (lN (17179869184 + o)) (nI k) v strict (nI o) (nI (32 * q + k)) 0 x10 (nI n) (nI m) yGiven (nI d) deep (nI b) thr thn res cStr (fun zz => nI (CL zz)) cOp cA cB (fun zz => nI (OK zz)) oKin yCo yAr oOpen (fun zz => nI (M zz)) (fun zz => ob_yf (tw zz) (te zz) (tc zz)) yPair ySeen pVal ySet (fun zz => ob_th (S zz)) yStay aOut aVar yArg (fun zz => nI (FC zz)) (fun zz => nI (FA zz)) (fun zz => nI (FP zz)) (fun zz => nI (FH zz)) yHan (fun zz => nI (FT zz)) (fun zz => nI (TA zz)) (fun zz => nI (TH zz)) fSelf yKept stk → wY_store_58 post (lN (17179869184 + o)) (nI k) v strict (nI o) (nI (32 * q + k)) 0 x10 (nI n) (nI m) yGiven (nI d) deep (nI b) thr thn res cStr (fun zz => nI (CL zz)) cOp cA cB (fun zz => nI (OK zz)) oKin yCo yAr oOpen (fun zz => nI (M zz)) (fun zz => ob_yf (tw zz) (te zz) (tc zz)) yPair ySeen pVal ySet (fun zz => ob_th (S zz)) yStay aOut aVar yArg (fun zz => nI (FC zz)) (fun zz => nI (FA zz)) (fun zz => nI (FP zz)) (fun zz => nI (FH zz)) yHan (fun zz => nI (FT zz)) (fun zz => nI (TA zz)) (fun zz => nI (TH zz)) fSelf yKept stk := by
          intro post x10 hp
          unfold wY_store_58
          refine br_f hoo (br_f hrr ⟨hin, ?_⟩)
          rw [hcl]
          refine br_t hpr ⟨hin, br_f (fun z => absurd (htw.symm.trans ((ob_yfW _ _ _).mp z)) (by decide)) hp⟩
        by_cases hqo : q = o
        · refine hdef true (nI (32 * q + k)) (Or.inr hin) (fun post hp => hX116 post ?_) (fun post hp => hY58 post (fun _ => hY92 post 1 ?_) (fun z => absurd hqo z))
          · unfold wX_putValue_116 wX_putValue_117
            refine br_f hrr ?_
            rw [heq]
            refine br_t hqo ?_
            unfold wX_putValue_141
            refine br_f hoo (br_t rfl (br_f (by decide) ?_))
            unfold wX_putValue_171
            exact br_f (by decide) hp
          · unfold wY_store_92
            refine br_f (by decide) ?_
            unfold wY_store_107 wY_store_112
            exact nm_e (br_f (by decide) (br_f (by decide) hp))
        · refine hgrow (nI (32 * q + k)) (Or.inr ⟨hin, by rw [hcl]; exact hpr⟩) (fun post hp => hX116 post ?_) (fun post hp => hY58 post (fun z => absurd z hqo) (fun _ => hY92 post 0 hp))
          unfold wX_putValue_116 wX_putValue_117
          refine br_f hrr ?_
          rw [heq]
          exact br_f hqo hp
    · have hp1 : ¬ yPair (32 * q + k) = 0 := by rw [hpr]; decide
      by_cases hset : ySet (32 * q + k) = 8589934592
      · exact hro htw (fun z => z.2 (hxy.trans hset)) (fun _ => hset)
      · obtain ⟨d', deep', thr', thn', S', aOut', aVar', FC', FA', FP', FH', FT', fSelf', XH', yHan', xHeld', yKept', yStay', R2, hw2, hXe, hYe⟩ := ob_enter (self := lN (17179869184 + o)) (held := v) (kept := v) (c := 1) (t := 1) (deep := deep) (cStr := cStr) (oOpen := oOpen) (te := te) (xArg := (vp_updL xArg 0 v)) (ySeen := ySeen) (yArg := (vp_updL yArg 0 v)) R hres hvs hb (by decide) (fun _ => ⟨rfl, hv⟩) (by decide) (fun j hj => by
          have : j = 0 := by omega
          subst this
          exact ⟨rfl, hv⟩)
        refine ⟨_, _, ob_S_mk (deep := deep') (cStr := cStr) (oOpen := oOpen) (te := te) (xArg := (vp_updL xArg 0 v)) (ySeen := ySeen) (yArg := (vp_updL yArg 0 v)) (yGiven := (nI 1)) R2 (by omega : m ≤ B) (by omega), fun post hp => hX0 post (br_f hrr ⟨hin, ?_⟩), fun post hp => ?_⟩
        · rw [hcl, hxy]
          refine br_t hpk ⟨hin, br_f hset (nm_e ⟨hin, ?_⟩)⟩
          exact hXe _ hp
        · have h58 : ∀ x10 : Int32, wY_store_58 post (lN (17179869184 + o)) (nI k) v strict (nI o) (nI (32 * q + k)) 0 x10 (nI n) (nI m) yGiven (nI d) deep (nI b) thr thn res cStr (fun zz => nI (CL zz)) cOp cA cB (fun zz => nI (OK zz)) oKin yCo yAr oOpen (fun zz => nI (M zz)) (fun zz => ob_yf (tw zz) (te zz) (tc zz)) yPair ySeen pVal ySet (fun zz => ob_th (S zz)) yStay aOut aVar yArg (fun zz => nI (FC zz)) (fun zz => nI (FA zz)) (fun zz => nI (FP zz)) (fun zz => nI (FH zz)) yHan (fun zz => nI (FT zz)) (fun zz => nI (TA zz)) (fun zz => nI (TH zz)) fSelf yKept stk := by
            intro x10
            unfold wY_store_58
            refine br_f hoo (br_f hrr ⟨hin, ?_⟩)
            rw [hcl]
            refine br_f hp1 ?_
            unfold wY_store_111 wY_store_112
            refine nm_e (br_t rfl ?_)
            unfold wY_store_157
            refine br_f hU (br_f hN (br_f hrr ⟨hin, ?_⟩))
            rw [hcl]
            refine br_f hp1 (br_t rfl ⟨hin, br_f hset ⟨hin, ?_⟩⟩)
            exact hYe _ hp
          exact hY58 post (fun _ => h58 1) (fun _ => h58 0)
end
end
section
/-! ===== a property is lost; an object is sealed ===== -/
theorem ob_xsl : ∀ w e c a b : Bool, (ob_xa w e c &&& ((if a then 5 else if b then 4 else 0) ^^^ (-1))) = ob_xa (!a && w) e (!(a || b) && c) := by decide +kernel
theorem ob_ysl2 : ∀ w e c : Bool, (ob_yf w e c &&& (-35)) = ob_yf false e false := by decide +kernel
theorem ob_ysl1 : ∀ w e c : Bool, (ob_yf w e c &&& (-33)) = ob_yf w e false := by decide +kernel
def ob_sw (o k : Nat) (on : Bool) (F : Nat → Bool) : Nat → Bool := fun i => if 32 * o ≤ i ∧ i < 32 * o + k ∧ on = true then false else F i
theorem ob_sw_0 (o : Nat) (on : Bool) (F : Nat → Bool) : ob_sw o 0 on F = F := by
  funext i; unfold ob_sw; rw [if_neg (by omega)]
theorem ob_sw_at (o k : Nat) (on : Bool) (F : Nat → Bool) : ob_sw o k on F (32 * o + k) = F (32 * o + k) := by
  unfold ob_sw; rw [if_neg (by omega)]
theorem ob_sw_s (o k : Nat) (on : Bool) (F : Nat → Bool) : ob_ub (ob_sw o k on F) (32 * o + k) (!on && F (32 * o + k)) = ob_sw o (k + 1) on F := by
  funext i
  unfold ob_ub ob_sw
  cases on
  · simp only [Bool.false_eq_true, and_false, if_false, Bool.not_false, Bool.true_and]
    split
    · rename_i h; rw [h]
    · rfl
  · simp only [and_true, Bool.not_true, Bool.false_and]
    by_cases h : i = 32 * o + k
    · rw [if_pos h, if_pos (by omega)]
    · rw [if_neg h]
      by_cases h2 : 32 * o ≤ i ∧ i < 32 * o + k
      · rw [if_pos h2, if_pos (by omega)]
      · rw [if_neg h2, if_neg (by omega)]
theorem ob_sw_f (o k : Nat) (F : Nat → Bool) : ob_sw o k false F = F := by
  funext i; unfold ob_sw; simp
theorem ob_sw_le {o k i : Nat} {on : Bool} {F : Nat → Bool} (h : F i = false) : ob_sw o k on F i = false := by
  unfold ob_sw; split
  · rfl
  · exact h
section
variable {n : Nat} {d : Nat} {b : Nat} {m : Nat} {deep : Int32} {res : Int64} {thr : Int32} {thn : Int64} {CL : Nat → Nat} {cStr : Nat → Int32} {cOp : Nat → Int32} {cA : Nat → Int32} {cB : Nat → Int32} {OK : Nat → Nat} {oKin : Nat → Int32} {oOpen : Nat → Int32} {pVal : Nat → Int64} {aOut : Nat → Int32} {aVar : Nat → Int64} {FC : Nat → Nat} {FA : Nat → Nat} {FP : Nat → Nat} {FH : Nat → Nat} {FT : Nat → Nat} {fSelf : Nat → Int64} {stk : Nat → Int64} {TA : Nat → Nat} {TH : Nat → Nat} {xFc : Nat → Int32} {xFs : Nat → Int32} {xPc : Nat → Int32} {xKo : Nat → Int32} {xPk : Nat → Int32} {tw : Nat → Bool} {te : Nat → Bool} {tc : Nat → Bool} {xSet : Nat → Int64} {S : Nat → Nat} {XH : Nat → Nat} {xHeld : Nat → Int64} {xArg : Nat → Int64} {yCo : Nat → Int32} {yAr : Nat → Int32} {M : Nat → Nat} {yPair : Nat → Int32} {ySeen : Nat → Int32} {ySet : Nat → Int64} {yStay : Nat → Int32} {yArg : Nat → Int64} {yHan : Nat → Int32} {yKept : Nat → Int64} {yGiven : Int32}
variable {o k h : Nat} {a c : Bool}
theorem ob_sealX1 (ho : o < 32) (hac : a = true → c = true) (post : SX → Prop) (hp : post (nI n, nI d, nI b, deep, res, thr, thn, (fun zz => nI (CL zz)), cStr, cOp, cA, cB, (fun zz => nI (OK zz)), oKin, oOpen, xFc, xFs, xPc, xKo, xPk, (fun zz => ob_xa ((ob_sw o 32 a tw) zz) (te zz) ((ob_sw o 32 c tc) zz)), pVal, xSet, (fun zz => nI (S zz)), aOut, aVar, (fun zz => nI (FC zz)), (fun zz => nI (FP zz)), (fun zz => nI (FA zz)), (fun zz => nI (FH zz)), (fun zz => nI (XH zz)), (fun zz => nI (FT zz)), fSelf, xHeld, stk, (fun zz => nI (TA zz)), (fun zz => nI (TH zz)), xArg)) :
    ∀ j k, j + k = 32 → wX_sealObject_29 post (nI o) (if a then 5 else if c then 4 else 0) (nI n) (nI d) (nI b) deep res thr thn (j + 1) (nI k) (fun zz => nI (CL zz)) cStr cOp cA cB (fun zz => nI (OK zz)) oKin oOpen xFc xFs xPc xKo xPk (fun zz => ob_xa ((ob_sw o k a tw) zz) (te zz) ((ob_sw o k c tc) zz)) pVal xSet (fun zz => nI (S zz)) aOut aVar (fun zz => nI (FC zz)) (fun zz => nI (FP zz)) (fun zz => nI (FA zz)) (fun zz => nI (FH zz)) (fun zz => nI (XH zz)) (fun zz => nI (FT zz)) fSelf xHeld stk (fun zz => nI (TA zz)) (fun zz => nI (TH zz)) xArg
  | 0, k, e => by
    have e' : k = 32 := by omega
    subst e'
    unfold wX_sealObject_29
    exact br_t (by decide) hp
  | j + 1, k, e => by
    have ih := ob_sealX1 ho hac post hp j (k + 1) (by omega)
    have h1 : ¬ 32 ≤ k := by omega
    have hca : (!(a || c) && tc (32 * o + k)) = (!c && tc (32 * o + k)) := by
      cases a
      · rfl
      · rw [hac rfl]; rfl
    unfold wX_sealObject_29
    simp (disch := first | omega | decide) only [h1, ob_sw_at, ob_xsl, hca, ob_uA, ob_sw_s, ob_ub_i, forall_eq, not_true, not_false_iff, false_implies, true_implies, true_and, and_true, ob_sub1, Nat.add_sub_cancel, nI_1, ob_ix, ob_iy, ob_ix24, ob_iy24, ob_ix10, ob_iy10, ob_ix4, ob_iy4, ob_ix3, ob_iy3, ob_s1, ob_s2, ob_s3, ob_s4, ob_ltl, ob_lel, ob_eql, ob_ltr, ob_ler, ob_uN, Nat.add_one_ne_zero, ob_xs3, ob_lnn, ob_ltn, ob_eqn, Nat.not_lt_zero, Nat.zero_le, Nat.reduceEqDiff, Nat.reduceLeDiff, Nat.reduceLT, ob_eqll, Int32.reduceLT, Int32.reduceLE, eq_self_iff_true]
    exact ih
theorem ob_sealX (ho : o < 32) (hh : h ≤ 2) (post : SX → Prop) (hp : post (nI n, nI d, nI b, deep, res, thr, thn, (fun zz => nI (CL zz)), cStr, cOp, cA, cB, (fun zz => nI (OK zz)), oKin, (upd oOpen o 0), xFc, xFs, xPc, xKo, xPk, (fun zz => ob_xa ((ob_sw o 32 (decide (h = 2)) tw) zz) (te zz) ((ob_sw o 32 (decide (h ≠ 0)) tc) zz)), pVal, xSet, (fun zz => nI (S zz)), aOut, aVar, (fun zz => nI (FC zz)), (fun zz => nI (FP zz)), (fun zz => nI (FA zz)), (fun zz => nI (FH zz)), (fun zz => nI (XH zz)), (fun zz => nI (FT zz)), fSelf, xHeld, stk, (fun zz => nI (TA zz)), (fun zz => nI (TH zz)), xArg)) : wpX_sealObject post (nI n, nI d, nI b, deep, res, thr, thn, (fun zz => nI (CL zz)), cStr, cOp, cA, cB, (fun zz => nI (OK zz)), oKin, oOpen, xFc, xFs, xPc, xKo, xPk, (fun zz => ob_xa (tw zz) (te zz) (tc zz)), pVal, xSet, (fun zz => nI (S zz)), aOut, aVar, (fun zz => nI (FC zz)), (fun zz => nI (FP zz)), (fun zz => nI (FA zz)), (fun zz => nI (FH zz)), (fun zz => nI (XH zz)), (fun zz => nI (FT zz)), fSelf, xHeld, stk, (fun zz => nI (TA zz)), (fun zz => nI (TH zz)), xArg) (nI o) (nI h) := by
  have hl := ob_sealX1 (n := n) (d := d) (b := b) (deep := deep) (res := res) (thr := thr) (thn := thn) (CL := CL) (cStr := cStr) (cOp := cOp) (cA := cA) (cB := cB) (OK := OK) (oKin := oKin) (oOpen := (upd oOpen o 0)) (pVal := pVal) (aOut := aOut) (aVar := aVar) (FC := FC) (FA := FA) (FP := FP) (FH := FH) (FT := FT) (fSelf := fSelf) (stk := stk) (TA := TA) (TH := TH) (xFc := xFc) (xFs := xFs) (xPc := xPc) (xKo := xKo) (xPk := xPk) (tw := tw) (te := te) (tc := tc) (xSet := xSet) (S := S) (XH := XH) (xHeld := xHeld) (xArg := xArg) (a := decide (h = 2)) (c := decide (h ≠ 0)) ho (by simp; omega) post hp 32 0 rfl
  rw [ob_sw_0, ob_sw_0] at hl
  unfold wpX_sealObject wX_sealObject_16
  have h3 : h = 0 ∨ h = 1 ∨ h = 2 := by omega
  rcases h3 with rfl | rfl | rfl
  · simp (disch := first | omega | decide) only [ob_nar0, forall_eq, not_true, not_false_iff, false_implies, true_implies, true_and, and_true, ob_sub1, Nat.add_sub_cancel, nI_1, ob_ix, ob_iy, ob_ix24, ob_iy24, ob_ix10, ob_iy10, ob_ix4, ob_iy4, ob_ix3, ob_iy3, ob_s1, ob_s2, ob_s3, ob_s4, ob_ltl, ob_lel, ob_eql, ob_ltr, ob_ler, ob_uN, Nat.add_one_ne_zero, ob_xs3, ob_lnn, ob_ltn, ob_eqn, Nat.not_lt_zero, Nat.zero_le, Nat.reduceEqDiff, Nat.reduceLeDiff, Nat.reduceLT, ob_eqll, Int32.reduceLT, Int32.reduceLE, eq_self_iff_true]
    exact ⟨33, hl⟩
  · simp (disch := first | omega | decide) only [ob_nar0, forall_eq, not_true, not_false_iff, false_implies, true_implies, true_and, and_true, ob_sub1, Nat.add_sub_cancel, nI_1, ob_ix, ob_iy, ob_ix24, ob_iy24, ob_ix10, ob_iy10, ob_ix4, ob_iy4, ob_ix3, ob_iy3, ob_s1, ob_s2, ob_s3, ob_s4, ob_ltl, ob_lel, ob_eql, ob_ltr, ob_ler, ob_uN, Nat.add_one_ne_zero, ob_xs3, ob_lnn, ob_ltn, ob_eqn, Nat.not_lt_zero, Nat.zero_le, Nat.reduceEqDiff, Nat.reduceLeDiff, Nat.reduceLT, ob_eqll, Int32.reduceLT, Int32.reduceLE, eq_self_iff_true]
    exact ⟨33, hl⟩
  · simp (disch := first | omega | decide) only [ob_nar0, forall_eq, not_true, not_false_iff, false_implies, true_implies, true_and, and_true, ob_sub1, Nat.add_sub_cancel, nI_1, ob_ix, ob_iy, ob_ix24, ob_iy24, ob_ix10, ob_iy10, ob_ix4, ob_iy4, ob_ix3, ob_iy3, ob_s1, ob_s2, ob_s3, ob_s4, ob_ltl, ob_lel, ob_eql, ob_ltr, ob_ler, ob_uN, Nat.add_one_ne_zero, ob_xs3, ob_lnn, ob_ltn, ob_eqn, Nat.not_lt_zero, Nat.zero_le, Nat.reduceEqDiff, Nat.reduceLeDiff, Nat.reduceLT, ob_eqll, Int32.reduceLT, Int32.reduceLE, eq_self_iff_true]
    exact ⟨33, hl⟩
theorem ob_sealY1 (ho : o < 32) (hh : (h = 1 ∧ a = false) ∨ (h = 2 ∧ a = true)) (post : Int32 → SY → Prop) (hp : post 1 (nI n, nI m, yGiven, nI d, deep, nI b, thr, thn, res, cStr, (fun zz => nI (CL zz)), cOp, cA, cB, (fun zz => nI (OK zz)), oKin, yCo, yAr, oOpen, (fun zz => nI (M zz)), (fun zz => ob_yf ((ob_sw o 32 a tw) zz) (te zz) ((ob_sw o 32 true tc) zz)), yPair, ySeen, pVal, ySet, (fun zz => ob_th (S zz)), yStay, aOut, aVar, yArg, (fun zz => nI (FC zz)), (fun zz => nI (FA zz)), (fun zz => nI (FP zz)), (fun zz => nI (FH zz)), yHan, (fun zz => nI (FT zz)), (fun zz => nI (TA zz)), (fun zz => nI (TH zz)), fSelf, yKept, stk)) :
    ∀ j k, j + k = 32 → wY_seal_37 post (nI o) (nI h) (nI n) (nI m) yGiven (nI d) deep (nI b) thr thn res (j + 1) (nI (32 * o + k)) cStr (fun zz => nI (CL zz)) cOp cA cB (fun zz => nI (OK zz)) oKin yCo yAr oOpen (fun zz => nI (M zz)) (fun zz => ob_yf ((ob_sw o k a tw) zz) (te zz) ((ob_sw o k true tc) zz)) yPair ySeen pVal ySet (fun zz => ob_th (S zz)) yStay aOut aVar yArg (fun zz => nI (FC zz)) (fun zz => nI (FA zz)) (fun zz => nI (FP zz)) (fun zz => nI (FH zz)) yHan (fun zz => nI (FT zz)) (fun zz => nI (TA zz)) (fun zz => nI (TH zz)) fSelf yKept stk
  | 0, k, e => by
    have e' : k = 32 := by omega
    subst e'
    unfold wY_seal_37
    have e2 : 32 * nI o + 32 = nI (32 * o + 32) := ob_iy o 32
    rw [e2]
    have hle : 32 * o + 32 ≤ 32 * o + 32 := Nat.le_refl _
    simp (disch := first | omega | decide) only [hle, forall_eq, not_true, not_false_iff, false_implies, true_implies, true_and, and_true, ob_sub1, Nat.add_sub_cancel, nI_1, ob_ix, ob_iy, ob_ix24, ob_iy24, ob_ix10, ob_iy10, ob_ix4, ob_iy4, ob_ix3, ob_iy3, ob_s1, ob_s2, ob_s3, ob_s4, ob_ltl, ob_lel, ob_eql, ob_ltr, ob_ler, ob_uN, Nat.add_one_ne_zero, ob_xs3, ob_lnn, ob_ltn, ob_eqn, Nat.not_lt_zero, Nat.zero_le, Nat.reduceEqDiff, Nat.reduceLeDiff, Nat.reduceLT, ob_eqll, Int32.reduceLT, Int32.reduceLE, eq_self_iff_true]
    exact hp
  | j + 1, k, e => by
    have ih := ob_sealY1 ho hh post hp j (k + 1) (by omega)
    have e2 : 32 * nI o + 32 = nI (32 * o + 32) := ob_iy o 32
    have h1 : ¬ 32 * o + 32 ≤ 32 * o + k := by omega
    have h0 : ¬ h ≤ 0 := by omega
    have hs1 := ob_sw_s o k true tc
    have hs2 := ob_sw_s o k a tw
    unfold wY_seal_37
    rw [e2]
    simp (disch := first | omega | decide) only [h1, h0, forall_eq, not_true, not_false_iff, false_implies, true_implies, true_and, and_true, ob_sub1, Nat.add_sub_cancel, nI_1, ob_ix, ob_iy, ob_ix24, ob_iy24, ob_ix10, ob_iy10, ob_ix4, ob_iy4, ob_ix3, ob_iy3, ob_s1, ob_s2, ob_s3, ob_s4, ob_ltl, ob_lel, ob_eql, ob_ltr, ob_ler, ob_uN, Nat.add_one_ne_zero, ob_xs3, ob_lnn, ob_ltn, ob_eqn, Nat.not_lt_zero, Nat.zero_le, Nat.reduceEqDiff, Nat.reduceLeDiff, Nat.reduceLT, ob_eqll, Int32.reduceLT, Int32.reduceLE, eq_self_iff_true]
    rw [show (!true && tc (32 * o + k)) = false from rfl] at hs1
    rcases hh with ⟨rfl, rfl⟩ | ⟨rfl, rfl⟩
    · rw [show (!false && tw (32 * o + k)) = tw (32 * o + k) from rfl] at hs2
      simp (disch := first | omega | decide) only [ob_sw_at, ob_ysl1, ob_uF, ob_ub_i, hs1, hs2, forall_eq, not_true, not_false_iff, false_implies, true_implies, true_and, and_true, ob_sub1, Nat.add_sub_cancel, nI_1, ob_ix, ob_iy, ob_ix24, ob_iy24, ob_ix10, ob_iy10, ob_ix4, ob_iy4, ob_ix3, ob_iy3, ob_s1, ob_s2, ob_s3, ob_s4, ob_ltl, ob_lel, ob_eql, ob_ltr, ob_ler, ob_uN, Nat.add_one_ne_zero, ob_xs3, ob_lnn, ob_ltn, ob_eqn, Nat.not_lt_zero, Nat.zero_le, Nat.reduceEqDiff, Nat.reduceLeDiff, Nat.reduceLT, ob_eqll, Int32.reduceLT, Int32.reduceLE, eq_self_iff_true]
      exact ih
    · rw [show (!true && tw (32 * o + k)) = false from rfl] at hs2
      simp (disch := first | omega | decide) only [ob_sw_at, ob_ysl2, ob_uF, ob_ub_i, hs1, hs2, forall_eq, not_true, not_false_iff, false_implies, true_implies, true_and, and_true, ob_sub1, Nat.add_sub_cancel, nI_1, ob_ix, ob_iy, ob_ix24, ob_iy24, ob_ix10, ob_iy10, ob_ix4, ob_iy4, ob_ix3, ob_iy3, ob_s1, ob_s2, ob_s3, ob_s4, ob_ltl, ob_lel, ob_eql, ob_ltr, ob_ler, ob_uN, Nat.add_one_ne_zero, ob_xs3, ob_lnn, ob_ltn, ob_eqn, Nat.not_lt_zero, Nat.zero_le, Nat.reduceEqDiff, Nat.reduceLeDiff, Nat.reduceLT, ob_eqll, Int32.reduceLT, Int32.reduceLE, eq_self_iff_true]
      exact ih
theorem ob_inT {a b c : Nat} (h1 : b ≤ a) (h2 : a ≤ c) (hc : c < 2 ^ 31) (post : Int32 → Prop) (hp : post 1) : wpY_in post (nI a) (nI b) (nI c) :=
  br_f (nI_nlt h1 (by omega)) (br_f (nI_nlt h2 hc) hp)
theorem ob_sealY (ho : o < n) (hn : n ≤ 32) (hh : h ≤ 2) (post : Int32 → SY → Prop) (hp : post 1 (nI n, nI m, yGiven, nI d, deep, nI b, thr, thn, res, cStr, (fun zz => nI (CL zz)), cOp, cA, cB, (fun zz => nI (OK zz)), oKin, yCo, yAr, (upd oOpen o 0), (fun zz => nI (M zz)), (fun zz => ob_yf ((ob_sw o 32 (decide (h = 2)) tw) zz) (te zz) ((ob_sw o 32 (decide (h ≠ 0)) tc) zz)), yPair, ySeen, pVal, ySet, (fun zz => ob_th (S zz)), yStay, aOut, aVar, yArg, (fun zz => nI (FC zz)), (fun zz => nI (FA zz)), (fun zz => nI (FP zz)), (fun zz => nI (FH zz)), yHan, (fun zz => nI (FT zz)), (fun zz => nI (TA zz)), (fun zz => nI (TH zz)), fSelf, yKept, stk)) : wpY_seal post (nI n, nI m, yGiven, nI d, deep, nI b, thr, thn, res, cStr, (fun zz => nI (CL zz)), cOp, cA, cB, (fun zz => nI (OK zz)), oKin, yCo, yAr, oOpen, (fun zz => nI (M zz)), (fun zz => ob_yf (tw zz) (te zz) (tc zz)), yPair, ySeen, pVal, ySet, (fun zz => ob_th (S zz)), yStay, aOut, aVar, yArg, (fun zz => nI (FC zz)), (fun zz => nI (FA zz)), (fun zz => nI (FP zz)), (fun zz => nI (FH zz)), yHan, (fun zz => nI (FT zz)), (fun zz => nI (TA zz)), (fun zz => nI (TH zz)), fSelf, yKept, stk) (nI o) (nI h) := by
  unfold wpY_seal
  dsimp only
  rw [ob_sub1 (a := n) (by omega)]
  refine ob_inT (b := 0) (by omega) (by omega) (by omega) _ (br_f (by decide) ?_)
  refine ob_inT (b := 0) (c := 2) (by omega) hh (by decide) _ (br_f (by decide) ?_)
  have e : 32 * nI o = nI (32 * o) := pk_mul 32 o
  simp (disch := first | omega | decide) only [ob_nar0, e, forall_eq, not_true, not_false_iff, false_implies, true_implies, true_and, and_true, ob_sub1, Nat.add_sub_cancel, nI_1, ob_ix, ob_iy, ob_ix24, ob_iy24, ob_ix10, ob_iy10, ob_ix4, ob_iy4, ob_ix3, ob_iy3, ob_s1, ob_s2, ob_s3, ob_s4, ob_ltl, ob_lel, ob_eql, ob_ltr, ob_ler, ob_uN, Nat.add_one_ne_zero, ob_xs3, ob_lnn, ob_ltn, ob_eqn, Nat.not_lt_zero, Nat.zero_le, Nat.reduceEqDiff, Nat.reduceLeDiff, Nat.reduceLT, ob_eqll, Int32.reduceLT, Int32.reduceLE, eq_self_iff_true]
  by_cases h0 : h = 0
  · subst h0
    rw [show decide (0 = 2) = false from rfl, show decide (0 ≠ 0) = false from rfl, ob_sw_f, ob_sw_f] at hp
    refine ⟨1, ?_⟩
    unfold wY_seal_37
    have e2 : 32 * nI o + 32 = nI (32 * o + 32) := ob_iy o 32
    rw [e2]
    have h1 : ¬ 32 * o + 32 ≤ 32 * o := by omega
    simp (disch := first | omega | decide) only [h1, forall_eq, not_true, not_false_iff, false_implies, true_implies, true_and, and_true, ob_sub1, Nat.add_sub_cancel, nI_1, ob_ix, ob_iy, ob_ix24, ob_iy24, ob_ix10, ob_iy10, ob_ix4, ob_iy4, ob_ix3, ob_iy3, ob_s1, ob_s2, ob_s3, ob_s4, ob_ltl, ob_lel, ob_eql, ob_ltr, ob_ler, ob_uN, Nat.add_one_ne_zero, ob_xs3, ob_lnn, ob_ltn, ob_eqn, Nat.not_lt_zero, Nat.zero_le, Nat.reduceEqDiff, Nat.reduceLeDiff, Nat.reduceLT, ob_eqll, Int32.reduceLT, Int32.reduceLE, eq_self_iff_true]
    exact hp
  · refine ⟨33, ?_⟩
    have hb : decide (h ≠ 0) = true := decide_eq_true h0
    rw [hb] at hp
    have hl := ob_sealY1 (n := n) (d := d) (b := b) (m := m) (deep := deep) (res := res) (thr := thr) (thn := thn) (CL := CL) (cStr := cStr) (cOp := cOp) (cA := cA) (cB := cB) (OK := OK) (oKin := oKin) (oOpen := (upd oOpen o 0)) (pVal := pVal) (aOut := aOut) (aVar := aVar) (FC := FC) (FA := FA) (FP := FP) (FH := FH) (FT := FT) (fSelf := fSelf) (stk := stk) (TA := TA) (TH := TH) (tw := tw) (te := te) (tc := tc) (S := S) (yCo := yCo) (yAr := yAr) (M := M) (yPair := yPair) (ySeen := ySeen) (ySet := ySet) (yStay := yStay) (yArg := yArg) (yHan := yHan) (yKept := yKept) (yGiven := yGiven) (h := h) (a := decide (h = 2)) (o := o) (by omega) (by
      have : h = 1 ∨ h = 2 := by omega
      rcases this with rfl | rfl
      · exact Or.inl ⟨rfl, rfl⟩
      · exact Or.inr ⟨rfl, rfl⟩) post hp 32 0 rfl
    rw [ob_sw_0, ob_sw_0] at hl
    exact hl
theorem ob_sealR (R : ob_R n d b m res thr thn CL cOp cA cB OK oKin pVal aOut aVar FC FA FP FH FT fSelf stk TA TH xFc xFs xPc xKo xPk tw tc xSet S XH xHeld yCo yAr M yPair ySet yStay yHan yKept) {onW onC : Bool} : ob_R n d b m res thr thn CL cOp cA cB OK oKin pVal aOut aVar FC FA FP FH FT fSelf stk TA TH xFc xFs xPc xKo xPk (ob_sw o 32 onW tw) (ob_sw o 32 onC tc) xSet S XH xHeld yCo yAr M yPair ySet yStay yHan yKept := by
  obtain ⟨hC, hO, hP, hL, hY, hA, hF, hT⟩ := R
  refine ⟨hC, hO, ⟨hP.1, hP.2.1, fun i hi => ?_⟩, hL, fun q hq h1 => ?_, hA, hF, hT⟩
  · rcases hP.2.2 i hi with h | ⟨h1, h2, h3⟩
    · exact Or.inl h
    · refine Or.inr ⟨h1, h2, ?_⟩
      rcases h3 with h | ⟨g1, g2, g3, g4⟩
      · exact Or.inl h
      · exact Or.inr ⟨g1, g2, ob_sw_le g3, g4⟩
  · obtain ⟨a1, a2, a3, a4⟩ := hY q hq h1
    exact ⟨a1, a2, ob_sw_le a3, a4⟩
/-- a property is lost, or stays -/
theorem ob_lose (R : ob_R n d b m res thr thn CL cOp cA cB OK oKin pVal aOut aVar FC FA FP FH FT fSelf stk TA TH xFc xFs xPc xKo xPk tw tc xSet S XH xHeld yCo yAr M yPair ySet yStay yHan yKept) (hm : m < 2 ^ 31) (ho : o < n) (hk : k < 32) : ∃ (r : Int32) (M' : Nat → Nat) (xPc' : Nat → Int32) (xKo' : Nat → Int32) (xPk' : Nat → Int32), ob_R n d b m res thr thn CL cOp cA cB OK oKin pVal aOut aVar FC FA FP FH FT fSelf stk TA TH xFc xFs xPc' xKo' xPk' tw tc xSet S XH xHeld yCo yAr M' yPair ySet yStay yHan yKept ∧ (r = 0 ∨ r = 1) ∧
    (∀ post : Int32 → SX → Prop, post r (nI n, nI d, nI b, deep, res, thr, thn, (fun zz => nI (CL zz)), cStr, cOp, cA, cB, (fun zz => nI (OK zz)), oKin, oOpen, xFc, xFs, xPc', xKo', xPk', (fun zz => ob_xa (tw zz) (te zz) (tc zz)), pVal, xSet, (fun zz => nI (S zz)), aOut, aVar, (fun zz => nI (FC zz)), (fun zz => nI (FP zz)), (fun zz => nI (FA zz)), (fun zz => nI (FH zz)), (fun zz => nI (XH zz)), (fun zz => nI (FT zz)), fSelf, xHeld, stk, (fun zz => nI (TA zz)), (fun zz => nI (TH zz)), xArg) → wpX_removeIfAllowed post (nI n, nI d, nI b, deep, res, thr, thn, (fun zz => nI (CL zz)), cStr, cOp, cA, cB, (fun zz => nI (OK zz)), oKin, oOpen, xFc, xFs, xPc, xKo, xPk, (fun zz => ob_xa (tw zz) (te zz) (tc zz)), pVal, xSet, (fun zz => nI (S zz)), aOut, aVar, (fun zz => nI (FC zz)), (fun zz => nI (FP zz)), (fun zz => nI (FA zz)), (fun zz => nI (FH zz)), (fun zz => nI (XH zz)), (fun zz => nI (FT zz)), fSelf, xHeld, stk, (fun zz => nI (TA zz)), (fun zz => nI (TH zz)), xArg) (nI o) (nI k)) ∧
    (∀ post : Int32 → SY → Prop, post r (nI n, nI m, yGiven, nI d, deep, nI b, thr, thn, res, cStr, (fun zz => nI (CL zz)), cOp, cA, cB, (fun zz => nI (OK zz)), oKin, yCo, yAr, oOpen, (fun zz => nI (M' zz)), (fun zz => ob_yf (tw zz) (te zz) (tc zz)), yPair, ySeen, pVal, ySet, (fun zz => ob_th (S zz)), yStay, aOut, aVar, yArg, (fun zz => nI (FC zz)), (fun zz => nI (FA zz)), (fun zz => nI (FP zz)), (fun zz => nI (FH zz)), yHan, (fun zz => nI (FT zz)), (fun zz => nI (TA zz)), (fun zz => nI (TH zz)), fSelf, yKept, stk) → wpY_lose post (nI n, nI m, yGiven, nI d, deep, nI b, thr, thn, res, cStr, (fun zz => nI (CL zz)), cOp, cA, cB, (fun zz => nI (OK zz)), oKin, yCo, yAr, oOpen, (fun zz => nI (M zz)), (fun zz => ob_yf (tw zz) (te zz) (tc zz)), yPair, ySeen, pVal, ySet, (fun zz => ob_th (S zz)), yStay, aOut, aVar, yArg, (fun zz => nI (FC zz)), (fun zz => nI (FA zz)), (fun zz => nI (FP zz)), (fun zz => nI (FH zz)), yHan, (fun zz => nI (FT zz)), (fun zz => nI (TA zz)), (fun zz => nI (TH zz)), fSelf, yKept, stk) (nI o) (nI k)) := by
  obtain ⟨hC, hO, hP, hL, hY, hA, hF, hT⟩ := R
  have hn := hO.1.2
  have hMm := hP.1 (32 * o + k)
  have hsl := ob_sl_0 (hP.2.2 (32 * o + k) (by omega))
  by_cases z : M (32 * o + k) = 0
  · refine ⟨1, M, xPc, xKo, xPk, ⟨hC, hO, hP, hL, hY, hA, hF, hT⟩, Or.inr rfl, fun post hp => ?_, fun post hp => ?_⟩
    · unfold wpX_removeIfAllowed
      simp (disch := first | omega | decide) only [hsl.mpr z, forall_eq, not_true, not_false_iff, false_implies, true_implies, true_and, and_true, ob_sub1, Nat.add_sub_cancel, nI_1, ob_ix, ob_iy, ob_ix24, ob_iy24, ob_ix10, ob_iy10, ob_ix4, ob_iy4, ob_ix3, ob_iy3, ob_s1, ob_s2, ob_s3, ob_s4, ob_ltl, ob_lel, ob_eql, ob_ltr, ob_ler, ob_uN, Nat.add_one_ne_zero, ob_xs3, ob_lnn, ob_ltn, ob_eqn, Nat.not_lt_zero, Nat.zero_le, Nat.reduceEqDiff, Nat.reduceLeDiff, Nat.reduceLT, ob_eqll, Int32.reduceLT, Int32.reduceLE, eq_self_iff_true]
      exact hp
    · unfold wpY_lose
      have hle : M (32 * o + k) ≤ 0 := by omega
      simp (disch := first | omega | decide) only [hle, ob_uN0, ob_um_i z, forall_eq, not_true, not_false_iff, false_implies, true_implies, true_and, and_true, ob_sub1, Nat.add_sub_cancel, nI_1, ob_ix, ob_iy, ob_ix24, ob_iy24, ob_ix10, ob_iy10, ob_ix4, ob_iy4, ob_ix3, ob_iy3, ob_s1, ob_s2, ob_s3, ob_s4, ob_ltl, ob_lel, ob_eql, ob_ltr, ob_ler, ob_uN, Nat.add_one_ne_zero, ob_xs3, ob_lnn, ob_ltn, ob_eqn, Nat.not_lt_zero, Nat.zero_le, Nat.reduceEqDiff, Nat.reduceLeDiff, Nat.reduceLT, ob_eqll, Int32.reduceLT, Int32.reduceLE, eq_self_iff_true]
      exact hp
  · have hpk : ¬ xPk (32 * o + k) = 0 := fun y => z (hsl.mp y)
    have hle : ¬ M (32 * o + k) ≤ 0 := by omega
    cases htc : tc (32 * o + k)
    · refine ⟨0, M, xPc, xKo, xPk, ⟨hC, hO, hP, hL, hY, hA, hF, hT⟩, Or.inl rfl, fun post hp => ?_, fun post hp => ?_⟩
      · unfold wpX_removeIfAllowed
        simp (disch := first | omega | decide) only [hpk, forall_eq, not_true, not_false_iff, false_implies, true_implies, true_and, and_true, ob_sub1, Nat.add_sub_cancel, nI_1, ob_ix, ob_iy, ob_ix24, ob_iy24, ob_ix10, ob_iy10, ob_ix4, ob_iy4, ob_ix3, ob_iy3, ob_s1, ob_s2, ob_s3, ob_s4, ob_ltl, ob_lel, ob_eql, ob_ltr, ob_ler, ob_uN, Nat.add_one_ne_zero, ob_xs3, ob_lnn, ob_ltn, ob_eqn, Nat.not_lt_zero, Nat.zero_le, Nat.reduceEqDiff, Nat.reduceLeDiff, Nat.reduceLT, ob_eqll, Int32.reduceLT, Int32.reduceLE, eq_self_iff_true]
        exact br_t ((ob_xaC _ _ _).mpr htc) hp
      · unfold wpY_lose
        simp (disch := first | omega | decide) only [hle, forall_eq, not_true, not_false_iff, false_implies, true_implies, true_and, and_true, ob_sub1, Nat.add_sub_cancel, nI_1, ob_ix, ob_iy, ob_ix24, ob_iy24, ob_ix10, ob_iy10, ob_ix4, ob_iy4, ob_ix3, ob_iy3, ob_s1, ob_s2, ob_s3, ob_s4, ob_ltl, ob_lel, ob_eql, ob_ltr, ob_ler, ob_uN, Nat.add_one_ne_zero, ob_xs3, ob_lnn, ob_ltn, ob_eqn, Nat.not_lt_zero, Nat.zero_le, Nat.reduceEqDiff, Nat.reduceLeDiff, Nat.reduceLT, ob_eqll, Int32.reduceLT, Int32.reduceLE, eq_self_iff_true]
        exact br_t ((ob_yfC _ _ _).mpr htc) hp
    · obtain ⟨xPc', xKo', hL', hX⟩ := ob_remX (n := n) (d := d) (b := b) (deep := deep) (res := res) (thr := thr) (thn := thn) (CL := CL) (cStr := cStr) (cOp := cOp) (cA := cA) (cB := cB) (OK := OK) (oKin := oKin) (oOpen := oOpen) (pVal := pVal) (aOut := aOut) (aVar := aVar) (FC := FC) (FA := FA) (FP := FP) (FH := FH) (FT := FT) (fSelf := fSelf) (stk := stk) (TA := TA) (TH := TH) (xFc := xFc) (xFs := xFs) (xPc := xPc) (xKo := xKo) (xPk := xPk) (tw := tw) (te := te) (tc := tc) (xSet := xSet) (S := S) (XH := XH) (xHeld := xHeld) (xArg := xArg) (m := m) (M := M) (yPair := yPair) (ySet := ySet) hP hL hn ho hk
      refine ⟨1, ob_um M (32 * o + k) 0, xPc', xKo', upd xPk (32 * o + k) 0, ⟨hC, hO, ob_gP_del hP, hL', ob_gY_del hY (fun q hq h1 e => ?_), hA, hF, hT⟩, Or.inr rfl, fun post hp => ?_, fun post hp => ?_⟩
      · have := (hY q hq h1).2.2.1
        rw [← e, htc] at this
        exact absurd this (by decide)
      · unfold wpX_removeIfAllowed
        simp (disch := first | omega | decide) only [hpk, forall_eq, not_true, not_false_iff, false_implies, true_implies, true_and, and_true, ob_sub1, Nat.add_sub_cancel, nI_1, ob_ix, ob_iy, ob_ix24, ob_iy24, ob_ix10, ob_iy10, ob_ix4, ob_iy4, ob_ix3, ob_iy3, ob_s1, ob_s2, ob_s3, ob_s4, ob_ltl, ob_lel, ob_eql, ob_ltr, ob_ler, ob_uN, Nat.add_one_ne_zero, ob_xs3, ob_lnn, ob_ltn, ob_eqn, Nat.not_lt_zero, Nat.zero_le, Nat.reduceEqDiff, Nat.reduceLeDiff, Nat.reduceLT, ob_eqll, Int32.reduceLT, Int32.reduceLE, eq_self_iff_true]
        refine br_f (fun y => absurd (htc.symm.trans ((ob_xaC _ _ _).mp y)) (by decide)) ?_
        exact hX _ hp
      · unfold wpY_lose
        simp (disch := first | omega | decide) only [hle, ob_uN0, forall_eq, not_true, not_false_iff, false_implies, true_implies, true_and, and_true, ob_sub1, Nat.add_sub_cancel, nI_1, ob_ix, ob_iy, ob_ix24, ob_iy24, ob_ix10, ob_iy10, ob_ix4, ob_iy4, ob_ix3, ob_iy3, ob_s1, ob_s2, ob_s3, ob_s4, ob_ltl, ob_lel, ob_eql, ob_ltr, ob_ler, ob_uN, Nat.add_one_ne_zero, ob_xs3, ob_lnn, ob_ltn, ob_eqn, Nat.not_lt_zero, Nat.zero_le, Nat.reduceEqDiff, Nat.reduceLeDiff, Nat.reduceLT, ob_eqll, Int32.reduceLT, Int32.reduceLE, eq_self_iff_true]
        exact br_f (fun y => absurd (htc.symm.trans ((ob_yfC _ _ _).mp y)) (by decide)) hp
end
end
section
/-! ===== the instructions 8 to 13 ===== -/
theorem ob_key {z : Int64} (h0 : ¬ z < 0) (h : z < 32) : ∃ k, k < 32 ∧ z = lN k := by
  obtain ⟨k, hk, rfl⟩ := pk_lOf h0
  exact ⟨k, (pk_lLT (b := 32) hk (by decide)).mp h, rfl⟩
theorem ob_31 {z : Int64} : z ≤ 31 ↔ z < 32 := by
  rw [ob_Tle, ob_Tlt, show (31 : Int64).toInt = 31 from by decide, show (32 : Int64).toInt = 32 from by decide]
  omega
section
variable {n : Nat} {d : Nat} {b : Nat} {m : Nat} {deep : Int32} {res : Int64} {thr : Int32} {thn : Int64} {CL : Nat → Nat} {cStr : Nat → Int32} {cOp : Nat → Int32} {cA : Nat → Int32} {cB : Nat → Int32} {OK : Nat → Nat} {oKin : Nat → Int32} {oOpen : Nat → Int32} {pVal : Nat → Int64} {aOut : Nat → Int32} {aVar : Nat → Int64} {FC : Nat → Nat} {FA : Nat → Nat} {FP : Nat → Nat} {FH : Nat → Nat} {FT : Nat → Nat} {fSelf : Nat → Int64} {stk : Nat → Int64} {TA : Nat → Nat} {TH : Nat → Nat} {xFc : Nat → Int32} {xFs : Nat → Int32} {xPc : Nat → Int32} {xKo : Nat → Int32} {xPk : Nat → Int32} {tw : Nat → Bool} {te : Nat → Bool} {tc : Nat → Bool} {xSet : Nat → Int64} {S : Nat → Nat} {XH : Nat → Nat} {xHeld : Nat → Int64} {xArg : Nat → Int64} {yCo : Nat → Int32} {yAr : Nat → Int32} {M : Nat → Nat} {yPair : Nat → Int32} {ySeen : Nat → Int32} {ySet : Nat → Int64} {yStay : Nat → Int32} {yArg : Nat → Int64} {yHan : Nat → Int32} {yKept : Nat → Int64} {yGiven : Int32}
variable {e k B w : Nat} {vx vy v : Int64} {strict x1 : Int32}
theorem ob_resU (R : ob_R n (e+1) b m res thr thn CL cOp cA cB OK oKin pVal aOut aVar FC FA FP FH FT fSelf stk TA TH xFc xFs xPc xKo xPk tw tc xSet S XH xHeld yCo yAr M yPair ySet yStay yHan yKept) : res = 8589934592 := R.2.2.2.2.2.2.2.2.2 (Nat.succ_ne_zero e)
theorem ob_S_up {b B w w' : Nat} {u : SX} {v : SY} (h : ob_S b B w u v) (hw : w ≤ w') : ob_S b B w' u v := by
  obtain ⟨n, d, m, deep, res, thr, thn, CL, cStr, cOp, cA, cB, OK, oKin, oOpen, pVal, aOut, aVar, FC, FA, FP, FH, FT, fSelf, stk, TA, TH, xFc, xFs, xPc, xKo, xPk, tw, te, tc, xSet, S, XH, xHeld, xArg, yCo, yAr, M, yPair, ySeen, ySet, yStay, yArg, yHan, yKept, yGiven, h1, h2, h3, h4, h5⟩ := h
  exact ⟨n, d, m, deep, res, thr, thn, CL, cStr, cOp, cA, cB, OK, oKin, oOpen, pVal, aOut, aVar, FC, FA, FP, FH, FT, fSelf, stk, TA, TH, xFc, xFs, xPc, xKo, xPk, tw, te, tc, xSet, S, XH, xHeld, xArg, yCo, yAr, M, yPair, ySeen, ySet, yStay, yArg, yHan, yKept, yGiven, h1, h2, h3, h4, by omega⟩
theorem ob_whX {z : Int32} (hz : z = 0 ∨ z = 1) (post : SX → Prop) (hp : wpX_push post (nI n, nI d, nI b, deep, res, thr, thn, (fun zz => nI (CL zz)), cStr, cOp, cA, cB, (fun zz => nI (OK zz)), oKin, oOpen, xFc, xFs, xPc, xKo, xPk, (fun zz => ob_xa (tw zz) (te zz) (tc zz)), pVal, xSet, (fun zz => nI (S zz)), aOut, aVar, (fun zz => nI (FC zz)), (fun zz => nI (FP zz)), (fun zz => nI (FA zz)), (fun zz => nI (FH zz)), (fun zz => nI (XH zz)), (fun zz => nI (FT zz)), fSelf, xHeld, stk, (fun zz => nI (TA zz)), (fun zz => nI (TH zz)), xArg) (if z = 0 then 8589934594 else 8589934595)) : wpX_pushWhether post (nI n, nI d, nI b, deep, res, thr, thn, (fun zz => nI (CL zz)), cStr, cOp, cA, cB, (fun zz => nI (OK zz)), oKin, oOpen, xFc, xFs, xPc, xKo, xPk, (fun zz => ob_xa (tw zz) (te zz) (tc zz)), pVal, xSet, (fun zz => nI (S zz)), aOut, aVar, (fun zz => nI (FC zz)), (fun zz => nI (FP zz)), (fun zz => nI (FA zz)), (fun zz => nI (FH zz)), (fun zz => nI (XH zz)), (fun zz => nI (FT zz)), fSelf, xHeld, stk, (fun zz => nI (TA zz)), (fun zz => nI (TH zz)), xArg) z := by
  unfold wpX_pushWhether wX_pushWhether_14
  rcases hz with rfl | rfl
  · exact br_t rfl hp
  · exact br_f (by decide) hp
theorem ob_whY {z : Int32} (hz : z = 0 ∨ z = 1) (post : Int64 → Prop) (hp : post (if z = 0 then 8589934594 else 8589934595)) : wpY_truth post z := by
  unfold wpY_truth
  rcases hz with rfl | rfl
  · exact br_t rfl hp
  · exact br_f (by decide) hp
theorem ob_V_w (n : Nat) (z : Int32) : ob_V n (if z = 0 then 8589934594 else 8589934595) := by
  split
  · exact ob_V_F n
  · exact ob_V_T n
theorem ob_pg (R : ob_R n (e+1) b m res thr thn CL cOp cA cB OK oKin pVal aOut aVar FC FA FP FH FT fSelf stk TA TH xFc xFs xPc xKo xPk tw tc xSet S XH xHeld yCo yAr M yPair ySet yStay yHan yKept) (hm : m + 1 ≤ B) (hB : B < 2 ^ 31) (hw : 4 * (e + 1) + ob_hs XH (e + 1) ≤ w) (hk : k < 32) (puts : Bool) (hx : puts = false ∧ (x1 = 8 ∨ x1 = 10) ∨ puts = true ∧ (x1 = 9 ∨ x1 = 11)) (hv : puts = true → vx = vy ∧ ob_V n vy) :
    ∃ u' v', ob_S b B (w + 4) u' v' ∧ (∀ post : SX → Prop, post u' → wX_propertyOp_90 post x1 strict (nI k) vx (nI n) (nI (e+1)) (nI b) deep res thr thn (fun zz => nI (CL zz)) cStr cOp cA cB (fun zz => nI (OK zz)) oKin oOpen xFc xFs xPc xKo xPk (fun zz => ob_xa (tw zz) (te zz) (tc zz)) pVal xSet (fun zz => nI (S zz)) aOut aVar (fun zz => nI (FC zz)) (fun zz => nI (FP zz)) (fun zz => nI (FA zz)) (fun zz => nI (FH zz)) (fun zz => nI (XH zz)) (fun zz => nI (FT zz)) fSelf xHeld stk (fun zz => nI (TA zz)) (fun zz => nI (TH zz)) xArg) ∧ (∀ post : SY → Prop, post v' → wY_reach_60 post (ob_01 puts) strict vy (lN k) (nI n) (nI m) yGiven (nI (e+1)) deep (nI b) thr thn res cStr (fun zz => nI (CL zz)) cOp cA cB (fun zz => nI (OK zz)) oKin yCo yAr oOpen (fun zz => nI (M zz)) (fun zz => ob_yf (tw zz) (te zz) (tc zz)) yPair ySeen pVal ySet (fun zz => ob_th (S zz)) yStay aOut aVar yArg (fun zz => nI (FC zz)) (fun zz => nI (FA zz)) (fun zz => nI (FP zz)) (fun zz => nI (FH zz)) yHan (fun zz => nI (FT zz)) (fun zz => nI (TA zz)) (fun zz => nI (TH zz)) fSelf yKept stk) := by
  obtain ⟨r, FH', R1, hVr, hH, hX1, hY1⟩ := ob_pop (deep := deep) (cStr := cStr) (oOpen := oOpen) (te := te) (xArg := xArg) (ySeen := ySeen) (yArg := yArg) (yGiven := yGiven) R
  have hres := ob_resU R1
  have hk0 : ¬ lN k < 0 := by
    rw [show (0 : Int64) = lN 0 from rfl, pk_lLT (by omega) (by omega)]
    omega
  have hk31 : lN k ≤ 31 := by
    rw [ob_31, show (32 : Int64) = lN 32 from rfl, pk_lLT (by omega) (by omega)]
    exact hk
  rcases hx with ⟨rfl, hx⟩ | ⟨rfl, hx⟩
  · obtain ⟨u', v', hS, hXf, hYf⟩ := ob_fetch (deep := deep) (cStr := cStr) (oOpen := oOpen) (te := te) (xArg := xArg) (ySeen := ySeen) (yArg := yArg) (yGiven := yGiven) (B := B) (w := w) R1 hres hVr hk (by omega) hB hw
    refine ⟨u', v', hS, fun post hp => ?_, fun post hp => ?_⟩
    · unfold wX_propertyOp_90
      refine hX1 _ ?_
      unfold wX_propertyOp_108
      rcases hx with rfl | rfl
      · exact br_t rfl (hXf _ hp)
      · exact br_f (by decide) (br_t rfl (hXf _ hp))
    · unfold wY_reach_60
      refine br_f hk0 (br_t hk31 (hY1 _ ?_))
      rw [lN_i]
      exact br_t rfl (hYf _ hp)
  · obtain ⟨rfl, hvy⟩ := hv rfl
    obtain ⟨u', v', hS, hXf, hYf⟩ := ob_putv (deep := deep) (cStr := cStr) (oOpen := oOpen) (te := te) (xArg := xArg) (ySeen := ySeen) (yArg := yArg) (yGiven := yGiven) (strict := strict) (B := B) (w := w) R1 hres hVr hvy hk (by omega) hB hw
    refine ⟨u', v', hS, fun post hp => ?_, fun post hp => ?_⟩
    · unfold wX_propertyOp_90
      refine hX1 _ ?_
      unfold wX_propertyOp_131
      rcases hx with rfl | rfl
      · exact br_f (by decide) (br_f (by decide) (br_t rfl (hXf _ hp)))
      · exact br_f (by decide) (br_f (by decide) (br_f (by decide) (br_t rfl (hXf _ hp))))
    · unfold wY_reach_60
      refine br_f hk0 (br_t hk31 (hY1 _ ?_))
      rw [lN_i]
      exact br_f (by decide) (hYf _ hp)
/-- GETAT and PUTAT: the key is popped -/
theorem ob_pgat (R : ob_R n (e+1) b m res thr thn CL cOp cA cB OK oKin pVal aOut aVar FC FA FP FH FT fSelf stk TA TH xFc xFs xPc xKo xPk tw tc xSet S XH xHeld yCo yAr M yPair ySet yStay yHan yKept) (hm : m + 1 ≤ B) (hB : B < 2 ^ 31) (hw : 4 * (e + 1) + ob_hs XH (e + 1) ≤ w) (puts : Bool) (hx : puts = false ∧ x1 = 10 ∨ puts = true ∧ x1 = 11) (hv : puts = true → vx = vy ∧ ob_V n vy) :
    ∃ u' v', ob_S b B (w + 4) u' v' ∧ (∀ post : SX → Prop, post u' → wX_propertyOp_55 post x1 strict vx (nI n) (nI (e+1)) (nI b) deep res thr thn (fun zz => nI (CL zz)) cStr cOp cA cB (fun zz => nI (OK zz)) oKin oOpen xFc xFs xPc xKo xPk (fun zz => ob_xa (tw zz) (te zz) (tc zz)) pVal xSet (fun zz => nI (S zz)) aOut aVar (fun zz => nI (FC zz)) (fun zz => nI (FP zz)) (fun zz => nI (FA zz)) (fun zz => nI (FH zz)) (fun zz => nI (XH zz)) (fun zz => nI (FT zz)) fSelf xHeld stk (fun zz => nI (TA zz)) (fun zz => nI (TH zz)) xArg) ∧ (∀ (post : SY → Prop) (z0 : Int32), post v' → wpY_pop (fun r_179 u => match u with | (pf_objects, pf_moment, pf_given, pf_depth, pf_deepest, pf_begun, pf_throwing, pf_thrown, pf_result, pa_strict, pa_length, pa_ops, pa_as, pa_bs, pa_kind, pa_kin, pa_codeOf, pa_around, pa_open, pa_made, pa_flags, pa_pair, pa_seen, pa_value, pa_setter, pa_there, pa_stays, pa_outer, pa_variables, pa_arguments, pa_code, pa_activation, pa_at, pa_high, pa_handlers, pa_then, pa_tryAt, pa_tryHigh, pa_self, pa_kept, pa_stack) => (wY_reach_60 post (ob_01 puts) strict vy r_179 pf_objects pf_moment pf_given pf_depth pf_deepest pf_begun pf_throwing pf_thrown pf_result pa_strict pa_length pa_ops pa_as pa_bs pa_kind pa_kin pa_codeOf pa_around pa_open pa_made pa_flags pa_pair pa_seen pa_value pa_setter pa_there pa_stays pa_outer pa_variables pa_arguments pa_code pa_activation pa_at pa_high pa_handlers pa_then pa_tryAt pa_tryHigh pa_self pa_kept pa_stack)) (nI n, nI m, yGiven, nI (e+1), deep, nI b, thr, thn, res, cStr, (fun zz => nI (CL zz)), cOp, cA, cB, (fun zz => nI (OK zz)), oKin, yCo, yAr, oOpen, (fun zz => nI (M zz)), (fun zz => ob_yf (tw zz) (te zz) (tc zz)), yPair, ySeen, pVal, ySet, (fun zz => ob_th (S zz)), yStay, aOut, aVar, yArg, (fun zz => nI (FC zz)), (fun zz => nI (FA zz)), (fun zz => nI (FP zz)), (fun zz => nI (FH zz)), yHan, (fun zz => nI (FT zz)), (fun zz => nI (TA zz)), (fun zz => nI (TH zz)), fSelf, yKept, stk)) := by
  obtain ⟨r, FH', R1, hVr, hH, hX1, hY1⟩ := ob_pop (deep := deep) (cStr := cStr) (oOpen := oOpen) (te := te) (xArg := xArg) (ySeen := ySeen) (yArg := yArg) (yGiven := yGiven) R
  by_cases hin : ¬ r < 0 ∧ r < 32
  · obtain ⟨k, hk, rfl⟩ := ob_key hin.1 hin.2
    obtain ⟨u', v', hS, hXf, hYf⟩ := ob_pg (deep := deep) (cStr := cStr) (oOpen := oOpen) (te := te) (xArg := xArg) (ySeen := ySeen) (yArg := yArg) (yGiven := yGiven) (x1 := x1) (strict := strict) (vx := vx) (vy := vy) R1 hm hB hw hk puts (by
      rcases hx with ⟨h1, h2⟩ | ⟨h1, h2⟩
      · exact Or.inl ⟨h1, Or.inr h2⟩
      · exact Or.inr ⟨h1, Or.inr h2⟩) hv
    refine ⟨u', v', hS, fun post hp => ?_, fun post _ hp => ?_⟩
    · unfold wX_propertyOp_55
      refine hX1 _ (br_f hin.1 (br_t hin.2 ?_))
      rw [lN_i]
      exact hXf _ hp
    · exact hY1 _ (hYf _ hp)
  · refine ⟨_, _, ob_S_mk (deep := deep) (cStr := cStr) (oOpen := oOpen) (te := te) (xArg := xArg) (ySeen := ySeen) (yArg := yArg) (yGiven := yGiven) (ob_raise R1 (ob_V_Ty n)) (by omega : m ≤ B) (by omega), fun post hp => ?_, fun post _ hp => ?_⟩
    · unfold wX_propertyOp_55 wX_propertyOp_77
      refine hX1 _ ?_
      by_cases h0 : r < 0
      · exact br_t h0 hp
      · exact br_f h0 (br_f (fun z => hin ⟨h0, z⟩) hp)
    · refine hY1 _ ?_
      unfold wY_reach_60 wY_reach_78
      by_cases h0 : r < 0
      · exact br_t h0 hp
      · exact br_f h0 (br_f (fun z => hin ⟨h0, ob_31.mp z⟩) hp)
end
end
section
/-! ===== the instructions 8 to 13, whole ===== -/
section
variable {n : Nat} {d : Nat} {b : Nat} {m : Nat} {deep : Int32} {res : Int64} {thr : Int32} {thn : Int64} {CL : Nat → Nat} {cStr : Nat → Int32} {cOp : Nat → Int32} {cA : Nat → Int32} {cB : Nat → Int32} {OK : Nat → Nat} {oKin : Nat → Int32} {oOpen : Nat → Int32} {pVal : Nat → Int64} {aOut : Nat → Int32} {aVar : Nat → Int64} {FC : Nat → Nat} {FA : Nat → Nat} {FP : Nat → Nat} {FH : Nat → Nat} {FT : Nat → Nat} {fSelf : Nat → Int64} {stk : Nat → Int64} {TA : Nat → Nat} {TH : Nat → Nat} {xFc : Nat → Int32} {xFs : Nat → Int32} {xPc : Nat → Int32} {xKo : Nat → Int32} {xPk : Nat → Int32} {tw : Nat → Bool} {te : Nat → Bool} {tc : Nat → Bool} {xSet : Nat → Int64} {S : Nat → Nat} {XH : Nat → Nat} {xHeld : Nat → Int64} {xArg : Nat → Int64} {yCo : Nat → Int32} {yAr : Nat → Int32} {M : Nat → Nat} {yPair : Nat → Int32} {ySeen : Nat → Int32} {ySet : Nat → Int64} {yStay : Nat → Int32} {yArg : Nat → Int64} {yHan : Nat → Int32} {yKept : Nat → Int64} {yGiven : Int32}
variable {e k B w : Nat} {a : Int32}
theorem ob_frC (R : ob_R n (e+1) b m res thr thn CL cOp cA cB OK oKin pVal aOut aVar FC FA FP FH FT fSelf stk TA TH xFc xFs xPc xKo xPk tw tc xSet S XH xHeld yCo yAr M yPair ySet yStay yHan yKept) : e < 6 ∧ FC e < 8 := by
  have hF := R.2.2.2.2.2.2.1
  have := hF.1
  exact ⟨by omega, (hF.2.1 e (by omega)).1⟩
theorem ob_op8 (R : ob_R n (e+1) b m res thr thn CL cOp cA cB OK oKin pVal aOut aVar FC FA FP FH FT fSelf stk TA TH xFc xFs xPc xKo xPk tw tc xSet S XH xHeld yCo yAr M yPair ySet yStay yHan yKept) (hm : m + 5 ≤ B) (hB : B < 2 ^ 31) (hw : 4 * (e + 1) + ob_hs XH (e + 1) ≤ w) (hk : k < 32) :
    ∃ u' v', ob_S b B (w + 4) u' v' ∧ (∀ post : SX → Prop, post u' → wpX_propertyOp post (nI n, nI (e+1), nI b, deep, res, thr, thn, (fun zz => nI (CL zz)), cStr, cOp, cA, cB, (fun zz => nI (OK zz)), oKin, oOpen, xFc, xFs, xPc, xKo, xPk, (fun zz => ob_xa (tw zz) (te zz) (tc zz)), pVal, xSet, (fun zz => nI (S zz)), aOut, aVar, (fun zz => nI (FC zz)), (fun zz => nI (FP zz)), (fun zz => nI (FA zz)), (fun zz => nI (FH zz)), (fun zz => nI (XH zz)), (fun zz => nI (FT zz)), fSelf, xHeld, stk, (fun zz => nI (TA zz)), (fun zz => nI (TH zz)), xArg) 8 (nI k)) ∧ (∀ post : SY → Prop, post v' → wpY_reach post (nI n, nI m, yGiven, nI (e+1), deep, nI b, thr, thn, res, cStr, (fun zz => nI (CL zz)), cOp, cA, cB, (fun zz => nI (OK zz)), oKin, yCo, yAr, oOpen, (fun zz => nI (M zz)), (fun zz => ob_yf (tw zz) (te zz) (tc zz)), yPair, ySeen, pVal, ySet, (fun zz => ob_th (S zz)), yStay, aOut, aVar, yArg, (fun zz => nI (FC zz)), (fun zz => nI (FA zz)), (fun zz => nI (FP zz)), (fun zz => nI (FH zz)), yHan, (fun zz => nI (FT zz)), (fun zz => nI (TA zz)), (fun zz => nI (TH zz)), fSelf, yKept, stk) 8 (nI k)) := by
  obtain ⟨he, hc⟩ := ob_frC R
  obtain ⟨u', v', hS, hX, hY⟩ := ob_pg (deep := deep) (cStr := cStr) (oOpen := oOpen) (te := te) (xArg := xArg) (ySeen := ySeen) (yArg := yArg) (yGiven := yGiven) (x1 := 8) (strict := cStr (FC e)) (vx := 8589934592) (vy := 0) (B := B) (w := w) R (by omega) hB hw hk false (Or.inl ⟨rfl, Or.inl rfl⟩) (fun h => absurd h (by decide))
  refine ⟨u', v', hS, fun post hp => ?_, fun post hp => ?_⟩
  · unfold wpX_propertyOp wX_propertyOp_43
    simp (disch := first | omega | decide) only [forall_eq, not_true, not_false_iff, false_implies, true_implies, true_and, and_true, ob_sub1, Nat.add_sub_cancel, nI_1, ob_ix, ob_iy, ob_ix24, ob_iy24, ob_ix10, ob_iy10, ob_ix4, ob_iy4, ob_ix3, ob_iy3, ob_s1, ob_s2, ob_s3, ob_s4, ob_ltl, ob_lel, ob_eql, ob_ltr, ob_ler, ob_uN, Nat.add_one_ne_zero, ob_xs3, ob_lnn, ob_ltn, ob_eqn, Nat.not_lt_zero, Nat.zero_le, Nat.reduceEqDiff, Nat.reduceLeDiff, Nat.reduceLT, ob_eqll, Int32.reduceLT, Int32.reduceLE, eq_self_iff_true]
    exact hX post hp
  · unfold wpY_reach
    refine ⟨by decide, br_f (by decide) ?_⟩
    unfold wY_reach_12 wY_reach_43
    simp (disch := first | omega | decide) only [nI_l, forall_eq, not_true, not_false_iff, false_implies, true_implies, true_and, and_true, ob_sub1, Nat.add_sub_cancel, nI_1, ob_ix, ob_iy, ob_ix24, ob_iy24, ob_ix10, ob_iy10, ob_ix4, ob_iy4, ob_ix3, ob_iy3, ob_s1, ob_s2, ob_s3, ob_s4, ob_ltl, ob_lel, ob_eql, ob_ltr, ob_ler, ob_uN, Nat.add_one_ne_zero, ob_xs3, ob_lnn, ob_ltn, ob_eqn, Nat.not_lt_zero, Nat.zero_le, Nat.reduceEqDiff, Nat.reduceLeDiff, Nat.reduceLT, ob_eqll, Int32.reduceLT, Int32.reduceLE, eq_self_iff_true]
    exact hY post hp
theorem ob_op9 (R : ob_R n (e+1) b m res thr thn CL cOp cA cB OK oKin pVal aOut aVar FC FA FP FH FT fSelf stk TA TH xFc xFs xPc xKo xPk tw tc xSet S XH xHeld yCo yAr M yPair ySet yStay yHan yKept) (hm : m + 5 ≤ B) (hB : B < 2 ^ 31) (hw : 4 * (e + 1) + ob_hs XH (e + 1) ≤ w) (hk : k < 32) :
    ∃ u' v', ob_S b B (w + 4) u' v' ∧ (∀ post : SX → Prop, post u' → wpX_propertyOp post (nI n, nI (e+1), nI b, deep, res, thr, thn, (fun zz => nI (CL zz)), cStr, cOp, cA, cB, (fun zz => nI (OK zz)), oKin, oOpen, xFc, xFs, xPc, xKo, xPk, (fun zz => ob_xa (tw zz) (te zz) (tc zz)), pVal, xSet, (fun zz => nI (S zz)), aOut, aVar, (fun zz => nI (FC zz)), (fun zz => nI (FP zz)), (fun zz => nI (FA zz)), (fun zz => nI (FH zz)), (fun zz => nI (XH zz)), (fun zz => nI (FT zz)), fSelf, xHeld, stk, (fun zz => nI (TA zz)), (fun zz => nI (TH zz)), xArg) 9 (nI k)) ∧ (∀ post : SY → Prop, post v' → wpY_reach post (nI n, nI m, yGiven, nI (e+1), deep, nI b, thr, thn, res, cStr, (fun zz => nI (CL zz)), cOp, cA, cB, (fun zz => nI (OK zz)), oKin, yCo, yAr, oOpen, (fun zz => nI (M zz)), (fun zz => ob_yf (tw zz) (te zz) (tc zz)), yPair, ySeen, pVal, ySet, (fun zz => ob_th (S zz)), yStay, aOut, aVar, yArg, (fun zz => nI (FC zz)), (fun zz => nI (FA zz)), (fun zz => nI (FP zz)), (fun zz => nI (FH zz)), yHan, (fun zz => nI (FT zz)), (fun zz => nI (TA zz)), (fun zz => nI (TH zz)), fSelf, yKept, stk) 9 (nI k)) := by
  obtain ⟨he, hc⟩ := ob_frC R
  obtain ⟨r, FH', R1, hVr, hH, hX1, hY1⟩ := ob_pop (deep := deep) (cStr := cStr) (oOpen := oOpen) (te := te) (xArg := xArg) (ySeen := ySeen) (yArg := yArg) (yGiven := yGiven) R
  obtain ⟨u', v', hS, hX, hY⟩ := ob_pg (deep := deep) (cStr := cStr) (oOpen := oOpen) (te := te) (xArg := xArg) (ySeen := ySeen) (yArg := yArg) (yGiven := yGiven) (x1 := 9) (strict := cStr (FC e)) (vx := r) (vy := r) (B := B) (w := w) R1 (by omega) hB hw hk true (Or.inr ⟨rfl, Or.inl rfl⟩) (fun h => ⟨rfl, hVr⟩)
  refine ⟨u', v', hS, fun post hp => ?_, fun post hp => ?_⟩
  · unfold wpX_propertyOp wX_propertyOp_37
    simp (disch := first | omega | decide) only [forall_eq, not_true, not_false_iff, false_implies, true_implies, true_and, and_true, ob_sub1, Nat.add_sub_cancel, nI_1, ob_ix, ob_iy, ob_ix24, ob_iy24, ob_ix10, ob_iy10, ob_ix4, ob_iy4, ob_ix3, ob_iy3, ob_s1, ob_s2, ob_s3, ob_s4, ob_ltl, ob_lel, ob_eql, ob_ltr, ob_ler, ob_uN, Nat.add_one_ne_zero, ob_xs3, ob_lnn, ob_ltn, ob_eqn, Nat.not_lt_zero, Nat.zero_le, Nat.reduceEqDiff, Nat.reduceLeDiff, Nat.reduceLT, ob_eqll, Int32.reduceLT, Int32.reduceLE, eq_self_iff_true]
    refine hX1 _ ?_
    unfold wX_propertyOp_43
    simp (disch := first | omega | decide) only [forall_eq, not_true, not_false_iff, false_implies, true_implies, true_and, and_true, ob_sub1, Nat.add_sub_cancel, nI_1, ob_ix, ob_iy, ob_ix24, ob_iy24, ob_ix10, ob_iy10, ob_ix4, ob_iy4, ob_ix3, ob_iy3, ob_s1, ob_s2, ob_s3, ob_s4, ob_ltl, ob_lel, ob_eql, ob_ltr, ob_ler, ob_uN, Nat.add_one_ne_zero, ob_xs3, ob_lnn, ob_ltn, ob_eqn, Nat.not_lt_zero, Nat.zero_le, Nat.reduceEqDiff, Nat.reduceLeDiff, Nat.reduceLT, ob_eqll, Int32.reduceLT, Int32.reduceLE, eq_self_iff_true]
    exact hX post hp
  · unfold wpY_reach
    refine ⟨by decide, br_t (by decide) ?_⟩
    unfold wY_reach_12
    simp (disch := first | omega | decide) only [forall_eq, not_true, not_false_iff, false_implies, true_implies, true_and, and_true, ob_sub1, Nat.add_sub_cancel, nI_1, ob_ix, ob_iy, ob_ix24, ob_iy24, ob_ix10, ob_iy10, ob_ix4, ob_iy4, ob_ix3, ob_iy3, ob_s1, ob_s2, ob_s3, ob_s4, ob_ltl, ob_lel, ob_eql, ob_ltr, ob_ler, ob_uN, Nat.add_one_ne_zero, ob_xs3, ob_lnn, ob_ltn, ob_eqn, Nat.not_lt_zero, Nat.zero_le, Nat.reduceEqDiff, Nat.reduceLeDiff, Nat.reduceLT, ob_eqll, Int32.reduceLT, Int32.reduceLE, eq_self_iff_true]
    refine hY1 _ ?_
    unfold wY_reach_43
    simp (disch := first | omega | decide) only [nI_l, forall_eq, not_true, not_false_iff, false_implies, true_implies, true_and, and_true, ob_sub1, Nat.add_sub_cancel, nI_1, ob_ix, ob_iy, ob_ix24, ob_iy24, ob_ix10, ob_iy10, ob_ix4, ob_iy4, ob_ix3, ob_iy3, ob_s1, ob_s2, ob_s3, ob_s4, ob_ltl, ob_lel, ob_eql, ob_ltr, ob_ler, ob_uN, Nat.add_one_ne_zero, ob_xs3, ob_lnn, ob_ltn, ob_eqn, Nat.not_lt_zero, Nat.zero_le, Nat.reduceEqDiff, Nat.reduceLeDiff, Nat.reduceLT, ob_eqll, Int32.reduceLT, Int32.reduceLE, eq_self_iff_true]
    exact hY post hp
theorem ob_op10 (R : ob_R n (e+1) b m res thr thn CL cOp cA cB OK oKin pVal aOut aVar FC FA FP FH FT fSelf stk TA TH xFc xFs xPc xKo xPk tw tc xSet S XH xHeld yCo yAr M yPair ySet yStay yHan yKept) (hm : m + 5 ≤ B) (hB : B < 2 ^ 31) (hw : 4 * (e + 1) + ob_hs XH (e + 1) ≤ w) :
    ∃ u' v', ob_S b B (w + 4) u' v' ∧ (∀ post : SX → Prop, post u' → wpX_propertyOp post (nI n, nI (e+1), nI b, deep, res, thr, thn, (fun zz => nI (CL zz)), cStr, cOp, cA, cB, (fun zz => nI (OK zz)), oKin, oOpen, xFc, xFs, xPc, xKo, xPk, (fun zz => ob_xa (tw zz) (te zz) (tc zz)), pVal, xSet, (fun zz => nI (S zz)), aOut, aVar, (fun zz => nI (FC zz)), (fun zz => nI (FP zz)), (fun zz => nI (FA zz)), (fun zz => nI (FH zz)), (fun zz => nI (XH zz)), (fun zz => nI (FT zz)), fSelf, xHeld, stk, (fun zz => nI (TA zz)), (fun zz => nI (TH zz)), xArg) 10 a) ∧ (∀ post : SY → Prop, post v' → wpY_reach post (nI n, nI m, yGiven, nI (e+1), deep, nI b, thr, thn, res, cStr, (fun zz => nI (CL zz)), cOp, cA, cB, (fun zz => nI (OK zz)), oKin, yCo, yAr, oOpen, (fun zz => nI (M zz)), (fun zz => ob_yf (tw zz) (te zz) (tc zz)), yPair, ySeen, pVal, ySet, (fun zz => ob_th (S zz)), yStay, aOut, aVar, yArg, (fun zz => nI (FC zz)), (fun zz => nI (FA zz)), (fun zz => nI (FP zz)), (fun zz => nI (FH zz)), yHan, (fun zz => nI (FT zz)), (fun zz => nI (TA zz)), (fun zz => nI (TH zz)), fSelf, yKept, stk) 10 a) := by
  obtain ⟨he, hc⟩ := ob_frC R
  obtain ⟨u', v', hS, hX, hY⟩ := ob_pgat (deep := deep) (cStr := cStr) (oOpen := oOpen) (te := te) (xArg := xArg) (ySeen := ySeen) (yArg := yArg) (yGiven := yGiven) (x1 := 10) (strict := cStr (FC e)) (vx := 8589934592) (vy := 0) (B := B) (w := w) R (by omega) hB hw false (Or.inl ⟨rfl, rfl⟩) (fun h => absurd h (by decide))
  refine ⟨u', v', hS, fun post hp => ?_, fun post hp => ?_⟩
  · unfold wpX_propertyOp wX_propertyOp_43
    simp (disch := first | omega | decide) only [forall_eq, not_true, not_false_iff, false_implies, true_implies, true_and, and_true, ob_sub1, Nat.add_sub_cancel, nI_1, ob_ix, ob_iy, ob_ix24, ob_iy24, ob_ix10, ob_iy10, ob_ix4, ob_iy4, ob_ix3, ob_iy3, ob_s1, ob_s2, ob_s3, ob_s4, ob_ltl, ob_lel, ob_eql, ob_ltr, ob_ler, ob_uN, Nat.add_one_ne_zero, ob_xs3, ob_lnn, ob_ltn, ob_eqn, Nat.not_lt_zero, Nat.zero_le, Nat.reduceEqDiff, Nat.reduceLeDiff, Nat.reduceLT, ob_eqll, Int32.reduceLT, Int32.reduceLE, eq_self_iff_true]
    exact hX post hp
  · unfold wpY_reach
    refine ⟨by decide, br_f (by decide) ?_⟩
    unfold wY_reach_12 wY_reach_43
    simp (disch := first | omega | decide) only [forall_eq, not_true, not_false_iff, false_implies, true_implies, true_and, and_true, ob_sub1, Nat.add_sub_cancel, nI_1, ob_ix, ob_iy, ob_ix24, ob_iy24, ob_ix10, ob_iy10, ob_ix4, ob_iy4, ob_ix3, ob_iy3, ob_s1, ob_s2, ob_s3, ob_s4, ob_ltl, ob_lel, ob_eql, ob_ltr, ob_ler, ob_uN, Nat.add_one_ne_zero, ob_xs3, ob_lnn, ob_ltn, ob_eqn, Nat.not_lt_zero, Nat.zero_le, Nat.reduceEqDiff, Nat.reduceLeDiff, Nat.reduceLT, ob_eqll, Int32.reduceLT, Int32.reduceLE, eq_self_iff_true]
    exact hY post 0 hp
theorem ob_op11 (R : ob_R n (e+1) b m res thr thn CL cOp cA cB OK oKin pVal aOut aVar FC FA FP FH FT fSelf stk TA TH xFc xFs xPc xKo xPk tw tc xSet S XH xHeld yCo yAr M yPair ySet yStay yHan yKept) (hm : m + 5 ≤ B) (hB : B < 2 ^ 31) (hw : 4 * (e + 1) + ob_hs XH (e + 1) ≤ w) :
    ∃ u' v', ob_S b B (w + 4) u' v' ∧ (∀ post : SX → Prop, post u' → wpX_propertyOp post (nI n, nI (e+1), nI b, deep, res, thr, thn, (fun zz => nI (CL zz)), cStr, cOp, cA, cB, (fun zz => nI (OK zz)), oKin, oOpen, xFc, xFs, xPc, xKo, xPk, (fun zz => ob_xa (tw zz) (te zz) (tc zz)), pVal, xSet, (fun zz => nI (S zz)), aOut, aVar, (fun zz => nI (FC zz)), (fun zz => nI (FP zz)), (fun zz => nI (FA zz)), (fun zz => nI (FH zz)), (fun zz => nI (XH zz)), (fun zz => nI (FT zz)), fSelf, xHeld, stk, (fun zz => nI (TA zz)), (fun zz => nI (TH zz)), xArg) 11 a) ∧ (∀ post : SY → Prop, post v' → wpY_reach post (nI n, nI m, yGiven, nI (e+1), deep, nI b, thr, thn, res, cStr, (fun zz => nI (CL zz)), cOp, cA, cB, (fun zz => nI (OK zz)), oKin, yCo, yAr, oOpen, (fun zz => nI (M zz)), (fun zz => ob_yf (tw zz) (te zz) (tc zz)), yPair, ySeen, pVal, ySet, (fun zz => ob_th (S zz)), yStay, aOut, aVar, yArg, (fun zz => nI (FC zz)), (fun zz => nI (FA zz)), (fun zz => nI (FP zz)), (fun zz => nI (FH zz)), yHan, (fun zz => nI (FT zz)), (fun zz => nI (TA zz)), (fun zz => nI (TH zz)), fSelf, yKept, stk) 11 a) := by
  obtain ⟨he, hc⟩ := ob_frC R
  obtain ⟨r, FH', R1, hVr, hH, hX1, hY1⟩ := ob_pop (deep := deep) (cStr := cStr) (oOpen := oOpen) (te := te) (xArg := xArg) (ySeen := ySeen) (yArg := yArg) (yGiven := yGiven) R
  obtain ⟨u', v', hS, hX, hY⟩ := ob_pgat (deep := deep) (cStr := cStr) (oOpen := oOpen) (te := te) (xArg := xArg) (ySeen := ySeen) (yArg := yArg) (yGiven := yGiven) (x1 := 11) (strict := cStr (FC e)) (vx := r) (vy := r) (B := B) (w := w) R1 (by omega) hB hw true (Or.inr ⟨rfl, rfl⟩) (fun h => ⟨rfl, hVr⟩)
  refine ⟨u', v', hS, fun post hp => ?_, fun post hp => ?_⟩
  · unfold wpX_propertyOp wX_propertyOp_37
    simp (disch := first | omega | decide) only [forall_eq, not_true, not_false_iff, false_implies, true_implies, true_and, and_true, ob_sub1, Nat.add_sub_cancel, nI_1, ob_ix, ob_iy, ob_ix24, ob_iy24, ob_ix10, ob_iy10, ob_ix4, ob_iy4, ob_ix3, ob_iy3, ob_s1, ob_s2, ob_s3, ob_s4, ob_ltl, ob_lel, ob_eql, ob_ltr, ob_ler, ob_uN, Nat.add_one_ne_zero, ob_xs3, ob_lnn, ob_ltn, ob_eqn, Nat.not_lt_zero, Nat.zero_le, Nat.reduceEqDiff, Nat.reduceLeDiff, Nat.reduceLT, ob_eqll, Int32.reduceLT, Int32.reduceLE, eq_self_iff_true]
    refine hX1 _ ?_
    unfold wX_propertyOp_43
    simp (disch := first | omega | decide) only [forall_eq, not_true, not_false_iff, false_implies, true_implies, true_and, and_true, ob_sub1, Nat.add_sub_cancel, nI_1, ob_ix, ob_iy, ob_ix24, ob_iy24, ob_ix10, ob_iy10, ob_ix4, ob_iy4, ob_ix3, ob_iy3, ob_s1, ob_s2, ob_s3, ob_s4, ob_ltl, ob_lel, ob_eql, ob_ltr, ob_ler, ob_uN, Nat.add_one_ne_zero, ob_xs3, ob_lnn, ob_ltn, ob_eqn, Nat.not_lt_zero, Nat.zero_le, Nat.reduceEqDiff, Nat.reduceLeDiff, Nat.reduceLT, ob_eqll, Int32.reduceLT, Int32.reduceLE, eq_self_iff_true]
    exact hX post hp
  · unfold wpY_reach
    refine ⟨by decide, br_t (by decide) ?_⟩
    unfold wY_reach_12
    simp (disch := first | omega | decide) only [forall_eq, not_true, not_false_iff, false_implies, true_implies, true_and, and_true, ob_sub1, Nat.add_sub_cancel, nI_1, ob_ix, ob_iy, ob_ix24, ob_iy24, ob_ix10, ob_iy10, ob_ix4, ob_iy4, ob_ix3, ob_iy3, ob_s1, ob_s2, ob_s3, ob_s4, ob_ltl, ob_lel, ob_eql, ob_ltr, ob_ler, ob_uN, Nat.add_one_ne_zero, ob_xs3, ob_lnn, ob_ltn, ob_eqn, Nat.not_lt_zero, Nat.zero_le, Nat.reduceEqDiff, Nat.reduceLeDiff, Nat.reduceLT, ob_eqll, Int32.reduceLT, Int32.reduceLE, eq_self_iff_true]
    refine hY1 _ ?_
    unfold wY_reach_43
    simp (disch := first | omega | decide) only [forall_eq, not_true, not_false_iff, false_implies, true_implies, true_and, and_true, ob_sub1, Nat.add_sub_cancel, nI_1, ob_ix, ob_iy, ob_ix24, ob_iy24, ob_ix10, ob_iy10, ob_ix4, ob_iy4, ob_ix3, ob_iy3, ob_s1, ob_s2, ob_s3, ob_s4, ob_ltl, ob_lel, ob_eql, ob_ltr, ob_ler, ob_uN, Nat.add_one_ne_zero, ob_xs3, ob_lnn, ob_ltn, ob_eqn, Nat.not_lt_zero, Nat.zero_le, Nat.reduceEqDiff, Nat.reduceLeDiff, Nat.reduceLT, ob_eqll, Int32.reduceLT, Int32.reduceLE, eq_self_iff_true]
    exact hY post 0 hp
theorem ob_op12 (R : ob_R n (e+1) b m res thr thn CL cOp cA cB OK oKin pVal aOut aVar FC FA FP FH FT fSelf stk TA TH xFc xFs xPc xKo xPk tw tc xSet S XH xHeld yCo yAr M yPair ySet yStay yHan yKept) (hm : m + 5 ≤ B) (hB : B < 2 ^ 31) (hw : 4 * (e + 1) + ob_hs XH (e + 1) ≤ w) (hk : k < 32) :
    ∃ u' v', ob_S b B (w + 4) u' v' ∧ (∀ post : SX → Prop, post u' → wpX_propertyOp post (nI n, nI (e+1), nI b, deep, res, thr, thn, (fun zz => nI (CL zz)), cStr, cOp, cA, cB, (fun zz => nI (OK zz)), oKin, oOpen, xFc, xFs, xPc, xKo, xPk, (fun zz => ob_xa (tw zz) (te zz) (tc zz)), pVal, xSet, (fun zz => nI (S zz)), aOut, aVar, (fun zz => nI (FC zz)), (fun zz => nI (FP zz)), (fun zz => nI (FA zz)), (fun zz => nI (FH zz)), (fun zz => nI (XH zz)), (fun zz => nI (FT zz)), fSelf, xHeld, stk, (fun zz => nI (TA zz)), (fun zz => nI (TH zz)), xArg) 12 (nI k)) ∧ (∀ post : SY → Prop, post v' → wpY_ask post (nI n, nI m, yGiven, nI (e+1), deep, nI b, thr, thn, res, cStr, (fun zz => nI (CL zz)), cOp, cA, cB, (fun zz => nI (OK zz)), oKin, yCo, yAr, oOpen, (fun zz => nI (M zz)), (fun zz => ob_yf (tw zz) (te zz) (tc zz)), yPair, ySeen, pVal, ySet, (fun zz => ob_th (S zz)), yStay, aOut, aVar, yArg, (fun zz => nI (FC zz)), (fun zz => nI (FA zz)), (fun zz => nI (FP zz)), (fun zz => nI (FH zz)), yHan, (fun zz => nI (FT zz)), (fun zz => nI (TA zz)), (fun zz => nI (TH zz)), fSelf, yKept, stk) 12 (nI k)) := by
  obtain ⟨he, hc⟩ := ob_frC R
  obtain ⟨r, FH', R1, hVr, hH, hX1, hY1⟩ := ob_pop (deep := deep) (cStr := cStr) (oOpen := oOpen) (te := te) (xArg := xArg) (ySeen := ySeen) (yArg := yArg) (yGiven := yGiven) R
  have hn := R1.2.1.1.2
  have hXd : ∀ post : SX → Prop, wpX_deleteKey post (nI n, nI (e+1), nI b, deep, res, thr, thn, (fun zz => nI (CL zz)), cStr, cOp, cA, cB, (fun zz => nI (OK zz)), oKin, oOpen, xFc, xFs, xPc, xKo, xPk, (fun zz => ob_xa (tw zz) (te zz) (tc zz)), pVal, xSet, (fun zz => nI (S zz)), aOut, aVar, (fun zz => nI (FC zz)), (fun zz => nI (FP zz)), (fun zz => nI (FA zz)), (fun zz => nI (FH' zz)), (fun zz => nI (XH zz)), (fun zz => nI (FT zz)), fSelf, xHeld, stk, (fun zz => nI (TA zz)), (fun zz => nI (TH zz)), xArg) r (nI k) (cStr (FC e)) → wpX_propertyOp post (nI n, nI (e+1), nI b, deep, res, thr, thn, (fun zz => nI (CL zz)), cStr, cOp, cA, cB, (fun zz => nI (OK zz)), oKin, oOpen, xFc, xFs, xPc, xKo, xPk, (fun zz => ob_xa (tw zz) (te zz) (tc zz)), pVal, xSet, (fun zz => nI (S zz)), aOut, aVar, (fun zz => nI (FC zz)), (fun zz => nI (FP zz)), (fun zz => nI (FA zz)), (fun zz => nI (FH zz)), (fun zz => nI (XH zz)), (fun zz => nI (FT zz)), fSelf, xHeld, stk, (fun zz => nI (TA zz)), (fun zz => nI (TH zz)), xArg) 12 (nI k) := by
    intro post h
    unfold wpX_propertyOp wX_propertyOp_43 wX_propertyOp_90
    simp (disch := first | omega | decide) only [forall_eq, not_true, not_false_iff, false_implies, true_implies, true_and, and_true, ob_sub1, Nat.add_sub_cancel, nI_1, ob_ix, ob_iy, ob_ix24, ob_iy24, ob_ix10, ob_iy10, ob_ix4, ob_iy4, ob_ix3, ob_iy3, ob_s1, ob_s2, ob_s3, ob_s4, ob_ltl, ob_lel, ob_eql, ob_ltr, ob_ler, ob_uN, Nat.add_one_ne_zero, ob_xs3, ob_lnn, ob_ltn, ob_eqn, Nat.not_lt_zero, Nat.zero_le, Nat.reduceEqDiff, Nat.reduceLeDiff, Nat.reduceLT, ob_eqll, Int32.reduceLT, Int32.reduceLE, eq_self_iff_true]
    exact hX1 _ h
  have hTY : (r = 8589934592 ∨ r = 8589934593) → r < 17179869184 → ∃ u' v', ob_S b B (w + 4) u' v' ∧ (∀ post : SX → Prop, post u' → wpX_propertyOp post (nI n, nI (e+1), nI b, deep, res, thr, thn, (fun zz => nI (CL zz)), cStr, cOp, cA, cB, (fun zz => nI (OK zz)), oKin, oOpen, xFc, xFs, xPc, xKo, xPk, (fun zz => ob_xa (tw zz) (te zz) (tc zz)), pVal, xSet, (fun zz => nI (S zz)), aOut, aVar, (fun zz => nI (FC zz)), (fun zz => nI (FP zz)), (fun zz => nI (FA zz)), (fun zz => nI (FH zz)), (fun zz => nI (XH zz)), (fun zz => nI (FT zz)), fSelf, xHeld, stk, (fun zz => nI (TA zz)), (fun zz => nI (TH zz)), xArg) 12 (nI k)) ∧ (∀ post : SY → Prop, post v' → wpY_ask post (nI n, nI m, yGiven, nI (e+1), deep, nI b, thr, thn, res, cStr, (fun zz => nI (CL zz)), cOp, cA, cB, (fun zz => nI (OK zz)), oKin, yCo, yAr, oOpen, (fun zz => nI (M zz)), (fun zz => ob_yf (tw zz) (te zz) (tc zz)), yPair, ySeen, pVal, ySet, (fun zz => ob_th (S zz)), yStay, aOut, aVar, yArg, (fun zz => nI (FC zz)), (fun zz => nI (FA zz)), (fun zz => nI (FP zz)), (fun zz => nI (FH zz)), yHan, (fun zz => nI (FT zz)), (fun zz => nI (TA zz)), (fun zz => nI (TH zz)), fSelf, yKept, stk) 12 (nI k)) := by
    intro hbs hlt
    refine ⟨_, _, ob_S_mk (deep := deep) (cStr := cStr) (oOpen := oOpen) (te := te) (xArg := xArg) (ySeen := ySeen) (yArg := yArg) (yGiven := yGiven) (ob_raise R1 (ob_V_Ty n)) (by omega : m ≤ B) (by omega), fun post hp => hXd post ?_, fun post hp => ?_⟩
    · unfold wpX_deleteKey wX_deleteKey_16
      by_cases hU : r = 8589934592
      · exact br_t hU hp
      · exact br_f hU (br_t (hbs.resolve_left hU) hp)
    · unfold wpY_ask
      refine hY1 _ (ob_isoF hlt _ (br_t rfl ?_))
      unfold wY_ask_24 wY_ask_47 wY_ask_48 wY_ask_71 wY_ask_72 wY_ask_85 wY_ask_125
      refine br_t rfl (br_t rfl (br_f (by decide) (br_f (by decide) ?_)))
      by_cases hU : r = 8589934592
      · exact br_t hU hp
      · exact br_f hU (br_t (hbs.resolve_left hU) hp)
  by_cases hU : r = 8589934592
  · exact hTY (Or.inl hU) (by rw [hU]; decide)
  by_cases hN : r = 8589934593
  · exact hTY (Or.inr hN) (by rw [hN]; decide)
  rcases ob_cls hVr with hl | ⟨o, ho, rfl⟩
  · obtain ⟨res', thr', thn', FH2, stk', R2, hXp, hYp⟩ := ob_push (deep := deep) (cStr := cStr) (oOpen := oOpen) (te := te) (xArg := xArg) (ySeen := ySeen) (yArg := yArg) (yGiven := yGiven) R1 (ob_V_T n)
    refine ⟨_, _, ob_S_mk (deep := deep) (cStr := cStr) (oOpen := oOpen) (te := te) (xArg := xArg) (ySeen := ySeen) (yArg := yArg) (yGiven := yGiven) R2 (by omega : m ≤ B) (by omega), fun post hp => hXd post ?_, fun post hp => ?_⟩
    · unfold wpX_deleteKey
      refine br_f hU (br_f hN (ob_objN hl _ (br_t (by decide) ?_)))
      unfold wX_deleteKey_46 wX_deleteKey_51 wX_deleteKey_73
      refine br_f (by decide) ?_
      exact ob_whX (Or.inr rfl) _ (hXp _ hp)
    · unfold wpY_ask
      refine hY1 _ (ob_isoF hl _ (br_t rfl ?_))
      unfold wY_ask_24 wY_ask_47 wY_ask_48 wY_ask_71 wY_ask_72 wY_ask_85 wY_ask_135 wY_ask_166
      refine br_t rfl (br_t rfl (br_f (by decide) (br_f (by decide) (br_f hU (br_f hN (br_f (by decide) (br_t rfl (br_t rfl ?_))))))))
      exact ob_whY (Or.inr rfl) _ (hYp _ hp)
  · obtain ⟨r1, M', xPc', xKo', xPk', R2, hr1, hX2, hY2⟩ := ob_lose (deep := deep) (cStr := cStr) (oOpen := oOpen) (te := te) (xArg := xArg) (ySeen := ySeen) (yArg := yArg) (yGiven := yGiven) R1 (by omega) ho hk
    have hYl : ∀ post : SY → Prop, wY_ask_85 post 12 (lN (17179869184 + o)) r1 (-1) (nI n) (nI m) yGiven (nI (e+1)) deep (nI b) thr thn res cStr (fun zz => nI (CL zz)) cOp cA cB (fun zz => nI (OK zz)) oKin yCo yAr oOpen (fun zz => nI (M' zz)) (fun zz => ob_yf (tw zz) (te zz) (tc zz)) yPair ySeen pVal ySet (fun zz => ob_th (S zz)) yStay aOut aVar yArg (fun zz => nI (FC zz)) (fun zz => nI (FA zz)) (fun zz => nI (FP zz)) (fun zz => nI (FH' zz)) yHan (fun zz => nI (FT zz)) (fun zz => nI (TA zz)) (fun zz => nI (TH zz)) fSelf yKept stk → wpY_ask post (nI n, nI m, yGiven, nI (e+1), deep, nI b, thr, thn, res, cStr, (fun zz => nI (CL zz)), cOp, cA, cB, (fun zz => nI (OK zz)), oKin, yCo, yAr, oOpen, (fun zz => nI (M zz)), (fun zz => ob_yf (tw zz) (te zz) (tc zz)), yPair, ySeen, pVal, ySet, (fun zz => ob_th (S zz)), yStay, aOut, aVar, yArg, (fun zz => nI (FC zz)), (fun zz => nI (FA zz)), (fun zz => nI (FP zz)), (fun zz => nI (FH zz)), yHan, (fun zz => nI (FT zz)), (fun zz => nI (TA zz)), (fun zz => nI (TH zz)), fSelf, yKept, stk) 12 (nI k) := by
      intro post h
      unfold wpY_ask
      refine hY1 _ (ob_isoT o (by omega) _ (br_f (by decide) ?_))
      unfold wpY_number
      rw [ob_numb]
      unfold wY_ask_24
      refine br_t rfl (br_f (by decide) (hY2 _ ?_))
      unfold wY_ask_48 wY_ask_71 wY_ask_72
      exact br_f (by decide) (br_f (by decide) h)
    have hXl : ∀ post : SX → Prop, ((r1 = 0 → wX_deleteKey_51 post (cStr (FC e)) 0 (nI n) (nI (e+1)) (nI b) deep res thr thn (fun zz => nI (CL zz)) cStr cOp cA cB (fun zz => nI (OK zz)) oKin oOpen xFc xFs xPc' xKo' xPk' (fun zz => ob_xa (tw zz) (te zz) (tc zz)) pVal xSet (fun zz => nI (S zz)) aOut aVar (fun zz => nI (FC zz)) (fun zz => nI (FP zz)) (fun zz => nI (FA zz)) (fun zz => nI (FH' zz)) (fun zz => nI (XH zz)) (fun zz => nI (FT zz)) fSelf xHeld stk (fun zz => nI (TA zz)) (fun zz => nI (TH zz)) xArg) ∧ (¬ r1 = 0 → wX_deleteKey_46 post (cStr (FC e)) (nI n) (nI (e+1)) (nI b) deep res thr thn (fun zz => nI (CL zz)) cStr cOp cA cB (fun zz => nI (OK zz)) oKin oOpen xFc xFs xPc' xKo' xPk' (fun zz => ob_xa (tw zz) (te zz) (tc zz)) pVal xSet (fun zz => nI (S zz)) aOut aVar (fun zz => nI (FC zz)) (fun zz => nI (FP zz)) (fun zz => nI (FA zz)) (fun zz => nI (FH' zz)) (fun zz => nI (XH zz)) (fun zz => nI (FT zz)) fSelf xHeld stk (fun zz => nI (TA zz)) (fun zz => nI (TH zz)) xArg)) → wpX_propertyOp post (nI n, nI (e+1), nI b, deep, res, thr, thn, (fun zz => nI (CL zz)), cStr, cOp, cA, cB, (fun zz => nI (OK zz)), oKin, oOpen, xFc, xFs, xPc, xKo, xPk, (fun zz => ob_xa (tw zz) (te zz) (tc zz)), pVal, xSet, (fun zz => nI (S zz)), aOut, aVar, (fun zz => nI (FC zz)), (fun zz => nI (FP zz)), (fun zz => nI (FA zz)), (fun zz => nI (FH zz)), (fun zz => nI (XH zz)), (fun zz => nI (FT zz)), fSelf, xHeld, stk, (fun zz => nI (TA zz)), (fun zz => nI (TH zz)), xArg) 12 (nI k) := by
      intro post h
      refine hXd post ?_
      unfold wpX_deleteKey
      refine br_f hU (br_f hN (ob_objO hn ho _ (br_f (nI_pos (by omega)) ?_)))
      exact hX2 _ h
    by_cases hsc : r1 = 0 ∧ ¬ cStr (FC e) = 0
    · obtain ⟨rfl, hst⟩ := hsc
      refine ⟨_, _, ob_S_mk (deep := deep) (cStr := cStr) (oOpen := oOpen) (te := te) (xArg := xArg) (ySeen := ySeen) (yArg := yArg) (yGiven := yGiven) (ob_raise R2 (ob_V_Ty n)) (by omega : m ≤ B) (by omega), fun post hp => hXl post (br_t rfl ?_), fun post hp => hYl post ?_⟩
      · unfold wX_deleteKey_51
        exact br_t rfl (br_f hst hp)
      · unfold wY_ask_85 wY_ask_125
        refine br_f hU (br_f hN (br_t rfl ?_))
        simp (disch := first | omega | decide) only [forall_eq, not_true, not_false_iff, false_implies, true_implies, true_and, and_true, ob_sub1, Nat.add_sub_cancel, nI_1, ob_ix, ob_iy, ob_ix24, ob_iy24, ob_ix10, ob_iy10, ob_ix4, ob_iy4, ob_ix3, ob_iy3, ob_s1, ob_s2, ob_s3, ob_s4, ob_ltl, ob_lel, ob_eql, ob_ltr, ob_ler, ob_uN, Nat.add_one_ne_zero, ob_xs3, ob_lnn, ob_ltn, ob_eqn, Nat.not_lt_zero, Nat.zero_le, Nat.reduceEqDiff, Nat.reduceLeDiff, Nat.reduceLT, ob_eqll, Int32.reduceLT, Int32.reduceLE, eq_self_iff_true]
        exact br_f hst hp
    · obtain ⟨res', thr', thn', FH2, stk', R3, hXp, hYp⟩ := ob_push (deep := deep) (cStr := cStr) (oOpen := oOpen) (te := te) (xArg := xArg) (ySeen := ySeen) (yArg := yArg) (yGiven := yGiven) R2 (ob_V_w n r1)
      refine ⟨_, _, ob_S_mk (deep := deep) (cStr := cStr) (oOpen := oOpen) (te := te) (xArg := xArg) (ySeen := ySeen) (yArg := yArg) (yGiven := yGiven) R3 (by omega : m ≤ B) (by omega), fun post hp => hXl post ?_, fun post hp => hYl post ?_⟩
      · rcases hr1 with rfl | rfl
        · refine br_t rfl ?_
          unfold wX_deleteKey_51 wX_deleteKey_73
          refine br_t rfl (br_t (Decidable.not_not.mp (fun z => hsc ⟨rfl, z⟩)) ?_)
          exact ob_whX (Or.inl rfl) _ (hXp _ hp)
        · refine br_f (by decide) ?_
          unfold wX_deleteKey_46 wX_deleteKey_51 wX_deleteKey_73
          refine br_f (by decide) ?_
          exact ob_whX (Or.inr rfl) _ (hXp _ hp)
      · unfold wY_ask_85
        refine br_f hU (br_f hN ?_)
        rcases hr1 with rfl | rfl
        · refine br_t rfl ?_
          simp (disch := first | omega | decide) only [forall_eq, not_true, not_false_iff, false_implies, true_implies, true_and, and_true, ob_sub1, Nat.add_sub_cancel, nI_1, ob_ix, ob_iy, ob_ix24, ob_iy24, ob_ix10, ob_iy10, ob_ix4, ob_iy4, ob_ix3, ob_iy3, ob_s1, ob_s2, ob_s3, ob_s4, ob_ltl, ob_lel, ob_eql, ob_ltr, ob_ler, ob_uN, Nat.add_one_ne_zero, ob_xs3, ob_lnn, ob_ltn, ob_eqn, Nat.not_lt_zero, Nat.zero_le, Nat.reduceEqDiff, Nat.reduceLeDiff, Nat.reduceLT, ob_eqll, Int32.reduceLT, Int32.reduceLE, eq_self_iff_true]
          refine br_t (Decidable.not_not.mp (fun z => hsc ⟨rfl, z⟩)) ?_
          unfold wY_ask_135 wY_ask_166
          refine br_t rfl (br_f (by decide) ?_)
          exact ob_whY (Or.inl rfl) _ (hYp _ hp)
        · refine br_f (by decide) ?_
          unfold wY_ask_135 wY_ask_166
          refine br_t rfl (br_t rfl ?_)
          exact ob_whY (Or.inr rfl) _ (hYp _ hp)
theorem ob_op13 (R : ob_R n (e+1) b m res thr thn CL cOp cA cB OK oKin pVal aOut aVar FC FA FP FH FT fSelf stk TA TH xFc xFs xPc xKo xPk tw tc xSet S XH xHeld yCo yAr M yPair ySet yStay yHan yKept) (hm : m + 5 ≤ B) (hB : B < 2 ^ 31) (hw : 4 * (e + 1) + ob_hs XH (e + 1) ≤ w) (hk : k < 32) :
    ∃ u' v', ob_S b B (w + 4) u' v' ∧ (∀ post : SX → Prop, post u' → wpX_propertyOp post (nI n, nI (e+1), nI b, deep, res, thr, thn, (fun zz => nI (CL zz)), cStr, cOp, cA, cB, (fun zz => nI (OK zz)), oKin, oOpen, xFc, xFs, xPc, xKo, xPk, (fun zz => ob_xa (tw zz) (te zz) (tc zz)), pVal, xSet, (fun zz => nI (S zz)), aOut, aVar, (fun zz => nI (FC zz)), (fun zz => nI (FP zz)), (fun zz => nI (FA zz)), (fun zz => nI (FH zz)), (fun zz => nI (XH zz)), (fun zz => nI (FT zz)), fSelf, xHeld, stk, (fun zz => nI (TA zz)), (fun zz => nI (TH zz)), xArg) 13 (nI k)) ∧ (∀ post : SY → Prop, post v' → wpY_ask post (nI n, nI m, yGiven, nI (e+1), deep, nI b, thr, thn, res, cStr, (fun zz => nI (CL zz)), cOp, cA, cB, (fun zz => nI (OK zz)), oKin, yCo, yAr, oOpen, (fun zz => nI (M zz)), (fun zz => ob_yf (tw zz) (te zz) (tc zz)), yPair, ySeen, pVal, ySet, (fun zz => ob_th (S zz)), yStay, aOut, aVar, yArg, (fun zz => nI (FC zz)), (fun zz => nI (FA zz)), (fun zz => nI (FP zz)), (fun zz => nI (FH zz)), yHan, (fun zz => nI (FT zz)), (fun zz => nI (TA zz)), (fun zz => nI (TH zz)), fSelf, yKept, stk) 13 (nI k)) := by
  obtain ⟨he, hc⟩ := ob_frC R
  obtain ⟨r, FH', R1, hVr, hH, hX1, hY1⟩ := ob_pop (deep := deep) (cStr := cStr) (oOpen := oOpen) (te := te) (xArg := xArg) (ySeen := ySeen) (yArg := yArg) (yGiven := yGiven) R
  have hn := R1.2.1.1.2
  have hXd : ∀ post : SX → Prop, wpX_hasKey post (nI n, nI (e+1), nI b, deep, res, thr, thn, (fun zz => nI (CL zz)), cStr, cOp, cA, cB, (fun zz => nI (OK zz)), oKin, oOpen, xFc, xFs, xPc, xKo, xPk, (fun zz => ob_xa (tw zz) (te zz) (tc zz)), pVal, xSet, (fun zz => nI (S zz)), aOut, aVar, (fun zz => nI (FC zz)), (fun zz => nI (FP zz)), (fun zz => nI (FA zz)), (fun zz => nI (FH' zz)), (fun zz => nI (XH zz)), (fun zz => nI (FT zz)), fSelf, xHeld, stk, (fun zz => nI (TA zz)), (fun zz => nI (TH zz)), xArg) r (nI k) → wpX_propertyOp post (nI n, nI (e+1), nI b, deep, res, thr, thn, (fun zz => nI (CL zz)), cStr, cOp, cA, cB, (fun zz => nI (OK zz)), oKin, oOpen, xFc, xFs, xPc, xKo, xPk, (fun zz => ob_xa (tw zz) (te zz) (tc zz)), pVal, xSet, (fun zz => nI (S zz)), aOut, aVar, (fun zz => nI (FC zz)), (fun zz => nI (FP zz)), (fun zz => nI (FA zz)), (fun zz => nI (FH zz)), (fun zz => nI (XH zz)), (fun zz => nI (FT zz)), fSelf, xHeld, stk, (fun zz => nI (TA zz)), (fun zz => nI (TH zz)), xArg) 13 (nI k) := by
    intro post h
    unfold wpX_propertyOp wX_propertyOp_43 wX_propertyOp_90
    simp (disch := first | omega | decide) only [forall_eq, not_true, not_false_iff, false_implies, true_implies, true_and, and_true, ob_sub1, Nat.add_sub_cancel, nI_1, ob_ix, ob_iy, ob_ix24, ob_iy24, ob_ix10, ob_iy10, ob_ix4, ob_iy4, ob_ix3, ob_iy3, ob_s1, ob_s2, ob_s3, ob_s4, ob_ltl, ob_lel, ob_eql, ob_ltr, ob_ler, ob_uN, Nat.add_one_ne_zero, ob_xs3, ob_lnn, ob_ltn, ob_eqn, Nat.not_lt_zero, Nat.zero_le, Nat.reduceEqDiff, Nat.reduceLeDiff, Nat.reduceLT, ob_eqll, Int32.reduceLT, Int32.reduceLE, eq_self_iff_true]
    exact hX1 _ h
  rcases ob_cls hVr with hl | ⟨o, ho, rfl⟩
  · refine ⟨_, _, ob_S_mk (deep := deep) (cStr := cStr) (oOpen := oOpen) (te := te) (xArg := xArg) (ySeen := ySeen) (yArg := yArg) (yGiven := yGiven) (ob_raise R1 (ob_V_Ty n)) (by omega : m ≤ B) (by omega), fun post hp => hXd post ?_, fun post hp => ?_⟩
    · unfold wpX_hasKey
      exact ob_objN hl _ (br_f (by decide) hp)
    · unfold wpY_ask
      refine hY1 _ (ob_isoF hl _ (br_t rfl ?_))
      unfold wY_ask_24 wY_ask_47 wY_ask_48 wY_ask_71 wY_ask_72 wY_ask_125
      exact br_f (by decide) (br_t rfl (br_t rfl (br_t rfl (br_t rfl hp))))
  · obtain ⟨r1, hr1, hXl, hYl⟩ := ob_look (n := n) (d := (e+1)) (b := b) (m := m) (deep := deep) (res := res) (thr := thr) (thn := thn) (CL := CL) (cStr := cStr) (cOp := cOp) (cA := cA) (cB := cB) (OK := OK) (oKin := oKin) (oOpen := oOpen) (pVal := pVal) (aOut := aOut) (aVar := aVar) (FC := FC) (FA := FA) (FP := FP) (FH := FH') (FT := FT) (fSelf := fSelf) (stk := stk) (TA := TA) (TH := TH) (xFc := xFc) (xFs := xFs) (xPc := xPc) (xKo := xKo) (xPk := xPk) (tw := tw) (te := te) (tc := tc) (xSet := xSet) (S := S) (XH := XH) (xHeld := xHeld) (xArg := xArg) (yCo := yCo) (yAr := yAr) (M := M) (yPair := yPair) (ySeen := ySeen) (ySet := ySet) (yStay := yStay) (yArg := yArg) (yHan := yHan) (yKept := yKept) (yGiven := yGiven) R1.2.1 R1.2.2.1 (by omega) hk ho
    obtain ⟨z, hz, hz2⟩ : ∃ z : Int32, (z = 0 ∨ z = 1) ∧ ((r1 < 0 ∧ z = 0) ∨ (¬ r1 < 0 ∧ z = 1)) := by
      by_cases h0 : r1 < 0
      · exact ⟨0, Or.inl rfl, Or.inl ⟨h0, rfl⟩⟩
      · exact ⟨1, Or.inr rfl, Or.inr ⟨h0, rfl⟩⟩
    obtain ⟨res', thr', thn', FH2, stk', R3, hXp, hYp⟩ := ob_push (deep := deep) (cStr := cStr) (oOpen := oOpen) (te := te) (xArg := xArg) (ySeen := ySeen) (yArg := yArg) (yGiven := yGiven) R1 (ob_V_w n z)
    refine ⟨_, _, ob_S_mk (deep := deep) (cStr := cStr) (oOpen := oOpen) (te := te) (xArg := xArg) (ySeen := ySeen) (yArg := yArg) (yGiven := yGiven) R3 (by omega : m ≤ B) (by omega), fun post hp => hXd post ?_, fun post hp => ?_⟩
    · unfold wpX_hasKey
      refine ob_objO hn ho _ (br_t (nI_pos' (by omega)) (hXl _ ?_))
      unfold wX_hasKey_40
      rcases hz2 with ⟨h0, rfl⟩ | ⟨h0, rfl⟩
      · exact br_t h0 (ob_whX (Or.inl rfl) _ (hXp _ hp))
      · exact br_f h0 (ob_whX (Or.inr rfl) _ (hXp _ hp))
    · unfold wpY_ask
      refine hY1 _ (ob_isoT o (by omega) _ (br_f (by decide) ?_))
      unfold wpY_number
      rw [ob_numb]
      unfold wY_ask_24 wY_ask_47 wY_ask_48
      refine br_f (by decide) (br_t rfl (br_f (by decide) (hYl _ ?_)))
      unfold wY_ask_72 wY_ask_85 wY_ask_135 wY_ask_166
      refine br_t rfl (br_f (by decide) (br_f (ob_objU o (by omega)) (br_f (ob_objNu o (by omega)) (br_f (by decide) (br_f (by decide) ?_)))))
      rcases hz2 with ⟨h0, rfl⟩ | ⟨h0, rfl⟩
      · exact br_t h0 (ob_whY (Or.inl rfl) _ (hYp _ hp))
      · exact br_f h0 (ob_whY (Or.inr rfl) _ (hYp _ hp))
end
end
section
/-! ===== the instructions 0 to 7 ===== -/
section
variable {n : Nat} {d : Nat} {b : Nat} {m : Nat} {deep : Int32} {res : Int64} {thr : Int32} {thn : Int64} {CL : Nat → Nat} {cStr : Nat → Int32} {cOp : Nat → Int32} {cA : Nat → Int32} {cB : Nat → Int32} {OK : Nat → Nat} {oKin : Nat → Int32} {oOpen : Nat → Int32} {pVal : Nat → Int64} {aOut : Nat → Int32} {aVar : Nat → Int64} {FC : Nat → Nat} {FA : Nat → Nat} {FP : Nat → Nat} {FH : Nat → Nat} {FT : Nat → Nat} {fSelf : Nat → Int64} {stk : Nat → Int64} {TA : Nat → Nat} {TH : Nat → Nat} {xFc : Nat → Int32} {xFs : Nat → Int32} {xPc : Nat → Int32} {xKo : Nat → Int32} {xPk : Nat → Int32} {tw : Nat → Bool} {te : Nat → Bool} {tc : Nat → Bool} {xSet : Nat → Int64} {S : Nat → Nat} {XH : Nat → Nat} {xHeld : Nat → Int64} {xArg : Nat → Int64} {yCo : Nat → Int32} {yAr : Nat → Int32} {M : Nat → Nat} {yPair : Nat → Int32} {ySeen : Nat → Int32} {ySet : Nat → Int64} {yStay : Nat → Int32} {yArg : Nat → Int64} {yHan : Nat → Int32} {yKept : Nat → Int64} {yGiven : Int32}
variable {e k j B w : Nat} {a bb : Int32}
theorem ob_op0 (R : ob_R n (e+1) b m res thr thn CL cOp cA cB OK oKin pVal aOut aVar FC FA FP FH FT fSelf stk TA TH xFc xFs xPc xKo xPk tw tc xSet S XH xHeld yCo yAr M yPair ySet yStay yHan yKept) (hm : m + 5 ≤ B) (hw : 4 * (e + 1) + ob_hs XH (e + 1) ≤ w) :
    ∃ u' v', ob_S b B (w + 4) u' v' ∧ (∀ post : SX → Prop, post u' → wpX_stackOp post (nI n, nI (e+1), nI b, deep, res, thr, thn, (fun zz => nI (CL zz)), cStr, cOp, cA, cB, (fun zz => nI (OK zz)), oKin, oOpen, xFc, xFs, xPc, xKo, xPk, (fun zz => ob_xa (tw zz) (te zz) (tc zz)), pVal, xSet, (fun zz => nI (S zz)), aOut, aVar, (fun zz => nI (FC zz)), (fun zz => nI (FP zz)), (fun zz => nI (FA zz)), (fun zz => nI (FH zz)), (fun zz => nI (XH zz)), (fun zz => nI (FT zz)), fSelf, xHeld, stk, (fun zz => nI (TA zz)), (fun zz => nI (TH zz)), xArg) 0 a bb) ∧ (∀ post : SY → Prop, post v' → wpY_act post (nI n, nI m, yGiven, nI (e+1), deep, nI b, thr, thn, res, cStr, (fun zz => nI (CL zz)), cOp, cA, cB, (fun zz => nI (OK zz)), oKin, yCo, yAr, oOpen, (fun zz => nI (M zz)), (fun zz => ob_yf (tw zz) (te zz) (tc zz)), yPair, ySeen, pVal, ySet, (fun zz => ob_th (S zz)), yStay, aOut, aVar, yArg, (fun zz => nI (FC zz)), (fun zz => nI (FA zz)), (fun zz => nI (FP zz)), (fun zz => nI (FH zz)), yHan, (fun zz => nI (FT zz)), (fun zz => nI (TA zz)), (fun zz => nI (TH zz)), fSelf, yKept, stk) 0 a bb) := by
  obtain ⟨res', thr', thn', FH', stk', R2, hXp, hYp⟩ := ob_push (deep := deep) (cStr := cStr) (oOpen := oOpen) (te := te) (xArg := xArg) (ySeen := ySeen) (yArg := yArg) (yGiven := yGiven) R (ob_V_i n a)
  refine ⟨_, _, ob_S_mk (deep := deep) (cStr := cStr) (oOpen := oOpen) (te := te) (xArg := xArg) (ySeen := ySeen) (yArg := yArg) (yGiven := yGiven) R2 (by omega : m ≤ B) (by omega), fun post hp => ?_, fun post hp => ?_⟩
  · unfold wpX_stackOp
    refine br_f (by decide) (br_f (by decide) (br_t rfl ?_))
    exact hXp _ hp
  · unfold wpY_act; refine nm_r (nI_pred e) (br_f (by decide) (br_f (by decide) (br_f (by decide) (br_f (by decide) (br_f (by decide) (br_f (by decide) (?_)))))))
    unfold wY_act_49; refine br_f (by decide) ?_; unfold wY_act_65; refine br_f (by decide) (br_f (by decide) (br_t rfl ?_))
    exact hYp _ hp
theorem ob_op1 (R : ob_R n (e+1) b m res thr thn CL cOp cA cB OK oKin pVal aOut aVar FC FA FP FH FT fSelf stk TA TH xFc xFs xPc xKo xPk tw tc xSet S XH xHeld yCo yAr M yPair ySet yStay yHan yKept) (hm : m + 5 ≤ B) (hw : 4 * (e + 1) + ob_hs XH (e + 1) ≤ w) (hj : j ≤ 5) :
    ∃ u' v', ob_S b B (w + 4) u' v' ∧ (∀ post : SX → Prop, post u' → wpX_stackOp post (nI n, nI (e+1), nI b, deep, res, thr, thn, (fun zz => nI (CL zz)), cStr, cOp, cA, cB, (fun zz => nI (OK zz)), oKin, oOpen, xFc, xFs, xPc, xKo, xPk, (fun zz => ob_xa (tw zz) (te zz) (tc zz)), pVal, xSet, (fun zz => nI (S zz)), aOut, aVar, (fun zz => nI (FC zz)), (fun zz => nI (FP zz)), (fun zz => nI (FA zz)), (fun zz => nI (FH zz)), (fun zz => nI (XH zz)), (fun zz => nI (FT zz)), fSelf, xHeld, stk, (fun zz => nI (TA zz)), (fun zz => nI (TH zz)), xArg) 1 (nI j) bb) ∧ (∀ post : SY → Prop, post v' → wpY_act post (nI n, nI m, yGiven, nI (e+1), deep, nI b, thr, thn, res, cStr, (fun zz => nI (CL zz)), cOp, cA, cB, (fun zz => nI (OK zz)), oKin, yCo, yAr, oOpen, (fun zz => nI (M zz)), (fun zz => ob_yf (tw zz) (te zz) (tc zz)), yPair, ySeen, pVal, ySet, (fun zz => ob_th (S zz)), yStay, aOut, aVar, yArg, (fun zz => nI (FC zz)), (fun zz => nI (FA zz)), (fun zz => nI (FP zz)), (fun zz => nI (FH zz)), yHan, (fun zz => nI (FT zz)), (fun zz => nI (TA zz)), (fun zz => nI (TH zz)), fSelf, yKept, stk) 1 (nI j) bb) := by
  have hv : ob_V n (8589934592 + (nI j).toInt64) := by
    rw [ob_spe_toI j (by omega)]
    exact ob_V_s n j hj
  obtain ⟨res', thr', thn', FH', stk', R2, hXp, hYp⟩ := ob_push (deep := deep) (cStr := cStr) (oOpen := oOpen) (te := te) (xArg := xArg) (ySeen := ySeen) (yArg := yArg) (yGiven := yGiven) R hv
  refine ⟨_, _, ob_S_mk (deep := deep) (cStr := cStr) (oOpen := oOpen) (te := te) (xArg := xArg) (ySeen := ySeen) (yArg := yArg) (yGiven := yGiven) R2 (by omega : m ≤ B) (by omega), fun post hp => ?_, fun post hp => ?_⟩
  · unfold wpX_stackOp
    refine br_f (by decide) (br_f (by decide) (br_f (by decide) (br_t rfl ?_)))
    exact hXp _ hp
  · unfold wpY_act; refine nm_r (nI_pred e) (br_f (by decide) (br_f (by decide) (br_f (by decide) (br_f (by decide) (br_f (by decide) (br_f (by decide) (?_)))))))
    unfold wY_act_49; refine br_f (by decide) ?_; unfold wY_act_65; refine br_f (by decide) (br_f (by decide) (br_f (by decide) (br_t rfl ?_)))
    exact hYp _ hp
theorem ob_op2 (R : ob_R n (e+1) b m res thr thn CL cOp cA cB OK oKin pVal aOut aVar FC FA FP FH FT fSelf stk TA TH xFc xFs xPc xKo xPk tw tc xSet S XH xHeld yCo yAr M yPair ySet yStay yHan yKept) (hm : m + 5 ≤ B) (hw : 4 * (e + 1) + ob_hs XH (e + 1) ≤ w) :
    ∃ u' v', ob_S b B (w + 4) u' v' ∧ (∀ post : SX → Prop, post u' → wpX_stackOp post (nI n, nI (e+1), nI b, deep, res, thr, thn, (fun zz => nI (CL zz)), cStr, cOp, cA, cB, (fun zz => nI (OK zz)), oKin, oOpen, xFc, xFs, xPc, xKo, xPk, (fun zz => ob_xa (tw zz) (te zz) (tc zz)), pVal, xSet, (fun zz => nI (S zz)), aOut, aVar, (fun zz => nI (FC zz)), (fun zz => nI (FP zz)), (fun zz => nI (FA zz)), (fun zz => nI (FH zz)), (fun zz => nI (XH zz)), (fun zz => nI (FT zz)), fSelf, xHeld, stk, (fun zz => nI (TA zz)), (fun zz => nI (TH zz)), xArg) 2 a bb) ∧ (∀ post : SY → Prop, post v' → wpY_act post (nI n, nI m, yGiven, nI (e+1), deep, nI b, thr, thn, res, cStr, (fun zz => nI (CL zz)), cOp, cA, cB, (fun zz => nI (OK zz)), oKin, yCo, yAr, oOpen, (fun zz => nI (M zz)), (fun zz => ob_yf (tw zz) (te zz) (tc zz)), yPair, ySeen, pVal, ySet, (fun zz => ob_th (S zz)), yStay, aOut, aVar, yArg, (fun zz => nI (FC zz)), (fun zz => nI (FA zz)), (fun zz => nI (FP zz)), (fun zz => nI (FH zz)), yHan, (fun zz => nI (FT zz)), (fun zz => nI (TA zz)), (fun zz => nI (TH zz)), fSelf, yKept, stk) 2 a bb) := by
  obtain ⟨r, FH', R1, hVr, hH, hX1, hY1⟩ := ob_pop (deep := deep) (cStr := cStr) (oOpen := oOpen) (te := te) (xArg := xArg) (ySeen := ySeen) (yArg := yArg) (yGiven := yGiven) R
  refine ⟨_, _, ob_S_mk (deep := deep) (cStr := cStr) (oOpen := oOpen) (te := te) (xArg := xArg) (ySeen := ySeen) (yArg := yArg) (yGiven := yGiven) R1 (by omega : m ≤ B) (by omega), fun post hp => ?_, fun post hp => ?_⟩
  · unfold wpX_stackOp
    refine br_f (by decide) (br_f (by decide) (br_f (by decide) (br_f (by decide) (br_t rfl ?_))))
    exact hX1 _ hp
  · unfold wpY_act; refine nm_r (nI_pred e) (br_t rfl ?_)
    unfold wY_act_41
    refine hY1 _ ?_
    unfold wY_act_49; refine br_f (by decide) ?_; unfold wY_act_65; refine br_f (by decide) (br_f (by decide) (br_f (by decide) (br_f (by decide) (br_t rfl ?_))))
    exact hp
theorem ob_op3 (R : ob_R n (e+1) b m res thr thn CL cOp cA cB OK oKin pVal aOut aVar FC FA FP FH FT fSelf stk TA TH xFc xFs xPc xKo xPk tw tc xSet S XH xHeld yCo yAr M yPair ySet yStay yHan yKept) (ht : thr = 0) (hm : m + 5 ≤ B) (hw : 4 * (e + 1) + ob_hs XH (e + 1) ≤ w) :
    ∃ u' v', ob_S b B (w + 4) u' v' ∧ (∀ post : SX → Prop, post u' → wpX_stackOp post (nI n, nI (e+1), nI b, deep, res, thr, thn, (fun zz => nI (CL zz)), cStr, cOp, cA, cB, (fun zz => nI (OK zz)), oKin, oOpen, xFc, xFs, xPc, xKo, xPk, (fun zz => ob_xa (tw zz) (te zz) (tc zz)), pVal, xSet, (fun zz => nI (S zz)), aOut, aVar, (fun zz => nI (FC zz)), (fun zz => nI (FP zz)), (fun zz => nI (FA zz)), (fun zz => nI (FH zz)), (fun zz => nI (XH zz)), (fun zz => nI (FT zz)), fSelf, xHeld, stk, (fun zz => nI (TA zz)), (fun zz => nI (TH zz)), xArg) 3 a bb) ∧ (∀ post : SY → Prop, post v' → wpY_act post (nI n, nI m, yGiven, nI (e+1), deep, nI b, thr, thn, res, cStr, (fun zz => nI (CL zz)), cOp, cA, cB, (fun zz => nI (OK zz)), oKin, yCo, yAr, oOpen, (fun zz => nI (M zz)), (fun zz => ob_yf (tw zz) (te zz) (tc zz)), yPair, ySeen, pVal, ySet, (fun zz => ob_th (S zz)), yStay, aOut, aVar, yArg, (fun zz => nI (FC zz)), (fun zz => nI (FA zz)), (fun zz => nI (FP zz)), (fun zz => nI (FH zz)), yHan, (fun zz => nI (FT zz)), (fun zz => nI (TA zz)), (fun zz => nI (TH zz)), fSelf, yKept, stk) 3 a bb) := by
  obtain ⟨r, FH', R1, hVr, hH, hX1, hY1⟩ := ob_pop (deep := deep) (cStr := cStr) (oOpen := oOpen) (te := te) (xArg := xArg) (ySeen := ySeen) (yArg := yArg) (yGiven := yGiven) R
  obtain ⟨R2, hX2, hY2⟩ := ob_push1 (deep := deep) (cStr := cStr) (oOpen := oOpen) (te := te) (xArg := xArg) (ySeen := ySeen) (yArg := yArg) (yGiven := yGiven) R1 hVr (by omega)
  obtain ⟨res', thr', thn', FH2, stk', R3, hX3, hY3⟩ := ob_push (deep := deep) (cStr := cStr) (oOpen := oOpen) (te := te) (xArg := xArg) (ySeen := ySeen) (yArg := yArg) (yGiven := yGiven) R2 hVr
  refine ⟨_, _, ob_S_mk (deep := deep) (cStr := cStr) (oOpen := oOpen) (te := te) (xArg := xArg) (ySeen := ySeen) (yArg := yArg) (yGiven := yGiven) R3 (by omega : m ≤ B) (by omega), fun post hp => ?_, fun post hp => ?_⟩
  · unfold wpX_stackOp
    refine br_f (by decide) (br_f (by decide) (br_f (by decide) (br_f (by decide) (br_f (by decide) (br_t rfl ?_)))))
    exact hX1 _ (hX2 _ (hX3 _ hp))
  · unfold wpY_act; refine nm_r (nI_pred e) (br_f (by decide) (br_t rfl ?_))
    unfold wY_act_41
    refine hY1 _ ?_
    unfold wY_act_49; refine br_f (by decide) ?_; unfold wY_act_65; refine br_f (by decide) (br_f (by decide) (br_f (by decide) (br_f (by decide) (br_f (by decide) (br_t rfl ?_)))))
    unfold wY_act_209
    exact hY2 _ (br_t ht (hY3 _ hp))
theorem ob_op4 (R : ob_R n (e+1) b m res thr thn CL cOp cA cB OK oKin pVal aOut aVar FC FA FP FH FT fSelf stk TA TH xFc xFs xPc xKo xPk tw tc xSet S XH xHeld yCo yAr M yPair ySet yStay yHan yKept) (ht : thr = 0) (hm : m + 5 ≤ B) (hw : 4 * (e + 1) + ob_hs XH (e + 1) ≤ w) :
    ∃ u' v', ob_S b B (w + 4) u' v' ∧ (∀ post : SX → Prop, post u' → wpX_stackOp post (nI n, nI (e+1), nI b, deep, res, thr, thn, (fun zz => nI (CL zz)), cStr, cOp, cA, cB, (fun zz => nI (OK zz)), oKin, oOpen, xFc, xFs, xPc, xKo, xPk, (fun zz => ob_xa (tw zz) (te zz) (tc zz)), pVal, xSet, (fun zz => nI (S zz)), aOut, aVar, (fun zz => nI (FC zz)), (fun zz => nI (FP zz)), (fun zz => nI (FA zz)), (fun zz => nI (FH zz)), (fun zz => nI (XH zz)), (fun zz => nI (FT zz)), fSelf, xHeld, stk, (fun zz => nI (TA zz)), (fun zz => nI (TH zz)), xArg) 4 a bb) ∧ (∀ post : SY → Prop, post v' → wpY_act post (nI n, nI m, yGiven, nI (e+1), deep, nI b, thr, thn, res, cStr, (fun zz => nI (CL zz)), cOp, cA, cB, (fun zz => nI (OK zz)), oKin, yCo, yAr, oOpen, (fun zz => nI (M zz)), (fun zz => ob_yf (tw zz) (te zz) (tc zz)), yPair, ySeen, pVal, ySet, (fun zz => ob_th (S zz)), yStay, aOut, aVar, yArg, (fun zz => nI (FC zz)), (fun zz => nI (FA zz)), (fun zz => nI (FP zz)), (fun zz => nI (FH zz)), yHan, (fun zz => nI (FT zz)), (fun zz => nI (TA zz)), (fun zz => nI (TH zz)), fSelf, yKept, stk) 4 a bb) := by
  obtain ⟨r, FH', R1, hVr, hH, hX1, hY1⟩ := ob_pop (deep := deep) (cStr := cStr) (oOpen := oOpen) (te := te) (xArg := xArg) (ySeen := ySeen) (yArg := yArg) (yGiven := yGiven) R
  obtain ⟨r2, FH2, R2, hVr2, hH2, hX2, hY2⟩ := ob_pop (deep := deep) (cStr := cStr) (oOpen := oOpen) (te := te) (xArg := xArg) (ySeen := ySeen) (yArg := yArg) (yGiven := yGiven) R1
  obtain ⟨R3, hX3, hY3⟩ := ob_push1 (deep := deep) (cStr := cStr) (oOpen := oOpen) (te := te) (xArg := xArg) (ySeen := ySeen) (yArg := yArg) (yGiven := yGiven) R2 hVr (by omega)
  obtain ⟨res', thr', thn', FH4, stk', R4, hX4, hY4⟩ := ob_push (deep := deep) (cStr := cStr) (oOpen := oOpen) (te := te) (xArg := xArg) (ySeen := ySeen) (yArg := yArg) (yGiven := yGiven) R3 hVr2
  refine ⟨_, _, ob_S_mk (deep := deep) (cStr := cStr) (oOpen := oOpen) (te := te) (xArg := xArg) (ySeen := ySeen) (yArg := yArg) (yGiven := yGiven) R4 (by omega : m ≤ B) (by omega), fun post hp => ?_, fun post hp => ?_⟩
  · unfold wpX_stackOp
    refine br_f (by decide) (br_f (by decide) (br_f (by decide) (br_f (by decide) (br_f (by decide) (br_f (by decide) (br_t rfl ?_))))))
    exact hX1 _ (hX2 _ (hX3 _ (hX4 _ hp)))
  · unfold wpY_act; refine nm_r (nI_pred e) (br_f (by decide) (br_f (by decide) (br_t rfl ?_)))
    unfold wY_act_41
    refine hY1 _ ?_
    unfold wY_act_49
    refine br_t rfl (hY2 _ ?_)
    unfold wY_act_65; refine br_f (by decide) (br_f (by decide) (br_f (by decide) (br_f (by decide) (br_f (by decide) (br_f (by decide) (br_t rfl ?_))))))
    unfold wY_act_209
    exact hY3 _ (br_t ht (hY4 _ hp))
theorem ob_op7 (R : ob_R n (e+1) b m res thr thn CL cOp cA cB OK oKin pVal aOut aVar FC FA FP FH FT fSelf stk TA TH xFc xFs xPc xKo xPk tw tc xSet S XH xHeld yCo yAr M yPair ySet yStay yHan yKept) (hm : m + 5 ≤ B) (hw : 4 * (e + 1) + ob_hs XH (e + 1) ≤ w) :
    ∃ u' v', ob_S b B (w + 4) u' v' ∧ (∀ post : SX → Prop, post u' → wpX_stackOp post (nI n, nI (e+1), nI b, deep, res, thr, thn, (fun zz => nI (CL zz)), cStr, cOp, cA, cB, (fun zz => nI (OK zz)), oKin, oOpen, xFc, xFs, xPc, xKo, xPk, (fun zz => ob_xa (tw zz) (te zz) (tc zz)), pVal, xSet, (fun zz => nI (S zz)), aOut, aVar, (fun zz => nI (FC zz)), (fun zz => nI (FP zz)), (fun zz => nI (FA zz)), (fun zz => nI (FH zz)), (fun zz => nI (XH zz)), (fun zz => nI (FT zz)), fSelf, xHeld, stk, (fun zz => nI (TA zz)), (fun zz => nI (TH zz)), xArg) 7 a bb) ∧ (∀ post : SY → Prop, post v' → wpY_act post (nI n, nI m, yGiven, nI (e+1), deep, nI b, thr, thn, res, cStr, (fun zz => nI (CL zz)), cOp, cA, cB, (fun zz => nI (OK zz)), oKin, yCo, yAr, oOpen, (fun zz => nI (M zz)), (fun zz => ob_yf (tw zz) (te zz) (tc zz)), yPair, ySeen, pVal, ySet, (fun zz => ob_th (S zz)), yStay, aOut, aVar, yArg, (fun zz => nI (FC zz)), (fun zz => nI (FA zz)), (fun zz => nI (FP zz)), (fun zz => nI (FH zz)), yHan, (fun zz => nI (FT zz)), (fun zz => nI (TA zz)), (fun zz => nI (TH zz)), fSelf, yKept, stk) 7 a bb) := by
  obtain ⟨he, hc⟩ := ob_frC R
  have hv : ob_V n (fSelf e) := (R.2.2.2.2.2.2.1.2.1 e (by omega)).2.2.2.2.2.2.2.2.2.1
  obtain ⟨res', thr', thn', FH', stk', R2, hXp, hYp⟩ := ob_push (deep := deep) (cStr := cStr) (oOpen := oOpen) (te := te) (xArg := xArg) (ySeen := ySeen) (yArg := yArg) (yGiven := yGiven) R hv
  refine ⟨_, _, ob_S_mk (deep := deep) (cStr := cStr) (oOpen := oOpen) (te := te) (xArg := xArg) (ySeen := ySeen) (yArg := yArg) (yGiven := yGiven) R2 (by omega : m ≤ B) (by omega), fun post hp => ?_, fun post hp => ?_⟩
  · unfold wpX_stackOp
    refine br_f (by decide) (br_t (by decide) ?_)
    simp (disch := first | omega | decide) only [forall_eq, not_true, not_false_iff, false_implies, true_implies, true_and, and_true, ob_sub1, Nat.add_sub_cancel, nI_1, ob_ix, ob_iy, ob_ix24, ob_iy24, ob_ix10, ob_iy10, ob_ix4, ob_iy4, ob_ix3, ob_iy3, ob_s1, ob_s2, ob_s3, ob_s4, ob_ltl, ob_lel, ob_eql, ob_ltr, ob_ler, ob_uN, Nat.add_one_ne_zero, ob_xs3, ob_lnn, ob_ltn, ob_eqn, Nat.not_lt_zero, Nat.zero_le, Nat.reduceEqDiff, Nat.reduceLeDiff, Nat.reduceLT, ob_eqll, Int32.reduceLT, Int32.reduceLE, eq_self_iff_true]
    exact hXp _ hp
  · unfold wpY_act; refine nm_r (nI_pred e) (br_f (by decide) (br_f (by decide) (br_f (by decide) (br_f (by decide) (br_f (by decide) (br_f (by decide) (?_)))))))
    unfold wY_act_49; refine br_f (by decide) ?_; unfold wY_act_65; refine br_f (by decide) (br_f (by decide) (br_f (by decide) (br_f (by decide) (br_f (by decide) (br_f (by decide) (br_f (by decide) (br_f (by decide) (br_f (by decide) (br_t rfl ?_)))))))))
    simp (disch := first | omega | decide) only [forall_eq, not_true, not_false_iff, false_implies, true_implies, true_and, and_true, ob_sub1, Nat.add_sub_cancel, nI_1, ob_ix, ob_iy, ob_ix24, ob_iy24, ob_ix10, ob_iy10, ob_ix4, ob_iy4, ob_ix3, ob_iy3, ob_s1, ob_s2, ob_s3, ob_s4, ob_ltl, ob_lel, ob_eql, ob_ltr, ob_ler, ob_uN, Nat.add_one_ne_zero, ob_xs3, ob_lnn, ob_ltn, ob_eqn, Nat.not_lt_zero, Nat.zero_le, Nat.reduceEqDiff, Nat.reduceLeDiff, Nat.reduceLT, ob_eqll, Int32.reduceLT, Int32.reduceLE, eq_self_iff_true]
    exact hYp _ hp
/-- the activation some steps around -/
theorem ob_arnd (hA : ob_gA n OK S xFc xFs yCo yAr yStay aOut aVar) : ∀ j i x, (x = -1 ∨ ∃ q, q < 24 ∧ x = nI q ∧ S q ≠ 0) → ∃ r : Int32, (r = -1 ∨ ∃ q, q < 24 ∧ r = nI q ∧ S q ≠ 0) ∧
    (∀ post : Int32 → Prop, post r → wX_activationAt_14 post (nI (i + j)) (nI n) (nI d) (nI b) deep res thr thn (fun zz => nI (CL zz)) cStr cOp cA cB (fun zz => nI (OK zz)) oKin oOpen xFc xFs xPc xKo xPk (fun zz => ob_xa (tw zz) (te zz) (tc zz)) pVal xSet (fun zz => nI (S zz)) aOut aVar (fun zz => nI (FC zz)) (fun zz => nI (FP zz)) (fun zz => nI (FA zz)) (fun zz => nI (FH zz)) (fun zz => nI (XH zz)) (fun zz => nI (FT zz)) fSelf xHeld stk (fun zz => nI (TA zz)) (fun zz => nI (TH zz)) xArg (j + 1) x (nI i)) ∧
    (∀ (post : SY → Prop) (x1 x3 : Int32) (FH' : Nat → Nat), wY_variable_42 post x1 x3 r (nI n) (nI m) yGiven (nI d) deep (nI b) thr thn res cStr (fun zz => nI (CL zz)) cOp cA cB (fun zz => nI (OK zz)) oKin yCo yAr oOpen (fun zz => nI (M zz)) (fun zz => ob_yf (tw zz) (te zz) (tc zz)) yPair ySeen pVal ySet (fun zz => ob_th (S zz)) yStay aOut aVar yArg (fun zz => nI (FC zz)) (fun zz => nI (FA zz)) (fun zz => nI (FP zz)) (fun zz => nI (FH' zz)) yHan (fun zz => nI (FT zz)) (fun zz => nI (TA zz)) (fun zz => nI (TH zz)) fSelf yKept stk → wY_variable_16 post x1 (nI (i + j)) x3 (nI n) (nI m) yGiven (nI d) deep (nI b) thr thn res cStr (fun zz => nI (CL zz)) cOp cA cB (fun zz => nI (OK zz)) oKin yCo yAr oOpen (fun zz => nI (M zz)) (fun zz => ob_yf (tw zz) (te zz) (tc zz)) yPair ySeen pVal ySet (fun zz => ob_th (S zz)) yStay aOut aVar yArg (fun zz => nI (FC zz)) (fun zz => nI (FA zz)) (fun zz => nI (FP zz)) (fun zz => nI (FH' zz)) yHan (fun zz => nI (FT zz)) (fun zz => nI (TA zz)) (fun zz => nI (TH zz)) fSelf yKept stk (j + 1) x (nI i)) := by
  intro j
  induction j with
  | zero =>
    intro i x hx
    have hle : nI (i + 0) ≤ nI i := Int32.le_refl _
    refine ⟨x, hx, fun post hp => ?_, fun post x1 x3 FH' hp => ?_⟩
    · unfold wX_activationAt_14
      exact br_t hle hp
    · unfold wY_variable_16
      exact br_t hle hp
  | succ j ih =>
    intro i x hx
    by_cases hle : nI (i + (j + 1)) ≤ nI i
    · refine ⟨x, hx, fun post hp => ?_, fun post x1 x3 FH' hp => ?_⟩
      · unfold wX_activationAt_14
        exact br_t hle hp
      · unfold wY_variable_16
        exact br_t hle hp
    · rcases hx with rfl | ⟨q, hq, rfl, hS⟩
      · refine ⟨-1, Or.inl rfl, fun post hp => ?_, fun post x1 x3 FH' hp => ?_⟩
        · unfold wX_activationAt_14
          exact br_f hle (br_t (by decide) hp)
        · unfold wY_variable_16
          exact br_f hle (br_t (by decide) hp)
      · obtain ⟨_, hsc, _⟩ := (hA.2 q hq).2 hS
        have hx2 : aOut q = -1 ∨ ∃ p, p < 24 ∧ aOut q = nI p ∧ S p ≠ 0 := by
          rcases hsc with h | ⟨p, h1, h2, h3⟩
          · exact Or.inl h
          · exact Or.inr ⟨p, h1, h2, by omega⟩
        obtain ⟨r, hr, hX, hY⟩ := ih (i + 1) (aOut q) hx2
        rw [show i + 1 + j = i + (j + 1) from by omega] at hX hY
        have hcl : (nI q).toNatClampNeg = q := ob_cl (by omega)
        have hin : vp_in (nI q) 24 := vp_in_nI hq (by decide)
        refine ⟨r, hr, fun post hp => ?_, fun post x1 x3 FH' hp => ?_⟩
        · unfold wX_activationAt_14
          refine br_f hle (br_f (nI_pos (by omega)) ⟨hin, ?_⟩)
          rw [hcl, nI_1]
          exact nm_e (nm_e (hX post hp))
        · unfold wY_variable_16
          refine br_f hle (br_f (nI_pos (by omega)) ⟨hin, ?_⟩)
          rw [hcl, nI_1]
          exact nm_e (nm_e (hY post x1 x3 FH' hp))
end
end
section
/-! ===== the instructions 5 and 6; 8 to 13 at act ===== -/
section
variable {n : Nat} {d : Nat} {b : Nat} {m : Nat} {deep : Int32} {res : Int64} {thr : Int32} {thn : Int64} {CL : Nat → Nat} {cStr : Nat → Int32} {cOp : Nat → Int32} {cA : Nat → Int32} {cB : Nat → Int32} {OK : Nat → Nat} {oKin : Nat → Int32} {oOpen : Nat → Int32} {pVal : Nat → Int64} {aOut : Nat → Int32} {aVar : Nat → Int64} {FC : Nat → Nat} {FA : Nat → Nat} {FP : Nat → Nat} {FH : Nat → Nat} {FT : Nat → Nat} {fSelf : Nat → Int64} {stk : Nat → Int64} {TA : Nat → Nat} {TH : Nat → Nat} {xFc : Nat → Int32} {xFs : Nat → Int32} {xPc : Nat → Int32} {xKo : Nat → Int32} {xPk : Nat → Int32} {tw : Nat → Bool} {te : Nat → Bool} {tc : Nat → Bool} {xSet : Nat → Int64} {S : Nat → Nat} {XH : Nat → Nat} {xHeld : Nat → Int64} {xArg : Nat → Int64} {yCo : Nat → Int32} {yAr : Nat → Int32} {M : Nat → Nat} {yPair : Nat → Int32} {ySeen : Nat → Int32} {ySet : Nat → Int64} {yStay : Nat → Int32} {yArg : Nat → Int64} {yHan : Nat → Int32} {yKept : Nat → Int64} {yGiven : Int32}
variable {e k j B w : Nat} {a bb : Int32}
theorem ob_actQ (R : ob_R n (e+1) b m res thr thn CL cOp cA cB OK oKin pVal aOut aVar FC FA FP FH FT fSelf stk TA TH xFc xFs xPc xKo xPk tw tc xSet S XH xHeld yCo yAr M yPair ySet yStay yHan yKept) : e < 6 ∧ FA e < 24 ∧ S (FA e) ≠ 0 := by
  have hF := R.2.2.2.2.2.2.1
  have := hF.1
  obtain ⟨h1, h2, h3, _⟩ := hF.2.1 e (by omega)
  exact ⟨by omega, h2, h3⟩
theorem ob_op5 (R : ob_R n (e+1) b m res thr thn CL cOp cA cB OK oKin pVal aOut aVar FC FA FP FH FT fSelf stk TA TH xFc xFs xPc xKo xPk tw tc xSet S XH xHeld yCo yAr M yPair ySet yStay yHan yKept) (hm : m + 5 ≤ B) (hw : 4 * (e + 1) + ob_hs XH (e + 1) ≤ w) (hk : k ≤ 3) (hj : j ≤ 3) :
    ∃ u' v', ob_S b B (w + 4) u' v' ∧ (∀ post : SX → Prop, post u' → wpX_stackOp post (nI n, nI (e+1), nI b, deep, res, thr, thn, (fun zz => nI (CL zz)), cStr, cOp, cA, cB, (fun zz => nI (OK zz)), oKin, oOpen, xFc, xFs, xPc, xKo, xPk, (fun zz => ob_xa (tw zz) (te zz) (tc zz)), pVal, xSet, (fun zz => nI (S zz)), aOut, aVar, (fun zz => nI (FC zz)), (fun zz => nI (FP zz)), (fun zz => nI (FA zz)), (fun zz => nI (FH zz)), (fun zz => nI (XH zz)), (fun zz => nI (FT zz)), fSelf, xHeld, stk, (fun zz => nI (TA zz)), (fun zz => nI (TH zz)), xArg) 5 (nI k) (nI j)) ∧ (∀ post : SY → Prop, post v' → wpY_act post (nI n, nI m, yGiven, nI (e+1), deep, nI b, thr, thn, res, cStr, (fun zz => nI (CL zz)), cOp, cA, cB, (fun zz => nI (OK zz)), oKin, yCo, yAr, oOpen, (fun zz => nI (M zz)), (fun zz => ob_yf (tw zz) (te zz) (tc zz)), yPair, ySeen, pVal, ySet, (fun zz => ob_th (S zz)), yStay, aOut, aVar, yArg, (fun zz => nI (FC zz)), (fun zz => nI (FA zz)), (fun zz => nI (FP zz)), (fun zz => nI (FH zz)), yHan, (fun zz => nI (FT zz)), (fun zz => nI (TA zz)), (fun zz => nI (TH zz)), fSelf, yKept, stk) 5 (nI k) (nI j)) := by
  obtain ⟨he, ha, hS⟩ := ob_actQ R
  have hA := R.2.2.2.2.2.1
  obtain ⟨r, hr, hXa, hYa⟩ := ob_arnd (n := n) (d := (e+1)) (b := b) (m := m) (deep := deep) (res := res) (thr := thr) (thn := thn) (CL := CL) (cStr := cStr) (cOp := cOp) (cA := cA) (cB := cB) (OK := OK) (oKin := oKin) (oOpen := oOpen) (pVal := pVal) (aOut := aOut) (aVar := aVar) (FC := FC) (FA := FA) (FP := FP) (FH := FH) (FT := FT) (fSelf := fSelf) (stk := stk) (TA := TA) (TH := TH) (xFc := xFc) (xFs := xFs) (xPc := xPc) (xKo := xKo) (xPk := xPk) (tw := tw) (te := te) (tc := tc) (xSet := xSet) (S := S) (XH := XH) (xHeld := xHeld) (xArg := xArg) (yCo := yCo) (yAr := yAr) (M := M) (yPair := yPair) (ySeen := ySeen) (ySet := ySet) (yStay := yStay) (yArg := yArg) (yHan := yHan) (yKept := yKept) (yGiven := yGiven) hA k 0 (nI (FA e)) (Or.inr ⟨FA e, ha, rfl, hS⟩)
  rw [Nat.zero_add] at hXa hYa
  obtain ⟨v, hv, hXv, hYv⟩ : ∃ v : Int64, ob_V n v ∧ (∀ post : SX → Prop, wpX_push post (nI n, nI (e+1), nI b, deep, res, thr, thn, (fun zz => nI (CL zz)), cStr, cOp, cA, cB, (fun zz => nI (OK zz)), oKin, oOpen, xFc, xFs, xPc, xKo, xPk, (fun zz => ob_xa (tw zz) (te zz) (tc zz)), pVal, xSet, (fun zz => nI (S zz)), aOut, aVar, (fun zz => nI (FC zz)), (fun zz => nI (FP zz)), (fun zz => nI (FA zz)), (fun zz => nI (FH zz)), (fun zz => nI (XH zz)), (fun zz => nI (FT zz)), fSelf, xHeld, stk, (fun zz => nI (TA zz)), (fun zz => nI (TH zz)), xArg) v → ((0 ≤ r → (vp_in ((r * 4) + nI j) 96 ∧ wX_pushVariable_27 post (aVar ((r * 4) + nI j).toNatClampNeg) (nI n) (nI (e+1)) (nI b) deep res thr thn (fun zz => nI (CL zz)) cStr cOp cA cB (fun zz => nI (OK zz)) oKin oOpen xFc xFs xPc xKo xPk (fun zz => ob_xa (tw zz) (te zz) (tc zz)) pVal xSet (fun zz => nI (S zz)) aOut aVar (fun zz => nI (FC zz)) (fun zz => nI (FP zz)) (fun zz => nI (FA zz)) (fun zz => nI (FH zz)) (fun zz => nI (XH zz)) (fun zz => nI (FT zz)) fSelf xHeld stk (fun zz => nI (TA zz)) (fun zz => nI (TH zz)) xArg)) ∧ (¬ 0 ≤ r → wX_pushVariable_27 post 8589934592 (nI n) (nI (e+1)) (nI b) deep res thr thn (fun zz => nI (CL zz)) cStr cOp cA cB (fun zz => nI (OK zz)) oKin oOpen xFc xFs xPc xKo xPk (fun zz => ob_xa (tw zz) (te zz) (tc zz)) pVal xSet (fun zz => nI (S zz)) aOut aVar (fun zz => nI (FC zz)) (fun zz => nI (FP zz)) (fun zz => nI (FA zz)) (fun zz => nI (FH zz)) (fun zz => nI (XH zz)) (fun zz => nI (FT zz)) fSelf xHeld stk (fun zz => nI (TA zz)) (fun zz => nI (TH zz)) xArg))) ∧ (∀ post : SY → Prop, wpY_give post (nI n, nI m, yGiven, nI (e+1), deep, nI b, thr, thn, res, cStr, (fun zz => nI (CL zz)), cOp, cA, cB, (fun zz => nI (OK zz)), oKin, yCo, yAr, oOpen, (fun zz => nI (M zz)), (fun zz => ob_yf (tw zz) (te zz) (tc zz)), yPair, ySeen, pVal, ySet, (fun zz => ob_th (S zz)), yStay, aOut, aVar, yArg, (fun zz => nI (FC zz)), (fun zz => nI (FA zz)), (fun zz => nI (FP zz)), (fun zz => nI (FH zz)), yHan, (fun zz => nI (FT zz)), (fun zz => nI (TA zz)), (fun zz => nI (TH zz)), fSelf, yKept, stk) v → wY_variable_42 post 5 (nI j) r (nI n) (nI m) yGiven (nI (e+1)) deep (nI b) thr thn res cStr (fun zz => nI (CL zz)) cOp cA cB (fun zz => nI (OK zz)) oKin yCo yAr oOpen (fun zz => nI (M zz)) (fun zz => ob_yf (tw zz) (te zz) (tc zz)) yPair ySeen pVal ySet (fun zz => ob_th (S zz)) yStay aOut aVar yArg (fun zz => nI (FC zz)) (fun zz => nI (FA zz)) (fun zz => nI (FP zz)) (fun zz => nI (FH zz)) yHan (fun zz => nI (FT zz)) (fun zz => nI (TA zz)) (fun zz => nI (TH zz)) fSelf yKept stk) := by
    rcases hr with rfl | ⟨q, hq, rfl, hSq⟩
    · refine ⟨8589934592, ob_V_U n, fun post h => br_f (by decide) h, fun post h => ?_⟩
      unfold wY_variable_42 wY_variable_77
      exact br_f (by decide) (br_f (by decide) (br_t rfl h))
    · obtain ⟨_, _, h3⟩ := (hA.2 q hq).2 hSq
      refine ⟨aVar (4 * q + j), h3 j (by omega), fun post h => br_t (nI_pos' (by omega)) ?_, fun post h => ?_⟩
      · unfold wX_pushVariable_27
        simp (disch := first | omega | decide) only [forall_eq, not_true, not_false_iff, false_implies, true_implies, true_and, and_true, ob_sub1, Nat.add_sub_cancel, nI_1, ob_ix, ob_iy, ob_ix24, ob_iy24, ob_ix10, ob_iy10, ob_ix4, ob_iy4, ob_ix3, ob_iy3, ob_s1, ob_s2, ob_s3, ob_s4, ob_ltl, ob_lel, ob_eql, ob_ltr, ob_ler, ob_uN, Nat.add_one_ne_zero, ob_xs3, ob_lnn, ob_ltn, ob_eqn, Nat.not_lt_zero, Nat.zero_le, Nat.reduceEqDiff, Nat.reduceLeDiff, Nat.reduceLT, ob_eqll, Int32.reduceLT, Int32.reduceLE, eq_self_iff_true]
        exact h
      · unfold wY_variable_42 wY_variable_77
        refine br_f (by decide) (br_t (nI_pos' (by omega)) ?_)
        simp (disch := first | omega | decide) only [forall_eq, not_true, not_false_iff, false_implies, true_implies, true_and, and_true, ob_sub1, Nat.add_sub_cancel, nI_1, ob_ix, ob_iy, ob_ix24, ob_iy24, ob_ix10, ob_iy10, ob_ix4, ob_iy4, ob_ix3, ob_iy3, ob_s1, ob_s2, ob_s3, ob_s4, ob_ltl, ob_lel, ob_eql, ob_ltr, ob_ler, ob_uN, Nat.add_one_ne_zero, ob_xs3, ob_lnn, ob_ltn, ob_eqn, Nat.not_lt_zero, Nat.zero_le, Nat.reduceEqDiff, Nat.reduceLeDiff, Nat.reduceLT, ob_eqll, Int32.reduceLT, Int32.reduceLE, eq_self_iff_true]
        exact h
  obtain ⟨res', thr', thn', FH', stk', R2, hXp, hYp⟩ := ob_push (deep := deep) (cStr := cStr) (oOpen := oOpen) (te := te) (xArg := xArg) (ySeen := ySeen) (yArg := yArg) (yGiven := yGiven) R hv
  refine ⟨_, _, ob_S_mk (deep := deep) (cStr := cStr) (oOpen := oOpen) (te := te) (xArg := xArg) (ySeen := ySeen) (yArg := yArg) (yGiven := yGiven) R2 (by omega : m ≤ B) (by omega), fun post hp => ?_, fun post hp => ?_⟩
  · unfold wpX_stackOp
    refine br_f (by decide) (br_f (by decide) (br_f (by decide) (br_f (by decide) (br_f (by decide) (br_f (by decide) (br_f (by decide) (br_t rfl ?_)))))))
    unfold wpX_pushVariable wpX_activationAt
    simp (disch := first | omega | decide) only [forall_eq, not_true, not_false_iff, false_implies, true_implies, true_and, and_true, ob_sub1, Nat.add_sub_cancel, nI_1, ob_ix, ob_iy, ob_ix24, ob_iy24, ob_ix10, ob_iy10, ob_ix4, ob_iy4, ob_ix3, ob_iy3, ob_s1, ob_s2, ob_s3, ob_s4, ob_ltl, ob_lel, ob_eql, ob_ltr, ob_ler, ob_uN, Nat.add_one_ne_zero, ob_xs3, ob_lnn, ob_ltn, ob_eqn, Nat.not_lt_zero, Nat.zero_le, Nat.reduceEqDiff, Nat.reduceLeDiff, Nat.reduceLT, ob_eqll, Int32.reduceLT, Int32.reduceLE, eq_self_iff_true]
    exact ⟨k + 1, hXa _ (hXv _ (hXp _ hp))⟩
  · unfold wpY_act; refine nm_r (nI_pred e) (br_f (by decide) (br_f (by decide) (br_f (by decide) (br_f (by decide) (br_f (by decide) (br_f (by decide) (?_)))))))
    unfold wY_act_49; refine br_f (by decide) ?_; unfold wY_act_65; refine br_f (by decide) (br_f (by decide) (br_f (by decide) (br_f (by decide) (br_f (by decide) (br_f (by decide) (br_f (by decide) (br_t rfl ?_)))))))
    unfold wY_act_231 wpY_variable
    simp (disch := first | omega | decide) only [forall_eq, not_true, not_false_iff, false_implies, true_implies, true_and, and_true, ob_sub1, Nat.add_sub_cancel, nI_1, ob_ix, ob_iy, ob_ix24, ob_iy24, ob_ix10, ob_iy10, ob_ix4, ob_iy4, ob_ix3, ob_iy3, ob_s1, ob_s2, ob_s3, ob_s4, ob_ltl, ob_lel, ob_eql, ob_ltr, ob_ler, ob_uN, Nat.add_one_ne_zero, ob_xs3, ob_lnn, ob_ltn, ob_eqn, Nat.not_lt_zero, Nat.zero_le, Nat.reduceEqDiff, Nat.reduceLeDiff, Nat.reduceLT, ob_eqll, Int32.reduceLT, Int32.reduceLE, eq_self_iff_true]
    exact ⟨k + 1, hYa _ _ _ _ (hYv _ (hYp _ hp))⟩
theorem ob_op6 (R : ob_R n (e+1) b m res thr thn CL cOp cA cB OK oKin pVal aOut aVar FC FA FP FH FT fSelf stk TA TH xFc xFs xPc xKo xPk tw tc xSet S XH xHeld yCo yAr M yPair ySet yStay yHan yKept) (hm : m + 5 ≤ B) (hw : 4 * (e + 1) + ob_hs XH (e + 1) ≤ w) (hk : k ≤ 3) (hj : j ≤ 3) :
    ∃ u' v', ob_S b B (w + 4) u' v' ∧ (∀ post : SX → Prop, post u' → wpX_stackOp post (nI n, nI (e+1), nI b, deep, res, thr, thn, (fun zz => nI (CL zz)), cStr, cOp, cA, cB, (fun zz => nI (OK zz)), oKin, oOpen, xFc, xFs, xPc, xKo, xPk, (fun zz => ob_xa (tw zz) (te zz) (tc zz)), pVal, xSet, (fun zz => nI (S zz)), aOut, aVar, (fun zz => nI (FC zz)), (fun zz => nI (FP zz)), (fun zz => nI (FA zz)), (fun zz => nI (FH zz)), (fun zz => nI (XH zz)), (fun zz => nI (FT zz)), fSelf, xHeld, stk, (fun zz => nI (TA zz)), (fun zz => nI (TH zz)), xArg) 6 (nI k) (nI j)) ∧ (∀ post : SY → Prop, post v' → wpY_act post (nI n, nI m, yGiven, nI (e+1), deep, nI b, thr, thn, res, cStr, (fun zz => nI (CL zz)), cOp, cA, cB, (fun zz => nI (OK zz)), oKin, yCo, yAr, oOpen, (fun zz => nI (M zz)), (fun zz => ob_yf (tw zz) (te zz) (tc zz)), yPair, ySeen, pVal, ySet, (fun zz => ob_th (S zz)), yStay, aOut, aVar, yArg, (fun zz => nI (FC zz)), (fun zz => nI (FA zz)), (fun zz => nI (FP zz)), (fun zz => nI (FH zz)), yHan, (fun zz => nI (FT zz)), (fun zz => nI (TA zz)), (fun zz => nI (TH zz)), fSelf, yKept, stk) 6 (nI k) (nI j)) := by
  obtain ⟨he, ha, hS⟩ := ob_actQ R
  obtain ⟨v, FH', R1, hVr, hH, hX1, hY1⟩ := ob_pop (deep := deep) (cStr := cStr) (oOpen := oOpen) (te := te) (xArg := xArg) (ySeen := ySeen) (yArg := yArg) (yGiven := yGiven) R
  have hA := R.2.2.2.2.2.1
  obtain ⟨r, hr, hXa, hYa⟩ := ob_arnd (n := n) (d := (e+1)) (b := b) (m := m) (deep := deep) (res := res) (thr := thr) (thn := thn) (CL := CL) (cStr := cStr) (cOp := cOp) (cA := cA) (cB := cB) (OK := OK) (oKin := oKin) (oOpen := oOpen) (pVal := pVal) (aOut := aOut) (aVar := aVar) (FC := FC) (FA := FA) (FP := FP) (FH := FH') (FT := FT) (fSelf := fSelf) (stk := stk) (TA := TA) (TH := TH) (xFc := xFc) (xFs := xFs) (xPc := xPc) (xKo := xKo) (xPk := xPk) (tw := tw) (te := te) (tc := tc) (xSet := xSet) (S := S) (XH := XH) (xHeld := xHeld) (xArg := xArg) (yCo := yCo) (yAr := yAr) (M := M) (yPair := yPair) (ySeen := ySeen) (ySet := ySet) (yStay := yStay) (yArg := yArg) (yHan := yHan) (yKept := yKept) (yGiven := yGiven) hA k 0 (nI (FA e)) (Or.inr ⟨FA e, ha, rfl, hS⟩)
  rw [Nat.zero_add] at hXa hYa
  have hX0 : ∀ post : SX → Prop, ((r < 0 → post (nI n, nI (e+1), nI b, deep, res, thr, thn, (fun zz => nI (CL zz)), cStr, cOp, cA, cB, (fun zz => nI (OK zz)), oKin, oOpen, xFc, xFs, xPc, xKo, xPk, (fun zz => ob_xa (tw zz) (te zz) (tc zz)), pVal, xSet, (fun zz => nI (S zz)), aOut, aVar, (fun zz => nI (FC zz)), (fun zz => nI (FP zz)), (fun zz => nI (FA zz)), (fun zz => nI (FH' zz)), (fun zz => nI (XH zz)), (fun zz => nI (FT zz)), fSelf, xHeld, stk, (fun zz => nI (TA zz)), (fun zz => nI (TH zz)), xArg)) ∧ (¬ r < 0 → (vp_in ((r * 4) + nI j) 96 ∧ post (nI n, nI (e+1), nI b, deep, res, thr, thn, (fun zz => nI (CL zz)), cStr, cOp, cA, cB, (fun zz => nI (OK zz)), oKin, oOpen, xFc, xFs, xPc, xKo, xPk, (fun zz => ob_xa (tw zz) (te zz) (tc zz)), pVal, xSet, (fun zz => nI (S zz)), aOut, (vp_updL aVar ((r * 4) + nI j).toNatClampNeg v), (fun zz => nI (FC zz)), (fun zz => nI (FP zz)), (fun zz => nI (FA zz)), (fun zz => nI (FH' zz)), (fun zz => nI (XH zz)), (fun zz => nI (FT zz)), fSelf, xHeld, stk, (fun zz => nI (TA zz)), (fun zz => nI (TH zz)), xArg)))) → wpX_stackOp post (nI n, nI (e+1), nI b, deep, res, thr, thn, (fun zz => nI (CL zz)), cStr, cOp, cA, cB, (fun zz => nI (OK zz)), oKin, oOpen, xFc, xFs, xPc, xKo, xPk, (fun zz => ob_xa (tw zz) (te zz) (tc zz)), pVal, xSet, (fun zz => nI (S zz)), aOut, aVar, (fun zz => nI (FC zz)), (fun zz => nI (FP zz)), (fun zz => nI (FA zz)), (fun zz => nI (FH zz)), (fun zz => nI (XH zz)), (fun zz => nI (FT zz)), fSelf, xHeld, stk, (fun zz => nI (TA zz)), (fun zz => nI (TH zz)), xArg) 6 (nI k) (nI j) := by
    intro post h
    unfold wpX_stackOp
    refine br_f (by decide) (br_f (by decide) (br_f (by decide) (br_f (by decide) (br_f (by decide) (br_f (by decide) (br_f (by decide) (br_f (by decide) (br_t rfl ?_))))))))
    unfold wpX_setVariable
    refine hX1 _ ?_
    unfold wpX_activationAt
    simp (disch := first | omega | decide) only [forall_eq, not_true, not_false_iff, false_implies, true_implies, true_and, and_true, ob_sub1, Nat.add_sub_cancel, nI_1, ob_ix, ob_iy, ob_ix24, ob_iy24, ob_ix10, ob_iy10, ob_ix4, ob_iy4, ob_ix3, ob_iy3, ob_s1, ob_s2, ob_s3, ob_s4, ob_ltl, ob_lel, ob_eql, ob_ltr, ob_ler, ob_uN, Nat.add_one_ne_zero, ob_xs3, ob_lnn, ob_ltn, ob_eqn, Nat.not_lt_zero, Nat.zero_le, Nat.reduceEqDiff, Nat.reduceLeDiff, Nat.reduceLT, ob_eqll, Int32.reduceLT, Int32.reduceLE, eq_self_iff_true]
    exact ⟨k + 1, hXa _ h⟩
  have hY0 : ∀ post : SY → Prop, wY_variable_77 post 6 (nI j) r v (nI n) (nI m) yGiven (nI (e+1)) deep (nI b) thr thn res cStr (fun zz => nI (CL zz)) cOp cA cB (fun zz => nI (OK zz)) oKin yCo yAr oOpen (fun zz => nI (M zz)) (fun zz => ob_yf (tw zz) (te zz) (tc zz)) yPair ySeen pVal ySet (fun zz => ob_th (S zz)) yStay aOut aVar yArg (fun zz => nI (FC zz)) (fun zz => nI (FA zz)) (fun zz => nI (FP zz)) (fun zz => nI (FH' zz)) yHan (fun zz => nI (FT zz)) (fun zz => nI (TA zz)) (fun zz => nI (TH zz)) fSelf yKept stk → wpY_act post (nI n, nI m, yGiven, nI (e+1), deep, nI b, thr, thn, res, cStr, (fun zz => nI (CL zz)), cOp, cA, cB, (fun zz => nI (OK zz)), oKin, yCo, yAr, oOpen, (fun zz => nI (M zz)), (fun zz => ob_yf (tw zz) (te zz) (tc zz)), yPair, ySeen, pVal, ySet, (fun zz => ob_th (S zz)), yStay, aOut, aVar, yArg, (fun zz => nI (FC zz)), (fun zz => nI (FA zz)), (fun zz => nI (FP zz)), (fun zz => nI (FH zz)), yHan, (fun zz => nI (FT zz)), (fun zz => nI (TA zz)), (fun zz => nI (TH zz)), fSelf, yKept, stk) 6 (nI k) (nI j) := by
    intro post h
    unfold wpY_act; refine nm_r (nI_pred e) (br_f (by decide) (br_f (by decide) (br_f (by decide) (br_f (by decide) (br_f (by decide) (br_f (by decide) (?_)))))))
    unfold wY_act_49; refine br_f (by decide) ?_; unfold wY_act_65; refine br_f (by decide) (br_f (by decide) (br_f (by decide) (br_f (by decide) (br_f (by decide) (br_f (by decide) (br_f (by decide) (br_f (by decide) (br_t rfl ?_))))))))
    unfold wY_act_231 wpY_variable
    simp (disch := first | omega | decide) only [forall_eq, not_true, not_false_iff, false_implies, true_implies, true_and, and_true, ob_sub1, Nat.add_sub_cancel, nI_1, ob_ix, ob_iy, ob_ix24, ob_iy24, ob_ix10, ob_iy10, ob_ix4, ob_iy4, ob_ix3, ob_iy3, ob_s1, ob_s2, ob_s3, ob_s4, ob_ltl, ob_lel, ob_eql, ob_ltr, ob_ler, ob_uN, Nat.add_one_ne_zero, ob_xs3, ob_lnn, ob_ltn, ob_eqn, Nat.not_lt_zero, Nat.zero_le, Nat.reduceEqDiff, Nat.reduceLeDiff, Nat.reduceLT, ob_eqll, Int32.reduceLT, Int32.reduceLE, eq_self_iff_true]
    refine ⟨k + 1, hYa _ _ _ _ ?_⟩
    unfold wY_variable_42
    exact br_t rfl (hY1 _ h)
  rcases hr with rfl | ⟨q, hq, rfl, hSq⟩
  · refine ⟨_, _, ob_S_mk (deep := deep) (cStr := cStr) (oOpen := oOpen) (te := te) (xArg := xArg) (ySeen := ySeen) (yArg := yArg) (yGiven := yGiven) R1 (by omega : m ≤ B) (by omega), fun post hp => hX0 post (br_t (by decide) hp), fun post hp => hY0 post ?_⟩
    unfold wY_variable_77
    exact br_f (by decide) (br_t (by decide) hp)
  · obtain ⟨hC, hO, hP, hL, hY, hA', hF, hT⟩ := R1
    have hin : vp_in (nI (4 * q + j)) 96 := vp_in_nI (by omega) (by decide)
    have hcl : (nI (4 * q + j)).toNatClampNeg = 4 * q + j := ob_cl (by omega)
    refine ⟨_, _, ob_S_mk (deep := deep) (cStr := cStr) (oOpen := oOpen) (te := te) (xArg := xArg) (ySeen := ySeen) (yArg := yArg) (yGiven := yGiven) ⟨hC, hO, hP, hL, hY, ob_gA_var (i := 4 * q + j) hA' hVr, hF, hT⟩ (by omega : m ≤ B) (by omega), fun post hp => hX0 post (br_f (nI_pos (by omega)) ?_), fun post hp => hY0 post ?_⟩
    · rw [ob_ix4, hcl]
      exact ⟨hin, hp⟩
    · unfold wY_variable_77
      refine br_f (by decide) (br_f (nI_pos (by omega)) ?_)
      rw [ob_iy4, hcl]
      exact ⟨hin, nm_e hp⟩
end
end
section
/-! ===== the instructions 19 to 28, 30, 31 ===== -/
section
variable {n : Nat} {d : Nat} {b : Nat} {m : Nat} {deep : Int32} {res : Int64} {thr : Int32} {thn : Int64} {CL : Nat → Nat} {cStr : Nat → Int32} {cOp : Nat → Int32} {cA : Nat → Int32} {cB : Nat → Int32} {OK : Nat → Nat} {oKin : Nat → Int32} {oOpen : Nat → Int32} {pVal : Nat → Int64} {aOut : Nat → Int32} {aVar : Nat → Int64} {FC : Nat → Nat} {FA : Nat → Nat} {FP : Nat → Nat} {FH : Nat → Nat} {FT : Nat → Nat} {fSelf : Nat → Int64} {stk : Nat → Int64} {TA : Nat → Nat} {TH : Nat → Nat} {xFc : Nat → Int32} {xFs : Nat → Int32} {xPc : Nat → Int32} {xKo : Nat → Int32} {xPk : Nat → Int32} {tw : Nat → Bool} {te : Nat → Bool} {tc : Nat → Bool} {xSet : Nat → Int64} {S : Nat → Nat} {XH : Nat → Nat} {xHeld : Nat → Int64} {xArg : Nat → Int64} {yCo : Nat → Int32} {yAr : Nat → Int32} {M : Nat → Nat} {yPair : Nat → Int32} {ySeen : Nat → Int32} {ySet : Nat → Int64} {yStay : Nat → Int32} {yArg : Nat → Int64} {yHan : Nat → Int32} {yKept : Nat → Int64} {yGiven : Int32}
variable {e k j p B w : Nat} {a bb : Int32}
theorem ob_op19 (R : ob_R n (e+1) b m res thr thn CL cOp cA cB OK oKin pVal aOut aVar FC FA FP FH FT fSelf stk TA TH xFc xFs xPc xKo xPk tw tc xSet S XH xHeld yCo yAr M yPair ySet yStay yHan yKept) (hm : m + 5 ≤ B) (hw : 4 * (e + 1) + ob_hs XH (e + 1) ≤ w) :
    ∃ u' v', ob_S b B (w + 4) u' v' ∧ (∀ post : SX → Prop, post u' → wpX_controlOp post (nI n, nI (e+1), nI b, deep, res, thr, thn, (fun zz => nI (CL zz)), cStr, cOp, cA, cB, (fun zz => nI (OK zz)), oKin, oOpen, xFc, xFs, xPc, xKo, xPk, (fun zz => ob_xa (tw zz) (te zz) (tc zz)), pVal, xSet, (fun zz => nI (S zz)), aOut, aVar, (fun zz => nI (FC zz)), (fun zz => nI (FP zz)), (fun zz => nI (FA zz)), (fun zz => nI (FH zz)), (fun zz => nI (XH zz)), (fun zz => nI (FT zz)), fSelf, xHeld, stk, (fun zz => nI (TA zz)), (fun zz => nI (TH zz)), xArg) 19 a) ∧ (∀ post : SY → Prop, post v' → wpY_act post (nI n, nI m, yGiven, nI (e+1), deep, nI b, thr, thn, res, cStr, (fun zz => nI (CL zz)), cOp, cA, cB, (fun zz => nI (OK zz)), oKin, yCo, yAr, oOpen, (fun zz => nI (M zz)), (fun zz => ob_yf (tw zz) (te zz) (tc zz)), yPair, ySeen, pVal, ySet, (fun zz => ob_th (S zz)), yStay, aOut, aVar, yArg, (fun zz => nI (FC zz)), (fun zz => nI (FA zz)), (fun zz => nI (FP zz)), (fun zz => nI (FH zz)), yHan, (fun zz => nI (FT zz)), (fun zz => nI (TA zz)), (fun zz => nI (TH zz)), fSelf, yKept, stk) 19 a bb) := by
  obtain ⟨v, FH', R1, hVr, hH, hX1, hY1⟩ := ob_pop (deep := deep) (cStr := cStr) (oOpen := oOpen) (te := te) (xArg := xArg) (ySeen := ySeen) (yArg := yArg) (yGiven := yGiven) R
  obtain ⟨S', res', thr', thn', FH2, stk', R2, hX2, hY2⟩ := ob_finish (deep := deep) (cStr := cStr) (oOpen := oOpen) (te := te) (xArg := xArg) (ySeen := ySeen) (yArg := yArg) (yGiven := yGiven) R1 hVr
  have hw' : 4 * (e + 1) + (ob_hs XH e + XH e) ≤ w := hw
  refine ⟨_, _, ob_S_mk (deep := deep) (cStr := cStr) (oOpen := oOpen) (te := te) (xArg := xArg) (ySeen := ySeen) (yArg := yArg) (yGiven := yGiven) R2 (by omega : m ≤ B) (by omega), fun post hp => ?_, fun post hp => ?_⟩
  · unfold wpX_controlOp
    refine nm_r (nI_pred e) ?_
    refine br_f (by decide) (br_f (by decide) (br_t rfl ?_))
    exact hX1 _ (hX2 _ hp)
  · unfold wpY_act; refine nm_r (nI_pred e) (br_f (by decide) (br_f (by decide) (br_f (by decide) (br_t rfl ?_))))
    unfold wY_act_41
    refine hY1 _ ?_
    unfold wY_act_49; refine br_f (by decide) ?_; unfold wY_act_65; refine br_f (by decide) (br_f (by decide) (br_f (by decide) (br_f (by decide) (br_f (by decide) (br_f (by decide) (br_f (by decide) (br_f (by decide) (br_f (by decide) (br_f (by decide) (br_f (by decide) (br_f (by decide) (br_f (by decide) (br_f (by decide) (br_f (by decide) (br_f (by decide) (br_f (by decide) (br_f (by decide) (br_f (by decide) (br_f (by decide) (br_f (by decide) (br_t rfl ?_)))))))))))))))))))))
    exact hY2 _ hp
theorem ob_op20 (R : ob_R n (e+1) b m res thr thn CL cOp cA cB OK oKin pVal aOut aVar FC FA FP FH FT fSelf stk TA TH xFc xFs xPc xKo xPk tw tc xSet S XH xHeld yCo yAr M yPair ySet yStay yHan yKept) (hm : m + 5 ≤ B) (hw : 4 * (e + 1) + ob_hs XH (e + 1) ≤ w) :
    ∃ u' v', ob_S b B (w + 4) u' v' ∧ (∀ post : SX → Prop, post u' → wpX_controlOp post (nI n, nI (e+1), nI b, deep, res, thr, thn, (fun zz => nI (CL zz)), cStr, cOp, cA, cB, (fun zz => nI (OK zz)), oKin, oOpen, xFc, xFs, xPc, xKo, xPk, (fun zz => ob_xa (tw zz) (te zz) (tc zz)), pVal, xSet, (fun zz => nI (S zz)), aOut, aVar, (fun zz => nI (FC zz)), (fun zz => nI (FP zz)), (fun zz => nI (FA zz)), (fun zz => nI (FH zz)), (fun zz => nI (XH zz)), (fun zz => nI (FT zz)), fSelf, xHeld, stk, (fun zz => nI (TA zz)), (fun zz => nI (TH zz)), xArg) 20 a) ∧ (∀ post : SY → Prop, post v' → wpY_act post (nI n, nI m, yGiven, nI (e+1), deep, nI b, thr, thn, res, cStr, (fun zz => nI (CL zz)), cOp, cA, cB, (fun zz => nI (OK zz)), oKin, yCo, yAr, oOpen, (fun zz => nI (M zz)), (fun zz => ob_yf (tw zz) (te zz) (tc zz)), yPair, ySeen, pVal, ySet, (fun zz => ob_th (S zz)), yStay, aOut, aVar, yArg, (fun zz => nI (FC zz)), (fun zz => nI (FA zz)), (fun zz => nI (FP zz)), (fun zz => nI (FH zz)), yHan, (fun zz => nI (FT zz)), (fun zz => nI (TA zz)), (fun zz => nI (TH zz)), fSelf, yKept, stk) 20 a bb) := by
  obtain ⟨v, FH', R1, hVr, hH, hX1, hY1⟩ := ob_pop (deep := deep) (cStr := cStr) (oOpen := oOpen) (te := te) (xArg := xArg) (ySeen := ySeen) (yArg := yArg) (yGiven := yGiven) R
  refine ⟨_, _, ob_S_mk (deep := deep) (cStr := cStr) (oOpen := oOpen) (te := te) (xArg := xArg) (ySeen := ySeen) (yArg := yArg) (yGiven := yGiven) (ob_raise R1 hVr) (by omega : m ≤ B) (by omega), fun post hp => ?_, fun post hp => ?_⟩
  · unfold wpX_controlOp
    refine nm_r (nI_pred e) ?_
    refine br_f (by decide) (br_f (by decide) (br_f (by decide) (br_t rfl ?_)))
    exact hX1 _ hp
  · unfold wpY_act; refine nm_r (nI_pred e) (br_f (by decide) (br_f (by decide) (br_f (by decide) (br_f (by decide) (br_t rfl ?_)))))
    unfold wY_act_41
    refine hY1 _ ?_
    unfold wY_act_49; refine br_f (by decide) ?_; unfold wY_act_65; refine br_f (by decide) (br_f (by decide) (br_f (by decide) (br_f (by decide) (br_f (by decide) (br_f (by decide) (br_f (by decide) (br_f (by decide) (br_f (by decide) (br_f (by decide) (br_f (by decide) (br_f (by decide) (br_f (by decide) (br_f (by decide) (br_f (by decide) (br_f (by decide) (br_f (by decide) (br_f (by decide) (br_f (by decide) (br_f (by decide) (br_f (by decide) (br_f (by decide) (br_t rfl ?_))))))))))))))))))))))
    exact hp
theorem ob_op21 (R : ob_R n (e+1) b m res thr thn CL cOp cA cB OK oKin pVal aOut aVar FC FA FP FH FT fSelf stk TA TH xFc xFs xPc xKo xPk tw tc xSet S XH xHeld yCo yAr M yPair ySet yStay yHan yKept) (hm : m + 5 ≤ B) (hw : 4 * (e + 1) + ob_hs XH (e + 1) ≤ w) (hp24 : p ≤ 24) :
    ∃ u' v', ob_S b B (w + 4) u' v' ∧ (∀ post : SX → Prop, post u' → wpX_controlOp post (nI n, nI (e+1), nI b, deep, res, thr, thn, (fun zz => nI (CL zz)), cStr, cOp, cA, cB, (fun zz => nI (OK zz)), oKin, oOpen, xFc, xFs, xPc, xKo, xPk, (fun zz => ob_xa (tw zz) (te zz) (tc zz)), pVal, xSet, (fun zz => nI (S zz)), aOut, aVar, (fun zz => nI (FC zz)), (fun zz => nI (FP zz)), (fun zz => nI (FA zz)), (fun zz => nI (FH zz)), (fun zz => nI (XH zz)), (fun zz => nI (FT zz)), fSelf, xHeld, stk, (fun zz => nI (TA zz)), (fun zz => nI (TH zz)), xArg) 21 (nI p)) ∧ (∀ post : SY → Prop, post v' → wpY_act post (nI n, nI m, yGiven, nI (e+1), deep, nI b, thr, thn, res, cStr, (fun zz => nI (CL zz)), cOp, cA, cB, (fun zz => nI (OK zz)), oKin, yCo, yAr, oOpen, (fun zz => nI (M zz)), (fun zz => ob_yf (tw zz) (te zz) (tc zz)), yPair, ySeen, pVal, ySet, (fun zz => ob_th (S zz)), yStay, aOut, aVar, yArg, (fun zz => nI (FC zz)), (fun zz => nI (FA zz)), (fun zz => nI (FP zz)), (fun zz => nI (FH zz)), yHan, (fun zz => nI (FT zz)), (fun zz => nI (TA zz)), (fun zz => nI (TH zz)), fSelf, yKept, stk) 21 (nI p) bb) := by
  obtain ⟨hC, hO, hP, hL, hY, hA, hF, hT⟩ := R
  have he : e + 1 ≤ 6 := hF.1
  obtain ⟨f1, f2, f3, f4, f5, f6, f7, f8, f9⟩ := hF.2.1 e (by omega)
  by_cases h3 : XH e < 3
  · have hn3 : ¬ XH e = 3 := by omega
    refine ⟨_, _, ob_S_mk (deep := deep) (cStr := cStr) (oOpen := oOpen) (te := te) (xArg := xArg) (ySeen := ySeen) (yArg := yArg) (yGiven := yGiven) ⟨hC, hO, hP, hL, hY, hA, ob_gF_hadd (e := e) hF (by omega) h3 hp24, hT⟩ (by omega : m ≤ B) ?_, fun post hp => ?_, fun post hp => ?_⟩
    · show 4 * (e + 1) + (ob_hs (ob_um XH e (XH e + 1)) e + ob_um XH e (XH e + 1) e) ≤ w + 4
      have hw' : 4 * (e + 1) + (ob_hs XH e + XH e) ≤ w := hw
      rw [ob_hs_u, ob_um_s]
      omega
    · unfold wpX_controlOp
      refine nm_r (nI_pred e) ?_
      refine br_f (by decide) (br_f (by decide) (br_f (by decide) (br_f (by decide) (br_t rfl ?_))))
      unfold wpX_addHandler
      simp (disch := first | omega | decide) only [h3, forall_eq, not_true, not_false_iff, false_implies, true_implies, true_and, and_true, ob_sub1, Nat.add_sub_cancel, nI_1, ob_ix, ob_iy, ob_ix24, ob_iy24, ob_ix10, ob_iy10, ob_ix4, ob_iy4, ob_ix3, ob_iy3, ob_s1, ob_s2, ob_s3, ob_s4, ob_ltl, ob_lel, ob_eql, ob_ltr, ob_ler, ob_uN, Nat.add_one_ne_zero, ob_xs3, ob_lnn, ob_ltn, ob_eqn, Nat.not_lt_zero, Nat.zero_le, Nat.reduceEqDiff, Nat.reduceLeDiff, Nat.reduceLT, ob_eqll, Int32.reduceLT, Int32.reduceLE, eq_self_iff_true]
      exact hp
    · unfold wpY_act; refine nm_r (nI_pred e) (br_f (by decide) (br_f (by decide) (br_f (by decide) (br_f (by decide) (br_f (by decide) (br_f (by decide) (?_)))))))
      unfold wY_act_49; refine br_f (by decide) ?_; unfold wY_act_65; refine br_f (by decide) (br_f (by decide) (br_f (by decide) (br_f (by decide) (br_f (by decide) (br_f (by decide) (br_f (by decide) (br_f (by decide) (br_f (by decide) (br_f (by decide) (br_f (by decide) (br_f (by decide) (br_f (by decide) (br_f (by decide) (br_f (by decide) (br_f (by decide) (br_f (by decide) (br_f (by decide) (br_f (by decide) (br_f (by decide) (br_f (by decide) (br_f (by decide) (br_f (by decide) (br_t rfl ?_)))))))))))))))))))))))
      unfold wpY_handler
      simp (disch := first | omega | decide) only [f8, hn3, forall_eq, not_true, not_false_iff, false_implies, true_implies, true_and, and_true, ob_sub1, Nat.add_sub_cancel, nI_1, ob_ix, ob_iy, ob_ix24, ob_iy24, ob_ix10, ob_iy10, ob_ix4, ob_iy4, ob_ix3, ob_iy3, ob_s1, ob_s2, ob_s3, ob_s4, ob_ltl, ob_lel, ob_eql, ob_ltr, ob_ler, ob_uN, Nat.add_one_ne_zero, ob_xs3, ob_lnn, ob_ltn, ob_eqn, Nat.not_lt_zero, Nat.zero_le, Nat.reduceEqDiff, Nat.reduceLeDiff, Nat.reduceLT, ob_eqll, Int32.reduceLT, Int32.reduceLE, eq_self_iff_true]
      exact hp
  · have h33 : XH e = 3 := by omega
    refine ⟨_, _, ob_S_mk (deep := deep) (cStr := cStr) (oOpen := oOpen) (te := te) (xArg := xArg) (ySeen := ySeen) (yArg := yArg) (yGiven := yGiven) (ob_raise (d := e + 1) ⟨hC, hO, hP, hL, hY, hA, hF, hT⟩ (ob_V_Ra n)) (by omega : m ≤ B) (by omega), fun post hp => ?_, fun post hp => ?_⟩
    · unfold wpX_controlOp
      refine nm_r (nI_pred e) ?_
      refine br_f (by decide) (br_f (by decide) (br_f (by decide) (br_f (by decide) (br_t rfl ?_))))
      unfold wpX_addHandler
      simp (disch := first | omega | decide) only [h3, forall_eq, not_true, not_false_iff, false_implies, true_implies, true_and, and_true, ob_sub1, Nat.add_sub_cancel, nI_1, ob_ix, ob_iy, ob_ix24, ob_iy24, ob_ix10, ob_iy10, ob_ix4, ob_iy4, ob_ix3, ob_iy3, ob_s1, ob_s2, ob_s3, ob_s4, ob_ltl, ob_lel, ob_eql, ob_ltr, ob_ler, ob_uN, Nat.add_one_ne_zero, ob_xs3, ob_lnn, ob_ltn, ob_eqn, Nat.not_lt_zero, Nat.zero_le, Nat.reduceEqDiff, Nat.reduceLeDiff, Nat.reduceLT, ob_eqll, Int32.reduceLT, Int32.reduceLE, eq_self_iff_true]
      exact hp
    · unfold wpY_act; refine nm_r (nI_pred e) (br_f (by decide) (br_f (by decide) (br_f (by decide) (br_f (by decide) (br_f (by decide) (br_f (by decide) (?_)))))))
      unfold wY_act_49; refine br_f (by decide) ?_; unfold wY_act_65; refine br_f (by decide) (br_f (by decide) (br_f (by decide) (br_f (by decide) (br_f (by decide) (br_f (by decide) (br_f (by decide) (br_f (by decide) (br_f (by decide) (br_f (by decide) (br_f (by decide) (br_f (by decide) (br_f (by decide) (br_f (by decide) (br_f (by decide) (br_f (by decide) (br_f (by decide) (br_f (by decide) (br_f (by decide) (br_f (by decide) (br_f (by decide) (br_f (by decide) (br_f (by decide) (br_t rfl ?_)))))))))))))))))))))))
      unfold wpY_handler
      simp (disch := first | omega | decide) only [f8, h33, forall_eq, not_true, not_false_iff, false_implies, true_implies, true_and, and_true, ob_sub1, Nat.add_sub_cancel, nI_1, ob_ix, ob_iy, ob_ix24, ob_iy24, ob_ix10, ob_iy10, ob_ix4, ob_iy4, ob_ix3, ob_iy3, ob_s1, ob_s2, ob_s3, ob_s4, ob_ltl, ob_lel, ob_eql, ob_ltr, ob_ler, ob_uN, Nat.add_one_ne_zero, ob_xs3, ob_lnn, ob_ltn, ob_eqn, Nat.not_lt_zero, Nat.zero_le, Nat.reduceEqDiff, Nat.reduceLeDiff, Nat.reduceLT, ob_eqll, Int32.reduceLT, Int32.reduceLE, eq_self_iff_true]
      exact hp
theorem ob_op22 (R : ob_R n (e+1) b m res thr thn CL cOp cA cB OK oKin pVal aOut aVar FC FA FP FH FT fSelf stk TA TH xFc xFs xPc xKo xPk tw tc xSet S XH xHeld yCo yAr M yPair ySet yStay yHan yKept) (hm : m + 5 ≤ B) (hw : 4 * (e + 1) + ob_hs XH (e + 1) ≤ w) :
    ∃ u' v', ob_S b B (w + 4) u' v' ∧ (∀ post : SX → Prop, post u' → wpX_controlOp post (nI n, nI (e+1), nI b, deep, res, thr, thn, (fun zz => nI (CL zz)), cStr, cOp, cA, cB, (fun zz => nI (OK zz)), oKin, oOpen, xFc, xFs, xPc, xKo, xPk, (fun zz => ob_xa (tw zz) (te zz) (tc zz)), pVal, xSet, (fun zz => nI (S zz)), aOut, aVar, (fun zz => nI (FC zz)), (fun zz => nI (FP zz)), (fun zz => nI (FA zz)), (fun zz => nI (FH zz)), (fun zz => nI (XH zz)), (fun zz => nI (FT zz)), fSelf, xHeld, stk, (fun zz => nI (TA zz)), (fun zz => nI (TH zz)), xArg) 22 a) ∧ (∀ post : SY → Prop, post v' → wpY_act post (nI n, nI m, yGiven, nI (e+1), deep, nI b, thr, thn, res, cStr, (fun zz => nI (CL zz)), cOp, cA, cB, (fun zz => nI (OK zz)), oKin, yCo, yAr, oOpen, (fun zz => nI (M zz)), (fun zz => ob_yf (tw zz) (te zz) (tc zz)), yPair, ySeen, pVal, ySet, (fun zz => ob_th (S zz)), yStay, aOut, aVar, yArg, (fun zz => nI (FC zz)), (fun zz => nI (FA zz)), (fun zz => nI (FP zz)), (fun zz => nI (FH zz)), yHan, (fun zz => nI (FT zz)), (fun zz => nI (TA zz)), (fun zz => nI (TH zz)), fSelf, yKept, stk) 22 a bb) := by
  obtain ⟨hC, hO, hP, hL, hY, hA, hF, hT⟩ := R
  have he : e + 1 ≤ 6 := hF.1
  obtain ⟨f1, f2, f3, f4, f5, f6, f7, f8, f9⟩ := hF.2.1 e (by omega)
  by_cases h0 : XH e ≤ 0
  · refine ⟨_, _, ob_S_mk (deep := deep) (cStr := cStr) (oOpen := oOpen) (te := te) (xArg := xArg) (ySeen := ySeen) (yArg := yArg) (yGiven := yGiven) (d := e + 1) ⟨hC, hO, hP, hL, hY, hA, hF, hT⟩ (by omega : m ≤ B) (by omega), fun post hp => ?_, fun post hp => ?_⟩
    · unfold wpX_controlOp
      refine nm_r (nI_pred e) ?_
      refine br_f (by decide) (br_f (by decide) (br_f (by decide) (br_f (by decide) (br_f (by decide) (br_t rfl ?_)))))
      simp (disch := first | omega | decide) only [h0, forall_eq, not_true, not_false_iff, false_implies, true_implies, true_and, and_true, ob_sub1, Nat.add_sub_cancel, nI_1, ob_ix, ob_iy, ob_ix24, ob_iy24, ob_ix10, ob_iy10, ob_ix4, ob_iy4, ob_ix3, ob_iy3, ob_s1, ob_s2, ob_s3, ob_s4, ob_ltl, ob_lel, ob_eql, ob_ltr, ob_ler, ob_uN, Nat.add_one_ne_zero, ob_xs3, ob_lnn, ob_ltn, ob_eqn, Nat.not_lt_zero, Nat.zero_le, Nat.reduceEqDiff, Nat.reduceLeDiff, Nat.reduceLT, ob_eqll, Int32.reduceLT, Int32.reduceLE, eq_self_iff_true]
      exact hp
    · unfold wpY_act; refine nm_r (nI_pred e) (br_f (by decide) (br_f (by decide) (br_f (by decide) (br_f (by decide) (br_f (by decide) (br_f (by decide) (?_)))))))
      unfold wY_act_49; refine br_f (by decide) ?_; unfold wY_act_65; refine br_f (by decide) (br_f (by decide) (br_f (by decide) (br_f (by decide) (br_f (by decide) (br_f (by decide) (br_f (by decide) (br_f (by decide) (br_f (by decide) (br_f (by decide) (br_f (by decide) (br_f (by decide) (br_f (by decide) (br_f (by decide) (br_f (by decide) (br_f (by decide) (br_f (by decide) (br_f (by decide) (br_f (by decide) (br_f (by decide) (br_f (by decide) (br_f (by decide) (br_f (by decide) (br_f (by decide) (br_t rfl ?_))))))))))))))))))))))))
      simp (disch := first | omega | decide) only [f8, h0, forall_eq, not_true, not_false_iff, false_implies, true_implies, true_and, and_true, ob_sub1, Nat.add_sub_cancel, nI_1, ob_ix, ob_iy, ob_ix24, ob_iy24, ob_ix10, ob_iy10, ob_ix4, ob_iy4, ob_ix3, ob_iy3, ob_s1, ob_s2, ob_s3, ob_s4, ob_ltl, ob_lel, ob_eql, ob_ltr, ob_ler, ob_uN, Nat.add_one_ne_zero, ob_xs3, ob_lnn, ob_ltn, ob_eqn, Nat.not_lt_zero, Nat.zero_le, Nat.reduceEqDiff, Nat.reduceLeDiff, Nat.reduceLT, ob_eqll, Int32.reduceLT, Int32.reduceLE, eq_self_iff_true]
      exact hp
  · obtain ⟨h, hh⟩ : ∃ h, XH e = h + 1 := ⟨XH e - 1, by omega⟩
    have hn0 : ¬ h + 1 ≤ 0 := by omega
    refine ⟨_, _, ob_S_mk (deep := deep) (cStr := cStr) (oOpen := oOpen) (te := te) (xArg := xArg) (ySeen := ySeen) (yArg := yArg) (yGiven := yGiven) (d := e + 1) ⟨hC, hO, hP, hL, hY, hA, ob_gF_hdrop (e := e) hF hh, hT⟩ (by omega : m ≤ B) ?_, fun post hp => ?_, fun post hp => ?_⟩
    · show 4 * (e + 1) + (ob_hs (ob_um XH e h) e + ob_um XH e h e) ≤ w + 4
      have hw' : 4 * (e + 1) + (ob_hs XH e + XH e) ≤ w := hw
      rw [ob_hs_u, ob_um_s]
      omega
    · unfold wpX_controlOp
      refine nm_r (nI_pred e) ?_
      refine br_f (by decide) (br_f (by decide) (br_f (by decide) (br_f (by decide) (br_f (by decide) (br_t rfl ?_)))))
      simp (disch := first | omega | decide) only [hh, hn0, forall_eq, not_true, not_false_iff, false_implies, true_implies, true_and, and_true, ob_sub1, Nat.add_sub_cancel, nI_1, ob_ix, ob_iy, ob_ix24, ob_iy24, ob_ix10, ob_iy10, ob_ix4, ob_iy4, ob_ix3, ob_iy3, ob_s1, ob_s2, ob_s3, ob_s4, ob_ltl, ob_lel, ob_eql, ob_ltr, ob_ler, ob_uN, Nat.add_one_ne_zero, ob_xs3, ob_lnn, ob_ltn, ob_eqn, Nat.not_lt_zero, Nat.zero_le, Nat.reduceEqDiff, Nat.reduceLeDiff, Nat.reduceLT, ob_eqll, Int32.reduceLT, Int32.reduceLE, eq_self_iff_true]
      exact hp
    · unfold wpY_act; refine nm_r (nI_pred e) (br_f (by decide) (br_f (by decide) (br_f (by decide) (br_f (by decide) (br_f (by decide) (br_f (by decide) (?_)))))))
      unfold wY_act_49; refine br_f (by decide) ?_; unfold wY_act_65; refine br_f (by decide) (br_f (by decide) (br_f (by decide) (br_f (by decide) (br_f (by decide) (br_f (by decide) (br_f (by decide) (br_f (by decide) (br_f (by decide) (br_f (by decide) (br_f (by decide) (br_f (by decide) (br_f (by decide) (br_f (by decide) (br_f (by decide) (br_f (by decide) (br_f (by decide) (br_f (by decide) (br_f (by decide) (br_f (by decide) (br_f (by decide) (br_f (by decide) (br_f (by decide) (br_f (by decide) (br_t rfl ?_))))))))))))))))))))))))
      simp (disch := first | omega | decide) only [f8, hh, hn0, forall_eq, not_true, not_false_iff, false_implies, true_implies, true_and, and_true, ob_sub1, Nat.add_sub_cancel, nI_1, ob_ix, ob_iy, ob_ix24, ob_iy24, ob_ix10, ob_iy10, ob_ix4, ob_iy4, ob_ix3, ob_iy3, ob_s1, ob_s2, ob_s3, ob_s4, ob_ltl, ob_lel, ob_eql, ob_ltr, ob_ler, ob_uN, Nat.add_one_ne_zero, ob_xs3, ob_lnn, ob_ltn, ob_eqn, Nat.not_lt_zero, Nat.zero_le, Nat.reduceEqDiff, Nat.reduceLeDiff, Nat.reduceLT, ob_eqll, Int32.reduceLT, Int32.reduceLE, eq_self_iff_true]
      exact hp
theorem ob_op23 (R : ob_R n (e+1) b m res thr thn CL cOp cA cB OK oKin pVal aOut aVar FC FA FP FH FT fSelf stk TA TH xFc xFs xPc xKo xPk tw tc xSet S XH xHeld yCo yAr M yPair ySet yStay yHan yKept) (hm : m + 5 ≤ B) (hw : 4 * (e + 1) + ob_hs XH (e + 1) ≤ w) (hp24 : p ≤ 24) :
    ∃ u' v', ob_S b B (w + 4) u' v' ∧ (∀ post : SX → Prop, post u' → wpX_controlOp post (nI n, nI (e+1), nI b, deep, res, thr, thn, (fun zz => nI (CL zz)), cStr, cOp, cA, cB, (fun zz => nI (OK zz)), oKin, oOpen, xFc, xFs, xPc, xKo, xPk, (fun zz => ob_xa (tw zz) (te zz) (tc zz)), pVal, xSet, (fun zz => nI (S zz)), aOut, aVar, (fun zz => nI (FC zz)), (fun zz => nI (FP zz)), (fun zz => nI (FA zz)), (fun zz => nI (FH zz)), (fun zz => nI (XH zz)), (fun zz => nI (FT zz)), fSelf, xHeld, stk, (fun zz => nI (TA zz)), (fun zz => nI (TH zz)), xArg) 23 (nI p)) ∧ (∀ post : SY → Prop, post v' → wpY_act post (nI n, nI m, yGiven, nI (e+1), deep, nI b, thr, thn, res, cStr, (fun zz => nI (CL zz)), cOp, cA, cB, (fun zz => nI (OK zz)), oKin, yCo, yAr, oOpen, (fun zz => nI (M zz)), (fun zz => ob_yf (tw zz) (te zz) (tc zz)), yPair, ySeen, pVal, ySet, (fun zz => ob_th (S zz)), yStay, aOut, aVar, yArg, (fun zz => nI (FC zz)), (fun zz => nI (FA zz)), (fun zz => nI (FP zz)), (fun zz => nI (FH zz)), yHan, (fun zz => nI (FT zz)), (fun zz => nI (TA zz)), (fun zz => nI (TH zz)), fSelf, yKept, stk) 23 (nI p) bb) := by
  obtain ⟨hC, hO, hP, hL, hY, hA, hF, hT⟩ := R
  have he : e + 1 ≤ 6 := hF.1
  refine ⟨_, _, ob_S_mk (deep := deep) (cStr := cStr) (oOpen := oOpen) (te := te) (xArg := xArg) (ySeen := ySeen) (yArg := yArg) (yGiven := yGiven) (d := e + 1) ⟨hC, hO, hP, hL, hY, hA, ob_gF_at (e := e) hF hp24, hT⟩ (by omega : m ≤ B) (by omega), fun post hp => ?_, fun post hp => ?_⟩
  · unfold wpX_controlOp
    refine nm_r (nI_pred e) ?_
    refine br_f (by decide) (br_f (by decide) (br_f (by decide) (br_f (by decide) (br_f (by decide) (br_f (by decide) (br_t rfl ?_))))))
    simp (disch := first | omega | decide) only [forall_eq, not_true, not_false_iff, false_implies, true_implies, true_and, and_true, ob_sub1, Nat.add_sub_cancel, nI_1, ob_ix, ob_iy, ob_ix24, ob_iy24, ob_ix10, ob_iy10, ob_ix4, ob_iy4, ob_ix3, ob_iy3, ob_s1, ob_s2, ob_s3, ob_s4, ob_ltl, ob_lel, ob_eql, ob_ltr, ob_ler, ob_uN, Nat.add_one_ne_zero, ob_xs3, ob_lnn, ob_ltn, ob_eqn, Nat.not_lt_zero, Nat.zero_le, Nat.reduceEqDiff, Nat.reduceLeDiff, Nat.reduceLT, ob_eqll, Int32.reduceLT, Int32.reduceLE, eq_self_iff_true]
    exact hp
  · unfold wpY_act; refine nm_r (nI_pred e) (br_f (by decide) (br_f (by decide) (br_f (by decide) (br_f (by decide) (br_f (by decide) (br_f (by decide) (?_)))))))
    unfold wY_act_49; refine br_f (by decide) ?_; unfold wY_act_65; refine br_f (by decide) (br_f (by decide) (br_f (by decide) (br_f (by decide) (br_f (by decide) (br_f (by decide) (br_f (by decide) (br_f (by decide) (br_f (by decide) (br_f (by decide) (br_f (by decide) (br_f (by decide) (br_f (by decide) (br_f (by decide) (br_f (by decide) (br_f (by decide) (br_f (by decide) (br_f (by decide) (br_f (by decide) (br_f (by decide) (br_f (by decide) (br_f (by decide) (br_f (by decide) (br_f (by decide) (br_f (by decide) (br_t rfl ?_)))))))))))))))))))))))))
    simp (disch := first | omega | decide) only [forall_eq, not_true, not_false_iff, false_implies, true_implies, true_and, and_true, ob_sub1, Nat.add_sub_cancel, nI_1, ob_ix, ob_iy, ob_ix24, ob_iy24, ob_ix10, ob_iy10, ob_ix4, ob_iy4, ob_ix3, ob_iy3, ob_s1, ob_s2, ob_s3, ob_s4, ob_ltl, ob_lel, ob_eql, ob_ltr, ob_ler, ob_uN, Nat.add_one_ne_zero, ob_xs3, ob_lnn, ob_ltn, ob_eqn, Nat.not_lt_zero, Nat.zero_le, Nat.reduceEqDiff, Nat.reduceLeDiff, Nat.reduceLT, ob_eqll, Int32.reduceLT, Int32.reduceLE, eq_self_iff_true]
    exact hp
theorem ob_op24 (R : ob_R n (e+1) b m res thr thn CL cOp cA cB OK oKin pVal aOut aVar FC FA FP FH FT fSelf stk TA TH xFc xFs xPc xKo xPk tw tc xSet S XH xHeld yCo yAr M yPair ySet yStay yHan yKept) (hm : m + 5 ≤ B) (hw : 4 * (e + 1) + ob_hs XH (e + 1) ≤ w) (hp24 : p ≤ 24) :
    ∃ u' v', ob_S b B (w + 4) u' v' ∧ (∀ post : SX → Prop, post u' → wpX_controlOp post (nI n, nI (e+1), nI b, deep, res, thr, thn, (fun zz => nI (CL zz)), cStr, cOp, cA, cB, (fun zz => nI (OK zz)), oKin, oOpen, xFc, xFs, xPc, xKo, xPk, (fun zz => ob_xa (tw zz) (te zz) (tc zz)), pVal, xSet, (fun zz => nI (S zz)), aOut, aVar, (fun zz => nI (FC zz)), (fun zz => nI (FP zz)), (fun zz => nI (FA zz)), (fun zz => nI (FH zz)), (fun zz => nI (XH zz)), (fun zz => nI (FT zz)), fSelf, xHeld, stk, (fun zz => nI (TA zz)), (fun zz => nI (TH zz)), xArg) 24 (nI p)) ∧ (∀ post : SY → Prop, post v' → wpY_act post (nI n, nI m, yGiven, nI (e+1), deep, nI b, thr, thn, res, cStr, (fun zz => nI (CL zz)), cOp, cA, cB, (fun zz => nI (OK zz)), oKin, yCo, yAr, oOpen, (fun zz => nI (M zz)), (fun zz => ob_yf (tw zz) (te zz) (tc zz)), yPair, ySeen, pVal, ySet, (fun zz => ob_th (S zz)), yStay, aOut, aVar, yArg, (fun zz => nI (FC zz)), (fun zz => nI (FA zz)), (fun zz => nI (FP zz)), (fun zz => nI (FH zz)), yHan, (fun zz => nI (FT zz)), (fun zz => nI (TA zz)), (fun zz => nI (TH zz)), fSelf, yKept, stk) 24 (nI p) bb) := by
  obtain ⟨v, FH', R1, hVr, hH, hX1, hY1⟩ := ob_pop (deep := deep) (cStr := cStr) (oOpen := oOpen) (te := te) (xArg := xArg) (ySeen := ySeen) (yArg := yArg) (yGiven := yGiven) R
  have he : e + 1 ≤ 6 := R1.2.2.2.2.2.2.1.1
  have hX0 : ∀ post : SX → Prop, wpX_isTruthy (fun r_43 => (((r_43 = 0 → post (nI n, nI (e+1), nI b, deep, res, thr, thn, (fun zz => nI (CL zz)), cStr, cOp, cA, cB, (fun zz => nI (OK zz)), oKin, oOpen, xFc, xFs, xPc, xKo, xPk, (fun zz => ob_xa (tw zz) (te zz) (tc zz)), pVal, xSet, (fun zz => nI (S zz)), aOut, aVar, (fun zz => nI (FC zz)), (fun zz => nI (FP zz)), (fun zz => nI (FA zz)), (fun zz => nI (FH' zz)), (fun zz => nI (XH zz)), (fun zz => nI (FT zz)), fSelf, xHeld, stk, (fun zz => nI (TA zz)), (fun zz => nI (TH zz)), xArg)) ∧ (¬ r_43 = 0 → post (nI n, nI (e+1), nI b, deep, res, thr, thn, (fun zz => nI (CL zz)), cStr, cOp, cA, cB, (fun zz => nI (OK zz)), oKin, oOpen, xFc, xFs, xPc, xKo, xPk, (fun zz => ob_xa (tw zz) (te zz) (tc zz)), pVal, xSet, (fun zz => nI (S zz)), aOut, aVar, (fun zz => nI (FC zz)), (fun zz => nI ((ob_um FP e p) zz)), (fun zz => nI (FA zz)), (fun zz => nI (FH' zz)), (fun zz => nI (XH zz)), (fun zz => nI (FT zz)), fSelf, xHeld, stk, (fun zz => nI (TA zz)), (fun zz => nI (TH zz)), xArg))))) v → wpX_controlOp post (nI n, nI (e+1), nI b, deep, res, thr, thn, (fun zz => nI (CL zz)), cStr, cOp, cA, cB, (fun zz => nI (OK zz)), oKin, oOpen, xFc, xFs, xPc, xKo, xPk, (fun zz => ob_xa (tw zz) (te zz) (tc zz)), pVal, xSet, (fun zz => nI (S zz)), aOut, aVar, (fun zz => nI (FC zz)), (fun zz => nI (FP zz)), (fun zz => nI (FA zz)), (fun zz => nI (FH zz)), (fun zz => nI (XH zz)), (fun zz => nI (FT zz)), fSelf, xHeld, stk, (fun zz => nI (TA zz)), (fun zz => nI (TH zz)), xArg) 24 (nI p) := by
    intro post h
    unfold wpX_controlOp
    refine nm_r (nI_pred e) ?_
    refine br_f (by decide) (br_t (by decide) ?_)
    refine hX1 _ ?_
    simp (disch := first | omega | decide) only [forall_eq, not_true, not_false_iff, false_implies, true_implies, true_and, and_true, ob_sub1, Nat.add_sub_cancel, nI_1, ob_ix, ob_iy, ob_ix24, ob_iy24, ob_ix10, ob_iy10, ob_ix4, ob_iy4, ob_ix3, ob_iy3, ob_s1, ob_s2, ob_s3, ob_s4, ob_ltl, ob_lel, ob_eql, ob_ltr, ob_ler, ob_uN, Nat.add_one_ne_zero, ob_xs3, ob_lnn, ob_ltn, ob_eqn, Nat.not_lt_zero, Nat.zero_le, Nat.reduceEqDiff, Nat.reduceLeDiff, Nat.reduceLT, ob_eqll, Int32.reduceLT, Int32.reduceLE, eq_self_iff_true]
    exact h
  by_cases ht : v = 0 ∨ v = 8589934592 ∨ v = 8589934593 ∨ v = 8589934594
  · refine ⟨_, _, ob_S_mk (deep := deep) (cStr := cStr) (oOpen := oOpen) (te := te) (xArg := xArg) (ySeen := ySeen) (yArg := yArg) (yGiven := yGiven) R1 (by omega : m ≤ B) (by omega), fun post hp => hX0 post ?_, fun post hp => ?_⟩
    · unfold wpX_isTruthy
      by_cases h1 : v = 8589934592
      · exact br_t h1 (br_t rfl hp)
      by_cases h2 : v = 8589934593
      · exact br_f h1 (br_t h2 (br_t rfl hp))
      by_cases h3 : v = 8589934594
      · exact br_f h1 (br_f h2 (br_t h3 (br_t rfl hp)))
      exact br_f h1 (br_f h2 (br_f h3 (br_t (by
        rcases ht with h | h | h | h
        · exact h
        · exact absurd h h1
        · exact absurd h h2
        · exact absurd h h3) (br_t rfl hp))))
    · unfold wpY_act; refine nm_r (nI_pred e) (br_f (by decide) (br_f (by decide) (br_f (by decide) (br_f (by decide) (br_f (by decide) (br_t rfl ?_))))))
      unfold wY_act_41
      refine hY1 _ ?_
      unfold wY_act_49; refine br_f (by decide) ?_; unfold wY_act_65; refine br_f (by decide) (br_f (by decide) (br_f (by decide) (br_f (by decide) (br_f (by decide) (br_f (by decide) (br_f (by decide) (br_f (by decide) (br_f (by decide) (br_f (by decide) (br_f (by decide) (br_f (by decide) (br_f (by decide) (br_f (by decide) (br_f (by decide) (br_f (by decide) (br_f (by decide) (br_f (by decide) (br_f (by decide) (br_f (by decide) (br_f (by decide) (br_f (by decide) (br_f (by decide) (br_f (by decide) (br_f (by decide) (br_f (by decide) (br_t rfl ?_))))))))))))))))))))))))))
      by_cases h0 : v = 0
      · exact br_t h0 hp
      by_cases h1 : v = 8589934592
      · exact br_f h0 (br_t h1 hp)
      by_cases h2 : v = 8589934593
      · exact br_f h0 (br_f h1 (br_t h2 hp))
      exact br_f h0 (br_f h1 (br_f h2 (br_t (by
        rcases ht with h | h | h | h
        · exact absurd h h0
        · exact absurd h h1
        · exact absurd h h2
        · exact h) hp)))
  · have h0 : ¬ v = 0 := fun z => ht (Or.inl z)
    have h1 : ¬ v = 8589934592 := fun z => ht (Or.inr (Or.inl z))
    have h2 : ¬ v = 8589934593 := fun z => ht (Or.inr (Or.inr (Or.inl z)))
    have h3 : ¬ v = 8589934594 := fun z => ht (Or.inr (Or.inr (Or.inr z)))
    obtain ⟨hC, hO, hP, hL, hY, hA, hF, hT⟩ := R1
    refine ⟨_, _, ob_S_mk (deep := deep) (cStr := cStr) (oOpen := oOpen) (te := te) (xArg := xArg) (ySeen := ySeen) (yArg := yArg) (yGiven := yGiven) (d := e + 1) ⟨hC, hO, hP, hL, hY, hA, ob_gF_at (e := e) hF hp24, hT⟩ (by omega : m ≤ B) (by omega), fun post hp => hX0 post ?_, fun post hp => ?_⟩
    · unfold wpX_isTruthy
      exact br_f h1 (br_f h2 (br_f h3 (br_f h0 (br_f (by decide) hp))))
    · unfold wpY_act; refine nm_r (nI_pred e) (br_f (by decide) (br_f (by decide) (br_f (by decide) (br_f (by decide) (br_f (by decide) (br_t rfl ?_))))))
      unfold wY_act_41
      refine hY1 _ ?_
      unfold wY_act_49; refine br_f (by decide) ?_; unfold wY_act_65; refine br_f (by decide) (br_f (by decide) (br_f (by decide) (br_f (by decide) (br_f (by decide) (br_f (by decide) (br_f (by decide) (br_f (by decide) (br_f (by decide) (br_f (by decide) (br_f (by decide) (br_f (by decide) (br_f (by decide) (br_f (by decide) (br_f (by decide) (br_f (by decide) (br_f (by decide) (br_f (by decide) (br_f (by decide) (br_f (by decide) (br_f (by decide) (br_f (by decide) (br_f (by decide) (br_f (by decide) (br_f (by decide) (br_f (by decide) (br_t rfl ?_))))))))))))))))))))))))))
      refine br_f h0 (br_f h1 (br_f h2 (br_f h3 ?_)))
      simp (disch := first | omega | decide) only [forall_eq, not_true, not_false_iff, false_implies, true_implies, true_and, and_true, ob_sub1, Nat.add_sub_cancel, nI_1, ob_ix, ob_iy, ob_ix24, ob_iy24, ob_ix10, ob_iy10, ob_ix4, ob_iy4, ob_ix3, ob_iy3, ob_s1, ob_s2, ob_s3, ob_s4, ob_ltl, ob_lel, ob_eql, ob_ltr, ob_ler, ob_uN, Nat.add_one_ne_zero, ob_xs3, ob_lnn, ob_ltn, ob_eqn, Nat.not_lt_zero, Nat.zero_le, Nat.reduceEqDiff, Nat.reduceLeDiff, Nat.reduceLT, ob_eqll, Int32.reduceLT, Int32.reduceLE, eq_self_iff_true]
      exact hp
end
end
section
/-! ===== the instructions 25 to 28, 30, 31 ===== -/
section
variable {n : Nat} {d : Nat} {b : Nat} {m : Nat} {deep : Int32} {res : Int64} {thr : Int32} {thn : Int64} {CL : Nat → Nat} {cStr : Nat → Int32} {cOp : Nat → Int32} {cA : Nat → Int32} {cB : Nat → Int32} {OK : Nat → Nat} {oKin : Nat → Int32} {oOpen : Nat → Int32} {pVal : Nat → Int64} {aOut : Nat → Int32} {aVar : Nat → Int64} {FC : Nat → Nat} {FA : Nat → Nat} {FP : Nat → Nat} {FH : Nat → Nat} {FT : Nat → Nat} {fSelf : Nat → Int64} {stk : Nat → Int64} {TA : Nat → Nat} {TH : Nat → Nat} {xFc : Nat → Int32} {xFs : Nat → Int32} {xPc : Nat → Int32} {xKo : Nat → Int32} {xPk : Nat → Int32} {tw : Nat → Bool} {te : Nat → Bool} {tc : Nat → Bool} {xSet : Nat → Int64} {S : Nat → Nat} {XH : Nat → Nat} {xHeld : Nat → Int64} {xArg : Nat → Int64} {yCo : Nat → Int32} {yAr : Nat → Int32} {M : Nat → Nat} {yPair : Nat → Int32} {ySeen : Nat → Int32} {ySet : Nat → Int64} {yStay : Nat → Int32} {yArg : Nat → Int64} {yHan : Nat → Int32} {yKept : Nat → Int64} {yGiven : Int32}
variable {e k j p h B w : Nat} {a bb : Int32}
theorem ob_objA {v : Int64} (hn : n ≤ 32) (hv : ob_V n v) (post : Int32 → Prop) (h1 : v < 17179869184 → post (-1)) (h2 : ∀ o, o < n → v = lN (17179869184 + o) → post (nI o)) : wpX_objectOf post (nI n, nI d, nI b, deep, res, thr, thn, (fun zz => nI (CL zz)), cStr, cOp, cA, cB, (fun zz => nI (OK zz)), oKin, oOpen, xFc, xFs, xPc, xKo, xPk, (fun zz => ob_xa (tw zz) (te zz) (tc zz)), pVal, xSet, (fun zz => nI (S zz)), aOut, aVar, (fun zz => nI (FC zz)), (fun zz => nI (FP zz)), (fun zz => nI (FA zz)), (fun zz => nI (FH zz)), (fun zz => nI (XH zz)), (fun zz => nI (FT zz)), fSelf, xHeld, stk, (fun zz => nI (TA zz)), (fun zz => nI (TH zz)), xArg) v := by
  rcases ob_cls hv with hl | ⟨o, ho, rfl⟩
  · exact ob_objN hl _ (h1 hl)
  · exact ob_objO hn ho _ (h2 o ho rfl)
/-- 25, 26, 27 -/
theorem ob_opN {q : Int32} (R : ob_R n (e+1) b m res thr thn CL cOp cA cB OK oKin pVal aOut aVar FC FA FP FH FT fSelf stk TA TH xFc xFs xPc xKo xPk tw tc xSet S XH xHeld yCo yAr M yPair ySet yStay yHan yKept) (hm : m + 5 ≤ B) (hw : 4 * (e + 1) + ob_hs XH (e + 1) ≤ w) (hq : q = 25 ∨ q = 26 ∨ q = 27) :
    ∃ u' v', ob_S b B (w + 4) u' v' ∧ (∀ post : SX → Prop, post u' → wpX_numberOp post (nI n, nI (e+1), nI b, deep, res, thr, thn, (fun zz => nI (CL zz)), cStr, cOp, cA, cB, (fun zz => nI (OK zz)), oKin, oOpen, xFc, xFs, xPc, xKo, xPk, (fun zz => ob_xa (tw zz) (te zz) (tc zz)), pVal, xSet, (fun zz => nI (S zz)), aOut, aVar, (fun zz => nI (FC zz)), (fun zz => nI (FP zz)), (fun zz => nI (FA zz)), (fun zz => nI (FH zz)), (fun zz => nI (XH zz)), (fun zz => nI (FT zz)), fSelf, xHeld, stk, (fun zz => nI (TA zz)), (fun zz => nI (TH zz)), xArg) q) ∧ (∀ post : SY → Prop, post v' → wpY_two post (nI n, nI m, yGiven, nI (e+1), deep, nI b, thr, thn, res, cStr, (fun zz => nI (CL zz)), cOp, cA, cB, (fun zz => nI (OK zz)), oKin, yCo, yAr, oOpen, (fun zz => nI (M zz)), (fun zz => ob_yf (tw zz) (te zz) (tc zz)), yPair, ySeen, pVal, ySet, (fun zz => ob_th (S zz)), yStay, aOut, aVar, yArg, (fun zz => nI (FC zz)), (fun zz => nI (FA zz)), (fun zz => nI (FP zz)), (fun zz => nI (FH zz)), yHan, (fun zz => nI (FT zz)), (fun zz => nI (TA zz)), (fun zz => nI (TH zz)), fSelf, yKept, stk) q a) := by
  obtain ⟨y, FH', R1, hVy, hH, hX1, hY1⟩ := ob_pop (deep := deep) (cStr := cStr) (oOpen := oOpen) (te := te) (xArg := xArg) (ySeen := ySeen) (yArg := yArg) (yGiven := yGiven) R
  obtain ⟨x, FH2, R2, hVx, hH2, hX2, hY2⟩ := ob_pop (deep := deep) (cStr := cStr) (oOpen := oOpen) (te := te) (xArg := xArg) (ySeen := ySeen) (yArg := yArg) (yGiven := yGiven) R1
  have hq30 : ¬ 30 ≤ q := by rcases hq with rfl | rfl | rfl <;> decide
  have hq31 : ¬ q = 31 := by rcases hq with rfl | rfl | rfl <;> decide
  have hq28 : ¬ q = 28 := by rcases hq with rfl | rfl | rfl <;> decide
  have hq29 : ¬ q = 29 := by rcases hq with rfl | rfl | rfl <;> decide
  have hq30' : ¬ q = 30 := by rcases hq with rfl | rfl | rfl <;> decide
  have hY0 : ∀ post : SY → Prop, wpY_isNumber (fun r_49 => (((r_49 = 0 → (wY_two_172 post (nI n) (nI m) yGiven (nI (e+1)) deep (nI b) thr thn res cStr (fun zz => nI (CL zz)) cOp cA cB (fun zz => nI (OK zz)) oKin yCo yAr oOpen (fun zz => nI (M zz)) (fun zz => ob_yf (tw zz) (te zz) (tc zz)) yPair ySeen pVal ySet (fun zz => ob_th (S zz)) yStay aOut aVar yArg (fun zz => nI (FC zz)) (fun zz => nI (FA zz)) (fun zz => nI (FP zz)) (fun zz => nI (FH2 zz)) yHan (fun zz => nI (FT zz)) (fun zz => nI (TA zz)) (fun zz => nI (TH zz)) fSelf yKept stk)) ∧ (¬ r_49 = 0 → (wpY_isNumber (fun r_93 => (((r_93 = 0 → (wY_two_172 post (nI n) (nI m) yGiven (nI (e+1)) deep (nI b) thr thn res cStr (fun zz => nI (CL zz)) cOp cA cB (fun zz => nI (OK zz)) oKin yCo yAr oOpen (fun zz => nI (M zz)) (fun zz => ob_yf (tw zz) (te zz) (tc zz)) yPair ySeen pVal ySet (fun zz => ob_th (S zz)) yStay aOut aVar yArg (fun zz => nI (FC zz)) (fun zz => nI (FA zz)) (fun zz => nI (FP zz)) (fun zz => nI (FH2 zz)) yHan (fun zz => nI (FT zz)) (fun zz => nI (TA zz)) (fun zz => nI (TH zz)) fSelf yKept stk)) ∧ (¬ r_93 = 0 → (((q = 27 → (((y ≤ x → (wY_two_201 post 0 (nI n) (nI m) yGiven (nI (e+1)) deep (nI b) thr thn res cStr (fun zz => nI (CL zz)) cOp cA cB (fun zz => nI (OK zz)) oKin yCo yAr oOpen (fun zz => nI (M zz)) (fun zz => ob_yf (tw zz) (te zz) (tc zz)) yPair ySeen pVal ySet (fun zz => ob_th (S zz)) yStay aOut aVar yArg (fun zz => nI (FC zz)) (fun zz => nI (FA zz)) (fun zz => nI (FP zz)) (fun zz => nI (FH2 zz)) yHan (fun zz => nI (FT zz)) (fun zz => nI (TA zz)) (fun zz => nI (TH zz)) fSelf yKept stk)) ∧ (¬ y ≤ x → (wY_two_201 post 1 (nI n) (nI m) yGiven (nI (e+1)) deep (nI b) thr thn res cStr (fun zz => nI (CL zz)) cOp cA cB (fun zz => nI (OK zz)) oKin yCo yAr oOpen (fun zz => nI (M zz)) (fun zz => ob_yf (tw zz) (te zz) (tc zz)) yPair ySeen pVal ySet (fun zz => ob_th (S zz)) yStay aOut aVar yArg (fun zz => nI (FC zz)) (fun zz => nI (FA zz)) (fun zz => nI (FP zz)) (fun zz => nI (FH2 zz)) yHan (fun zz => nI (FT zz)) (fun zz => nI (TA zz)) (fun zz => nI (TH zz)) fSelf yKept stk))))) ∧ (¬ q = 27 → (((q = 25 → (wY_two_224 post (x + y) (nI n) (nI m) yGiven (nI (e+1)) deep (nI b) thr thn res cStr (fun zz => nI (CL zz)) cOp cA cB (fun zz => nI (OK zz)) oKin yCo yAr oOpen (fun zz => nI (M zz)) (fun zz => ob_yf (tw zz) (te zz) (tc zz)) yPair ySeen pVal ySet (fun zz => ob_th (S zz)) yStay aOut aVar yArg (fun zz => nI (FC zz)) (fun zz => nI (FA zz)) (fun zz => nI (FP zz)) (fun zz => nI (FH2 zz)) yHan (fun zz => nI (FT zz)) (fun zz => nI (TA zz)) (fun zz => nI (TH zz)) fSelf yKept stk)) ∧ (¬ q = 25 → (wY_two_224 post (x - y) (nI n) (nI m) yGiven (nI (e+1)) deep (nI b) thr thn res cStr (fun zz => nI (CL zz)) cOp cA cB (fun zz => nI (OK zz)) oKin yCo yAr oOpen (fun zz => nI (M zz)) (fun zz => ob_yf (tw zz) (te zz) (tc zz)) yPair ySeen pVal ySet (fun zz => ob_th (S zz)) yStay aOut aVar yArg (fun zz => nI (FC zz)) (fun zz => nI (FA zz)) (fun zz => nI (FP zz)) (fun zz => nI (FH2 zz)) yHan (fun zz => nI (FT zz)) (fun zz => nI (TA zz)) (fun zz => nI (TH zz)) fSelf yKept stk))))))))))) y))))) x → wpY_two post (nI n, nI m, yGiven, nI (e+1), deep, nI b, thr, thn, res, cStr, (fun zz => nI (CL zz)), cOp, cA, cB, (fun zz => nI (OK zz)), oKin, yCo, yAr, oOpen, (fun zz => nI (M zz)), (fun zz => ob_yf (tw zz) (te zz) (tc zz)), yPair, ySeen, pVal, ySet, (fun zz => ob_th (S zz)), yStay, aOut, aVar, yArg, (fun zz => nI (FC zz)), (fun zz => nI (FA zz)), (fun zz => nI (FP zz)), (fun zz => nI (FH zz)), yHan, (fun zz => nI (FT zz)), (fun zz => nI (TA zz)), (fun zz => nI (TH zz)), fSelf, yKept, stk) q a := by
    intro post h
    unfold wpY_two
    refine hY1 _ (br_f hq30 (hY2 _ ?_))
    unfold wY_two_19 wY_two_44
    exact br_f hq31 (br_f hq28 (br_f hq29 (br_f hq30' (br_f hq31 h))))
  by_cases hx : x = x.toInt32.toInt64
  · by_cases hy : y = y.toInt32.toInt64
    · obtain ⟨v, hv, hXv, hYv⟩ : ∃ v : Int64, ob_V n v ∧
          (∀ post : SX → Prop, wpX_push post (nI n, nI (e+1), nI b, deep, res, thr, thn, (fun zz => nI (CL zz)), cStr, cOp, cA, cB, (fun zz => nI (OK zz)), oKin, oOpen, xFc, xFs, xPc, xKo, xPk, (fun zz => ob_xa (tw zz) (te zz) (tc zz)), pVal, xSet, (fun zz => nI (S zz)), aOut, aVar, (fun zz => nI (FC zz)), (fun zz => nI (FP zz)), (fun zz => nI (FA zz)), (fun zz => nI (FH2 zz)), (fun zz => nI (XH zz)), (fun zz => nI (FT zz)), fSelf, xHeld, stk, (fun zz => nI (TA zz)), (fun zz => nI (TH zz)), xArg) v → wpX_numberOp post (nI n, nI (e+1), nI b, deep, res, thr, thn, (fun zz => nI (CL zz)), cStr, cOp, cA, cB, (fun zz => nI (OK zz)), oKin, oOpen, xFc, xFs, xPc, xKo, xPk, (fun zz => ob_xa (tw zz) (te zz) (tc zz)), pVal, xSet, (fun zz => nI (S zz)), aOut, aVar, (fun zz => nI (FC zz)), (fun zz => nI (FP zz)), (fun zz => nI (FA zz)), (fun zz => nI (FH zz)), (fun zz => nI (XH zz)), (fun zz => nI (FT zz)), fSelf, xHeld, stk, (fun zz => nI (TA zz)), (fun zz => nI (TH zz)), xArg) q) ∧ (∀ post : SY → Prop, wpY_give post (nI n, nI m, yGiven, nI (e+1), deep, nI b, thr, thn, res, cStr, (fun zz => nI (CL zz)), cOp, cA, cB, (fun zz => nI (OK zz)), oKin, yCo, yAr, oOpen, (fun zz => nI (M zz)), (fun zz => ob_yf (tw zz) (te zz) (tc zz)), yPair, ySeen, pVal, ySet, (fun zz => ob_th (S zz)), yStay, aOut, aVar, yArg, (fun zz => nI (FC zz)), (fun zz => nI (FA zz)), (fun zz => nI (FP zz)), (fun zz => nI (FH2 zz)), yHan, (fun zz => nI (FT zz)), (fun zz => nI (TA zz)), (fun zz => nI (TH zz)), fSelf, yKept, stk) v → wpY_two post (nI n, nI m, yGiven, nI (e+1), deep, nI b, thr, thn, res, cStr, (fun zz => nI (CL zz)), cOp, cA, cB, (fun zz => nI (OK zz)), oKin, yCo, yAr, oOpen, (fun zz => nI (M zz)), (fun zz => ob_yf (tw zz) (te zz) (tc zz)), yPair, ySeen, pVal, ySet, (fun zz => ob_th (S zz)), yStay, aOut, aVar, yArg, (fun zz => nI (FC zz)), (fun zz => nI (FA zz)), (fun zz => nI (FP zz)), (fun zz => nI (FH zz)), yHan, (fun zz => nI (FT zz)), (fun zz => nI (TA zz)), (fun zz => nI (TH zz)), fSelf, yKept, stk) q a) := by
        rcases hq with rfl | rfl | rfl
        · refine ⟨(x + y).toInt32.toInt64, ob_V_i n _, fun post h => ?_, fun post h => hY0 post ?_⟩
          · unfold wpX_numberOp
            refine hX1 _ (hX2 _ ?_)
            unfold wpX_isNumber
            exact br_t hx (br_f (by decide) (br_t hy (br_f (by decide) (br_t rfl h))))
          · unfold wpY_isNumber
            exact br_t hx (br_f (by decide) (br_t hy (br_f (by decide) (br_f (by decide) (br_t rfl h)))))
        · refine ⟨(x - y).toInt32.toInt64, ob_V_i n _, fun post h => ?_, fun post h => hY0 post ?_⟩
          · unfold wpX_numberOp
            refine hX1 _ (hX2 _ ?_)
            unfold wpX_isNumber
            exact br_t hx (br_f (by decide) (br_t hy (br_f (by decide) (br_f (by decide) (br_t rfl h)))))
          · unfold wpY_isNumber
            exact br_t hx (br_f (by decide) (br_t hy (br_f (by decide) (br_f (by decide) (br_f (by decide) h)))))
        · by_cases hle : y ≤ x
          · refine ⟨8589934594, ob_V_F n, fun post h => ?_, fun post h => hY0 post ?_⟩
            · unfold wpX_numberOp
              refine hX1 _ (hX2 _ ?_)
              unfold wpX_isNumber wX_numberOp_87
              exact br_t hx (br_f (by decide) (br_t hy (br_f (by decide) (br_f (by decide) (br_f (by decide) (br_t hle (ob_whX (Or.inl rfl) _ h)))))))
            · unfold wpY_isNumber wY_two_201
              exact br_t hx (br_f (by decide) (br_t hy (br_f (by decide) (br_t rfl (br_t hle (ob_whY (Or.inl rfl) _ h))))))
          · refine ⟨8589934595, ob_V_T n, fun post h => ?_, fun post h => hY0 post ?_⟩
            · unfold wpX_numberOp
              refine hX1 _ (hX2 _ ?_)
              unfold wpX_isNumber wX_numberOp_87
              exact br_t hx (br_f (by decide) (br_t hy (br_f (by decide) (br_f (by decide) (br_f (by decide) (br_f hle (ob_whX (Or.inr rfl) _ h)))))))
            · unfold wpY_isNumber wY_two_201
              exact br_t hx (br_f (by decide) (br_t hy (br_f (by decide) (br_t rfl (br_f hle (ob_whY (Or.inr rfl) _ h))))))
      obtain ⟨res', thr', thn', FH3, stk', R3, hXp, hYp⟩ := ob_push (deep := deep) (cStr := cStr) (oOpen := oOpen) (te := te) (xArg := xArg) (ySeen := ySeen) (yArg := yArg) (yGiven := yGiven) R2 hv
      exact ⟨_, _, ob_S_mk (deep := deep) (cStr := cStr) (oOpen := oOpen) (te := te) (xArg := xArg) (ySeen := ySeen) (yArg := yArg) (yGiven := yGiven) R3 (by omega : m ≤ B) (by omega), fun post hp => hXv post (hXp _ hp), fun post hp => hYv post (hYp _ hp)⟩
    · refine ⟨_, _, ob_S_mk (deep := deep) (cStr := cStr) (oOpen := oOpen) (te := te) (xArg := xArg) (ySeen := ySeen) (yArg := yArg) (yGiven := yGiven) (ob_raise R2 (ob_V_Ty n)) (by omega : m ≤ B) (by omega), fun post hp => ?_, fun post hp => hY0 post ?_⟩
      · unfold wpX_numberOp
        refine hX1 _ (hX2 _ ?_)
        unfold wpX_isNumber wX_numberOp_26
        exact br_t hx (br_f (by decide) (br_f hy (br_t rfl hp)))
      · unfold wpY_isNumber wY_two_172
        exact br_t hx (br_f (by decide) (br_f hy (br_t rfl hp)))
  · refine ⟨_, _, ob_S_mk (deep := deep) (cStr := cStr) (oOpen := oOpen) (te := te) (xArg := xArg) (ySeen := ySeen) (yArg := yArg) (yGiven := yGiven) (ob_raise R2 (ob_V_Ty n)) (by omega : m ≤ B) (by omega), fun post hp => ?_, fun post hp => hY0 post ?_⟩
    · unfold wpX_numberOp
      refine hX1 _ (hX2 _ ?_)
      unfold wpX_isNumber wX_numberOp_26
      exact br_f hx (br_t rfl hp)
    · unfold wpY_isNumber wY_two_172
      exact br_f hx (br_t rfl hp)
theorem ob_op28 (R : ob_R n (e+1) b m res thr thn CL cOp cA cB OK oKin pVal aOut aVar FC FA FP FH FT fSelf stk TA TH xFc xFs xPc xKo xPk tw tc xSet S XH xHeld yCo yAr M yPair ySet yStay yHan yKept) (hm : m + 5 ≤ B) (hw : 4 * (e + 1) + ob_hs XH (e + 1) ≤ w) :
    ∃ u' v', ob_S b B (w + 4) u' v' ∧ (∀ post : SX → Prop, post u' → wpX_valueOp post (nI n, nI (e+1), nI b, deep, res, thr, thn, (fun zz => nI (CL zz)), cStr, cOp, cA, cB, (fun zz => nI (OK zz)), oKin, oOpen, xFc, xFs, xPc, xKo, xPk, (fun zz => ob_xa (tw zz) (te zz) (tc zz)), pVal, xSet, (fun zz => nI (S zz)), aOut, aVar, (fun zz => nI (FC zz)), (fun zz => nI (FP zz)), (fun zz => nI (FA zz)), (fun zz => nI (FH zz)), (fun zz => nI (XH zz)), (fun zz => nI (FT zz)), fSelf, xHeld, stk, (fun zz => nI (TA zz)), (fun zz => nI (TH zz)), xArg) 28 a) ∧ (∀ post : SY → Prop, post v' → wpY_two post (nI n, nI m, yGiven, nI (e+1), deep, nI b, thr, thn, res, cStr, (fun zz => nI (CL zz)), cOp, cA, cB, (fun zz => nI (OK zz)), oKin, yCo, yAr, oOpen, (fun zz => nI (M zz)), (fun zz => ob_yf (tw zz) (te zz) (tc zz)), yPair, ySeen, pVal, ySet, (fun zz => ob_th (S zz)), yStay, aOut, aVar, yArg, (fun zz => nI (FC zz)), (fun zz => nI (FA zz)), (fun zz => nI (FP zz)), (fun zz => nI (FH zz)), yHan, (fun zz => nI (FT zz)), (fun zz => nI (TA zz)), (fun zz => nI (TH zz)), fSelf, yKept, stk) 28 a) := by
  obtain ⟨y, FH', R1, hVy, hH, hX1, hY1⟩ := ob_pop (deep := deep) (cStr := cStr) (oOpen := oOpen) (te := te) (xArg := xArg) (ySeen := ySeen) (yArg := yArg) (yGiven := yGiven) R
  obtain ⟨x, FH2, R2, hVx, hH2, hX2, hY2⟩ := ob_pop (deep := deep) (cStr := cStr) (oOpen := oOpen) (te := te) (xArg := xArg) (ySeen := ySeen) (yArg := yArg) (yGiven := yGiven) R1
  have hn := R1.2.1.1.2
  obtain ⟨z, hz, hz2⟩ : ∃ z : Int32, (z = 0 ∨ z = 1) ∧ ((y = x ∧ z = 1) ∨ (¬ y = x ∧ z = 0)) := by
    by_cases h0 : y = x
    · exact ⟨1, Or.inr rfl, Or.inl ⟨h0, rfl⟩⟩
    · exact ⟨0, Or.inl rfl, Or.inr ⟨h0, rfl⟩⟩
  obtain ⟨res', thr', thn', FH3, stk', R3, hXp, hYp⟩ := ob_push (deep := deep) (cStr := cStr) (oOpen := oOpen) (te := te) (xArg := xArg) (ySeen := ySeen) (yArg := yArg) (yGiven := yGiven) R2 (ob_V_w n z)
  refine ⟨_, _, ob_S_mk (deep := deep) (cStr := cStr) (oOpen := oOpen) (te := te) (xArg := xArg) (ySeen := ySeen) (yArg := yArg) (yGiven := yGiven) R3 (by omega : m ≤ B) (by omega), fun post hp => ?_, fun post hp => ?_⟩
  · unfold wpX_valueOp
    refine hX1 _ ?_
    refine ob_objA hn hVy _ (fun _ => ?_) (fun _ _ _ => ?_)
    all_goals
      refine br_f (by decide) (br_f (by decide) (br_t rfl ?_))
      refine hX2 _ ?_
      unfold wX_valueOp_59
      rcases hz2 with ⟨h0, rfl⟩ | ⟨h0, rfl⟩
      · exact br_t h0 (ob_whX (Or.inr rfl) _ (hXp _ hp))
      · exact br_f h0 (ob_whX (Or.inl rfl) _ (hXp _ hp))
  · unfold wpY_two
    refine hY1 _ (br_f (by decide) (hY2 _ ?_))
    unfold wY_two_19 wY_two_44 wY_two_63
    refine br_f (by decide) (br_t rfl ?_)
    rcases hz2 with ⟨h0, rfl⟩ | ⟨h0, rfl⟩
    · exact br_t h0.symm (ob_whY (Or.inr rfl) _ (hYp _ hp))
    · exact br_f (fun z => h0 z.symm) (ob_whY (Or.inl rfl) _ (hYp _ hp))
theorem ob_op30 (R : ob_R n (e+1) b m res thr thn CL cOp cA cB OK oKin pVal aOut aVar FC FA FP FH FT fSelf stk TA TH xFc xFs xPc xKo xPk tw tc xSet S XH xHeld yCo yAr M yPair ySet yStay yHan yKept) (hm : m + 5 ≤ B) (hw : 4 * (e + 1) + ob_hs XH (e + 1) ≤ w) :
    ∃ u' v', ob_S b B (w + 4) u' v' ∧ (∀ post : SX → Prop, post u' → wpX_valueOp post (nI n, nI (e+1), nI b, deep, res, thr, thn, (fun zz => nI (CL zz)), cStr, cOp, cA, cB, (fun zz => nI (OK zz)), oKin, oOpen, xFc, xFs, xPc, xKo, xPk, (fun zz => ob_xa (tw zz) (te zz) (tc zz)), pVal, xSet, (fun zz => nI (S zz)), aOut, aVar, (fun zz => nI (FC zz)), (fun zz => nI (FP zz)), (fun zz => nI (FA zz)), (fun zz => nI (FH zz)), (fun zz => nI (XH zz)), (fun zz => nI (FT zz)), fSelf, xHeld, stk, (fun zz => nI (TA zz)), (fun zz => nI (TH zz)), xArg) 30 a) ∧ (∀ post : SY → Prop, post v' → wpY_two post (nI n, nI m, yGiven, nI (e+1), deep, nI b, thr, thn, res, cStr, (fun zz => nI (CL zz)), cOp, cA, cB, (fun zz => nI (OK zz)), oKin, yCo, yAr, oOpen, (fun zz => nI (M zz)), (fun zz => ob_yf (tw zz) (te zz) (tc zz)), yPair, ySeen, pVal, ySet, (fun zz => ob_th (S zz)), yStay, aOut, aVar, yArg, (fun zz => nI (FC zz)), (fun zz => nI (FA zz)), (fun zz => nI (FP zz)), (fun zz => nI (FH zz)), yHan, (fun zz => nI (FT zz)), (fun zz => nI (TA zz)), (fun zz => nI (TH zz)), fSelf, yKept, stk) 30 a) := by
  obtain ⟨y, FH', R1, hVy, hH, hX1, hY1⟩ := ob_pop (deep := deep) (cStr := cStr) (oOpen := oOpen) (te := te) (xArg := xArg) (ySeen := ySeen) (yArg := yArg) (yGiven := yGiven) R
  have hn := R1.2.1.1.2
  have hX0 : ∀ post : SX → Prop, wpX_pushKindOf post (nI n, nI (e+1), nI b, deep, res, thr, thn, (fun zz => nI (CL zz)), cStr, cOp, cA, cB, (fun zz => nI (OK zz)), oKin, oOpen, xFc, xFs, xPc, xKo, xPk, (fun zz => ob_xa (tw zz) (te zz) (tc zz)), pVal, xSet, (fun zz => nI (S zz)), aOut, aVar, (fun zz => nI (FC zz)), (fun zz => nI (FP zz)), (fun zz => nI (FA zz)), (fun zz => nI (FH' zz)), (fun zz => nI (XH zz)), (fun zz => nI (FT zz)), fSelf, xHeld, stk, (fun zz => nI (TA zz)), (fun zz => nI (TH zz)), xArg) y → wpX_valueOp post (nI n, nI (e+1), nI b, deep, res, thr, thn, (fun zz => nI (CL zz)), cStr, cOp, cA, cB, (fun zz => nI (OK zz)), oKin, oOpen, xFc, xFs, xPc, xKo, xPk, (fun zz => ob_xa (tw zz) (te zz) (tc zz)), pVal, xSet, (fun zz => nI (S zz)), aOut, aVar, (fun zz => nI (FC zz)), (fun zz => nI (FP zz)), (fun zz => nI (FA zz)), (fun zz => nI (FH zz)), (fun zz => nI (XH zz)), (fun zz => nI (FT zz)), fSelf, xHeld, stk, (fun zz => nI (TA zz)), (fun zz => nI (TH zz)), xArg) 30 a := by
    intro post h
    unfold wpX_valueOp
    refine hX1 _ ?_
    refine ob_objA hn hVy _ (fun _ => ?_) (fun _ _ _ => ?_)
    all_goals
      refine br_f (by decide) (br_f (by decide) (br_f (by decide) (br_f (by decide) (br_t rfl ?_))))
      exact h
  have hY0 : ∀ post : SY → Prop, wpY_isNumber (fun r_183 => (((r_183 = 0 → (wpY_isObject (fun r_185 => (((r_185 = 0 → (wY_two_137 post ((4 + y) - 8589934592) (nI n) (nI m) yGiven (nI (e+1)) deep (nI b) thr thn res cStr (fun zz => nI (CL zz)) cOp cA cB (fun zz => nI (OK zz)) oKin yCo yAr oOpen (fun zz => nI (M zz)) (fun zz => ob_yf (tw zz) (te zz) (tc zz)) yPair ySeen pVal ySet (fun zz => ob_th (S zz)) yStay aOut aVar yArg (fun zz => nI (FC zz)) (fun zz => nI (FA zz)) (fun zz => nI (FP zz)) (fun zz => nI (FH' zz)) yHan (fun zz => nI (FT zz)) (fun zz => nI (TA zz)) (fun zz => nI (TH zz)) fSelf yKept stk)) ∧ (¬ r_185 = 0 → (wpY_number (fun r_229 => (vp_in r_229 32 ∧ (wY_two_137 post ((nI (OK r_229.toNatClampNeg)).toInt64) (nI n) (nI m) yGiven (nI (e+1)) deep (nI b) thr thn res cStr (fun zz => nI (CL zz)) cOp cA cB (fun zz => nI (OK zz)) oKin yCo yAr oOpen (fun zz => nI (M zz)) (fun zz => ob_yf (tw zz) (te zz) (tc zz)) yPair ySeen pVal ySet (fun zz => ob_th (S zz)) yStay aOut aVar yArg (fun zz => nI (FC zz)) (fun zz => nI (FA zz)) (fun zz => nI (FP zz)) (fun zz => nI (FH' zz)) yHan (fun zz => nI (FT zz)) (fun zz => nI (TA zz)) (fun zz => nI (TH zz)) fSelf yKept stk))) y))))) y)) ∧ (¬ r_183 = 0 → (wY_two_137 post 3 (nI n) (nI m) yGiven (nI (e+1)) deep (nI b) thr thn res cStr (fun zz => nI (CL zz)) cOp cA cB (fun zz => nI (OK zz)) oKin yCo yAr oOpen (fun zz => nI (M zz)) (fun zz => ob_yf (tw zz) (te zz) (tc zz)) yPair ySeen pVal ySet (fun zz => ob_th (S zz)) yStay aOut aVar yArg (fun zz => nI (FC zz)) (fun zz => nI (FA zz)) (fun zz => nI (FP zz)) (fun zz => nI (FH' zz)) yHan (fun zz => nI (FT zz)) (fun zz => nI (TA zz)) (fun zz => nI (TH zz)) fSelf yKept stk))))) y → wpY_two post (nI n, nI m, yGiven, nI (e+1), deep, nI b, thr, thn, res, cStr, (fun zz => nI (CL zz)), cOp, cA, cB, (fun zz => nI (OK zz)), oKin, yCo, yAr, oOpen, (fun zz => nI (M zz)), (fun zz => ob_yf (tw zz) (te zz) (tc zz)), yPair, ySeen, pVal, ySet, (fun zz => ob_th (S zz)), yStay, aOut, aVar, yArg, (fun zz => nI (FC zz)), (fun zz => nI (FA zz)), (fun zz => nI (FP zz)), (fun zz => nI (FH zz)), yHan, (fun zz => nI (FT zz)), (fun zz => nI (TA zz)), (fun zz => nI (TH zz)), fSelf, yKept, stk) 30 a := by
    intro post h
    unfold wpY_two
    refine hY1 _ (br_t (by decide) ?_)
    unfold wY_two_19 wY_two_44
    exact br_f (by decide) (br_f (by decide) (br_f (by decide) (br_t rfl h)))
  obtain ⟨v, hv, hXv, hYv⟩ : ∃ v : Int64, ob_V n v ∧
      (∀ post : SX → Prop, wpX_push post (nI n, nI (e+1), nI b, deep, res, thr, thn, (fun zz => nI (CL zz)), cStr, cOp, cA, cB, (fun zz => nI (OK zz)), oKin, oOpen, xFc, xFs, xPc, xKo, xPk, (fun zz => ob_xa (tw zz) (te zz) (tc zz)), pVal, xSet, (fun zz => nI (S zz)), aOut, aVar, (fun zz => nI (FC zz)), (fun zz => nI (FP zz)), (fun zz => nI (FA zz)), (fun zz => nI (FH' zz)), (fun zz => nI (XH zz)), (fun zz => nI (FT zz)), fSelf, xHeld, stk, (fun zz => nI (TA zz)), (fun zz => nI (TH zz)), xArg) v → wpX_valueOp post (nI n, nI (e+1), nI b, deep, res, thr, thn, (fun zz => nI (CL zz)), cStr, cOp, cA, cB, (fun zz => nI (OK zz)), oKin, oOpen, xFc, xFs, xPc, xKo, xPk, (fun zz => ob_xa (tw zz) (te zz) (tc zz)), pVal, xSet, (fun zz => nI (S zz)), aOut, aVar, (fun zz => nI (FC zz)), (fun zz => nI (FP zz)), (fun zz => nI (FA zz)), (fun zz => nI (FH zz)), (fun zz => nI (XH zz)), (fun zz => nI (FT zz)), fSelf, xHeld, stk, (fun zz => nI (TA zz)), (fun zz => nI (TH zz)), xArg) 30 a) ∧ (∀ post : SY → Prop, wpY_give post (nI n, nI m, yGiven, nI (e+1), deep, nI b, thr, thn, res, cStr, (fun zz => nI (CL zz)), cOp, cA, cB, (fun zz => nI (OK zz)), oKin, yCo, yAr, oOpen, (fun zz => nI (M zz)), (fun zz => ob_yf (tw zz) (te zz) (tc zz)), yPair, ySeen, pVal, ySet, (fun zz => ob_th (S zz)), yStay, aOut, aVar, yArg, (fun zz => nI (FC zz)), (fun zz => nI (FA zz)), (fun zz => nI (FP zz)), (fun zz => nI (FH' zz)), yHan, (fun zz => nI (FT zz)), (fun zz => nI (TA zz)), (fun zz => nI (TH zz)), fSelf, yKept, stk) v → wpY_two post (nI n, nI m, yGiven, nI (e+1), deep, nI b, thr, thn, res, cStr, (fun zz => nI (CL zz)), cOp, cA, cB, (fun zz => nI (OK zz)), oKin, yCo, yAr, oOpen, (fun zz => nI (M zz)), (fun zz => ob_yf (tw zz) (te zz) (tc zz)), yPair, ySeen, pVal, ySet, (fun zz => ob_th (S zz)), yStay, aOut, aVar, yArg, (fun zz => nI (FC zz)), (fun zz => nI (FA zz)), (fun zz => nI (FP zz)), (fun zz => nI (FH zz)), yHan, (fun zz => nI (FT zz)), (fun zz => nI (TA zz)), (fun zz => nI (TH zz)), fSelf, yKept, stk) 30 a) := by
    by_cases hnum : y = y.toInt32.toInt64
    · have hlt : y < 17179869184 := by
        rw [ob_Tlt, ob_TO]
        have := (ob_num_b hnum).2
        omega
      refine ⟨3, ob_V_i n 3, fun post h => hX0 post ?_, fun post h => hY0 post ?_⟩
      · unfold wpX_pushKindOf
        refine ob_objN hlt _ (br_t (by decide) ?_)
        unfold wpX_isNumber
        exact br_t hnum (br_f (by decide) h)
      · unfold wpY_isNumber wY_two_137
        exact br_t hnum (br_f (by decide) h)
    · rcases ob_cls hVy with hl | ⟨o, ho, rfl⟩
      · have hs : ∃ q, q ≤ 5 ∧ y = lN (8589934592 + q) := by
          rcases hVy with h | h | ⟨o, ho, h⟩
          · exact absurd h hnum
          · exact h
          · rw [h] at hl
            exact absurd hl (ob_obj_nlt o (by omega))
        obtain ⟨q, hq, rfl⟩ := hs
        have e4 : 4 + lN (8589934592 + q) - 8589934592 = lN (4 + q) := by
          show lN 4 + lN (8589934592 + q) - lN 8589934592 = _
          rw [lN_add, lN_sub (by omega), show 4 + (8589934592 + q) - 8589934592 = 4 + q from by omega]
        refine ⟨lN (4 + q), ob_lNV n (by omega), fun post h => hX0 post ?_, fun post h => hY0 post ?_⟩
        · unfold wpX_pushKindOf
          refine ob_objN hl _ (br_t (by decide) ?_)
          unfold wpX_isNumber
          refine br_f hnum (br_t rfl ?_)
          rw [e4]
          exact h
        · unfold wpY_isNumber wY_two_137
          refine br_f hnum (br_t rfl (ob_isoF hl _ (br_t rfl ?_)))
          rw [e4]
          exact h
      · have hin : vp_in (nI o) 32 := vp_in_nI (by omega) (by decide)
        have hcl : (nI o).toNatClampNeg = o := ob_cl (by omega)
        refine ⟨(nI (OK o)).toInt64, ob_V_i n _, fun post h => hX0 post ?_, fun post h => hY0 post ?_⟩
        · unfold wpX_pushKindOf
          refine ob_objO hn ho _ (br_f (nI_pos (by omega)) ⟨hin, ?_⟩)
          rw [hcl]
          exact h
        · unfold wpY_isNumber wY_two_137
          refine br_f hnum (br_t rfl (ob_isoT o (by omega) _ (br_f (by decide) ?_)))
          unfold wpY_number
          rw [ob_numb]
          refine ⟨hin, ?_⟩
          rw [hcl]
          exact h
  obtain ⟨res', thr', thn', FH3, stk', R3, hXp, hYp⟩ := ob_push (deep := deep) (cStr := cStr) (oOpen := oOpen) (te := te) (xArg := xArg) (ySeen := ySeen) (yArg := yArg) (yGiven := yGiven) R1 hv
  exact ⟨_, _, ob_S_mk (deep := deep) (cStr := cStr) (oOpen := oOpen) (te := te) (xArg := xArg) (ySeen := ySeen) (yArg := yArg) (yGiven := yGiven) R3 (by omega : m ≤ B) (by omega), fun post hp => hXv post (hXp _ hp), fun post hp => hYv post (hYp _ hp)⟩
theorem ob_op31 (R : ob_R n (e+1) b m res thr thn CL cOp cA cB OK oKin pVal aOut aVar FC FA FP FH FT fSelf stk TA TH xFc xFs xPc xKo xPk tw tc xSet S XH xHeld yCo yAr M yPair ySet yStay yHan yKept) (hm : m + 5 ≤ B) (hw : 4 * (e + 1) + ob_hs XH (e + 1) ≤ w) (hh : h ≤ 2) :
    ∃ u' v', ob_S b B (w + 4) u' v' ∧ (∀ post : SX → Prop, post u' → wpX_valueOp post (nI n, nI (e+1), nI b, deep, res, thr, thn, (fun zz => nI (CL zz)), cStr, cOp, cA, cB, (fun zz => nI (OK zz)), oKin, oOpen, xFc, xFs, xPc, xKo, xPk, (fun zz => ob_xa (tw zz) (te zz) (tc zz)), pVal, xSet, (fun zz => nI (S zz)), aOut, aVar, (fun zz => nI (FC zz)), (fun zz => nI (FP zz)), (fun zz => nI (FA zz)), (fun zz => nI (FH zz)), (fun zz => nI (XH zz)), (fun zz => nI (FT zz)), fSelf, xHeld, stk, (fun zz => nI (TA zz)), (fun zz => nI (TH zz)), xArg) 31 (nI h)) ∧ (∀ post : SY → Prop, post v' → wpY_two post (nI n, nI m, yGiven, nI (e+1), deep, nI b, thr, thn, res, cStr, (fun zz => nI (CL zz)), cOp, cA, cB, (fun zz => nI (OK zz)), oKin, yCo, yAr, oOpen, (fun zz => nI (M zz)), (fun zz => ob_yf (tw zz) (te zz) (tc zz)), yPair, ySeen, pVal, ySet, (fun zz => ob_th (S zz)), yStay, aOut, aVar, yArg, (fun zz => nI (FC zz)), (fun zz => nI (FA zz)), (fun zz => nI (FP zz)), (fun zz => nI (FH zz)), yHan, (fun zz => nI (FT zz)), (fun zz => nI (TA zz)), (fun zz => nI (TH zz)), fSelf, yKept, stk) 31 (nI h)) := by
  obtain ⟨y, FH', R1, hVy, hH, hX1, hY1⟩ := ob_pop (deep := deep) (cStr := cStr) (oOpen := oOpen) (te := te) (xArg := xArg) (ySeen := ySeen) (yArg := yArg) (yGiven := yGiven) R
  have hn := R1.2.1.1.2
  rcases ob_cls hVy with hl | ⟨o, ho, rfl⟩
  · obtain ⟨res', thr', thn', FH3, stk', R3, hXp, hYp⟩ := ob_push (deep := deep) (cStr := cStr) (oOpen := oOpen) (te := te) (xArg := xArg) (ySeen := ySeen) (yArg := yArg) (yGiven := yGiven) R1 hVy
    refine ⟨_, _, ob_S_mk (deep := deep) (cStr := cStr) (oOpen := oOpen) (te := te) (xArg := xArg) (ySeen := ySeen) (yArg := yArg) (yGiven := yGiven) R3 (by omega : m ≤ B) (by omega), fun post hp => ?_, fun post hp => ?_⟩
    · unfold wpX_valueOp
      refine hX1 _ (ob_objN hl _ ?_)
      refine br_f (by decide) (br_t (by decide) ?_)
      exact br_t (by decide) (hXp _ hp)
    · unfold wpY_two
      refine hY1 _ (br_t (by decide) ?_)
      unfold wY_two_19
      refine br_t rfl (ob_isoF hl _ (br_t rfl ?_))
      unfold wY_two_44
      exact br_f (by decide) (br_f (by decide) (br_f (by decide) (br_t rfl (hYp _ hp))))
  · have R2 := ob_sealR (o := o) (onW := decide (h = 2)) (onC := decide (h ≠ 0)) R1
    obtain ⟨res', thr', thn', FH3, stk', R3, hXp, hYp⟩ := ob_push (deep := deep) (cStr := cStr) (oOpen := (upd oOpen o 0)) (te := te) (xArg := xArg) (ySeen := ySeen) (yArg := yArg) (yGiven := yGiven) R2 hVy
    refine ⟨_, _, ob_S_mk (deep := deep) (cStr := cStr) (oOpen := (upd oOpen o 0)) (te := te) (xArg := xArg) (ySeen := ySeen) (yArg := yArg) (yGiven := yGiven) R3 (by omega : m ≤ B) (by omega), fun post hp => ?_, fun post hp => ?_⟩
    · unfold wpX_valueOp
      refine hX1 _ (ob_objO hn ho _ ?_)
      refine br_f (by decide) (br_t (by decide) ?_)
      refine br_f (nI_pos (by omega)) ?_
      exact ob_sealX (by omega) hh _ (hXp _ hp)
    · unfold wpY_two
      refine hY1 _ (br_t (by decide) ?_)
      unfold wY_two_19
      refine br_t rfl (ob_isoT o (by omega) _ (br_f (by decide) ?_))
      unfold wpY_number
      rw [ob_numb]
      refine ob_sealY ho hn hh _ ?_
      unfold wY_two_44
      exact br_f (by decide) (br_f (by decide) (br_f (by decide) (br_t rfl (hYp _ hp))))
end
end
section
/-! ===== KIN, and IS ===== -/
section
variable {n : Nat} {d : Nat} {b : Nat} {m : Nat} {deep : Int32} {res : Int64} {thr : Int32} {thn : Int64} {CL : Nat → Nat} {cStr : Nat → Int32} {cOp : Nat → Int32} {cA : Nat → Int32} {cB : Nat → Int32} {OK : Nat → Nat} {oKin : Nat → Int32} {oOpen : Nat → Int32} {pVal : Nat → Int64} {aOut : Nat → Int32} {aVar : Nat → Int64} {FC : Nat → Nat} {FA : Nat → Nat} {FP : Nat → Nat} {FH : Nat → Nat} {FT : Nat → Nat} {fSelf : Nat → Int64} {stk : Nat → Int64} {TA : Nat → Nat} {TH : Nat → Nat} {xFc : Nat → Int32} {xFs : Nat → Int32} {xPc : Nat → Int32} {xKo : Nat → Int32} {xPk : Nat → Int32} {tw : Nat → Bool} {te : Nat → Bool} {tc : Nat → Bool} {xSet : Nat → Int64} {S : Nat → Nat} {XH : Nat → Nat} {xHeld : Nat → Int64} {xArg : Nat → Int64} {yCo : Nat → Int32} {yAr : Nat → Int32} {M : Nat → Nat} {yPair : Nat → Int32} {ySeen : Nat → Int32} {ySet : Nat → Int64} {yStay : Nat → Int32} {yArg : Nat → Int64} {yHan : Nat → Int32} {yKept : Nat → Int64} {yGiven : Int32}
variable {e k o B w : Nat} {a bb kk : Int32}
theorem ob_kin (hO : ob_gO n OK oKin) (hP : ob_gP n m M pVal xPk tw xSet yPair ySet) (hm : m < 2 ^ 31) (ho : o < n) : ∃ r : Int32, (r = -1 ∨ ∃ p, p < n ∧ r = nI p) ∧
    (∀ post : Int32 → Prop, post r → wpX_kinOf post (nI n, nI d, nI b, deep, res, thr, thn, (fun zz => nI (CL zz)), cStr, cOp, cA, cB, (fun zz => nI (OK zz)), oKin, oOpen, xFc, xFs, xPc, xKo, xPk, (fun zz => ob_xa (tw zz) (te zz) (tc zz)), pVal, xSet, (fun zz => nI (S zz)), aOut, aVar, (fun zz => nI (FC zz)), (fun zz => nI (FP zz)), (fun zz => nI (FA zz)), (fun zz => nI (FH zz)), (fun zz => nI (XH zz)), (fun zz => nI (FT zz)), fSelf, xHeld, stk, (fun zz => nI (TA zz)), (fun zz => nI (TH zz)), xArg) (nI o)) ∧ (∀ post : Int32 → Prop, post r → wpY_kinOf post (nI n, nI m, yGiven, nI d, deep, nI b, thr, thn, res, cStr, (fun zz => nI (CL zz)), cOp, cA, cB, (fun zz => nI (OK zz)), oKin, yCo, yAr, oOpen, (fun zz => nI (M zz)), (fun zz => ob_yf (tw zz) (te zz) (tc zz)), yPair, ySeen, pVal, ySet, (fun zz => ob_th (S zz)), yStay, aOut, aVar, yArg, (fun zz => nI (FC zz)), (fun zz => nI (FA zz)), (fun zz => nI (FP zz)), (fun zz => nI (FH zz)), yHan, (fun zz => nI (FT zz)), (fun zz => nI (TA zz)), (fun zz => nI (TH zz)), fSelf, yKept, stk) (lN (17179869184 + o))) := by
  have hn := hO.1.2
  obtain ⟨r, hr, hX, hY⟩ := ob_look (n := n) (d := d) (b := b) (m := m) (deep := deep) (res := res) (thr := thr) (thn := thn) (CL := CL) (cStr := cStr) (cOp := cOp) (cA := cA) (cB := cB) (OK := OK) (oKin := oKin) (oOpen := oOpen) (pVal := pVal) (aOut := aOut) (aVar := aVar) (FC := FC) (FA := FA) (FP := FP) (FH := FH) (FT := FT) (fSelf := fSelf) (stk := stk) (TA := TA) (TH := TH) (xFc := xFc) (xFs := xFs) (xPc := xPc) (xKo := xKo) (xPk := xPk) (tw := tw) (te := te) (tc := tc) (xSet := xSet) (S := S) (XH := XH) (xHeld := xHeld) (xArg := xArg) (yCo := yCo) (yAr := yAr) (M := M) (yPair := yPair) (ySeen := ySeen) (ySet := ySet) (yStay := yStay) (yArg := yArg) (yHan := yHan) (yKept := yKept) (yGiven := yGiven) (k := 17) hO hP hm (by decide) ho
  have hX0 : ∀ post : Int32 → Prop, ((r < 0 → (post (-1))) ∧ (¬ r < 0 → (vp_in r 1024 ∧ ((((xPk r.toNatClampNeg) = 1 → (vp_in r 1024 ∧ (wpX_objectOf (fun r_44 => (post r_44)) (nI n, nI d, nI b, deep, res, thr, thn, (fun zz => nI (CL zz)), cStr, cOp, cA, cB, (fun zz => nI (OK zz)), oKin, oOpen, xFc, xFs, xPc, xKo, xPk, (fun zz => ob_xa (tw zz) (te zz) (tc zz)), pVal, xSet, (fun zz => nI (S zz)), aOut, aVar, (fun zz => nI (FC zz)), (fun zz => nI (FP zz)), (fun zz => nI (FA zz)), (fun zz => nI (FH zz)), (fun zz => nI (XH zz)), (fun zz => nI (FT zz)), fSelf, xHeld, stk, (fun zz => nI (TA zz)), (fun zz => nI (TH zz)), xArg) (pVal r.toNatClampNeg)))) ∧ (¬ (xPk r.toNatClampNeg) = 1 → (post (-1)))))))) → wpX_kinOf post (nI n, nI d, nI b, deep, res, thr, thn, (fun zz => nI (CL zz)), cStr, cOp, cA, cB, (fun zz => nI (OK zz)), oKin, oOpen, xFc, xFs, xPc, xKo, xPk, (fun zz => ob_xa (tw zz) (te zz) (tc zz)), pVal, xSet, (fun zz => nI (S zz)), aOut, aVar, (fun zz => nI (FC zz)), (fun zz => nI (FP zz)), (fun zz => nI (FA zz)), (fun zz => nI (FH zz)), (fun zz => nI (XH zz)), (fun zz => nI (FT zz)), fSelf, xHeld, stk, (fun zz => nI (TA zz)), (fun zz => nI (TH zz)), xArg) (nI o) := by
    intro post h
    unfold wpX_kinOf
    exact hX _ h
  have hY0 : ∀ post : Int32 → Prop, ((r < 0 → (post (-1))) ∧ (¬ r < 0 → (vp_in r 1024 ∧ ((((yPair r.toNatClampNeg) = 0 → (vp_in r 1024 ∧ (wpY_isObject (fun r_48 => (((r_48 = 0 → (post (-1))) ∧ (¬ r_48 = 0 → (vp_in r 1024 ∧ (wpY_number (fun r_51 => (post r_51)) (pVal r.toNatClampNeg))))))) (pVal r.toNatClampNeg)))) ∧ (¬ (yPair r.toNatClampNeg) = 0 → (post (-1)))))))) → wpY_kinOf post (nI n, nI m, yGiven, nI d, deep, nI b, thr, thn, res, cStr, (fun zz => nI (CL zz)), cOp, cA, cB, (fun zz => nI (OK zz)), oKin, yCo, yAr, oOpen, (fun zz => nI (M zz)), (fun zz => ob_yf (tw zz) (te zz) (tc zz)), yPair, ySeen, pVal, ySet, (fun zz => ob_th (S zz)), yStay, aOut, aVar, yArg, (fun zz => nI (FC zz)), (fun zz => nI (FA zz)), (fun zz => nI (FP zz)), (fun zz => nI (FH zz)), yHan, (fun zz => nI (FT zz)), (fun zz => nI (TA zz)), (fun zz => nI (TH zz)), fSelf, yKept, stk) (lN (17179869184 + o)) := by
    intro post h
    unfold wpY_kinOf wpY_number
    rw [ob_numb]
    exact hY _ h
  rcases hr with rfl | ⟨q, hq, hM, rfl⟩
  · exact ⟨-1, Or.inl rfl, fun post hp => hX0 post (br_t (by decide) hp), fun post hp => hY0 post (br_t (by decide) hp)⟩
  · have hi : 32 * q + 17 < 1024 := by omega
    have hin : vp_in (nI (32 * q + 17)) 1024 := vp_in_nI hi (by decide)
    have hcl : (nI (32 * q + 17)).toNatClampNeg = 32 * q + 17 := ob_cl hi
    have hrr : ¬ nI (32 * q + 17) < 0 := nI_pos (by omega)
    rw [hcl] at hX0 hY0
    rcases hP.2.2 (32 * q + 17) (by omega) with ⟨h0, _⟩ | ⟨_, hv, hs⟩
    · exact absurd h0 hM
    rcases hs with ⟨hpr, hpk⟩ | ⟨hpr, hpk, _⟩
    · rcases ob_cls hv with hl | ⟨p, hp, he⟩
      · refine ⟨-1, Or.inl rfl, fun post hp => hX0 post (br_f hrr ⟨hin, br_t hpk ⟨hin, ob_objN hl _ hp⟩⟩), fun post hp => hY0 post (br_f hrr ⟨hin, br_t hpr ⟨hin, ob_isoF hl _ (br_t rfl hp)⟩⟩)⟩
      · rw [he] at hX0 hY0
        refine ⟨nI p, Or.inr ⟨p, hp, rfl⟩, fun post hpp => hX0 post (br_f hrr ⟨hin, br_t hpk ⟨hin, ob_objO hn hp _ hpp⟩⟩), fun post hpp => hY0 post (br_f hrr ⟨hin, br_t hpr ⟨hin, ob_isoT p (by omega) _ (br_f (by decide) ⟨hin, ?_⟩)⟩⟩)⟩
        unfold wpY_number
        rw [ob_numb]
        exact hpp
    · exact ⟨-1, Or.inl rfl, fun post hp => hX0 post (br_f hrr ⟨hin, br_f (by rw [hpk]; decide) hp⟩), fun post hp => hY0 post (br_f hrr ⟨hin, br_f (by rw [hpr]; decide) hp⟩)⟩
/-- along the prototypes to kk -/
theorem ob_desc1 (hO : ob_gO n OK oKin) : ∀ o, o < n → ∃ f : Int32, (f = -1 ∨ (f = kk ∧ ∃ q, f = nI q ∧ q < n)) ∧
    (∀ post : SX → Prop, wX_pushWhetherKin_104 post kk f (nI n) (nI d) (nI b) deep res thr thn (fun zz => nI (CL zz)) cStr cOp cA cB (fun zz => nI (OK zz)) oKin oOpen xFc xFs xPc xKo xPk (fun zz => ob_xa (tw zz) (te zz) (tc zz)) pVal xSet (fun zz => nI (S zz)) aOut aVar (fun zz => nI (FC zz)) (fun zz => nI (FP zz)) (fun zz => nI (FA zz)) (fun zz => nI (FH zz)) (fun zz => nI (XH zz)) (fun zz => nI (FT zz)) fSelf xHeld stk (fun zz => nI (TA zz)) (fun zz => nI (TH zz)) xArg → ∀ j i, o + 2 ≤ j → i + o ≤ 31 → wX_pushWhetherKin_70 post kk (nI n) (nI d) (nI b) deep res thr thn (fun zz => nI (CL zz)) cStr cOp cA cB (fun zz => nI (OK zz)) oKin oOpen xFc xFs xPc xKo xPk (fun zz => ob_xa (tw zz) (te zz) (tc zz)) pVal xSet (fun zz => nI (S zz)) aOut aVar (fun zz => nI (FC zz)) (fun zz => nI (FP zz)) (fun zz => nI (FA zz)) (fun zz => nI (FH zz)) (fun zz => nI (XH zz)) (fun zz => nI (FT zz)) fSelf xHeld stk (fun zz => nI (TA zz)) (fun zz => nI (TH zz)) xArg j (nI o) (nI i)) ∧
    (∀ post : SY → Prop, wY_descends_69 post kk f (nI n) (nI m) yGiven (nI d) deep (nI b) thr thn res cStr (fun zz => nI (CL zz)) cOp cA cB (fun zz => nI (OK zz)) oKin yCo yAr oOpen (fun zz => nI (M zz)) (fun zz => ob_yf (tw zz) (te zz) (tc zz)) yPair ySeen pVal ySet (fun zz => ob_th (S zz)) yStay aOut aVar yArg (fun zz => nI (FC zz)) (fun zz => nI (FA zz)) (fun zz => nI (FP zz)) (fun zz => nI (FH zz)) yHan (fun zz => nI (FT zz)) (fun zz => nI (TA zz)) (fun zz => nI (TH zz)) fSelf yKept stk → ∀ j, o + 2 ≤ j → wY_descends_45 post kk (nI n) (nI m) yGiven (nI d) deep (nI b) thr thn res cStr (fun zz => nI (CL zz)) cOp cA cB (fun zz => nI (OK zz)) oKin yCo yAr oOpen (fun zz => nI (M zz)) (fun zz => ob_yf (tw zz) (te zz) (tc zz)) yPair ySeen pVal ySet (fun zz => ob_th (S zz)) yStay aOut aVar yArg (fun zz => nI (FC zz)) (fun zz => nI (FA zz)) (fun zz => nI (FP zz)) (fun zz => nI (FH zz)) yHan (fun zz => nI (FT zz)) (fun zz => nI (TA zz)) (fun zz => nI (TH zz)) fSelf yKept stk j (nI o)) := by
  intro o
  induction o using Nat.strongRecOn with
  | ind o ih =>
    intro ho
    have hn := hO.1.2
    have hin : vp_in (nI o) 32 := vp_in_nI (by omega) (by decide)
    have hcl : (nI o).toNatClampNeg = o := ob_cl (by omega)
    have hoo : ¬ nI o < 0 := nI_pos (by omega)
    have hile : ∀ i, i + o ≤ 31 → ¬ (32 : Int32) ≤ nI i := fun i hi => nI_ge (b := 32) (by omega) (by decide)
    by_cases hkk : nI o = kk
    · refine ⟨nI o, Or.inr ⟨hkk, o, rfl, ho⟩, fun post hp j i hj hi => ?_, fun post hp j hj => ?_⟩
      · obtain ⟨j, rfl⟩ : ∃ q, j = q + 1 := ⟨j - 1, by omega⟩
        unfold wX_pushWhetherKin_70
        exact br_f (hile i hi) (br_f hoo (br_t hkk hp))
      · obtain ⟨j, rfl⟩ : ∃ q, j = q + 1 := ⟨j - 1, by omega⟩
        unfold wY_descends_45
        exact br_f hoo (br_t hkk hp)
    · rcases (hO.2 o ho).2 with e | ⟨p, hp, e⟩
      · refine ⟨-1, Or.inl rfl, fun post hp j i hj hi => ?_, fun post hp j hj => ?_⟩
        · obtain ⟨j, rfl⟩ : ∃ q, j = q + 2 := ⟨j - 2, by omega⟩
          unfold wX_pushWhetherKin_70
          refine br_f (hile i hi) (br_f hoo (br_f hkk ⟨hin, ?_⟩))
          rw [hcl, e]
          refine nm_e (nm_e ?_)
          unfold wX_pushWhetherKin_70
          exact br_c (fun _ => hp) (fun _ => br_t (by decide) hp)
        · obtain ⟨j, rfl⟩ : ∃ q, j = q + 2 := ⟨j - 2, by omega⟩
          unfold wY_descends_45
          refine br_f hoo (br_f hkk ⟨hin, ?_⟩)
          rw [hcl, e]
          refine nm_e ?_
          unfold wY_descends_45
          exact br_t (by decide) hp
      · obtain ⟨f, hf, hX, hY⟩ := ih p hp (by omega)
        refine ⟨f, hf, fun post hpp j i hj hi => ?_, fun post hpp j hj => ?_⟩
        · obtain ⟨j, rfl⟩ : ∃ q, j = q + 1 := ⟨j - 1, by omega⟩
          unfold wX_pushWhetherKin_70
          refine br_f (hile i hi) (br_f hoo (br_f hkk ⟨hin, ?_⟩))
          rw [hcl, e, nI_1]
          exact nm_e (nm_e (hX post hpp j (i + 1) (by omega) (by omega)))
        · obtain ⟨j, rfl⟩ : ∃ q, j = q + 1 := ⟨j - 1, by omega⟩
          unfold wY_descends_45
          refine br_f hoo (br_f hkk ⟨hin, ?_⟩)
          rw [hcl, e]
          exact nm_e (hY post hpp j (by omega))
/-- from a value's prototype on -/
theorem ob_desc {v : Int64} (hO : ob_gO n OK oKin) (hv : ob_V n v) : ∃ f : Int32, (f = -1 ∨ (f = kk ∧ ∃ q, f = nI q ∧ q < n)) ∧
    (∀ post : SX → Prop, 0 ≤ kk → wX_pushWhetherKin_104 post kk f (nI n) (nI d) (nI b) deep res thr thn (fun zz => nI (CL zz)) cStr cOp cA cB (fun zz => nI (OK zz)) oKin oOpen xFc xFs xPc xKo xPk (fun zz => ob_xa (tw zz) (te zz) (tc zz)) pVal xSet (fun zz => nI (S zz)) aOut aVar (fun zz => nI (FC zz)) (fun zz => nI (FP zz)) (fun zz => nI (FA zz)) (fun zz => nI (FH zz)) (fun zz => nI (XH zz)) (fun zz => nI (FT zz)) fSelf xHeld stk (fun zz => nI (TA zz)) (fun zz => nI (TH zz)) xArg → wX_pushWhetherKin_29 post v kk (nI n) (nI d) (nI b) deep res thr thn (fun zz => nI (CL zz)) cStr cOp cA cB (fun zz => nI (OK zz)) oKin oOpen xFc xFs xPc xKo xPk (fun zz => ob_xa (tw zz) (te zz) (tc zz)) pVal xSet (fun zz => nI (S zz)) aOut aVar (fun zz => nI (FC zz)) (fun zz => nI (FP zz)) (fun zz => nI (FA zz)) (fun zz => nI (FH zz)) (fun zz => nI (XH zz)) (fun zz => nI (FT zz)) fSelf xHeld stk (fun zz => nI (TA zz)) (fun zz => nI (TH zz)) xArg) ∧
    (∀ post : SY → Prop, wY_descends_69 post kk f (nI n) (nI m) yGiven (nI d) deep (nI b) thr thn res cStr (fun zz => nI (CL zz)) cOp cA cB (fun zz => nI (OK zz)) oKin yCo yAr oOpen (fun zz => nI (M zz)) (fun zz => ob_yf (tw zz) (te zz) (tc zz)) yPair ySeen pVal ySet (fun zz => ob_th (S zz)) yStay aOut aVar yArg (fun zz => nI (FC zz)) (fun zz => nI (FA zz)) (fun zz => nI (FP zz)) (fun zz => nI (FH zz)) yHan (fun zz => nI (FT zz)) (fun zz => nI (TA zz)) (fun zz => nI (TH zz)) fSelf yKept stk → wY_descends_21 post v kk (nI n) (nI m) yGiven (nI d) deep (nI b) thr thn res cStr (fun zz => nI (CL zz)) cOp cA cB (fun zz => nI (OK zz)) oKin yCo yAr oOpen (fun zz => nI (M zz)) (fun zz => ob_yf (tw zz) (te zz) (tc zz)) yPair ySeen pVal ySet (fun zz => ob_th (S zz)) yStay aOut aVar yArg (fun zz => nI (FC zz)) (fun zz => nI (FA zz)) (fun zz => nI (FP zz)) (fun zz => nI (FH zz)) yHan (fun zz => nI (FT zz)) (fun zz => nI (TA zz)) (fun zz => nI (TH zz)) fSelf yKept stk) := by
  have hn := hO.1.2
  have hnone : (∀ post : SX → Prop, 0 ≤ kk → (∃ n70 : Nat, wX_pushWhetherKin_70 post kk (nI n) (nI d) (nI b) deep res thr thn (fun zz => nI (CL zz)) cStr cOp cA cB (fun zz => nI (OK zz)) oKin oOpen xFc xFs xPc xKo xPk (fun zz => ob_xa (tw zz) (te zz) (tc zz)) pVal xSet (fun zz => nI (S zz)) aOut aVar (fun zz => nI (FC zz)) (fun zz => nI (FP zz)) (fun zz => nI (FA zz)) (fun zz => nI (FH zz)) (fun zz => nI (XH zz)) (fun zz => nI (FT zz)) fSelf xHeld stk (fun zz => nI (TA zz)) (fun zz => nI (TH zz)) xArg n70 (-1) 0) → wX_pushWhetherKin_29 post v kk (nI n) (nI d) (nI b) deep res thr thn (fun zz => nI (CL zz)) cStr cOp cA cB (fun zz => nI (OK zz)) oKin oOpen xFc xFs xPc xKo xPk (fun zz => ob_xa (tw zz) (te zz) (tc zz)) pVal xSet (fun zz => nI (S zz)) aOut aVar (fun zz => nI (FC zz)) (fun zz => nI (FP zz)) (fun zz => nI (FA zz)) (fun zz => nI (FH zz)) (fun zz => nI (XH zz)) (fun zz => nI (FT zz)) fSelf xHeld stk (fun zz => nI (TA zz)) (fun zz => nI (TH zz)) xArg) → (∀ post : SY → Prop, (∃ n45 : Nat, wY_descends_45 post kk (nI n) (nI m) yGiven (nI d) deep (nI b) thr thn res cStr (fun zz => nI (CL zz)) cOp cA cB (fun zz => nI (OK zz)) oKin yCo yAr oOpen (fun zz => nI (M zz)) (fun zz => ob_yf (tw zz) (te zz) (tc zz)) yPair ySeen pVal ySet (fun zz => ob_th (S zz)) yStay aOut aVar yArg (fun zz => nI (FC zz)) (fun zz => nI (FA zz)) (fun zz => nI (FP zz)) (fun zz => nI (FH zz)) yHan (fun zz => nI (FT zz)) (fun zz => nI (TA zz)) (fun zz => nI (TH zz)) fSelf yKept stk n45 (-1)) → wY_descends_21 post v kk (nI n) (nI m) yGiven (nI d) deep (nI b) thr thn res cStr (fun zz => nI (CL zz)) cOp cA cB (fun zz => nI (OK zz)) oKin yCo yAr oOpen (fun zz => nI (M zz)) (fun zz => ob_yf (tw zz) (te zz) (tc zz)) yPair ySeen pVal ySet (fun zz => ob_th (S zz)) yStay aOut aVar yArg (fun zz => nI (FC zz)) (fun zz => nI (FA zz)) (fun zz => nI (FP zz)) (fun zz => nI (FH zz)) yHan (fun zz => nI (FT zz)) (fun zz => nI (TA zz)) (fun zz => nI (TH zz)) fSelf yKept stk) → ∃ f : Int32, (f = -1 ∨ (f = kk ∧ ∃ q, f = nI q ∧ q < n)) ∧
    (∀ post : SX → Prop, 0 ≤ kk → wX_pushWhetherKin_104 post kk f (nI n) (nI d) (nI b) deep res thr thn (fun zz => nI (CL zz)) cStr cOp cA cB (fun zz => nI (OK zz)) oKin oOpen xFc xFs xPc xKo xPk (fun zz => ob_xa (tw zz) (te zz) (tc zz)) pVal xSet (fun zz => nI (S zz)) aOut aVar (fun zz => nI (FC zz)) (fun zz => nI (FP zz)) (fun zz => nI (FA zz)) (fun zz => nI (FH zz)) (fun zz => nI (XH zz)) (fun zz => nI (FT zz)) fSelf xHeld stk (fun zz => nI (TA zz)) (fun zz => nI (TH zz)) xArg → wX_pushWhetherKin_29 post v kk (nI n) (nI d) (nI b) deep res thr thn (fun zz => nI (CL zz)) cStr cOp cA cB (fun zz => nI (OK zz)) oKin oOpen xFc xFs xPc xKo xPk (fun zz => ob_xa (tw zz) (te zz) (tc zz)) pVal xSet (fun zz => nI (S zz)) aOut aVar (fun zz => nI (FC zz)) (fun zz => nI (FP zz)) (fun zz => nI (FA zz)) (fun zz => nI (FH zz)) (fun zz => nI (XH zz)) (fun zz => nI (FT zz)) fSelf xHeld stk (fun zz => nI (TA zz)) (fun zz => nI (TH zz)) xArg) ∧
    (∀ post : SY → Prop, wY_descends_69 post kk f (nI n) (nI m) yGiven (nI d) deep (nI b) thr thn res cStr (fun zz => nI (CL zz)) cOp cA cB (fun zz => nI (OK zz)) oKin yCo yAr oOpen (fun zz => nI (M zz)) (fun zz => ob_yf (tw zz) (te zz) (tc zz)) yPair ySeen pVal ySet (fun zz => ob_th (S zz)) yStay aOut aVar yArg (fun zz => nI (FC zz)) (fun zz => nI (FA zz)) (fun zz => nI (FP zz)) (fun zz => nI (FH zz)) yHan (fun zz => nI (FT zz)) (fun zz => nI (TA zz)) (fun zz => nI (TH zz)) fSelf yKept stk → wY_descends_21 post v kk (nI n) (nI m) yGiven (nI d) deep (nI b) thr thn res cStr (fun zz => nI (CL zz)) cOp cA cB (fun zz => nI (OK zz)) oKin yCo yAr oOpen (fun zz => nI (M zz)) (fun zz => ob_yf (tw zz) (te zz) (tc zz)) yPair ySeen pVal ySet (fun zz => ob_th (S zz)) yStay aOut aVar yArg (fun zz => nI (FC zz)) (fun zz => nI (FA zz)) (fun zz => nI (FP zz)) (fun zz => nI (FH zz)) yHan (fun zz => nI (FT zz)) (fun zz => nI (TA zz)) (fun zz => nI (TH zz)) fSelf yKept stk) := by
    intro hX hY
    refine ⟨-1, Or.inl rfl, fun post hk hp => hX post hk ⟨1, ?_⟩, fun post hp => hY post ⟨1, ?_⟩⟩
    · unfold wX_pushWhetherKin_70
      exact br_f (by decide) (br_t (by decide) hp)
    · unfold wY_descends_45
      exact br_t (by decide) hp
  rcases ob_cls hv with hl | ⟨o, ho, rfl⟩
  · refine hnone (fun post hk hp => ?_) (fun post hp => ?_)
    · unfold wX_pushWhetherKin_29
      exact br_t hk (ob_objN hl _ (br_f (by decide) hp))
    · unfold wY_descends_21
      exact ob_isoF hl _ (br_t rfl hp)
  · have hin : vp_in (nI o) 32 := vp_in_nI (by omega) (by decide)
    have hcl : (nI o).toNatClampNeg = o := ob_cl (by omega)
    have hX29 : ∀ post : SX → Prop, 0 ≤ kk → (∃ n70 : Nat, wX_pushWhetherKin_70 post kk (nI n) (nI d) (nI b) deep res thr thn (fun zz => nI (CL zz)) cStr cOp cA cB (fun zz => nI (OK zz)) oKin oOpen xFc xFs xPc xKo xPk (fun zz => ob_xa (tw zz) (te zz) (tc zz)) pVal xSet (fun zz => nI (S zz)) aOut aVar (fun zz => nI (FC zz)) (fun zz => nI (FP zz)) (fun zz => nI (FA zz)) (fun zz => nI (FH zz)) (fun zz => nI (XH zz)) (fun zz => nI (FT zz)) fSelf xHeld stk (fun zz => nI (TA zz)) (fun zz => nI (TH zz)) xArg n70 (oKin o) 0) → wX_pushWhetherKin_29 post (lN (17179869184 + o)) kk (nI n) (nI d) (nI b) deep res thr thn (fun zz => nI (CL zz)) cStr cOp cA cB (fun zz => nI (OK zz)) oKin oOpen xFc xFs xPc xKo xPk (fun zz => ob_xa (tw zz) (te zz) (tc zz)) pVal xSet (fun zz => nI (S zz)) aOut aVar (fun zz => nI (FC zz)) (fun zz => nI (FP zz)) (fun zz => nI (FA zz)) (fun zz => nI (FH zz)) (fun zz => nI (XH zz)) (fun zz => nI (FT zz)) fSelf xHeld stk (fun zz => nI (TA zz)) (fun zz => nI (TH zz)) xArg := by
      intro post hk hp
      unfold wX_pushWhetherKin_29
      refine br_t hk (ob_objO hn ho _ (br_t (nI_pos' (by omega)) ⟨hin, ?_⟩))
      rw [hcl]
      exact nm_e hp
    have hY21 : ∀ post : SY → Prop, (∃ n45 : Nat, wY_descends_45 post kk (nI n) (nI m) yGiven (nI d) deep (nI b) thr thn res cStr (fun zz => nI (CL zz)) cOp cA cB (fun zz => nI (OK zz)) oKin yCo yAr oOpen (fun zz => nI (M zz)) (fun zz => ob_yf (tw zz) (te zz) (tc zz)) yPair ySeen pVal ySet (fun zz => ob_th (S zz)) yStay aOut aVar yArg (fun zz => nI (FC zz)) (fun zz => nI (FA zz)) (fun zz => nI (FP zz)) (fun zz => nI (FH zz)) yHan (fun zz => nI (FT zz)) (fun zz => nI (TA zz)) (fun zz => nI (TH zz)) fSelf yKept stk n45 (oKin o)) → wY_descends_21 post (lN (17179869184 + o)) kk (nI n) (nI m) yGiven (nI d) deep (nI b) thr thn res cStr (fun zz => nI (CL zz)) cOp cA cB (fun zz => nI (OK zz)) oKin yCo yAr oOpen (fun zz => nI (M zz)) (fun zz => ob_yf (tw zz) (te zz) (tc zz)) yPair ySeen pVal ySet (fun zz => ob_th (S zz)) yStay aOut aVar yArg (fun zz => nI (FC zz)) (fun zz => nI (FA zz)) (fun zz => nI (FP zz)) (fun zz => nI (FH zz)) yHan (fun zz => nI (FT zz)) (fun zz => nI (TA zz)) (fun zz => nI (TH zz)) fSelf yKept stk := by
      intro post hp
      unfold wY_descends_21
      refine ob_isoT o (by omega) _ (br_f (by decide) ?_)
      unfold wpY_number
      rw [ob_numb]
      refine ⟨hin, ?_⟩
      rw [hcl]
      exact nm_e hp
    rcases (hO.2 o ho).2 with e | ⟨p, hp, e⟩
    · rw [e] at hX29 hY21
      exact hnone hX29 hY21
    · rw [e] at hX29 hY21
      obtain ⟨f, hf, hX, hY⟩ := ob_desc1 (n := n) (d := d) (b := b) (m := m) (deep := deep) (res := res) (thr := thr) (thn := thn) (CL := CL) (cStr := cStr) (cOp := cOp) (cA := cA) (cB := cB) (OK := OK) (oKin := oKin) (oOpen := oOpen) (pVal := pVal) (aOut := aOut) (aVar := aVar) (FC := FC) (FA := FA) (FP := FP) (FH := FH) (FT := FT) (fSelf := fSelf) (stk := stk) (TA := TA) (TH := TH) (xFc := xFc) (xFs := xFs) (xPc := xPc) (xKo := xKo) (xPk := xPk) (tw := tw) (te := te) (tc := tc) (xSet := xSet) (S := S) (XH := XH) (xHeld := xHeld) (xArg := xArg) (yCo := yCo) (yAr := yAr) (M := M) (yPair := yPair) (ySeen := ySeen) (ySet := ySet) (yStay := yStay) (yArg := yArg) (yHan := yHan) (yKept := yKept) (yGiven := yGiven) (kk := kk) hO p (by omega)
      exact ⟨f, hf, fun post hk hpp => hX29 post hk ⟨p + 2, hX post hpp _ 0 (Nat.le_refl _) (by omega)⟩, fun post hpp => hY21 post ⟨p + 2, hY post hpp _ (Nat.le_refl _)⟩⟩
theorem ob_op29 (R : ob_R n (e+1) b m res thr thn CL cOp cA cB OK oKin pVal aOut aVar FC FA FP FH FT fSelf stk TA TH xFc xFs xPc xKo xPk tw tc xSet S XH xHeld yCo yAr M yPair ySet yStay yHan yKept) (hm : m + 5 ≤ B) (hB : B < 2 ^ 31) (hw : 4 * (e + 1) + ob_hs XH (e + 1) ≤ w) :
    ∃ u' v', ob_S b B (w + 4) u' v' ∧ (∀ post : SX → Prop, post u' → wpX_valueOp post (nI n, nI (e+1), nI b, deep, res, thr, thn, (fun zz => nI (CL zz)), cStr, cOp, cA, cB, (fun zz => nI (OK zz)), oKin, oOpen, xFc, xFs, xPc, xKo, xPk, (fun zz => ob_xa (tw zz) (te zz) (tc zz)), pVal, xSet, (fun zz => nI (S zz)), aOut, aVar, (fun zz => nI (FC zz)), (fun zz => nI (FP zz)), (fun zz => nI (FA zz)), (fun zz => nI (FH zz)), (fun zz => nI (XH zz)), (fun zz => nI (FT zz)), fSelf, xHeld, stk, (fun zz => nI (TA zz)), (fun zz => nI (TH zz)), xArg) 29 a) ∧ (∀ post : SY → Prop, post v' → wpY_two post (nI n, nI m, yGiven, nI (e+1), deep, nI b, thr, thn, res, cStr, (fun zz => nI (CL zz)), cOp, cA, cB, (fun zz => nI (OK zz)), oKin, yCo, yAr, oOpen, (fun zz => nI (M zz)), (fun zz => ob_yf (tw zz) (te zz) (tc zz)), yPair, ySeen, pVal, ySet, (fun zz => ob_th (S zz)), yStay, aOut, aVar, yArg, (fun zz => nI (FC zz)), (fun zz => nI (FA zz)), (fun zz => nI (FP zz)), (fun zz => nI (FH zz)), yHan, (fun zz => nI (FT zz)), (fun zz => nI (TA zz)), (fun zz => nI (TH zz)), fSelf, yKept, stk) 29 a) := by
  obtain ⟨y, FH', R1, hVy, hH, hX1, hY1⟩ := ob_pop (deep := deep) (cStr := cStr) (oOpen := oOpen) (te := te) (xArg := xArg) (ySeen := ySeen) (yArg := yArg) (yGiven := yGiven) R
  obtain ⟨x, FH2, R2, hVx, hH2, hX2, hY2⟩ := ob_pop (deep := deep) (cStr := cStr) (oOpen := oOpen) (te := te) (xArg := xArg) (ySeen := ySeen) (yArg := yArg) (yGiven := yGiven) R1
  have hn := R1.2.1.1.2
  have hY0 : ∀ post : SY → Prop, wpY_descends post (nI n, nI m, yGiven, nI (e+1), deep, nI b, thr, thn, res, cStr, (fun zz => nI (CL zz)), cOp, cA, cB, (fun zz => nI (OK zz)), oKin, yCo, yAr, oOpen, (fun zz => nI (M zz)), (fun zz => ob_yf (tw zz) (te zz) (tc zz)), yPair, ySeen, pVal, ySet, (fun zz => ob_th (S zz)), yStay, aOut, aVar, yArg, (fun zz => nI (FC zz)), (fun zz => nI (FA zz)), (fun zz => nI (FP zz)), (fun zz => nI (FH2 zz)), yHan, (fun zz => nI (FT zz)), (fun zz => nI (TA zz)), (fun zz => nI (TH zz)), fSelf, yKept, stk) x y → wpY_two post (nI n, nI m, yGiven, nI (e+1), deep, nI b, thr, thn, res, cStr, (fun zz => nI (CL zz)), cOp, cA, cB, (fun zz => nI (OK zz)), oKin, yCo, yAr, oOpen, (fun zz => nI (M zz)), (fun zz => ob_yf (tw zz) (te zz) (tc zz)), yPair, ySeen, pVal, ySet, (fun zz => ob_th (S zz)), yStay, aOut, aVar, yArg, (fun zz => nI (FC zz)), (fun zz => nI (FA zz)), (fun zz => nI (FP zz)), (fun zz => nI (FH zz)), yHan, (fun zz => nI (FT zz)), (fun zz => nI (TA zz)), (fun zz => nI (TH zz)), fSelf, yKept, stk) 29 a := by
    intro post h
    unfold wpY_two
    refine hY1 _ (br_f (by decide) (hY2 _ ?_))
    unfold wY_two_19 wY_two_44
    exact br_f (by decide) (br_f (by decide) (br_t rfl h))
  obtain ⟨kk, hkk, hXk, hYk⟩ : ∃ kk : Int32, (kk = -1 ∨ ∃ p, p < n ∧ kk = nI p) ∧ (∀ post : SX → Prop, wX_pushWhetherKin_29 post x kk (nI n) (nI (e+1)) (nI b) deep res thr thn (fun zz => nI (CL zz)) cStr cOp cA cB (fun zz => nI (OK zz)) oKin oOpen xFc xFs xPc xKo xPk (fun zz => ob_xa (tw zz) (te zz) (tc zz)) pVal xSet (fun zz => nI (S zz)) aOut aVar (fun zz => nI (FC zz)) (fun zz => nI (FP zz)) (fun zz => nI (FA zz)) (fun zz => nI (FH2 zz)) (fun zz => nI (XH zz)) (fun zz => nI (FT zz)) fSelf xHeld stk (fun zz => nI (TA zz)) (fun zz => nI (TH zz)) xArg → wpX_valueOp post (nI n, nI (e+1), nI b, deep, res, thr, thn, (fun zz => nI (CL zz)), cStr, cOp, cA, cB, (fun zz => nI (OK zz)), oKin, oOpen, xFc, xFs, xPc, xKo, xPk, (fun zz => ob_xa (tw zz) (te zz) (tc zz)), pVal, xSet, (fun zz => nI (S zz)), aOut, aVar, (fun zz => nI (FC zz)), (fun zz => nI (FP zz)), (fun zz => nI (FA zz)), (fun zz => nI (FH zz)), (fun zz => nI (XH zz)), (fun zz => nI (FT zz)), fSelf, xHeld, stk, (fun zz => nI (TA zz)), (fun zz => nI (TH zz)), xArg) 29 a) ∧ (∀ post : SY → Prop, wY_descends_21 post x kk (nI n) (nI m) yGiven (nI (e+1)) deep (nI b) thr thn res cStr (fun zz => nI (CL zz)) cOp cA cB (fun zz => nI (OK zz)) oKin yCo yAr oOpen (fun zz => nI (M zz)) (fun zz => ob_yf (tw zz) (te zz) (tc zz)) yPair ySeen pVal ySet (fun zz => ob_th (S zz)) yStay aOut aVar yArg (fun zz => nI (FC zz)) (fun zz => nI (FA zz)) (fun zz => nI (FP zz)) (fun zz => nI (FH2 zz)) yHan (fun zz => nI (FT zz)) (fun zz => nI (TA zz)) (fun zz => nI (TH zz)) fSelf yKept stk → wpY_two post (nI n, nI m, yGiven, nI (e+1), deep, nI b, thr, thn, res, cStr, (fun zz => nI (CL zz)), cOp, cA, cB, (fun zz => nI (OK zz)), oKin, yCo, yAr, oOpen, (fun zz => nI (M zz)), (fun zz => ob_yf (tw zz) (te zz) (tc zz)), yPair, ySeen, pVal, ySet, (fun zz => ob_th (S zz)), yStay, aOut, aVar, yArg, (fun zz => nI (FC zz)), (fun zz => nI (FA zz)), (fun zz => nI (FP zz)), (fun zz => nI (FH zz)), yHan, (fun zz => nI (FT zz)), (fun zz => nI (TA zz)), (fun zz => nI (TH zz)), fSelf, yKept, stk) 29 a) := by
    rcases ob_cls hVy with hl | ⟨o, ho, rfl⟩
    · refine ⟨-1, Or.inl rfl, fun post h => ?_, fun post h => hY0 post ?_⟩
      · unfold wpX_valueOp
        refine hX1 _ (ob_objN hl _ ?_)
        refine br_f (by decide) (br_f (by decide) (br_f (by decide) (br_t rfl ?_)))
        unfold wpX_pushWhetherKin
        exact hX2 _ (br_t (by decide) h)
      · unfold wpY_descends wpY_isFunction
        exact ob_isoF hl _ (br_t rfl (br_t rfl h))
    · have hin : vp_in (nI o) 32 := vp_in_nI (by omega) (by decide)
      have hcl : (nI o).toNatClampNeg = o := ob_cl (by omega)
      have hOK := (R1.2.1.2 o ho).1
      have hX0 : ∀ post : SX → Prop, ((((nI (OK o)) = 2 → (wpX_kinOf (fun r_171 => (wX_pushWhetherKin_29 post x r_171 (nI n) (nI (e+1)) (nI b) deep res thr thn (fun zz => nI (CL zz)) cStr cOp cA cB (fun zz => nI (OK zz)) oKin oOpen xFc xFs xPc xKo xPk (fun zz => ob_xa (tw zz) (te zz) (tc zz)) pVal xSet (fun zz => nI (S zz)) aOut aVar (fun zz => nI (FC zz)) (fun zz => nI (FP zz)) (fun zz => nI (FA zz)) (fun zz => nI (FH2 zz)) (fun zz => nI (XH zz)) (fun zz => nI (FT zz)) fSelf xHeld stk (fun zz => nI (TA zz)) (fun zz => nI (TH zz)) xArg)) (nI n, nI (e+1), nI b, deep, res, thr, thn, (fun zz => nI (CL zz)), cStr, cOp, cA, cB, (fun zz => nI (OK zz)), oKin, oOpen, xFc, xFs, xPc, xKo, xPk, (fun zz => ob_xa (tw zz) (te zz) (tc zz)), pVal, xSet, (fun zz => nI (S zz)), aOut, aVar, (fun zz => nI (FC zz)), (fun zz => nI (FP zz)), (fun zz => nI (FA zz)), (fun zz => nI (FH2 zz)), (fun zz => nI (XH zz)), (fun zz => nI (FT zz)), fSelf, xHeld, stk, (fun zz => nI (TA zz)), (fun zz => nI (TH zz)), xArg) (nI o))) ∧ (¬ (nI (OK o)) = 2 → (wX_pushWhetherKin_29 post x (-1) (nI n) (nI (e+1)) (nI b) deep res thr thn (fun zz => nI (CL zz)) cStr cOp cA cB (fun zz => nI (OK zz)) oKin oOpen xFc xFs xPc xKo xPk (fun zz => ob_xa (tw zz) (te zz) (tc zz)) pVal xSet (fun zz => nI (S zz)) aOut aVar (fun zz => nI (FC zz)) (fun zz => nI (FP zz)) (fun zz => nI (FA zz)) (fun zz => nI (FH2 zz)) (fun zz => nI (XH zz)) (fun zz => nI (FT zz)) fSelf xHeld stk (fun zz => nI (TA zz)) (fun zz => nI (TH zz)) xArg)))) → wpX_valueOp post (nI n, nI (e+1), nI b, deep, res, thr, thn, (fun zz => nI (CL zz)), cStr, cOp, cA, cB, (fun zz => nI (OK zz)), oKin, oOpen, xFc, xFs, xPc, xKo, xPk, (fun zz => ob_xa (tw zz) (te zz) (tc zz)), pVal, xSet, (fun zz => nI (S zz)), aOut, aVar, (fun zz => nI (FC zz)), (fun zz => nI (FP zz)), (fun zz => nI (FA zz)), (fun zz => nI (FH zz)), (fun zz => nI (XH zz)), (fun zz => nI (FT zz)), fSelf, xHeld, stk, (fun zz => nI (TA zz)), (fun zz => nI (TH zz)), xArg) 29 a := by
        intro post h
        unfold wpX_valueOp
        refine hX1 _ (ob_objO hn ho _ ?_)
        refine br_f (by decide) (br_f (by decide) (br_f (by decide) (br_t rfl ?_)))
        unfold wpX_pushWhetherKin
        refine hX2 _ (br_f (nI_pos (by omega)) ⟨hin, ?_⟩)
        rw [hcl]
        exact h
      have hYf : ∀ post : SY → Prop, ((((nI (OK o)) = 2 → (wpY_kinOf (fun r_140 => (wY_descends_21 post x r_140 (nI n) (nI m) yGiven (nI (e+1)) deep (nI b) thr thn res cStr (fun zz => nI (CL zz)) cOp cA cB (fun zz => nI (OK zz)) oKin yCo yAr oOpen (fun zz => nI (M zz)) (fun zz => ob_yf (tw zz) (te zz) (tc zz)) yPair ySeen pVal ySet (fun zz => ob_th (S zz)) yStay aOut aVar yArg (fun zz => nI (FC zz)) (fun zz => nI (FA zz)) (fun zz => nI (FP zz)) (fun zz => nI (FH2 zz)) yHan (fun zz => nI (FT zz)) (fun zz => nI (TA zz)) (fun zz => nI (TH zz)) fSelf yKept stk)) (nI n, nI m, yGiven, nI (e+1), deep, nI b, thr, thn, res, cStr, (fun zz => nI (CL zz)), cOp, cA, cB, (fun zz => nI (OK zz)), oKin, yCo, yAr, oOpen, (fun zz => nI (M zz)), (fun zz => ob_yf (tw zz) (te zz) (tc zz)), yPair, ySeen, pVal, ySet, (fun zz => ob_th (S zz)), yStay, aOut, aVar, yArg, (fun zz => nI (FC zz)), (fun zz => nI (FA zz)), (fun zz => nI (FP zz)), (fun zz => nI (FH2 zz)), yHan, (fun zz => nI (FT zz)), (fun zz => nI (TA zz)), (fun zz => nI (TH zz)), fSelf, yKept, stk) (lN (17179869184 + o)))) ∧ (¬ (nI (OK o)) = 2 → (wY_descends_21 post x (-1) (nI n) (nI m) yGiven (nI (e+1)) deep (nI b) thr thn res cStr (fun zz => nI (CL zz)) cOp cA cB (fun zz => nI (OK zz)) oKin yCo yAr oOpen (fun zz => nI (M zz)) (fun zz => ob_yf (tw zz) (te zz) (tc zz)) yPair ySeen pVal ySet (fun zz => ob_th (S zz)) yStay aOut aVar yArg (fun zz => nI (FC zz)) (fun zz => nI (FA zz)) (fun zz => nI (FP zz)) (fun zz => nI (FH2 zz)) yHan (fun zz => nI (FT zz)) (fun zz => nI (TA zz)) (fun zz => nI (TH zz)) fSelf yKept stk)))) → wpY_two post (nI n, nI m, yGiven, nI (e+1), deep, nI b, thr, thn, res, cStr, (fun zz => nI (CL zz)), cOp, cA, cB, (fun zz => nI (OK zz)), oKin, yCo, yAr, oOpen, (fun zz => nI (M zz)), (fun zz => ob_yf (tw zz) (te zz) (tc zz)), yPair, ySeen, pVal, ySet, (fun zz => ob_th (S zz)), yStay, aOut, aVar, yArg, (fun zz => nI (FC zz)), (fun zz => nI (FA zz)), (fun zz => nI (FP zz)), (fun zz => nI (FH zz)), yHan, (fun zz => nI (FT zz)), (fun zz => nI (TA zz)), (fun zz => nI (TH zz)), fSelf, yKept, stk) 29 a := by
        intro post h
        refine hY0 post ?_
        unfold wpY_descends wpY_isFunction
        refine ob_isoT o (by omega) _ (br_f (by decide) ?_)
        unfold wpY_number
        rw [ob_numb]
        refine ⟨hin, ?_⟩
        rw [hcl]
        exact br_c (fun z => br_f (by decide) (h.1 z)) (fun z => br_t rfl (h.2 z))
      by_cases h2 : nI (OK o) = 2
      · obtain ⟨r, hr, hXr, hYr⟩ := ob_kin (n := n) (d := (e+1)) (b := b) (m := m) (deep := deep) (res := res) (thr := thr) (thn := thn) (CL := CL) (cStr := cStr) (cOp := cOp) (cA := cA) (cB := cB) (OK := OK) (oKin := oKin) (oOpen := oOpen) (pVal := pVal) (aOut := aOut) (aVar := aVar) (FC := FC) (FA := FA) (FP := FP) (FH := FH2) (FT := FT) (fSelf := fSelf) (stk := stk) (TA := TA) (TH := TH) (xFc := xFc) (xFs := xFs) (xPc := xPc) (xKo := xKo) (xPk := xPk) (tw := tw) (te := te) (tc := tc) (xSet := xSet) (S := S) (XH := XH) (xHeld := xHeld) (xArg := xArg) (yCo := yCo) (yAr := yAr) (M := M) (yPair := yPair) (ySeen := ySeen) (ySet := ySet) (yStay := yStay) (yArg := yArg) (yHan := yHan) (yKept := yKept) (yGiven := yGiven) R2.2.1 R2.2.2.1 (by omega) ho
        exact ⟨r, hr, fun post h => hX0 post (br_t h2 (hXr _ h)), fun post h => hYf post (br_t h2 (hYr _ h))⟩
      · exact ⟨-1, Or.inl rfl, fun post h => hX0 post (br_f h2 h), fun post h => hYf post (br_f h2 h)⟩
  obtain ⟨f, hf, hXd, hYd⟩ := ob_desc (n := n) (d := (e+1)) (b := b) (m := m) (deep := deep) (res := res) (thr := thr) (thn := thn) (CL := CL) (cStr := cStr) (cOp := cOp) (cA := cA) (cB := cB) (OK := OK) (oKin := oKin) (oOpen := oOpen) (pVal := pVal) (aOut := aOut) (aVar := aVar) (FC := FC) (FA := FA) (FP := FP) (FH := FH2) (FT := FT) (fSelf := fSelf) (stk := stk) (TA := TA) (TH := TH) (xFc := xFc) (xFs := xFs) (xPc := xPc) (xKo := xKo) (xPk := xPk) (tw := tw) (te := te) (tc := tc) (xSet := xSet) (S := S) (XH := XH) (xHeld := xHeld) (xArg := xArg) (yCo := yCo) (yAr := yAr) (M := M) (yPair := yPair) (ySeen := ySeen) (ySet := ySet) (yStay := yStay) (yArg := yArg) (yHan := yHan) (yKept := yKept) (yGiven := yGiven) (kk := kk) R2.2.1 hVx
  rcases hkk with rfl | ⟨p, hp, rfl⟩
  · refine ⟨_, _, ob_S_mk (deep := deep) (cStr := cStr) (oOpen := oOpen) (te := te) (xArg := xArg) (ySeen := ySeen) (yArg := yArg) (yGiven := yGiven) (ob_raise R2 (ob_V_Ty n)) (by omega : m ≤ B) (by omega), fun post hp => hXk post ?_, fun post hp => hYk post (hYd post ?_)⟩
    · unfold wX_pushWhetherKin_29
      exact br_f (by decide) hp
    · unfold wY_descends_69
      exact br_f (by decide) hp
  · have hp0 : 0 ≤ nI p := nI_pos' (by omega)
    obtain ⟨z, hz, hz2⟩ : ∃ z : Int32, (z = 0 ∨ z = 1) ∧ ((f = nI p ∧ ¬ f < 0 ∧ z = 1) ∨ (¬ f = nI p ∧ f < 0 ∧ z = 0)) := by
      rcases hf with rfl | ⟨h1, q, h2, h3⟩
      · exact ⟨0, Or.inl rfl, Or.inr ⟨fun z => ob_m1n p (by omega) z.symm, by decide, rfl⟩⟩
      · exact ⟨1, Or.inr rfl, Or.inl ⟨h1, by rw [h1]; exact nI_pos (by omega), rfl⟩⟩
    obtain ⟨res', thr', thn', FH3, stk', R3, hXp, hYp⟩ := ob_push (deep := deep) (cStr := cStr) (oOpen := oOpen) (te := te) (xArg := xArg) (ySeen := ySeen) (yArg := yArg) (yGiven := yGiven) R2 (ob_V_w n z)
    refine ⟨_, _, ob_S_mk (deep := deep) (cStr := cStr) (oOpen := oOpen) (te := te) (xArg := xArg) (ySeen := ySeen) (yArg := yArg) (yGiven := yGiven) R3 (by omega : m ≤ B) (by omega), fun post hpp => hXk post (hXd post hp0 ?_), fun post hpp => hYk post (hYd post ?_)⟩
    · unfold wX_pushWhetherKin_104 wX_pushWhetherKin_117
      rcases hz2 with ⟨h1, h2, rfl⟩ | ⟨h1, h2, rfl⟩
      · exact br_t h1 (ob_whX (Or.inr rfl) _ (hXp _ hpp))
      · exact br_f h1 (ob_whX (Or.inl rfl) _ (hXp _ hpp))
    · unfold wY_descends_69 wY_descends_95
      refine br_t hp0 ?_
      rcases hz2 with ⟨h1, h2, rfl⟩ | ⟨h1, h2, rfl⟩
      · exact br_f h2 (ob_whY (Or.inr rfl) _ (hYp _ hpp))
      · exact br_t h2 (ob_whY (Or.inl rfl) _ (hYp _ hpp))
end
end
section
/-! ===== new objects ===== -/
def ob_zk (f : Nat → Int32) (o k : Nat) : Nat → Int32 := fun i => if 32 * o ≤ i ∧ i < 32 * o + k then 0 else f i
theorem ob_zk_0 (f : Nat → Int32) (o : Nat) : ob_zk f o 0 = f := by
  funext i; unfold ob_zk; rw [if_neg (by omega)]
theorem ob_zk_s (f : Nat → Int32) (o k : Nat) : upd (ob_zk f o k) (32 * o + k) 0 = ob_zk f o (k + 1) := by
  funext i
  unfold upd ob_zk
  by_cases h : i = 32 * o + k
  · rw [if_pos h, if_pos (by omega)]
  · rw [if_neg h]
    by_cases h2 : 32 * o ≤ i ∧ i < 32 * o + k
    · rw [if_pos h2, if_pos (by omega)]
    · rw [if_neg h2, if_neg (by omega)]
section
variable {n : Nat} {d : Nat} {b : Nat} {m : Nat} {deep : Int32} {res : Int64} {thr : Int32} {thn : Int64} {CL : Nat → Nat} {cStr : Nat → Int32} {cOp : Nat → Int32} {cA : Nat → Int32} {cB : Nat → Int32} {OK : Nat → Nat} {oKin : Nat → Int32} {oOpen : Nat → Int32} {pVal : Nat → Int64} {aOut : Nat → Int32} {aVar : Nat → Int64} {FC : Nat → Nat} {FA : Nat → Nat} {FP : Nat → Nat} {FH : Nat → Nat} {FT : Nat → Nat} {fSelf : Nat → Int64} {stk : Nat → Int64} {TA : Nat → Nat} {TH : Nat → Nat} {xFc : Nat → Int32} {xFs : Nat → Int32} {xPc : Nat → Int32} {xKo : Nat → Int32} {xPk : Nat → Int32} {tw : Nat → Bool} {te : Nat → Bool} {tc : Nat → Bool} {xSet : Nat → Int64} {S : Nat → Nat} {XH : Nat → Nat} {xHeld : Nat → Int64} {xArg : Nat → Int64} {yCo : Nat → Int32} {yAr : Nat → Int32} {M : Nat → Nat} {yPair : Nat → Int32} {ySeen : Nat → Int32} {ySet : Nat → Int64} {yStay : Nat → Int32} {yArg : Nat → Int64} {yHan : Nat → Int32} {yKept : Nat → Int64} {yGiven : Int32}
variable {e k o kd B w : Nat} {a bb pr : Int32} {xFc' xFs' yCo' yAr' : Nat → Int32}
theorem ob_newX1 {o : Nat} (hn : o < 32) (post : Int32 → SX → Prop) (hp : post (nI o) (nI n, nI d, nI b, deep, res, thr, thn, (fun zz => nI (CL zz)), cStr, cOp, cA, cB, (fun zz => nI (OK zz)), oKin, oOpen, xFc, xFs, xPc, xKo, (ob_zk xPk o 32), (fun zz => ob_xa (tw zz) (te zz) (tc zz)), pVal, xSet, (fun zz => nI (S zz)), aOut, aVar, (fun zz => nI (FC zz)), (fun zz => nI (FP zz)), (fun zz => nI (FA zz)), (fun zz => nI (FH zz)), (fun zz => nI (XH zz)), (fun zz => nI (FT zz)), fSelf, xHeld, stk, (fun zz => nI (TA zz)), (fun zz => nI (TH zz)), xArg)) :
    ∀ j k, j + k = 32 → wX_newObject_57 post (nI o) (nI n) (nI d) (nI b) deep res thr thn (j + 1) (nI k) (fun zz => nI (CL zz)) cStr cOp cA cB (fun zz => nI (OK zz)) oKin oOpen xFc xFs xPc xKo (ob_zk xPk o k) (fun zz => ob_xa (tw zz) (te zz) (tc zz)) pVal xSet (fun zz => nI (S zz)) aOut aVar (fun zz => nI (FC zz)) (fun zz => nI (FP zz)) (fun zz => nI (FA zz)) (fun zz => nI (FH zz)) (fun zz => nI (XH zz)) (fun zz => nI (FT zz)) fSelf xHeld stk (fun zz => nI (TA zz)) (fun zz => nI (TH zz)) xArg
  | 0, k, e => by
    have e' : k = 32 := by omega
    subst e'
    unfold wX_newObject_57
    exact br_t (by decide) hp
  | j + 1, k, e => by
    have ih := ob_newX1 hn post hp j (k + 1) (by omega)
    have h1 : ¬ 32 ≤ k := by omega
    unfold wX_newObject_57
    simp (disch := first | omega | decide) only [h1, ob_zk_s, forall_eq, not_true, not_false_iff, false_implies, true_implies, true_and, and_true, ob_sub1, Nat.add_sub_cancel, nI_1, ob_ix, ob_iy, ob_ix24, ob_iy24, ob_ix10, ob_iy10, ob_ix4, ob_iy4, ob_ix3, ob_iy3, ob_s1, ob_s2, ob_s3, ob_s4, ob_ltl, ob_lel, ob_eql, ob_ltr, ob_ler, ob_uN, Nat.add_one_ne_zero, ob_xs3, ob_lnn, ob_ltn, ob_eqn, Nat.not_lt_zero, Nat.zero_le, Nat.reduceEqDiff, Nat.reduceLeDiff, Nat.reduceLT, ob_eqll, Int32.reduceLT, Int32.reduceLE, eq_self_iff_true]
    exact ih
theorem ob_newX (hn : n < 32) (post : Int32 → SX → Prop) (hp : post (nI n) (nI (n+1), nI d, nI b, deep, res, thr, thn, (fun zz => nI (CL zz)), cStr, cOp, cA, cB, (fun zz => nI ((ob_um OK n kd) zz)), (upd oKin n pr), (upd oOpen n 1), xFc, xFs, (upd xPc n 0), xKo, (ob_zk xPk n 32), (fun zz => ob_xa (tw zz) (te zz) (tc zz)), pVal, xSet, (fun zz => nI (S zz)), aOut, aVar, (fun zz => nI (FC zz)), (fun zz => nI (FP zz)), (fun zz => nI (FA zz)), (fun zz => nI (FH zz)), (fun zz => nI (XH zz)), (fun zz => nI (FT zz)), fSelf, xHeld, stk, (fun zz => nI (TA zz)), (fun zz => nI (TH zz)), xArg)) : wpX_newObject post (nI n, nI d, nI b, deep, res, thr, thn, (fun zz => nI (CL zz)), cStr, cOp, cA, cB, (fun zz => nI (OK zz)), oKin, oOpen, xFc, xFs, xPc, xKo, xPk, (fun zz => ob_xa (tw zz) (te zz) (tc zz)), pVal, xSet, (fun zz => nI (S zz)), aOut, aVar, (fun zz => nI (FC zz)), (fun zz => nI (FP zz)), (fun zz => nI (FA zz)), (fun zz => nI (FH zz)), (fun zz => nI (XH zz)), (fun zz => nI (FT zz)), fSelf, xHeld, stk, (fun zz => nI (TA zz)), (fun zz => nI (TH zz)), xArg) (nI kd) pr := by
  have hl := ob_newX1 (n := (n+1)) (d := d) (b := b) (deep := deep) (res := res) (thr := thr) (thn := thn) (CL := CL) (cStr := cStr) (cOp := cOp) (cA := cA) (cB := cB) (OK := (ob_um OK n kd)) (oKin := (upd oKin n pr)) (oOpen := (upd oOpen n 1)) (pVal := pVal) (aOut := aOut) (aVar := aVar) (FC := FC) (FA := FA) (FP := FP) (FH := FH) (FT := FT) (fSelf := fSelf) (stk := stk) (TA := TA) (TH := TH) (xFc := xFc) (xFs := xFs) (xPc := (upd xPc n 0)) (xKo := xKo) (xPk := xPk) (tw := tw) (te := te) (tc := tc) (xSet := xSet) (S := S) (XH := XH) (xHeld := xHeld) (xArg := xArg) hn post hp 32 0 rfl
  rw [ob_zk_0] at hl
  unfold wpX_newObject
  simp (disch := first | omega | decide) only [hn, ob_nar1, forall_eq, not_true, not_false_iff, false_implies, true_implies, true_and, and_true, ob_sub1, Nat.add_sub_cancel, nI_1, ob_ix, ob_iy, ob_ix24, ob_iy24, ob_ix10, ob_iy10, ob_ix4, ob_iy4, ob_ix3, ob_iy3, ob_s1, ob_s2, ob_s3, ob_s4, ob_ltl, ob_lel, ob_eql, ob_ltr, ob_ler, ob_uN, Nat.add_one_ne_zero, ob_xs3, ob_lnn, ob_ltn, ob_eqn, Nat.not_lt_zero, Nat.zero_le, Nat.reduceEqDiff, Nat.reduceLeDiff, Nat.reduceLT, ob_eqll, Int32.reduceLT, Int32.reduceLE, eq_self_iff_true]
  exact ⟨33, hl⟩
theorem ob_newXf (hn : n = 32) (post : Int32 → SX → Prop) (hp : post (-1) (nI n, nI d, nI b, deep, res, thr, thn, (fun zz => nI (CL zz)), cStr, cOp, cA, cB, (fun zz => nI (OK zz)), oKin, oOpen, xFc, xFs, xPc, xKo, xPk, (fun zz => ob_xa (tw zz) (te zz) (tc zz)), pVal, xSet, (fun zz => nI (S zz)), aOut, aVar, (fun zz => nI (FC zz)), (fun zz => nI (FP zz)), (fun zz => nI (FA zz)), (fun zz => nI (FH zz)), (fun zz => nI (XH zz)), (fun zz => nI (FT zz)), fSelf, xHeld, stk, (fun zz => nI (TA zz)), (fun zz => nI (TH zz)), xArg)) : wpX_newObject post (nI n, nI d, nI b, deep, res, thr, thn, (fun zz => nI (CL zz)), cStr, cOp, cA, cB, (fun zz => nI (OK zz)), oKin, oOpen, xFc, xFs, xPc, xKo, xPk, (fun zz => ob_xa (tw zz) (te zz) (tc zz)), pVal, xSet, (fun zz => nI (S zz)), aOut, aVar, (fun zz => nI (FC zz)), (fun zz => nI (FP zz)), (fun zz => nI (FA zz)), (fun zz => nI (FH zz)), (fun zz => nI (XH zz)), (fun zz => nI (FT zz)), fSelf, xHeld, stk, (fun zz => nI (TA zz)), (fun zz => nI (TH zz)), xArg) a bb := by
  unfold wpX_newObject
  exact br_f (by rw [hn]; decide) hp
theorem ob_newY (hn : n < 32) (hkd : kd ≠ 1) (hk2 : kd ≤ 2) (post : Int32 → SY → Prop) (hp : post (nI n) (nI (n+1), nI m, yGiven, nI d, deep, nI b, thr, thn, res, cStr, (fun zz => nI (CL zz)), cOp, cA, cB, (fun zz => nI ((ob_um OK n kd) zz)), (upd oKin n pr), yCo, (upd yAr n (-1)), (upd oOpen n 1), (fun zz => nI (M zz)), (fun zz => ob_yf (tw zz) (te zz) (tc zz)), yPair, ySeen, pVal, ySet, (fun zz => ob_th (S zz)), yStay, aOut, aVar, yArg, (fun zz => nI (FC zz)), (fun zz => nI (FA zz)), (fun zz => nI (FP zz)), (fun zz => nI (FH zz)), yHan, (fun zz => nI (FT zz)), (fun zz => nI (TA zz)), (fun zz => nI (TH zz)), fSelf, yKept, stk)) : wpY_create post (nI n, nI m, yGiven, nI d, deep, nI b, thr, thn, res, cStr, (fun zz => nI (CL zz)), cOp, cA, cB, (fun zz => nI (OK zz)), oKin, yCo, yAr, oOpen, (fun zz => nI (M zz)), (fun zz => ob_yf (tw zz) (te zz) (tc zz)), yPair, ySeen, pVal, ySet, (fun zz => ob_th (S zz)), yStay, aOut, aVar, yArg, (fun zz => nI (FC zz)), (fun zz => nI (FA zz)), (fun zz => nI (FP zz)), (fun zz => nI (FH zz)), yHan, (fun zz => nI (FT zz)), (fun zz => nI (TA zz)), (fun zz => nI (TH zz)), fSelf, yKept, stk) (nI kd) pr := by
  unfold wpY_create
  simp (disch := first | omega | decide) only [hkd, ob_nar1, forall_eq, not_true, not_false_iff, false_implies, true_implies, true_and, and_true, ob_sub1, Nat.add_sub_cancel, nI_1, ob_ix, ob_iy, ob_ix24, ob_iy24, ob_ix10, ob_iy10, ob_ix4, ob_iy4, ob_ix3, ob_iy3, ob_s1, ob_s2, ob_s3, ob_s4, ob_ltl, ob_lel, ob_eql, ob_ltr, ob_ler, ob_uN, Nat.add_one_ne_zero, ob_xs3, ob_lnn, ob_ltn, ob_eqn, Nat.not_lt_zero, Nat.zero_le, Nat.reduceEqDiff, Nat.reduceLeDiff, Nat.reduceLT, ob_eqll, Int32.reduceLT, Int32.reduceLE, eq_self_iff_true]
  exact hp
/-- what a new object that is no array leaves -/
theorem ob_newG (hO : ob_gO n OK oKin) (hP : ob_gP n m M pVal xPk tw xSet yPair ySet) (hL : ob_gL n M xPc xKo) (hn : n < 32) (hpr : pr = -1 ∨ ∃ p, p < n ∧ pr = nI p) (hkd : kd ≤ 2) :
    ob_gO (n + 1) (ob_um OK n kd) (upd oKin n pr) ∧ ob_gP (n + 1) m M pVal (ob_zk xPk n 32) tw xSet yPair ySet ∧ ob_gL (n + 1) M (upd xPc n 0) xKo := by
  have h3 := hO.1
  refine ⟨⟨by omega, fun q hq => ?_⟩, ob_gP_new hP (fun j hj => ?_) (fun j hj hj2 => ?_), ob_gL_new hL hP.2.1⟩
  · by_cases z : q = n
    · subst z
      rw [ob_um_s, pk_us]
      exact ⟨hkd, hpr⟩
    · rw [ob_um_n _ _ z, pk_un z]
      exact hO.2 q (by omega)
  · unfold ob_zk
    rw [if_neg (by omega)]
  · unfold ob_zk
    rw [if_pos (by omega)]
theorem ob_newA (hA : ob_gA n OK S xFc xFs yCo yAr yStay aOut aVar) (hlo : ∀ q, q < n → xFc' q = xFc q ∧ xFs' q = xFs q ∧ yCo' q = yCo q ∧ yAr' q = yAr q)
    (hnew : kd = 2 → xFc' n = yCo' n ∧ (∃ c, c < 8 ∧ yCo' n = nI c) ∧ xFs' n = yAr' n ∧ ob_sc S (yAr' n)) : ob_gA (n + 1) (ob_um OK n kd) S xFc' xFs' yCo' yAr' yStay aOut aVar := by
  refine ⟨fun q hq h2 => ?_, fun q hq => ⟨(hA.2 q hq).1, fun z => ?_⟩⟩
  · by_cases z : q = n
    · subst z
      rw [ob_um_s] at h2
      exact hnew h2
    · rw [ob_um_n _ _ z] at h2
      obtain ⟨h1, h3, h4, h5⟩ := hlo q (by omega)
      rw [h1, h3, h4, h5]
      exact hA.1 q (by omega) h2
  · obtain ⟨h1, h2, h3⟩ := (hA.2 q hq).2 z
    exact ⟨h1, h2, fun k hk => ob_V_up (by omega) (h3 k hk)⟩
theorem ob_gT_up {n' : Nat} (hT : ob_gT n d b res thr thn) (h : n ≤ n') : ob_gT n' d b res thr thn :=
  ⟨hT.1, hT.2.1.imp id (fun z => ⟨z.1, ob_V_up h z.2⟩), hT.2.2⟩
theorem ob_newR (R : ob_R n d b m res thr thn CL cOp cA cB OK oKin pVal aOut aVar FC FA FP FH FT fSelf stk TA TH xFc xFs xPc xKo xPk tw tc xSet S XH xHeld yCo yAr M yPair ySet yStay yHan yKept) (hn : n < 32) (hpr : pr = -1 ∨ ∃ p, p < n ∧ pr = nI p) (hkd : kd ≤ 2) (hk1 : kd ≠ 1) (hlo : ∀ q, q < n → xFc' q = xFc q ∧ xFs' q = xFs q ∧ yCo' q = yCo q ∧ yAr' q = yAr q)
    (hnew : kd = 2 → xFc' n = yCo' n ∧ (∃ c, c < 8 ∧ yCo' n = nI c) ∧ xFs' n = yAr' n ∧ ob_sc S (yAr' n)) :
    ob_R (n+1) d b m res thr thn CL cOp cA cB (ob_um OK n kd) (upd oKin n pr) pVal aOut aVar FC FA FP FH FT fSelf stk TA TH xFc' xFs' (upd xPc n 0) xKo (ob_zk xPk n 32) tw tc xSet S XH xHeld yCo' yAr' M yPair ySet yStay yHan yKept := by
  obtain ⟨hC, hO, hP, hL, hY, hA, hF, hT⟩ := R
  obtain ⟨g1, g2, g3⟩ := ob_newG (kd := kd) hO hP hL hn hpr hkd
  exact ⟨hC, g1, g2, g3, ob_gY_new hY hk1, ob_newA hA hlo hnew, ob_gF_up (by omega) hF, ob_gT_up hT (by omega)⟩
theorem ob_oN (h : o < n) (hn : n ≤ 32) : (17179869184 + (nI o).toInt64) = lN (17179869184 + o) := ob_obj_toI o (by omega)
/-- OBJECT -/
theorem ob_op14 (R : ob_R n (e+1) b m res thr thn CL cOp cA cB OK oKin pVal aOut aVar FC FA FP FH FT fSelf stk TA TH xFc xFs xPc xKo xPk tw tc xSet S XH xHeld yCo yAr M yPair ySet yStay yHan yKept) (hm : m + 5 ≤ B) (hw : 4 * (e + 1) + ob_hs XH (e + 1) ≤ w) :
    ∃ u' v', ob_S b B (w + 4) u' v' ∧ (∀ post : SX → Prop, post u' → wpX_makeOp post (nI n, nI (e+1), nI b, deep, res, thr, thn, (fun zz => nI (CL zz)), cStr, cOp, cA, cB, (fun zz => nI (OK zz)), oKin, oOpen, xFc, xFs, xPc, xKo, xPk, (fun zz => ob_xa (tw zz) (te zz) (tc zz)), pVal, xSet, (fun zz => nI (S zz)), aOut, aVar, (fun zz => nI (FC zz)), (fun zz => nI (FP zz)), (fun zz => nI (FA zz)), (fun zz => nI (FH zz)), (fun zz => nI (XH zz)), (fun zz => nI (FT zz)), fSelf, xHeld, stk, (fun zz => nI (TA zz)), (fun zz => nI (TH zz)), xArg) 14 a) ∧ (∀ post : SY → Prop, post v' → wpY_build post (nI n, nI m, yGiven, nI (e+1), deep, nI b, thr, thn, res, cStr, (fun zz => nI (CL zz)), cOp, cA, cB, (fun zz => nI (OK zz)), oKin, yCo, yAr, oOpen, (fun zz => nI (M zz)), (fun zz => ob_yf (tw zz) (te zz) (tc zz)), yPair, ySeen, pVal, ySet, (fun zz => ob_th (S zz)), yStay, aOut, aVar, yArg, (fun zz => nI (FC zz)), (fun zz => nI (FA zz)), (fun zz => nI (FP zz)), (fun zz => nI (FH zz)), yHan, (fun zz => nI (FT zz)), (fun zz => nI (TA zz)), (fun zz => nI (TH zz)), fSelf, yKept, stk) 14 a) := by
  have hn := R.2.1.1.2
  by_cases h32 : n = 32
  · refine ⟨_, _, ob_S_mk (deep := deep) (cStr := cStr) (oOpen := oOpen) (te := te) (xArg := xArg) (ySeen := ySeen) (yArg := yArg) (yGiven := yGiven) (ob_raise R (ob_V_Ra n)) (by omega : m ≤ B) (by omega), fun post hp => ?_, fun post hp => ?_⟩
    · unfold wpX_makeOp
      refine br_f (by decide) (br_f (by decide) (br_t rfl ?_))
      refine ob_newXf h32 _ ?_
      unfold wpX_pushNew
      exact br_f (by decide) hp
    · unfold wpY_build
      refine br_f (by decide) (nm_e ⟨1, ?_⟩)
      unfold wY_build_17
      exact br_t (by decide) (br_t (by rw [h32]; rfl) hp)
  · have h3 := R.2.1.1.1
    have R1 := ob_newR (kd := 0) (pr := 0) (xFc' := xFc) (xFs' := xFs) (yCo' := upd yCo n a) (yAr' := upd yAr n (-1)) R (by omega) (Or.inr ⟨0, by omega, rfl⟩) (by decide) (by decide) (fun q hq => ⟨rfl, rfl, pk_un (by omega), pk_un (by omega)⟩) (fun h => absurd h (by decide))
    obtain ⟨res', thr', thn', FH', stk', R2, hXp, hYp⟩ := ob_push (deep := deep) (cStr := cStr) (oOpen := (upd oOpen n 1)) (te := te) (xArg := xArg) (ySeen := ySeen) (yArg := yArg) (yGiven := yGiven) R1 (ob_V_o (o := n) (by omega))
    refine ⟨_, _, ob_S_mk (deep := deep) (cStr := cStr) (oOpen := (upd oOpen n 1)) (te := te) (xArg := xArg) (ySeen := ySeen) (yArg := yArg) (yGiven := yGiven) R2 (by omega : m ≤ B) (by omega), fun post hp => ?_, fun post hp => ?_⟩
    · unfold wpX_makeOp
      refine br_f (by decide) (br_f (by decide) (br_t rfl ?_))
      refine ob_newX (kd := 0) (by omega) _ ?_
      unfold wpX_pushNew
      refine br_t (nI_pos' (by omega)) ?_
      rw [ob_obj_toI n (by omega)]
      exact hXp _ hp
    · unfold wpY_build
      refine br_f (by decide) (nm_e ⟨1, ?_⟩)
      unfold wY_build_17
      refine br_t (by decide) (br_f (fun z => h32 ((nI_eq (b := 32) (by omega) (by decide)).mp z)) (br_t rfl ?_))
      unfold wY_build_82
      refine ob_newY (kd := 0) (by omega) (by decide) (by decide) _ ⟨1, ?_⟩
      have hin : vp_in (nI n) 32 := vp_in_nI (by omega) (by decide)
      unfold wY_build_90 wY_build_144 wY_build_176 wY_build_195
      refine br_t (by decide) (br_f (by decide) ⟨hin, ?_⟩)
      rw [ob_cl (by omega), ob_obj_toI n (by omega)]
      exact nm_e (br_f (by decide) (br_f (by decide) (hYp _ hp)))
end
end
section
/-! ===== FUNCTION, and an array's elements ===== -/
theorem ob_th_keep {S : Nat → Nat} {a : Nat} (h : S a ≠ 0) : (fun zz => ob_th (ob_um S a 2 zz)) = fun zz => ob_th (S zz) := by
  funext z
  unfold ob_um
  split
  · rename_i e
    rw [e]
    unfold ob_th
    rw [if_neg (by decide), if_neg h]
  · rfl
theorem ob_ucL {f : Nat → Int64} {i j : Nat} {x y : Int64} (h : i ≠ j) : vp_updL (vp_updL f j y) i x = vp_updL (vp_updL f i x) j y := by
  funext q
  unfold vp_updL
  by_cases h1 : q = i
  · rw [if_pos h1]
    by_cases h2 : q = j
    · omega
    · rw [if_neg h2, if_pos h1]
  · rw [if_neg h1]
    by_cases h2 : q = j
    · rw [if_pos h2, if_pos h2]
    · rw [if_neg h2, if_neg h2, if_neg h1]
section
variable {n : Nat} {d : Nat} {b : Nat} {m : Nat} {deep : Int32} {res : Int64} {thr : Int32} {thn : Int64} {CL : Nat → Nat} {cStr : Nat → Int32} {cOp : Nat → Int32} {cA : Nat → Int32} {cB : Nat → Int32} {OK : Nat → Nat} {oKin : Nat → Int32} {oOpen : Nat → Int32} {pVal : Nat → Int64} {aOut : Nat → Int32} {aVar : Nat → Int64} {FC : Nat → Nat} {FA : Nat → Nat} {FP : Nat → Nat} {FH : Nat → Nat} {FT : Nat → Nat} {fSelf : Nat → Int64} {stk : Nat → Int64} {TA : Nat → Nat} {TH : Nat → Nat} {xFc : Nat → Int32} {xFs : Nat → Int32} {xPc : Nat → Int32} {xKo : Nat → Int32} {xPk : Nat → Int32} {tw : Nat → Bool} {te : Nat → Bool} {tc : Nat → Bool} {xSet : Nat → Int64} {S : Nat → Nat} {XH : Nat → Nat} {xHeld : Nat → Int64} {xArg : Nat → Int64} {yCo : Nat → Int32} {yAr : Nat → Int32} {M : Nat → Nat} {yPair : Nat → Int32} {ySeen : Nat → Int32} {ySet : Nat → Int64} {yStay : Nat → Int32} {yArg : Nat → Int64} {yHan : Nat → Int32} {yKept : Nat → Int64} {yGiven : Int32}
variable {e k o c kd B w : Nat} {a bb pr : Int32}
theorem ob_keepR (R : ob_R n (e+1) b m res thr thn CL cOp cA cB OK oKin pVal aOut aVar FC FA FP FH FT fSelf stk TA TH xFc xFs xPc xKo xPk tw tc xSet S XH xHeld yCo yAr M yPair ySet yStay yHan yKept) : ob_R n (e+1) b m res thr thn CL cOp cA cB OK oKin pVal aOut aVar FC FA FP FH FT fSelf stk TA TH xFc xFs xPc xKo xPk tw tc xSet (ob_um S (FA e) 2) XH xHeld yCo yAr M yPair ySet (upd yStay (FA e) 1) yHan yKept := by
  obtain ⟨he, ha, hS⟩ := ob_actQ R
  obtain ⟨hC, hO, hP, hL, hY, hA, hF, hT⟩ := R
  refine ⟨hC, hO, hP, hL, hY, ob_gA_keep hA ha hS, ob_gF_S hF (fun f hf h => ?_), hT⟩
  unfold ob_um
  split
  · decide
  · exact h
theorem ob_op16 (R : ob_R n (e+1) b m res thr thn CL cOp cA cB OK oKin pVal aOut aVar FC FA FP FH FT fSelf stk TA TH xFc xFs xPc xKo xPk tw tc xSet S XH xHeld yCo yAr M yPair ySet yStay yHan yKept) (hm : m + 5 ≤ B) (hw : 4 * (e + 1) + ob_hs XH (e + 1) ≤ w) (hc : c ≤ 7) :
    ∃ u' v', ob_S b B (w + 4) u' v' ∧ (∀ post : SX → Prop, post u' → wpX_makeOp post (nI n, nI (e+1), nI b, deep, res, thr, thn, (fun zz => nI (CL zz)), cStr, cOp, cA, cB, (fun zz => nI (OK zz)), oKin, oOpen, xFc, xFs, xPc, xKo, xPk, (fun zz => ob_xa (tw zz) (te zz) (tc zz)), pVal, xSet, (fun zz => nI (S zz)), aOut, aVar, (fun zz => nI (FC zz)), (fun zz => nI (FP zz)), (fun zz => nI (FA zz)), (fun zz => nI (FH zz)), (fun zz => nI (XH zz)), (fun zz => nI (FT zz)), fSelf, xHeld, stk, (fun zz => nI (TA zz)), (fun zz => nI (TH zz)), xArg) 16 (nI c)) ∧ (∀ post : SY → Prop, post v' → wpY_build post (nI n, nI m, yGiven, nI (e+1), deep, nI b, thr, thn, res, cStr, (fun zz => nI (CL zz)), cOp, cA, cB, (fun zz => nI (OK zz)), oKin, yCo, yAr, oOpen, (fun zz => nI (M zz)), (fun zz => ob_yf (tw zz) (te zz) (tc zz)), yPair, ySeen, pVal, ySet, (fun zz => ob_th (S zz)), yStay, aOut, aVar, yArg, (fun zz => nI (FC zz)), (fun zz => nI (FA zz)), (fun zz => nI (FP zz)), (fun zz => nI (FH zz)), yHan, (fun zz => nI (FT zz)), (fun zz => nI (TA zz)), (fun zz => nI (TH zz)), fSelf, yKept, stk) 16 (nI c)) := by
  obtain ⟨he, ha, hS⟩ := ob_actQ R
  have hn := R.2.1.1.2
  have h3 := R.2.1.1.1
  by_cases h32 : n = 32
  · refine ⟨_, _, ob_S_mk (deep := deep) (cStr := cStr) (oOpen := oOpen) (te := te) (xArg := xArg) (ySeen := ySeen) (yArg := yArg) (yGiven := yGiven) (ob_raise R (ob_V_Ra n)) (by omega : m ≤ B) (by omega), fun post hp => ?_, fun post hp => ?_⟩
    · unfold wpX_makeOp
      refine br_f (by decide) (br_f (by decide) (br_f (by decide) (br_f (by decide) (br_t rfl ?_))))
      unfold wpX_makeFunction wpX_newFunction
      simp (disch := first | omega | decide) only [forall_eq, not_true, not_false_iff, false_implies, true_implies, true_and, and_true, ob_sub1, Nat.add_sub_cancel, nI_1, ob_ix, ob_iy, ob_ix24, ob_iy24, ob_ix10, ob_iy10, ob_ix4, ob_iy4, ob_ix3, ob_iy3, ob_s1, ob_s2, ob_s3, ob_s4, ob_ltl, ob_lel, ob_eql, ob_ltr, ob_ler, ob_uN, Nat.add_one_ne_zero, ob_xs3, ob_lnn, ob_ltn, ob_eqn, Nat.not_lt_zero, Nat.zero_le, Nat.reduceEqDiff, Nat.reduceLeDiff, Nat.reduceLT, ob_eqll, Int32.reduceLT, Int32.reduceLE, eq_self_iff_true]
      refine ob_newXf h32 _ ?_
      refine br_t (by decide) (br_t (by decide) ?_)
      unfold wX_makeFunction_30 wpX_pushNew
      exact br_f (by decide) hp
    · unfold wpY_build
      refine br_f (by decide) (nm_e ⟨1, ?_⟩)
      unfold wY_build_17
      exact br_t (by decide) (br_t (by rw [h32]; rfl) hp)
  · have R1 := ob_newR (kd := 2) (pr := 1) (xFc' := upd xFc n (nI c)) (xFs' := upd xFs n (nI (FA e))) (yCo' := upd yCo n (nI c)) (yAr' := upd yAr n (nI (FA e))) (ob_keepR R) (by omega) (Or.inr ⟨1, by omega, rfl⟩) (by decide) (by decide) (fun q hq => ⟨pk_un (by omega), pk_un (by omega), pk_un (by omega), pk_un (by omega)⟩) (fun _ => ⟨by rw [pk_us, pk_us], ⟨c, by omega, pk_us⟩, by rw [pk_us, pk_us], by rw [pk_us]; exact Or.inr ⟨FA e, ha, rfl, ob_um_s _ _ _⟩⟩)
    obtain ⟨res', thr', thn', FH', stk', R2, hXp, hYp⟩ := ob_push (deep := deep) (cStr := cStr) (oOpen := (upd oOpen n 1)) (te := te) (xArg := xArg) (ySeen := ySeen) (yArg := yArg) (yGiven := yGiven) R1 (ob_V_o (o := n) (by omega))
    refine ⟨_, _, ob_S_mk (deep := deep) (cStr := cStr) (oOpen := (upd oOpen n 1)) (te := te) (xArg := xArg) (ySeen := ySeen) (yArg := yArg) (yGiven := yGiven) R2 (by omega : m ≤ B) (by omega), fun post hp => ?_, fun post hp => ?_⟩
    · unfold wpX_makeOp
      refine br_f (by decide) (br_f (by decide) (br_f (by decide) (br_f (by decide) (br_t rfl ?_))))
      unfold wpX_makeFunction wpX_newFunction
      simp (disch := first | omega | decide) only [forall_eq, not_true, not_false_iff, false_implies, true_implies, true_and, and_true, ob_sub1, Nat.add_sub_cancel, nI_1, ob_ix, ob_iy, ob_ix24, ob_iy24, ob_ix10, ob_iy10, ob_ix4, ob_iy4, ob_ix3, ob_iy3, ob_s1, ob_s2, ob_s3, ob_s4, ob_ltl, ob_lel, ob_eql, ob_ltr, ob_ler, ob_uN, Nat.add_one_ne_zero, ob_xs3, ob_lnn, ob_ltn, ob_eqn, Nat.not_lt_zero, Nat.zero_le, Nat.reduceEqDiff, Nat.reduceLeDiff, Nat.reduceLT, ob_eqll, Int32.reduceLT, Int32.reduceLE, eq_self_iff_true]
      refine ob_newX (kd := 2) (by omega) _ ?_
      refine br_f (nI_pos (by omega)) ?_
      simp (disch := first | omega | decide) only [ob_uN2, forall_eq, not_true, not_false_iff, false_implies, true_implies, true_and, and_true, ob_sub1, Nat.add_sub_cancel, nI_1, ob_ix, ob_iy, ob_ix24, ob_iy24, ob_ix10, ob_iy10, ob_ix4, ob_iy4, ob_ix3, ob_iy3, ob_s1, ob_s2, ob_s3, ob_s4, ob_ltl, ob_lel, ob_eql, ob_ltr, ob_ler, ob_uN, Nat.add_one_ne_zero, ob_xs3, ob_lnn, ob_ltn, ob_eqn, Nat.not_lt_zero, Nat.zero_le, Nat.reduceEqDiff, Nat.reduceLeDiff, Nat.reduceLT, ob_eqll, Int32.reduceLT, Int32.reduceLE, eq_self_iff_true]
      unfold wX_makeFunction_30 wpX_pushNew
      refine br_t (nI_pos' (by omega)) ?_
      rw [ob_obj_toI n (by omega)]
      exact hXp _ hp
    · unfold wpY_build
      refine br_f (by decide) (nm_e ⟨1, ?_⟩)
      unfold wY_build_17
      refine br_t (by decide) (br_f (fun z => h32 ((nI_eq (b := 32) (by omega) (by decide)).mp z)) (br_f (by decide) (br_f (by decide) ?_)))
      unfold wY_build_82
      refine ob_newY (kd := 2) (by omega) (by decide) (by decide) _ ⟨1, ?_⟩
      unfold wY_build_90 wY_build_144 wY_build_176 wY_build_195
      refine br_t (by decide) (br_f (by decide) ?_)
      rw [ob_th_keep hS] at hYp hp
      simp (disch := first | omega | decide) only [ob_uu, pk_us, ob_nar1, ob_obj_toI, forall_eq, not_true, not_false_iff, false_implies, true_implies, true_and, and_true, ob_sub1, Nat.add_sub_cancel, nI_1, ob_ix, ob_iy, ob_ix24, ob_iy24, ob_ix10, ob_iy10, ob_ix4, ob_iy4, ob_ix3, ob_iy3, ob_s1, ob_s2, ob_s3, ob_s4, ob_ltl, ob_lel, ob_eql, ob_ltr, ob_ler, ob_uN, Nat.add_one_ne_zero, ob_xs3, ob_lnn, ob_ltn, ob_eqn, Nat.not_lt_zero, Nat.zero_le, Nat.reduceEqDiff, Nat.reduceLeDiff, Nat.reduceLT, ob_eqll, Int32.reduceLT, Int32.reduceLE, eq_self_iff_true]
      exact hYp _ hp
end
end
section
/-! ===== arrays ===== -/
theorem ob_uF2 (tw te tc : Nat → Bool) (i : Nat) : upd (fun zz => ob_yf (tw zz) (te zz) (tc zz)) i 2 = fun zz => ob_yf (ob_ub tw i true zz) (ob_ub te i false zz) (ob_ub tc i false zz) := ob_uF tw te tc i true false false
theorem ob_uF50 (tw te tc : Nat → Bool) (i : Nat) : upd (fun zz => ob_yf (tw zz) (te zz) (tc zz)) i 50 = fun zz => ob_yf (ob_ub tw i true zz) (ob_ub te i true zz) (ob_ub tc i true zz) := ob_uF tw te tc i true true true
section
variable {n : Nat} {d : Nat} {b : Nat} {m : Nat} {deep : Int32} {res : Int64} {thr : Int32} {thn : Int64} {CL : Nat → Nat} {cStr : Nat → Int32} {cOp : Nat → Int32} {cA : Nat → Int32} {cB : Nat → Int32} {OK : Nat → Nat} {oKin : Nat → Int32} {oOpen : Nat → Int32} {pVal : Nat → Int64} {aOut : Nat → Int32} {aVar : Nat → Int64} {FC : Nat → Nat} {FA : Nat → Nat} {FP : Nat → Nat} {FH : Nat → Nat} {FT : Nat → Nat} {fSelf : Nat → Int64} {stk : Nat → Int64} {TA : Nat → Nat} {TH : Nat → Nat} {xFc : Nat → Int32} {xFs : Nat → Int32} {xPc : Nat → Int32} {xKo : Nat → Int32} {xPk : Nat → Int32} {tw : Nat → Bool} {te : Nat → Bool} {tc : Nat → Bool} {xSet : Nat → Int64} {S : Nat → Nat} {XH : Nat → Nat} {xHeld : Nat → Int64} {xArg : Nat → Int64} {yCo : Nat → Int32} {yAr : Nat → Int32} {M : Nat → Nat} {yPair : Nat → Int32} {ySeen : Nat → Int32} {ySet : Nat → Int64} {yStay : Nat → Int32} {yArg : Nat → Int64} {yHan : Nat → Int32} {yKept : Nat → Int64} {yGiven : Int32}
variable {e k o c l kd B w : Nat} {a bb pr : Int32} {yCo' : Nat → Int32}
theorem ob_newYa (hn : n < 32) (post : Int32 → SY → Prop) (hp : post (nI n) (nI (n+1), nI (m+1), yGiven, nI d, deep, nI b, thr, thn, res, cStr, (fun zz => nI (CL zz)), cOp, cA, cB, (fun zz => nI ((ob_um OK n 1) zz)), (upd oKin n pr), yCo, (upd yAr n (-1)), (upd oOpen n 1), (fun zz => nI ((ob_um M (32 * n + 16) (m + 1)) zz)), (fun zz => ob_yf ((ob_ub tw (32 * n + 16) true) zz) ((ob_ub te (32 * n + 16) false) zz) ((ob_ub tc (32 * n + 16) false) zz)), (upd yPair (32 * n + 16) 0), ySeen, (vp_updL pVal (32 * n + 16) 0), ySet, (fun zz => ob_th (S zz)), yStay, aOut, aVar, yArg, (fun zz => nI (FC zz)), (fun zz => nI (FA zz)), (fun zz => nI (FP zz)), (fun zz => nI (FH zz)), yHan, (fun zz => nI (FT zz)), (fun zz => nI (TA zz)), (fun zz => nI (TH zz)), fSelf, yKept, stk)) : wpY_create post (nI n, nI m, yGiven, nI d, deep, nI b, thr, thn, res, cStr, (fun zz => nI (CL zz)), cOp, cA, cB, (fun zz => nI (OK zz)), oKin, yCo, yAr, oOpen, (fun zz => nI (M zz)), (fun zz => ob_yf (tw zz) (te zz) (tc zz)), yPair, ySeen, pVal, ySet, (fun zz => ob_th (S zz)), yStay, aOut, aVar, yArg, (fun zz => nI (FC zz)), (fun zz => nI (FA zz)), (fun zz => nI (FP zz)), (fun zz => nI (FH zz)), yHan, (fun zz => nI (FT zz)), (fun zz => nI (TA zz)), (fun zz => nI (TH zz)), fSelf, yKept, stk) 1 pr := by
  have e16 : 32 * nI n + 16 = nI (32 * n + 16) := ob_iy n 16
  unfold wpY_create wpY_appear
  simp (disch := first | omega | decide) only [ob_nar1, ob_nar0, e16, ob_uN1, ob_uF2, forall_eq, not_true, not_false_iff, false_implies, true_implies, true_and, and_true, ob_sub1, Nat.add_sub_cancel, nI_1, ob_ix, ob_iy, ob_ix24, ob_iy24, ob_ix10, ob_iy10, ob_ix4, ob_iy4, ob_ix3, ob_iy3, ob_s1, ob_s2, ob_s3, ob_s4, ob_ltl, ob_lel, ob_eql, ob_ltr, ob_ler, ob_uN, Nat.add_one_ne_zero, ob_xs3, ob_lnn, ob_ltn, ob_eqn, Nat.not_lt_zero, Nat.zero_le, Nat.reduceEqDiff, Nat.reduceLeDiff, Nat.reduceLT, ob_eqll, Int32.reduceLT, Int32.reduceLE, eq_self_iff_true]
  exact hp
/-- an array is new: its LENGTH -/
theorem ob_arrR (R : ob_R n d b m res thr thn CL cOp cA cB OK oKin pVal aOut aVar FC FA FP FH FT fSelf stk TA TH xFc xFs xPc xKo xPk tw tc xSet S XH xHeld yCo yAr M yPair ySet yStay yHan yKept) (hn : n < 32) (hl : l ≤ 16) (hlo : ∀ q, q < n → yCo' q = yCo q) :
    ob_R (n+1) d b (m+1) res thr thn CL cOp cA cB (ob_um OK n 1) (upd oKin n 2) (vp_updL pVal (32 * n + 16) (lN l)) aOut aVar FC FA FP FH FT fSelf stk TA TH xFc xFs (upd (upd xPc n 0) n (nI (0 + 1))) (upd xKo (32 * n + 0) (nI 16)) (upd (ob_zk xPk n 32) (32 * n + 16) 1) (ob_ub tw (32 * n + 16) true) (ob_ub tc (32 * n + 16) false) (vp_updL xSet (32 * n + 16) 8589934592) S XH xHeld yCo' (upd yAr n (-1)) (ob_um M (32 * n + 16) (m + 1)) (upd yPair (32 * n + 16) 0) ySet yStay yHan yKept := by
  obtain ⟨hC, hO, hP, hL, hY, hA, hF, hT⟩ := R
  have h3 := hO.1
  have hMz : M (32 * n + 16) = 0 := hP.2.1 _ (by omega)
  obtain ⟨g1, g2, g3⟩ := ob_newG (kd := 1) (pr := 2) hO hP hL hn (Or.inr ⟨2, by omega, rfl⟩) (by decide)
  obtain ⟨c, hc, hpc, g4⟩ := ob_gL_add (o := n) (k := 16) g3 g2.1 (by omega) (by decide) hMz
  have hc0 : c = 0 := by
    rw [pk_us] at hpc
    exact ((nI_eq (a := 0) (by decide) (by omega)).mp hpc).symm
  subst hc0
  refine ⟨hC, g1, ?_, g4, ?_, ob_newA hA (fun q hq => ⟨rfl, rfl, hlo q hq, pk_un (by omega)⟩) (fun h => absurd h (by decide)), ob_gF_up (by omega) hF, ob_gT_up hT (by omega)⟩
  · refine ob_gP_c (i := 32 * n + 16) g2 (fun j => ?_) (fun j hj => ?_) (fun j hj hne => ?_) (fun _ => ?_)
    · unfold ob_um
      have := hP.1 j
      split <;> omega
    · rw [ob_um_n _ _ (by omega)]
      exact hP.2.1 j (by omega)
    · exact ⟨ob_um_n _ _ hne, pk_uLn hne, pk_un hne, ob_ub_n _ _ hne, pk_uLn hne, pk_un hne, rfl⟩
    · rw [ob_um_s, pk_uLs, pk_us, pk_us]
      exact Or.inr ⟨by omega, ob_lNV _ (by omega), Or.inl ⟨rfl, rfl⟩⟩
  · intro q hq h1
    by_cases z : q = n
    · subst z
      rw [ob_um_s, pk_us, ob_ub_s, pk_uLs]
      refine ⟨by omega, rfl, rfl, l, hl, rfl, fun j hj hj2 => ?_⟩
      rw [ob_um_n _ _ (by omega)]
      exact hP.2.1 _ (by omega)
    · rw [ob_um_n _ _ z] at h1
      obtain ⟨a1, a2, a3, l2, a4, a5, a6⟩ := hY q (by omega) h1
      refine ⟨by rw [ob_um_n _ _ (by omega)]; exact a1, by rw [pk_un (by omega)]; exact a2, by rw [ob_ub_n _ _ (by omega)]; exact a3, l2, a4, by rw [pk_uLn (by omega)]; exact a5, fun j hj hj2 => ?_⟩
      rw [ob_um_n _ _ (by omega)]
      exact a6 j hj hj2
/-- the component makes an array -/
theorem ob_arrX (hn : n < 32) (hl : l ≤ 16) (post : Int32 → SX → Prop) (hp : post (nI n) (nI (n+1), nI d, nI b, deep, res, thr, thn, (fun zz => nI (CL zz)), cStr, cOp, cA, cB, (fun zz => nI ((ob_um OK n 1) zz)), (upd oKin n 2), (upd oOpen n 1), xFc, xFs, (upd (upd xPc n 0) n (nI (0 + 1))), (upd xKo (32 * n + 0) (nI 16)), (upd (ob_zk xPk n 32) (32 * n + 16) 1), (fun zz => ob_xa ((ob_ub tw (32 * n + 16) true) zz) ((ob_ub te (32 * n + 16) false) zz) ((ob_ub tc (32 * n + 16) false) zz)), (vp_updL pVal (32 * n + 16) (lN l)), (vp_updL xSet (32 * n + 16) 8589934592), (fun zz => nI (S zz)), aOut, aVar, (fun zz => nI (FC zz)), (fun zz => nI (FP zz)), (fun zz => nI (FA zz)), (fun zz => nI (FH zz)), (fun zz => nI (XH zz)), (fun zz => nI (FT zz)), fSelf, xHeld, stk, (fun zz => nI (TA zz)), (fun zz => nI (TH zz)), xArg)) : wpX_newArray post (nI n, nI d, nI b, deep, res, thr, thn, (fun zz => nI (CL zz)), cStr, cOp, cA, cB, (fun zz => nI (OK zz)), oKin, oOpen, xFc, xFs, xPc, xKo, xPk, (fun zz => ob_xa (tw zz) (te zz) (tc zz)), pVal, xSet, (fun zz => nI (S zz)), aOut, aVar, (fun zz => nI (FC zz)), (fun zz => nI (FP zz)), (fun zz => nI (FA zz)), (fun zz => nI (FH zz)), (fun zz => nI (XH zz)), (fun zz => nI (FT zz)), fSelf, xHeld, stk, (fun zz => nI (TA zz)), (fun zz => nI (TH zz)), xArg) (nI l) := by
  unfold wpX_newArray
  refine ob_newX (kd := 1) hn _ ?_
  refine br_f (nI_pos (by omega)) ?_
  rw [nI_l (by omega)]
  refine ob_stXn (c := 0) (k := 16) (sV := true) (sG := false) (sS := false) (sW := true) (sE := false) (sC := false) (oW := true) (oE := false) (oC := false) hn (by decide) ?_ (by decide) pk_us _ hp
  unfold ob_zk
  rw [if_pos (by omega)]
theorem ob_arrXf (hn : n = 32) (post : Int32 → SX → Prop) (hp : post (-1) (nI n, nI d, nI b, deep, res, thr, thn, (fun zz => nI (CL zz)), cStr, cOp, cA, cB, (fun zz => nI (OK zz)), oKin, oOpen, xFc, xFs, xPc, xKo, xPk, (fun zz => ob_xa (tw zz) (te zz) (tc zz)), pVal, xSet, (fun zz => nI (S zz)), aOut, aVar, (fun zz => nI (FC zz)), (fun zz => nI (FP zz)), (fun zz => nI (FA zz)), (fun zz => nI (FH zz)), (fun zz => nI (XH zz)), (fun zz => nI (FT zz)), fSelf, xHeld, stk, (fun zz => nI (TA zz)), (fun zz => nI (TH zz)), xArg)) : wpX_newArray post (nI n, nI d, nI b, deep, res, thr, thn, (fun zz => nI (CL zz)), cStr, cOp, cA, cB, (fun zz => nI (OK zz)), oKin, oOpen, xFc, xFs, xPc, xKo, xPk, (fun zz => ob_xa (tw zz) (te zz) (tc zz)), pVal, xSet, (fun zz => nI (S zz)), aOut, aVar, (fun zz => nI (FC zz)), (fun zz => nI (FP zz)), (fun zz => nI (FA zz)), (fun zz => nI (FH zz)), (fun zz => nI (XH zz)), (fun zz => nI (FT zz)), fSelf, xHeld, stk, (fun zz => nI (TA zz)), (fun zz => nI (TH zz)), xArg) a := by
  unfold wpX_newArray
  exact ob_newXf hn _ (br_t (by decide) hp)
/-- arguments are popped: by popArguments, and by the loops of build and of calls -/
theorem ob_pops (C : Nat) (hC4 : C ≤ 4) : ∀ c (FH' : Nat → Nat) (xArg' : Nat → Int64) (yArg' : Nat → Int64), c ≤ C → ob_R n (e+1) b m res thr thn CL cOp cA cB OK oKin pVal aOut aVar FC FA FP FH' FT fSelf stk TA TH xFc xFs xPc xKo xPk tw tc xSet S XH xHeld yCo yAr M yPair ySet yStay yHan yKept → (∀ k, c ≤ k → k < C → yArg' k = xArg' k ∧ ob_V n (xArg' k)) →
    ∃ (FH2 : Nat → Nat) (xA yA : Nat → Int64), ob_R n (e+1) b m res thr thn CL cOp cA cB OK oKin pVal aOut aVar FC FA FP FH2 FT fSelf stk TA TH xFc xFs xPc xKo xPk tw tc xSet S XH xHeld yCo yAr M yPair ySet yStay yHan yKept ∧ (∀ k, k < C → yA k = xA k ∧ ob_V n (xA k)) ∧
      (∀ post : SX → Prop, post (nI n, nI (e+1), nI b, deep, res, thr, thn, (fun zz => nI (CL zz)), cStr, cOp, cA, cB, (fun zz => nI (OK zz)), oKin, oOpen, xFc, xFs, xPc, xKo, xPk, (fun zz => ob_xa (tw zz) (te zz) (tc zz)), pVal, xSet, (fun zz => nI (S zz)), aOut, aVar, (fun zz => nI (FC zz)), (fun zz => nI (FP zz)), (fun zz => nI (FA zz)), (fun zz => nI (FH2 zz)), (fun zz => nI (XH zz)), (fun zz => nI (FT zz)), fSelf, xHeld, stk, (fun zz => nI (TA zz)), (fun zz => nI (TH zz)), xA) → wX_popArguments_4 post (c + 1) (nI c + (-1)) (nI n) (nI (e+1)) (nI b) deep res thr thn (fun zz => nI (CL zz)) cStr cOp cA cB (fun zz => nI (OK zz)) oKin oOpen xFc xFs xPc xKo xPk (fun zz => ob_xa (tw zz) (te zz) (tc zz)) pVal xSet (fun zz => nI (S zz)) aOut aVar (fun zz => nI (FC zz)) (fun zz => nI (FP zz)) (fun zz => nI (FA zz)) (fun zz => nI (FH' zz)) (fun zz => nI (XH zz)) (fun zz => nI (FT zz)) fSelf xHeld stk (fun zz => nI (TA zz)) (fun zz => nI (TH zz)) xArg') ∧
      (∀ (post : SY → Prop) (x1 x2 x3 : Int32), wY_build_17 post x1 x2 x3 1 (nI 0 + (-1)) (nI n) (nI m) yGiven (nI (e+1)) deep (nI b) thr thn res cStr (fun zz => nI (CL zz)) cOp cA cB (fun zz => nI (OK zz)) oKin yCo yAr oOpen (fun zz => nI (M zz)) (fun zz => ob_yf (tw zz) (te zz) (tc zz)) yPair ySeen pVal ySet (fun zz => ob_th (S zz)) yStay aOut aVar yA (fun zz => nI (FC zz)) (fun zz => nI (FA zz)) (fun zz => nI (FP zz)) (fun zz => nI (FH2 zz)) yHan (fun zz => nI (FT zz)) (fun zz => nI (TA zz)) (fun zz => nI (TH zz)) fSelf yKept stk → wY_build_17 post x1 x2 x3 (c + 1) (nI c + (-1)) (nI n) (nI m) yGiven (nI (e+1)) deep (nI b) thr thn res cStr (fun zz => nI (CL zz)) cOp cA cB (fun zz => nI (OK zz)) oKin yCo yAr oOpen (fun zz => nI (M zz)) (fun zz => ob_yf (tw zz) (te zz) (tc zz)) yPair ySeen pVal ySet (fun zz => ob_th (S zz)) yStay aOut aVar yArg' (fun zz => nI (FC zz)) (fun zz => nI (FA zz)) (fun zz => nI (FP zz)) (fun zz => nI (FH' zz)) yHan (fun zz => nI (FT zz)) (fun zz => nI (TA zz)) (fun zz => nI (TH zz)) fSelf yKept stk) ∧
      (∀ (post : SY → Prop) (x1 x2 : Int32), wY_calls_4 post x1 x2 1 (nI 0 + (-1)) (nI n) (nI m) yGiven (nI (e+1)) deep (nI b) thr thn res cStr (fun zz => nI (CL zz)) cOp cA cB (fun zz => nI (OK zz)) oKin yCo yAr oOpen (fun zz => nI (M zz)) (fun zz => ob_yf (tw zz) (te zz) (tc zz)) yPair ySeen pVal ySet (fun zz => ob_th (S zz)) yStay aOut aVar yA (fun zz => nI (FC zz)) (fun zz => nI (FA zz)) (fun zz => nI (FP zz)) (fun zz => nI (FH2 zz)) yHan (fun zz => nI (FT zz)) (fun zz => nI (TA zz)) (fun zz => nI (TH zz)) fSelf yKept stk → wY_calls_4 post x1 x2 (c + 1) (nI c + (-1)) (nI n) (nI m) yGiven (nI (e+1)) deep (nI b) thr thn res cStr (fun zz => nI (CL zz)) cOp cA cB (fun zz => nI (OK zz)) oKin yCo yAr oOpen (fun zz => nI (M zz)) (fun zz => ob_yf (tw zz) (te zz) (tc zz)) yPair ySeen pVal ySet (fun zz => ob_th (S zz)) yStay aOut aVar yArg' (fun zz => nI (FC zz)) (fun zz => nI (FA zz)) (fun zz => nI (FP zz)) (fun zz => nI (FH' zz)) yHan (fun zz => nI (FT zz)) (fun zz => nI (TA zz)) (fun zz => nI (TH zz)) fSelf yKept stk) := by
  intro c
  induction c with
  | zero =>
    intro FH' xArg' yArg' _ R harg
    refine ⟨FH', xArg', yArg', R, fun k hk => harg k (by omega) hk, fun post hp => ?_, fun post x1 x2 x3 hp => hp, fun post x1 x2 hp => hp⟩
    unfold wX_popArguments_4
    exact br_t (by decide) hp
  | succ c ih =>
    intro FH' xArg' yArg' hcC R harg
    obtain ⟨r, FH1, R1, hVr, hH, hX1, hY1⟩ := ob_pop (deep := deep) (cStr := cStr) (oOpen := oOpen) (te := te) (xArg := xArg') (ySeen := ySeen) (yArg := yArg') (yGiven := yGiven) R
    obtain ⟨FH2, xA, yA, R2, hA2, hX2, hY2, hZ2⟩ := ih FH1 (vp_updL xArg' c r) (vp_updL yArg' c r) (by omega) R1 (fun k hk hk2 => by
      rw [ob_uaL, ob_uaL]
      by_cases z : k = c
      · rw [if_pos z, if_pos z]
        exact ⟨rfl, hVr⟩
      · rw [if_neg z, if_neg z]
        exact harg k (by omega) hk2)
    have hin : vp_in (nI c) 4 := vp_in_nI (by omega) (by decide)
    have hcl : (nI c).toNatClampNeg = c := ob_cl (by omega)
    have hc0 : ¬ nI c < 0 := nI_pos (by omega)
    refine ⟨FH2, xA, yA, R2, hA2, fun post hp => ?_, fun post x1 x2 x3 hp => ?_, fun post x1 x2 hp => ?_⟩
    · rw [pk_m1]
      unfold wX_popArguments_4
      refine br_f hc0 (hX1 _ ⟨hin, ?_⟩)
      rw [hcl]
      exact nm_e (nm_e (hX2 post hp))
    · rw [pk_m1]
      unfold wY_build_17
      refine br_f hc0 (hY1 _ ⟨hin, ?_⟩)
      rw [hcl]
      exact nm_e (nm_e (hY2 post x1 x2 x3 hp))
    · rw [pk_m1]
      unfold wY_calls_4
      refine br_f hc0 (hY1 _ ⟨hin, ?_⟩)
      rw [hcl]
      exact nm_e (nm_e (hZ2 post x1 x2 hp))
end
end
section
/-! ===== ARRAY ===== -/
section
variable {n : Nat} {d : Nat} {b : Nat} {m : Nat} {deep : Int32} {res : Int64} {thr : Int32} {thn : Int64} {CL : Nat → Nat} {cStr : Nat → Int32} {cOp : Nat → Int32} {cA : Nat → Int32} {cB : Nat → Int32} {OK : Nat → Nat} {oKin : Nat → Int32} {oOpen : Nat → Int32} {pVal : Nat → Int64} {aOut : Nat → Int32} {aVar : Nat → Int64} {FC : Nat → Nat} {FA : Nat → Nat} {FP : Nat → Nat} {FH : Nat → Nat} {FT : Nat → Nat} {fSelf : Nat → Int64} {stk : Nat → Int64} {TA : Nat → Nat} {TH : Nat → Nat} {xFc : Nat → Int32} {xFs : Nat → Int32} {xPc : Nat → Int32} {xKo : Nat → Int32} {xPk : Nat → Int32} {tw : Nat → Bool} {te : Nat → Bool} {tc : Nat → Bool} {xSet : Nat → Int64} {S : Nat → Nat} {XH : Nat → Nat} {xHeld : Nat → Int64} {xArg : Nat → Int64} {yCo : Nat → Int32} {yAr : Nat → Int32} {M : Nat → Nat} {yPair : Nat → Int32} {ySeen : Nat → Int32} {ySet : Nat → Int64} {yStay : Nat → Int32} {yArg : Nat → Int64} {yHan : Nat → Int32} {yKept : Nat → Int64} {yGiven : Int32}
variable {e k o c l kd B w : Nat} {a bb pr : Int32}
theorem ob_elems {z : Int64} (ho : o < n) (hn : n ≤ 32) (hc : c ≤ 4) (harg : ∀ k, k < c → yArg k = xArg k ∧ ob_V n (xArg k)) : ∀ t k (m' : Nat) (M' : Nat → Nat) (xPc' : Nat → Int32) (xKo' : Nat → Int32) (pVal' : Nat → Int64) (xPk' : Nat → Int32) (tw' : Nat → Bool) (te' : Nat → Bool) (tc' : Nat → Bool) (xSet' : Nat → Int64) (yPair' : Nat → Int32), t + k = c → m' + t < 2 ^ 31 →
    ob_gP n m' M' pVal' xPk' tw' xSet' yPair' ySet → ob_gL n M' xPc' xKo' → (∀ j, k ≤ j → j < 16 → M' (32 * o + j) = 0) →
    ∃ (m2 : Nat) (M2 : Nat → Nat) (xPc2 xKo2 : Nat → Int32) (pVal2 : Nat → Int64) (xPk2 : Nat → Int32) (tw2 te2 tc2 : Nat → Bool) (xSet2 : Nat → Int64) (yPair2 : Nat → Int32),
      ob_gP n m2 M2 pVal2 xPk2 tw2 xSet2 yPair2 ySet ∧ ob_gL n M2 xPc2 xKo2 ∧ m2 = m' + t ∧ (∀ j, (j < 32 * o ∨ 32 * o + 16 ≤ j) → M2 j = M' j ∧ pVal2 j = pVal' j ∧ yPair2 j = yPair' j ∧ tc2 j = tc' j) ∧ (∀ j, c ≤ j → j < 16 → M2 (32 * o + j) = 0) ∧
      (∀ post : SX → Prop, wX_makeArray_45 post (nI o) (nI n) (nI d) (nI b) deep res thr thn (fun zz => nI (CL zz)) cStr cOp cA cB (fun zz => nI (OK zz)) oKin oOpen xFc xFs xPc2 xKo2 xPk2 (fun zz => ob_xa (tw2 zz) (te2 zz) (tc2 zz)) pVal2 xSet2 (fun zz => nI (S zz)) aOut aVar (fun zz => nI (FC zz)) (fun zz => nI (FP zz)) (fun zz => nI (FA zz)) (fun zz => nI (FH zz)) (fun zz => nI (XH zz)) (fun zz => nI (FT zz)) fSelf xHeld stk (fun zz => nI (TA zz)) (fun zz => nI (TH zz)) xArg → wX_makeArray_17 post (nI c) (nI o) (t + 1) (nI k) (nI n) (nI d) (nI b) deep res thr thn (fun zz => nI (CL zz)) cStr cOp cA cB (fun zz => nI (OK zz)) oKin oOpen xFc xFs xPc' xKo' xPk' (fun zz => ob_xa (tw' zz) (te' zz) (tc' zz)) pVal' xSet' (fun zz => nI (S zz)) aOut aVar (fun zz => nI (FC zz)) (fun zz => nI (FP zz)) (fun zz => nI (FA zz)) (fun zz => nI (FH zz)) (fun zz => nI (XH zz)) (fun zz => nI (FT zz)) fSelf xHeld stk (fun zz => nI (TA zz)) (fun zz => nI (TH zz)) xArg) ∧
      (∀ (post : SY → Prop) (x1 x2 : Int32), wY_build_90 post x1 x2 (nI c) (nI o) 1 (nI c) (nI n) (nI m2) yGiven (nI d) deep (nI b) thr thn res cStr (fun zz => nI (CL zz)) cOp cA cB (fun zz => nI (OK zz)) oKin yCo yAr oOpen (fun zz => nI (M2 zz)) (fun zz => ob_yf (tw2 zz) (te2 zz) (tc2 zz)) yPair2 ySeen (vp_updL pVal2 (32 * o + 16) z) ySet (fun zz => ob_th (S zz)) yStay aOut aVar yArg (fun zz => nI (FC zz)) (fun zz => nI (FA zz)) (fun zz => nI (FP zz)) (fun zz => nI (FH zz)) yHan (fun zz => nI (FT zz)) (fun zz => nI (TA zz)) (fun zz => nI (TH zz)) fSelf yKept stk → wY_build_90 post x1 x2 (nI c) (nI o) (t + 1) (nI k) (nI n) (nI m') yGiven (nI d) deep (nI b) thr thn res cStr (fun zz => nI (CL zz)) cOp cA cB (fun zz => nI (OK zz)) oKin yCo yAr oOpen (fun zz => nI (M' zz)) (fun zz => ob_yf (tw' zz) (te' zz) (tc' zz)) yPair' ySeen (vp_updL pVal' (32 * o + 16) z) ySet (fun zz => ob_th (S zz)) yStay aOut aVar yArg (fun zz => nI (FC zz)) (fun zz => nI (FA zz)) (fun zz => nI (FP zz)) (fun zz => nI (FH zz)) yHan (fun zz => nI (FT zz)) (fun zz => nI (TA zz)) (fun zz => nI (TH zz)) fSelf yKept stk) := by
  intro t
  induction t with
  | zero =>
    intro k m' M' xPc' xKo' pVal' xPk' tw' te' tc' xSet' yPair' e hm hP hL hz
    have e' : k = c := by omega
    subst e'
    refine ⟨m', M', xPc', xKo', pVal', xPk', tw', te', tc', xSet', yPair', hP, hL, rfl, fun _ _ => ⟨rfl, rfl, rfl, rfl⟩, hz, fun post hp => ?_, fun post x1 x2 hp => hp⟩
    unfold wX_makeArray_17
    exact br_t (Int32.le_refl _) hp
  | succ t ih =>
    intro k m' M' xPc' xKo' pVal' xPk' tw' te' tc' xSet' yPair' e hm hP hL hz
    have hk : k < c := by omega
    obtain ⟨hxy, hV⟩ := harg k hk
    have hMz := hz k (Nat.le_refl _) (by omega)
    have hpk := (ob_sl_0 (hP.2.2 (32 * o + k) (by omega))).mpr hMz
    obtain ⟨cc, hcc, hpc, hL1⟩ := ob_gL_add (o := o) (k := k) hL hP.1 ho (by omega) hMz
    have hP1 : ob_gP n (m' + 1) (ob_um M' (32 * o + k) (m' + 1)) (vp_updL pVal' (32 * o + k) (xArg k)) (upd xPk' (32 * o + k) 1) (ob_ub tw' (32 * o + k) true) (vp_updL xSet' (32 * o + k) 8589934592) (upd yPair' (32 * o + k) 0) ySet := by
      refine ob_gP_c (i := 32 * o + k) hP (fun j => ?_) (fun j hj => ?_) (fun j hj hne => ?_) (fun _ => ?_)
      · unfold ob_um
        have := hP.1 j
        split <;> omega
      · rw [ob_um_n _ _ (by omega)]
        exact hP.2.1 j hj
      · exact ⟨ob_um_n _ _ hne, pk_uLn hne, pk_un hne, ob_ub_n _ _ hne, pk_uLn hne, pk_un hne, rfl⟩
      · rw [ob_um_s, pk_uLs, pk_us, pk_us]
        exact Or.inr ⟨by omega, hV, Or.inl ⟨rfl, rfl⟩⟩
    obtain ⟨m2, M2, xPc2, xKo2, pVal2, xPk2, tw2, te2, tc2, xSet2, yPair2, g1, g2, g3, g4, g5, g6, g7⟩ := ih (k + 1) (m' + 1) (ob_um M' (32 * o + k) (m' + 1)) (upd xPc' o (nI (cc + 1))) (upd xKo' (32 * o + cc) (nI k)) (vp_updL pVal' (32 * o + k) (xArg k)) (upd xPk' (32 * o + k) 1) (ob_ub tw' (32 * o + k) true) (ob_ub te' (32 * o + k) true) (ob_ub tc' (32 * o + k) true) (vp_updL xSet' (32 * o + k) 8589934592) (upd yPair' (32 * o + k) 0) (by omega) (by omega) hP1 hL1 (fun j hj hj2 => by rw [ob_um_n _ _ (by omega)]; exact hz j (by omega) hj2)
    refine ⟨m2, M2, xPc2, xKo2, pVal2, xPk2, tw2, te2, tc2, xSet2, yPair2, g1, g2, by omega, fun j hj => ?_, g5, fun post hp => ?_, fun post x1 x2 hp => ?_⟩
    · obtain ⟨q1, q2, q3, q4⟩ := g4 j hj
      rw [q1, q2, q3, q4]
      exact ⟨ob_um_n _ _ (by omega), pk_uLn (by omega), pk_un (by omega), ob_ub_n _ _ (by omega)⟩
    · have hin : vp_in (nI k) 4 := vp_in_nI (by omega) (by decide)
      have hcl : (nI k).toNatClampNeg = k := ob_cl (by omega)
      unfold wX_makeArray_17
      refine br_f (nI_ge (by omega) (by omega)) ⟨hin, ?_⟩
      rw [hcl]
      refine ob_stXn (c := cc) (sV := true) (sG := false) (sS := false) (sW := true) (sE := true) (sC := true) (oW := true) (oE := true) (oC := true) (by omega) (by omega) hpk hcc hpc _ ?_
      rw [nI_1]
      exact nm_e (g6 post hp)
    · have hin : vp_in (nI k) 4 := vp_in_nI (by omega) (by decide)
      have hcl : (nI k).toNatClampNeg = k := ob_cl (by omega)
      have hcm := ob_ucL (f := pVal') (i := 32 * o + k) (j := 32 * o + 16) (x := xArg k) (y := z) (by omega)
      have hg7 := g7 post x1 x2 hp
      unfold wY_build_90
      refine br_f (nI_ge (by omega) (by omega)) ⟨hin, ?_⟩
      rw [hcl, hxy]
      unfold wpY_appear
      simp (disch := first | omega | decide) only [ob_nar0, ob_uF50, hcm, forall_eq, not_true, not_false_iff, false_implies, true_implies, true_and, and_true, ob_sub1, Nat.add_sub_cancel, nI_1, ob_ix, ob_iy, ob_ix24, ob_iy24, ob_ix10, ob_iy10, ob_ix4, ob_iy4, ob_ix3, ob_iy3, ob_s1, ob_s2, ob_s3, ob_s4, ob_ltl, ob_lel, ob_eql, ob_ltr, ob_ler, ob_uN, Nat.add_one_ne_zero, ob_xs3, ob_lnn, ob_ltn, ob_eqn, Nat.not_lt_zero, Nat.zero_le, Nat.reduceEqDiff, Nat.reduceLeDiff, Nat.reduceLT, ob_eqll, Int32.reduceLT, Int32.reduceLE, eq_self_iff_true]
      exact hg7
theorem ob_op15 (R : ob_R n (e+1) b m res thr thn CL cOp cA cB OK oKin pVal aOut aVar FC FA FP FH FT fSelf stk TA TH xFc xFs xPc xKo xPk tw tc xSet S XH xHeld yCo yAr M yPair ySet yStay yHan yKept) (hm : m + 5 ≤ B) (hB : B < 2 ^ 31) (hw : 4 * (e + 1) + ob_hs XH (e + 1) ≤ w) (hc : c ≤ 4) :
    ∃ u' v', ob_S b B (w + 4) u' v' ∧ (∀ post : SX → Prop, post u' → wpX_makeOp post (nI n, nI (e+1), nI b, deep, res, thr, thn, (fun zz => nI (CL zz)), cStr, cOp, cA, cB, (fun zz => nI (OK zz)), oKin, oOpen, xFc, xFs, xPc, xKo, xPk, (fun zz => ob_xa (tw zz) (te zz) (tc zz)), pVal, xSet, (fun zz => nI (S zz)), aOut, aVar, (fun zz => nI (FC zz)), (fun zz => nI (FP zz)), (fun zz => nI (FA zz)), (fun zz => nI (FH zz)), (fun zz => nI (XH zz)), (fun zz => nI (FT zz)), fSelf, xHeld, stk, (fun zz => nI (TA zz)), (fun zz => nI (TH zz)), xArg) 15 (nI c)) ∧ (∀ post : SY → Prop, post v' → wpY_build post (nI n, nI m, yGiven, nI (e+1), deep, nI b, thr, thn, res, cStr, (fun zz => nI (CL zz)), cOp, cA, cB, (fun zz => nI (OK zz)), oKin, yCo, yAr, oOpen, (fun zz => nI (M zz)), (fun zz => ob_yf (tw zz) (te zz) (tc zz)), yPair, ySeen, pVal, ySet, (fun zz => ob_th (S zz)), yStay, aOut, aVar, yArg, (fun zz => nI (FC zz)), (fun zz => nI (FA zz)), (fun zz => nI (FP zz)), (fun zz => nI (FH zz)), yHan, (fun zz => nI (FT zz)), (fun zz => nI (TA zz)), (fun zz => nI (TH zz)), fSelf, yKept, stk) 15 (nI c)) := by
  have hn := R.2.1.1.2
  have h3 := R.2.1.1.1
  obtain ⟨FH2, xA, yA, R1, harg, hX1, hY1, _⟩ := ob_pops (n := n) (b := b) (m := m) (deep := deep) (res := res) (thr := thr) (thn := thn) (CL := CL) (cStr := cStr) (cOp := cOp) (cA := cA) (cB := cB) (OK := OK) (oKin := oKin) (oOpen := oOpen) (pVal := pVal) (aOut := aOut) (aVar := aVar) (FC := FC) (FA := FA) (FP := FP) (FT := FT) (fSelf := fSelf) (stk := stk) (TA := TA) (TH := TH) (xFc := xFc) (xFs := xFs) (xPc := xPc) (xKo := xKo) (xPk := xPk) (tw := tw) (te := te) (tc := tc) (xSet := xSet) (S := S) (XH := XH) (xHeld := xHeld) (yCo := yCo) (yAr := yAr) (M := M) (yPair := yPair) (ySeen := ySeen) (ySet := ySet) (yStay := yStay) (yHan := yHan) (yKept := yKept) (yGiven := yGiven) (e := e) c hc c FH xArg yArg (Nat.le_refl _) R (fun k hk hk2 => absurd hk2 (by omega))
  have hX0 : ∀ post : SX → Prop, wpX_newArray (fun r_40 u => match u with | (pf_objectCount, pf_frames, pf_begun, pf_deepest, pf_latest, pf_throwing, pf_thrown, pa_codeLength, pa_codeStrict, pa_codeOp, pa_codeA, pa_codeB, pa_objectKind, pa_prototype, pa_extensible, pa_functionCode, pa_functionScope, pa_propertyCount, pa_keyOrder, pa_propertyKind, pa_attributes, pa_valueOrGetter, pa_setterOf, pa_activationState, pa_activationAround, pa_variables, pa_frameCode, pa_frameNext, pa_frameActivation, pa_frameHeight, pa_frameHandlers, pa_frameEnding, pa_frameThis, pa_frameHeld, pa_stack, pa_handlerAt, pa_handlerHeight, pa_arguments) => (((r_40 < 0 → (wX_makeArray_45 post r_40 pf_objectCount pf_frames pf_begun pf_deepest pf_latest pf_throwing pf_thrown pa_codeLength pa_codeStrict pa_codeOp pa_codeA pa_codeB pa_objectKind pa_prototype pa_extensible pa_functionCode pa_functionScope pa_propertyCount pa_keyOrder pa_propertyKind pa_attributes pa_valueOrGetter pa_setterOf pa_activationState pa_activationAround pa_variables pa_frameCode pa_frameNext pa_frameActivation pa_frameHeight pa_frameHandlers pa_frameEnding pa_frameThis pa_frameHeld pa_stack pa_handlerAt pa_handlerHeight pa_arguments)) ∧ (¬ r_40 < 0 → (∃ n17 : Nat, wX_makeArray_17 post (nI c) r_40 n17 0 pf_objectCount pf_frames pf_begun pf_deepest pf_latest pf_throwing pf_thrown pa_codeLength pa_codeStrict pa_codeOp pa_codeA pa_codeB pa_objectKind pa_prototype pa_extensible pa_functionCode pa_functionScope pa_propertyCount pa_keyOrder pa_propertyKind pa_attributes pa_valueOrGetter pa_setterOf pa_activationState pa_activationAround pa_variables pa_frameCode pa_frameNext pa_frameActivation pa_frameHeight pa_frameHandlers pa_frameEnding pa_frameThis pa_frameHeld pa_stack pa_handlerAt pa_handlerHeight pa_arguments))))) (nI n, nI (e+1), nI b, deep, res, thr, thn, (fun zz => nI (CL zz)), cStr, cOp, cA, cB, (fun zz => nI (OK zz)), oKin, oOpen, xFc, xFs, xPc, xKo, xPk, (fun zz => ob_xa (tw zz) (te zz) (tc zz)), pVal, xSet, (fun zz => nI (S zz)), aOut, aVar, (fun zz => nI (FC zz)), (fun zz => nI (FP zz)), (fun zz => nI (FA zz)), (fun zz => nI (FH2 zz)), (fun zz => nI (XH zz)), (fun zz => nI (FT zz)), fSelf, xHeld, stk, (fun zz => nI (TA zz)), (fun zz => nI (TH zz)), xA) (nI c) → wpX_makeOp post (nI n, nI (e+1), nI b, deep, res, thr, thn, (fun zz => nI (CL zz)), cStr, cOp, cA, cB, (fun zz => nI (OK zz)), oKin, oOpen, xFc, xFs, xPc, xKo, xPk, (fun zz => ob_xa (tw zz) (te zz) (tc zz)), pVal, xSet, (fun zz => nI (S zz)), aOut, aVar, (fun zz => nI (FC zz)), (fun zz => nI (FP zz)), (fun zz => nI (FA zz)), (fun zz => nI (FH zz)), (fun zz => nI (XH zz)), (fun zz => nI (FT zz)), fSelf, xHeld, stk, (fun zz => nI (TA zz)), (fun zz => nI (TH zz)), xArg) 15 (nI c) := by
    intro post h
    unfold wpX_makeOp
    refine br_f (by decide) (br_f (by decide) (br_f (by decide) (br_t rfl ?_)))
    unfold wpX_makeArray wpX_popArguments
    refine nm_r (Int32.sub_eq_add_neg _ _) ⟨c + 1, hX1 _ h⟩
  have hY0 : ∀ post : SY → Prop, wY_build_17 post 15 (nI c) (nI c) 1 (nI 0 + (-1)) (nI n) (nI m) yGiven (nI (e+1)) deep (nI b) thr thn res cStr (fun zz => nI (CL zz)) cOp cA cB (fun zz => nI (OK zz)) oKin yCo yAr oOpen (fun zz => nI (M zz)) (fun zz => ob_yf (tw zz) (te zz) (tc zz)) yPair ySeen pVal ySet (fun zz => ob_th (S zz)) yStay aOut aVar yA (fun zz => nI (FC zz)) (fun zz => nI (FA zz)) (fun zz => nI (FP zz)) (fun zz => nI (FH2 zz)) yHan (fun zz => nI (FT zz)) (fun zz => nI (TA zz)) (fun zz => nI (TH zz)) fSelf yKept stk → wpY_build post (nI n, nI m, yGiven, nI (e+1), deep, nI b, thr, thn, res, cStr, (fun zz => nI (CL zz)), cOp, cA, cB, (fun zz => nI (OK zz)), oKin, yCo, yAr, oOpen, (fun zz => nI (M zz)), (fun zz => ob_yf (tw zz) (te zz) (tc zz)), yPair, ySeen, pVal, ySet, (fun zz => ob_th (S zz)), yStay, aOut, aVar, yArg, (fun zz => nI (FC zz)), (fun zz => nI (FA zz)), (fun zz => nI (FP zz)), (fun zz => nI (FH zz)), yHan, (fun zz => nI (FT zz)), (fun zz => nI (TA zz)), (fun zz => nI (TH zz)), fSelf, yKept, stk) 15 (nI c) := by
    intro post h
    unfold wpY_build
    refine br_t rfl (nm_r (Int32.sub_eq_add_neg _ _) ⟨c + 1, hY1 _ _ _ _ h⟩)
  by_cases h32 : n = 32
  · refine ⟨_, _, ob_S_mk (deep := deep) (cStr := cStr) (oOpen := oOpen) (te := te) (xArg := xA) (ySeen := ySeen) (yArg := yA) (yGiven := yGiven) (ob_raise R1 (ob_V_Ra n)) (by omega : m ≤ B) (by omega), fun post hp => hX0 post ?_, fun post hp => hY0 post ?_⟩
    · refine ob_arrXf h32 _ (br_t (by decide) ?_)
      unfold wX_makeArray_45 wpX_pushNew
      exact br_f (by decide) hp
    · unfold wY_build_17
      exact br_t (by decide) (br_t (by rw [h32]; rfl) hp)
  · have R2 := ob_arrR (l := c) (yCo' := upd yCo n (nI c)) R1 (by omega) (by omega) (fun q hq => pk_un (by omega))
    obtain ⟨hC, hO, hP, hL, hY, hA, hF, hT⟩ := R2
    obtain ⟨a1, a2, a3, l2, a4, a5, a6⟩ := hY n (by omega) (ob_um_s _ _ _)
    obtain ⟨m2, M2, xPc2, xKo2, pVal2, xPk2, tw2, te2, tc2, xSet2, yPair2, g1, g2, g3, g4, g5, g6, g7⟩ := ob_elems (b := b) (deep := deep) (res := res) (thr := thr) (thn := thn) (CL := CL) (cStr := cStr) (cOp := cOp) (cA := cA) (cB := cB) (aOut := aOut) (aVar := aVar) (FC := FC) (FA := FA) (FP := FP) (FT := FT) (fSelf := fSelf) (stk := stk) (TA := TA) (TH := TH) (xFc := xFc) (xFs := xFs) (S := S) (XH := XH) (xHeld := xHeld) (yCo := yCo) (ySeen := ySeen) (ySet := ySet) (yStay := yStay) (yHan := yHan) (yKept := yKept) (yGiven := yGiven) (n := n + 1) (d := e + 1) (FH := FH2) (OK := ob_um OK n 1) (oKin := upd oKin n 2) (oOpen := upd oOpen n 1) (yAr := upd yAr n (-1)) (xArg := xA) (yArg := yA) (o := n) (c := c) (z := 0) (by omega) (by omega) hc (fun k hk => ⟨(harg k hk).1, ob_V_up (by omega) (harg k hk).2⟩) c 0 (m + 1) _ _ _ _ _ _ (ob_ub te (32 * n + 16) false) _ _ _ (by omega) (by omega) hP hL (fun j hj hj2 => by
      have hz := R1.2.2.1.2.1 (32 * n + j) (by omega)
      rw [ob_um_n _ _ (by omega)]
      exact hz)
    obtain ⟨q1, q2, q3, q4⟩ := g4 (32 * n + 16) (by omega)
    have R3 : ob_R (n+1) (e+1) b m2 res thr thn CL cOp cA cB (ob_um OK n 1) (upd oKin n 2) pVal2 aOut aVar FC FA FP FH2 FT fSelf stk TA TH xFc xFs xPc2 xKo2 xPk2 tw2 tc2 xSet2 S XH xHeld (upd yCo n (nI c)) (upd yAr n (-1)) M2 yPair2 ySet yStay yHan yKept := by
      refine ⟨hC, hO, g1, g2, fun q hq h1 => ?_, hA, hF, hT⟩
      obtain ⟨b1, b2, b3, l3, b4, b5, b6⟩ := hY q hq h1
      obtain ⟨p1, p2, p3, p4⟩ := g4 (32 * q + 16) (by omega)
      refine ⟨by rw [p1]; exact b1, by rw [p3]; exact b2, by rw [p4]; exact b3, l3, b4, by rw [p2]; exact b5, fun j hj hj2 => ?_⟩
      by_cases z : q = n
      · subst z
        have e3 : l3 = c := (pk_lEQ (by omega) (by omega)).mp (b5.symm.trans pk_uLs)
        exact g5 j (by omega) hj2
      · rw [(g4 (32 * q + j) (by omega)).1]
        exact b6 j hj hj2
    obtain ⟨res', thr', thn', FH', stk', R4, hXp, hYp⟩ := ob_push (deep := deep) (cStr := cStr) (oOpen := (upd oOpen n 1)) (te := te2) (xArg := xA) (ySeen := ySeen) (yArg := yA) (yGiven := yGiven) R3 (ob_V_o (o := n) (by omega))
    refine ⟨_, _, ob_S_mk (deep := deep) (cStr := cStr) (oOpen := (upd oOpen n 1)) (te := te2) (xArg := xA) (ySeen := ySeen) (yArg := yA) (yGiven := yGiven) R4 (by omega : m2 ≤ B) (by omega), fun post hp => hX0 post ?_, fun post hp => hY0 post ?_⟩
    · refine ob_arrX (by omega) (by omega) _ (br_f (nI_pos (by omega)) ⟨c + 1, g6 post ?_⟩)
      unfold wX_makeArray_45 wpX_pushNew
      refine br_t (nI_pos' (by omega)) ?_
      rw [ob_obj_toI n (by omega)]
      exact hXp _ hp
    · unfold wY_build_17
      refine br_t (by decide) (br_f (fun z => h32 ((nI_eq (b := 32) (by omega) (by decide)).mp z)) (br_f (by decide) (br_t rfl ?_)))
      unfold wY_build_82
      refine ob_newYa (by omega) _ ⟨c + 1, ?_⟩
      rw [ob_uuL] at g7
      have hg7 := g7 post 15 (nI c) ?_
      · exact hg7
      · have e16 : 32 * nI n + 16 = nI (32 * n + 16) := ob_iy n 16
        have hpv : vp_updL (vp_updL pVal2 (32 * n + 16) 0) (32 * n + 16) (lN c) = pVal2 := by
          rw [ob_uuL]
          exact ob_uiL (q2.trans pk_uLs)
        unfold wY_build_90
        refine br_t (Int32.le_refl _) (br_t rfl ?_)
        rw [e16]
        simp (disch := first | omega | decide) only [nI_l, hpv, forall_eq, not_true, not_false_iff, false_implies, true_implies, true_and, and_true, ob_sub1, Nat.add_sub_cancel, nI_1, ob_ix, ob_iy, ob_ix24, ob_iy24, ob_ix10, ob_iy10, ob_ix4, ob_iy4, ob_ix3, ob_iy3, ob_s1, ob_s2, ob_s3, ob_s4, ob_ltl, ob_lel, ob_eql, ob_ltr, ob_ler, ob_uN, Nat.add_one_ne_zero, ob_xs3, ob_lnn, ob_ltn, ob_eqn, Nat.not_lt_zero, Nat.zero_le, Nat.reduceEqDiff, Nat.reduceLeDiff, Nat.reduceLT, ob_eqll, Int32.reduceLT, Int32.reduceLE, eq_self_iff_true]
        unfold wY_build_144 wY_build_176 wY_build_195
        simp (disch := first | omega | decide) only [ob_obj_toI, forall_eq, not_true, not_false_iff, false_implies, true_implies, true_and, and_true, ob_sub1, Nat.add_sub_cancel, nI_1, ob_ix, ob_iy, ob_ix24, ob_iy24, ob_ix10, ob_iy10, ob_ix4, ob_iy4, ob_ix3, ob_iy3, ob_s1, ob_s2, ob_s3, ob_s4, ob_ltl, ob_lel, ob_eql, ob_ltr, ob_ler, ob_uN, Nat.add_one_ne_zero, ob_xs3, ob_lnn, ob_ltn, ob_eqn, Nat.not_lt_zero, Nat.zero_le, Nat.reduceEqDiff, Nat.reduceLeDiff, Nat.reduceLT, ob_eqll, Int32.reduceLT, Int32.reduceLE, eq_self_iff_true]
        exact hYp _ hp
end
end
section
/-! ===== CALL and NEW ===== -/
section
variable {n : Nat} {d : Nat} {b : Nat} {m : Nat} {deep : Int32} {res : Int64} {thr : Int32} {thn : Int64} {CL : Nat → Nat} {cStr : Nat → Int32} {cOp : Nat → Int32} {cA : Nat → Int32} {cB : Nat → Int32} {OK : Nat → Nat} {oKin : Nat → Int32} {oOpen : Nat → Int32} {pVal : Nat → Int64} {aOut : Nat → Int32} {aVar : Nat → Int64} {FC : Nat → Nat} {FA : Nat → Nat} {FP : Nat → Nat} {FH : Nat → Nat} {FT : Nat → Nat} {fSelf : Nat → Int64} {stk : Nat → Int64} {TA : Nat → Nat} {TH : Nat → Nat} {xFc : Nat → Int32} {xFs : Nat → Int32} {xPc : Nat → Int32} {xKo : Nat → Int32} {xPk : Nat → Int32} {tw : Nat → Bool} {te : Nat → Bool} {tc : Nat → Bool} {xSet : Nat → Int64} {S : Nat → Nat} {XH : Nat → Nat} {xHeld : Nat → Int64} {xArg : Nat → Int64} {yCo : Nat → Int32} {yAr : Nat → Int32} {M : Nat → Nat} {yPair : Nat → Int32} {ySeen : Nat → Int32} {ySet : Nat → Int64} {yStay : Nat → Int32} {yArg : Nat → Int64} {yHan : Nat → Int32} {yKept : Nat → Int64} {yGiven : Int32}
variable {e k o c l kd B w : Nat} {a bb pr : Int32}
theorem ob_isf {v : Int64} (hO : ob_gO n OK oKin) (hv : ob_V n v) : ((∀ o, o < n → v = lN (17179869184 + o) → OK o ≠ 2) ∧ ∀ post : Int32 → Prop, post 0 → wpY_isFunction post (nI n, nI m, yGiven, nI d, deep, nI b, thr, thn, res, cStr, (fun zz => nI (CL zz)), cOp, cA, cB, (fun zz => nI (OK zz)), oKin, yCo, yAr, oOpen, (fun zz => nI (M zz)), (fun zz => ob_yf (tw zz) (te zz) (tc zz)), yPair, ySeen, pVal, ySet, (fun zz => ob_th (S zz)), yStay, aOut, aVar, yArg, (fun zz => nI (FC zz)), (fun zz => nI (FA zz)), (fun zz => nI (FP zz)), (fun zz => nI (FH zz)), yHan, (fun zz => nI (FT zz)), (fun zz => nI (TA zz)), (fun zz => nI (TH zz)), fSelf, yKept, stk) v) ∨ ∃ o, o < n ∧ v = lN (17179869184 + o) ∧ OK o = 2 ∧ ∀ post : Int32 → Prop, post 1 → wpY_isFunction post (nI n, nI m, yGiven, nI d, deep, nI b, thr, thn, res, cStr, (fun zz => nI (CL zz)), cOp, cA, cB, (fun zz => nI (OK zz)), oKin, yCo, yAr, oOpen, (fun zz => nI (M zz)), (fun zz => ob_yf (tw zz) (te zz) (tc zz)), yPair, ySeen, pVal, ySet, (fun zz => ob_th (S zz)), yStay, aOut, aVar, yArg, (fun zz => nI (FC zz)), (fun zz => nI (FA zz)), (fun zz => nI (FP zz)), (fun zz => nI (FH zz)), yHan, (fun zz => nI (FT zz)), (fun zz => nI (TA zz)), (fun zz => nI (TH zz)), fSelf, yKept, stk) v := by
  have hn := hO.1.2
  rcases ob_cls hv with hl | ⟨o, ho, rfl⟩
  · refine Or.inl ⟨fun o ho h => ?_, fun post hp => ?_⟩
    · rw [h] at hl
      exact absurd hl (ob_obj_nlt o (by omega))
    · unfold wpY_isFunction
      exact ob_isoF hl _ (br_t rfl hp)
  · have hOK := (hO.2 o ho).1
    have hin : vp_in (nI o) 32 := vp_in_nI (by omega) (by decide)
    have hcl : (nI o).toNatClampNeg = o := ob_cl (by omega)
    have hY : ∀ post : Int32 → Prop, ((nI (OK o) = 2 → post 1) ∧ (¬ nI (OK o) = 2 → post 0)) → wpY_isFunction post (nI n, nI m, yGiven, nI d, deep, nI b, thr, thn, res, cStr, (fun zz => nI (CL zz)), cOp, cA, cB, (fun zz => nI (OK zz)), oKin, yCo, yAr, oOpen, (fun zz => nI (M zz)), (fun zz => ob_yf (tw zz) (te zz) (tc zz)), yPair, ySeen, pVal, ySet, (fun zz => ob_th (S zz)), yStay, aOut, aVar, yArg, (fun zz => nI (FC zz)), (fun zz => nI (FA zz)), (fun zz => nI (FP zz)), (fun zz => nI (FH zz)), yHan, (fun zz => nI (FT zz)), (fun zz => nI (TA zz)), (fun zz => nI (TH zz)), fSelf, yKept, stk) (lN (17179869184 + o)) := by
      intro post h
      unfold wpY_isFunction
      refine ob_isoT o (by omega) _ (br_f (by decide) ?_)
      unfold wpY_number
      rw [ob_numb]
      refine ⟨hin, ?_⟩
      rw [hcl]
      exact h
    by_cases h2 : OK o = 2
    · exact Or.inr ⟨o, ho, rfl, h2, fun post hp => hY post (br_t (by rw [h2]; rfl) hp)⟩
    · refine Or.inl ⟨fun q hq h => ?_, fun post hp => hY post (br_f (fun z => h2 ((nI_eq (b := 2) (by omega) (by decide)).mp z)) hp)⟩
      have e : o = q := by
        have := (pk_lEQ (by omega) (by omega)).mp h
        omega
      rw [← e]
      exact h2
theorem ob_op17 (R : ob_R n (e+1) b m res thr thn CL cOp cA cB OK oKin pVal aOut aVar FC FA FP FH FT fSelf stk TA TH xFc xFs xPc xKo xPk tw tc xSet S XH xHeld yCo yAr M yPair ySet yStay yHan yKept) (hm : m + 5 ≤ B) (hw : 4 * (e + 1) + ob_hs XH (e + 1) ≤ w) (hc : c ≤ 4) :
    ∃ u' v', ob_S b B (w + 4) u' v' ∧ (∀ post : SX → Prop, post u' → wpX_makeOp post (nI n, nI (e+1), nI b, deep, res, thr, thn, (fun zz => nI (CL zz)), cStr, cOp, cA, cB, (fun zz => nI (OK zz)), oKin, oOpen, xFc, xFs, xPc, xKo, xPk, (fun zz => ob_xa (tw zz) (te zz) (tc zz)), pVal, xSet, (fun zz => nI (S zz)), aOut, aVar, (fun zz => nI (FC zz)), (fun zz => nI (FP zz)), (fun zz => nI (FA zz)), (fun zz => nI (FH zz)), (fun zz => nI (XH zz)), (fun zz => nI (FT zz)), fSelf, xHeld, stk, (fun zz => nI (TA zz)), (fun zz => nI (TH zz)), xArg) 17 (nI c)) ∧ (∀ post : SY → Prop, post v' → wpY_calls post (nI n, nI m, yGiven, nI (e+1), deep, nI b, thr, thn, res, cStr, (fun zz => nI (CL zz)), cOp, cA, cB, (fun zz => nI (OK zz)), oKin, yCo, yAr, oOpen, (fun zz => nI (M zz)), (fun zz => ob_yf (tw zz) (te zz) (tc zz)), yPair, ySeen, pVal, ySet, (fun zz => ob_th (S zz)), yStay, aOut, aVar, yArg, (fun zz => nI (FC zz)), (fun zz => nI (FA zz)), (fun zz => nI (FP zz)), (fun zz => nI (FH zz)), yHan, (fun zz => nI (FT zz)), (fun zz => nI (TA zz)), (fun zz => nI (TH zz)), fSelf, yKept, stk) 17 (nI c)) := by
  obtain ⟨FH2, xA, yA, R1, harg, hX1, _, hY1⟩ := ob_pops (n := n) (b := b) (m := m) (deep := deep) (res := res) (thr := thr) (thn := thn) (CL := CL) (cStr := cStr) (cOp := cOp) (cA := cA) (cB := cB) (OK := OK) (oKin := oKin) (oOpen := oOpen) (pVal := pVal) (aOut := aOut) (aVar := aVar) (FC := FC) (FA := FA) (FP := FP) (FT := FT) (fSelf := fSelf) (stk := stk) (TA := TA) (TH := TH) (xFc := xFc) (xFs := xFs) (xPc := xPc) (xKo := xKo) (xPk := xPk) (tw := tw) (te := te) (tc := tc) (xSet := xSet) (S := S) (XH := XH) (xHeld := xHeld) (yCo := yCo) (yAr := yAr) (M := M) (yPair := yPair) (ySeen := ySeen) (ySet := ySet) (yStay := yStay) (yHan := yHan) (yKept := yKept) (yGiven := yGiven) (e := e) c hc c FH xArg yArg (Nat.le_refl _) R (fun k hk hk2 => absurd hk2 (by omega))
  obtain ⟨me, FH3, R2, hVm, hH3, hX2, hY2⟩ := ob_pop (deep := deep) (cStr := cStr) (oOpen := oOpen) (te := te) (xArg := xA) (ySeen := ySeen) (yArg := yA) (yGiven := (nI c)) R1
  obtain ⟨fn, FH4, R3, hVf, hH4, hX3, hY3⟩ := ob_pop (deep := deep) (cStr := cStr) (oOpen := oOpen) (te := te) (xArg := xA) (ySeen := ySeen) (yArg := yA) (yGiven := (nI c)) R2
  obtain ⟨d', deep', thr', thn', S', aOut', aVar', FC', FA', FP', FH', FT', fSelf', XH', yHan', xHeld', yKept', yStay', R4, hw4, hXe, hYe⟩ := ob_enter (self := me) (held := 8589934592) (kept := 0) (c := c) (t := 0) (deep := deep) (cStr := cStr) (oOpen := oOpen) (te := te) (xArg := xA) (ySeen := ySeen) (yArg := yA) R3 (ob_resU R3) hVf hVm (by decide) (fun z => absurd rfl z) hc harg
  refine ⟨_, _, ob_S_mk (deep := deep') (cStr := cStr) (oOpen := oOpen) (te := te) (xArg := xA) (ySeen := ySeen) (yArg := yA) (yGiven := (nI c)) R4 (by omega : m ≤ B) (by omega), fun post hp => ?_, fun post hp => ?_⟩
  · unfold wpX_makeOp
    refine br_f (by decide) (br_f (by decide) (br_f (by decide) (br_f (by decide) (br_f (by decide) (br_t rfl ?_)))))
    unfold wpX_popArguments
    refine nm_r (Int32.sub_eq_add_neg _ _) ⟨c + 1, hX1 _ ?_⟩
    exact hX2 _ (hX3 _ (hXe _ hp))
  · unfold wpY_calls
    refine nm_r (Int32.sub_eq_add_neg _ _) ⟨c + 1, hY1 _ _ _ ?_⟩
    unfold wY_calls_4
    refine br_t (by decide) (br_t rfl (hY2 _ ?_))
    unfold wY_calls_43
    refine hY3 _ ?_
    rcases ob_isf (n := n) (d := (e+1)) (b := b) (m := m) (deep := deep) (res := res) (thr := thr) (thn := thn) (CL := CL) (cStr := cStr) (cOp := cOp) (cA := cA) (cB := cB) (OK := OK) (oKin := oKin) (oOpen := oOpen) (pVal := pVal) (aOut := aOut) (aVar := aVar) (FC := FC) (FA := FA) (FP := FP) (FH := FH4) (FT := FT) (fSelf := fSelf) (stk := stk) (TA := TA) (TH := TH) (tw := tw) (te := te) (tc := tc) (S := S) (yCo := yCo) (yAr := yAr) (M := M) (yPair := yPair) (ySeen := ySeen) (ySet := ySet) (yStay := yStay) (yArg := yA) (yHan := yHan) (yKept := yKept) (yGiven := (nI c)) R3.2.1 hVf with ⟨_, hf⟩ | ⟨o, _, _, _, hf⟩
    · exact hf _ (br_t rfl (hYe _ hp))
    · exact hf _ (br_t rfl (hYe _ hp))
theorem ob_op18 (R : ob_R n (e+1) b m res thr thn CL cOp cA cB OK oKin pVal aOut aVar FC FA FP FH FT fSelf stk TA TH xFc xFs xPc xKo xPk tw tc xSet S XH xHeld yCo yAr M yPair ySet yStay yHan yKept) (hm : m + 5 ≤ B) (hB : B < 2 ^ 31) (hw : 4 * (e + 1) + ob_hs XH (e + 1) ≤ w) (hc : c ≤ 4) :
    ∃ u' v', ob_S b B (w + 4) u' v' ∧ (∀ post : SX → Prop, post u' → wpX_makeOp post (nI n, nI (e+1), nI b, deep, res, thr, thn, (fun zz => nI (CL zz)), cStr, cOp, cA, cB, (fun zz => nI (OK zz)), oKin, oOpen, xFc, xFs, xPc, xKo, xPk, (fun zz => ob_xa (tw zz) (te zz) (tc zz)), pVal, xSet, (fun zz => nI (S zz)), aOut, aVar, (fun zz => nI (FC zz)), (fun zz => nI (FP zz)), (fun zz => nI (FA zz)), (fun zz => nI (FH zz)), (fun zz => nI (XH zz)), (fun zz => nI (FT zz)), fSelf, xHeld, stk, (fun zz => nI (TA zz)), (fun zz => nI (TH zz)), xArg) 18 (nI c)) ∧ (∀ post : SY → Prop, post v' → wpY_calls post (nI n, nI m, yGiven, nI (e+1), deep, nI b, thr, thn, res, cStr, (fun zz => nI (CL zz)), cOp, cA, cB, (fun zz => nI (OK zz)), oKin, yCo, yAr, oOpen, (fun zz => nI (M zz)), (fun zz => ob_yf (tw zz) (te zz) (tc zz)), yPair, ySeen, pVal, ySet, (fun zz => ob_th (S zz)), yStay, aOut, aVar, yArg, (fun zz => nI (FC zz)), (fun zz => nI (FA zz)), (fun zz => nI (FP zz)), (fun zz => nI (FH zz)), yHan, (fun zz => nI (FT zz)), (fun zz => nI (TA zz)), (fun zz => nI (TH zz)), fSelf, yKept, stk) 18 (nI c)) := by
  obtain ⟨FH2, xA, yA, R1, harg, hX1, _, hY1⟩ := ob_pops (n := n) (b := b) (m := m) (deep := deep) (res := res) (thr := thr) (thn := thn) (CL := CL) (cStr := cStr) (cOp := cOp) (cA := cA) (cB := cB) (OK := OK) (oKin := oKin) (oOpen := oOpen) (pVal := pVal) (aOut := aOut) (aVar := aVar) (FC := FC) (FA := FA) (FP := FP) (FT := FT) (fSelf := fSelf) (stk := stk) (TA := TA) (TH := TH) (xFc := xFc) (xFs := xFs) (xPc := xPc) (xKo := xKo) (xPk := xPk) (tw := tw) (te := te) (tc := tc) (xSet := xSet) (S := S) (XH := XH) (xHeld := xHeld) (yCo := yCo) (yAr := yAr) (M := M) (yPair := yPair) (ySeen := ySeen) (ySet := ySet) (yStay := yStay) (yHan := yHan) (yKept := yKept) (yGiven := yGiven) (e := e) c hc c FH xArg yArg (Nat.le_refl _) R (fun k hk hk2 => absurd hk2 (by omega))
  obtain ⟨fn, FH3, R2, hVf, hH3, hX2, hY2⟩ := ob_pop (deep := deep) (cStr := cStr) (oOpen := oOpen) (te := te) (xArg := xA) (ySeen := ySeen) (yArg := yA) (yGiven := (nI c)) R1
  have hn := R2.2.1.1.2
  have h3 := R2.2.1.1.1
  have hXo : ∀ post : SX → Prop, wpX_objectOf (fun r_79 => (((r_79 < 0 → (wX_beginNew_33 post (nI n) (nI (e+1)) (nI b) deep res thr thn (fun zz => nI (CL zz)) cStr cOp cA cB (fun zz => nI (OK zz)) oKin oOpen xFc xFs xPc xKo xPk (fun zz => ob_xa (tw zz) (te zz) (tc zz)) pVal xSet (fun zz => nI (S zz)) aOut aVar (fun zz => nI (FC zz)) (fun zz => nI (FP zz)) (fun zz => nI (FA zz)) (fun zz => nI (FH3 zz)) (fun zz => nI (XH zz)) (fun zz => nI (FT zz)) fSelf xHeld stk (fun zz => nI (TA zz)) (fun zz => nI (TH zz)) xA)) ∧ (¬ r_79 < 0 → (vp_in r_79 32 ∧ ((((nI (OK r_79.toNatClampNeg)) = 2 → (wpX_kinOf (fun r_160 => (((0 ≤ r_160 → (wX_beginNew_62 post (nI c) fn r_160 0 (nI n) (nI (e+1)) (nI b) deep res thr thn (fun zz => nI (CL zz)) cStr cOp cA cB (fun zz => nI (OK zz)) oKin oOpen xFc xFs xPc xKo xPk (fun zz => ob_xa (tw zz) (te zz) (tc zz)) pVal xSet (fun zz => nI (S zz)) aOut aVar (fun zz => nI (FC zz)) (fun zz => nI (FP zz)) (fun zz => nI (FA zz)) (fun zz => nI (FH3 zz)) (fun zz => nI (XH zz)) (fun zz => nI (FT zz)) fSelf xHeld stk (fun zz => nI (TA zz)) (fun zz => nI (TH zz)) xA)) ∧ (¬ 0 ≤ r_160 → (wX_beginNew_62 post (nI c) fn 0 0 (nI n) (nI (e+1)) (nI b) deep res thr thn (fun zz => nI (CL zz)) cStr cOp cA cB (fun zz => nI (OK zz)) oKin oOpen xFc xFs xPc xKo xPk (fun zz => ob_xa (tw zz) (te zz) (tc zz)) pVal xSet (fun zz => nI (S zz)) aOut aVar (fun zz => nI (FC zz)) (fun zz => nI (FP zz)) (fun zz => nI (FA zz)) (fun zz => nI (FH3 zz)) (fun zz => nI (XH zz)) (fun zz => nI (FT zz)) fSelf xHeld stk (fun zz => nI (TA zz)) (fun zz => nI (TH zz)) xA))))) (nI n, nI (e+1), nI b, deep, res, thr, thn, (fun zz => nI (CL zz)), cStr, cOp, cA, cB, (fun zz => nI (OK zz)), oKin, oOpen, xFc, xFs, xPc, xKo, xPk, (fun zz => ob_xa (tw zz) (te zz) (tc zz)), pVal, xSet, (fun zz => nI (S zz)), aOut, aVar, (fun zz => nI (FC zz)), (fun zz => nI (FP zz)), (fun zz => nI (FA zz)), (fun zz => nI (FH3 zz)), (fun zz => nI (XH zz)), (fun zz => nI (FT zz)), fSelf, xHeld, stk, (fun zz => nI (TA zz)), (fun zz => nI (TH zz)), xA) r_79)) ∧ (¬ (nI (OK r_79.toNatClampNeg)) = 2 → (wX_beginNew_33 post (nI n) (nI (e+1)) (nI b) deep res thr thn (fun zz => nI (CL zz)) cStr cOp cA cB (fun zz => nI (OK zz)) oKin oOpen xFc xFs xPc xKo xPk (fun zz => ob_xa (tw zz) (te zz) (tc zz)) pVal xSet (fun zz => nI (S zz)) aOut aVar (fun zz => nI (FC zz)) (fun zz => nI (FP zz)) (fun zz => nI (FA zz)) (fun zz => nI (FH3 zz)) (fun zz => nI (XH zz)) (fun zz => nI (FT zz)) fSelf xHeld stk (fun zz => nI (TA zz)) (fun zz => nI (TH zz)) xA))))))))) (nI n, nI (e+1), nI b, deep, res, thr, thn, (fun zz => nI (CL zz)), cStr, cOp, cA, cB, (fun zz => nI (OK zz)), oKin, oOpen, xFc, xFs, xPc, xKo, xPk, (fun zz => ob_xa (tw zz) (te zz) (tc zz)), pVal, xSet, (fun zz => nI (S zz)), aOut, aVar, (fun zz => nI (FC zz)), (fun zz => nI (FP zz)), (fun zz => nI (FA zz)), (fun zz => nI (FH3 zz)), (fun zz => nI (XH zz)), (fun zz => nI (FT zz)), fSelf, xHeld, stk, (fun zz => nI (TA zz)), (fun zz => nI (TH zz)), xA) fn → wpX_makeOp post (nI n, nI (e+1), nI b, deep, res, thr, thn, (fun zz => nI (CL zz)), cStr, cOp, cA, cB, (fun zz => nI (OK zz)), oKin, oOpen, xFc, xFs, xPc, xKo, xPk, (fun zz => ob_xa (tw zz) (te zz) (tc zz)), pVal, xSet, (fun zz => nI (S zz)), aOut, aVar, (fun zz => nI (FC zz)), (fun zz => nI (FP zz)), (fun zz => nI (FA zz)), (fun zz => nI (FH zz)), (fun zz => nI (XH zz)), (fun zz => nI (FT zz)), fSelf, xHeld, stk, (fun zz => nI (TA zz)), (fun zz => nI (TH zz)), xArg) 18 (nI c) := by
    intro post h
    unfold wpX_makeOp
    refine br_f (by decide) (br_t (by decide) ?_)
    unfold wpX_beginNew wpX_popArguments
    refine nm_r (Int32.sub_eq_add_neg _ _) ⟨c + 1, hX1 _ ?_⟩
    exact hX2 _ h
  have hYo : ∀ (post : SY → Prop) (r : Int32), (∀ P : Int32 → Prop, P r → wpY_isFunction P (nI n, nI m, (nI c), nI (e+1), deep, nI b, thr, thn, res, cStr, (fun zz => nI (CL zz)), cOp, cA, cB, (fun zz => nI (OK zz)), oKin, yCo, yAr, oOpen, (fun zz => nI (M zz)), (fun zz => ob_yf (tw zz) (te zz) (tc zz)), yPair, ySeen, pVal, ySet, (fun zz => ob_th (S zz)), yStay, aOut, aVar, yA, (fun zz => nI (FC zz)), (fun zz => nI (FA zz)), (fun zz => nI (FP zz)), (fun zz => nI (FH3 zz)), yHan, (fun zz => nI (FT zz)), (fun zz => nI (TA zz)), (fun zz => nI (TH zz)), fSelf, yKept, stk) fn) →
      (((r = 0 → (wY_calls_90 post r (nI n) (nI m) (nI c) (nI (e+1)) deep (nI b) thr thn res cStr (fun zz => nI (CL zz)) cOp cA cB (fun zz => nI (OK zz)) oKin yCo yAr oOpen (fun zz => nI (M zz)) (fun zz => ob_yf (tw zz) (te zz) (tc zz)) yPair ySeen pVal ySet (fun zz => ob_th (S zz)) yStay aOut aVar yA (fun zz => nI (FC zz)) (fun zz => nI (FA zz)) (fun zz => nI (FP zz)) (fun zz => nI (FH3 zz)) yHan (fun zz => nI (FT zz)) (fun zz => nI (TA zz)) (fun zz => nI (TH zz)) fSelf yKept stk)) ∧ (¬ r = 0 → (((nI n = 32 → (wY_calls_90 post r (nI n) (nI m) (nI c) (nI (e+1)) deep (nI b) thr thn res cStr (fun zz => nI (CL zz)) cOp cA cB (fun zz => nI (OK zz)) oKin yCo yAr oOpen (fun zz => nI (M zz)) (fun zz => ob_yf (tw zz) (te zz) (tc zz)) yPair ySeen pVal ySet (fun zz => ob_th (S zz)) yStay aOut aVar yA (fun zz => nI (FC zz)) (fun zz => nI (FA zz)) (fun zz => nI (FP zz)) (fun zz => nI (FH3 zz)) yHan (fun zz => nI (FT zz)) (fun zz => nI (TA zz)) (fun zz => nI (TH zz)) fSelf yKept stk)) ∧ (¬ nI n = 32 → (wpY_kinOf (fun r_134 => (((0 ≤ r_134 → (wY_calls_132 post fn r_134 0 (nI n) (nI m) (nI c) (nI (e+1)) deep (nI b) thr thn res cStr (fun zz => nI (CL zz)) cOp cA cB (fun zz => nI (OK zz)) oKin yCo yAr oOpen (fun zz => nI (M zz)) (fun zz => ob_yf (tw zz) (te zz) (tc zz)) yPair ySeen pVal ySet (fun zz => ob_th (S zz)) yStay aOut aVar yA (fun zz => nI (FC zz)) (fun zz => nI (FA zz)) (fun zz => nI (FP zz)) (fun zz => nI (FH3 zz)) yHan (fun zz => nI (FT zz)) (fun zz => nI (TA zz)) (fun zz => nI (TH zz)) fSelf yKept stk)) ∧ (¬ 0 ≤ r_134 → (wY_calls_132 post fn 0 0 (nI n) (nI m) (nI c) (nI (e+1)) deep (nI b) thr thn res cStr (fun zz => nI (CL zz)) cOp cA cB (fun zz => nI (OK zz)) oKin yCo yAr oOpen (fun zz => nI (M zz)) (fun zz => ob_yf (tw zz) (te zz) (tc zz)) yPair ySeen pVal ySet (fun zz => ob_th (S zz)) yStay aOut aVar yA (fun zz => nI (FC zz)) (fun zz => nI (FA zz)) (fun zz => nI (FP zz)) (fun zz => nI (FH3 zz)) yHan (fun zz => nI (FT zz)) (fun zz => nI (TA zz)) (fun zz => nI (TH zz)) fSelf yKept stk))))) (nI n, nI m, (nI c), nI (e+1), deep, nI b, thr, thn, res, cStr, (fun zz => nI (CL zz)), cOp, cA, cB, (fun zz => nI (OK zz)), oKin, yCo, yAr, oOpen, (fun zz => nI (M zz)), (fun zz => ob_yf (tw zz) (te zz) (tc zz)), yPair, ySeen, pVal, ySet, (fun zz => ob_th (S zz)), yStay, aOut, aVar, yA, (fun zz => nI (FC zz)), (fun zz => nI (FA zz)), (fun zz => nI (FP zz)), (fun zz => nI (FH3 zz)), yHan, (fun zz => nI (FT zz)), (fun zz => nI (TA zz)), (fun zz => nI (TH zz)), fSelf, yKept, stk) fn))))))) → wpY_calls post (nI n, nI m, yGiven, nI (e+1), deep, nI b, thr, thn, res, cStr, (fun zz => nI (CL zz)), cOp, cA, cB, (fun zz => nI (OK zz)), oKin, yCo, yAr, oOpen, (fun zz => nI (M zz)), (fun zz => ob_yf (tw zz) (te zz) (tc zz)), yPair, ySeen, pVal, ySet, (fun zz => ob_th (S zz)), yStay, aOut, aVar, yArg, (fun zz => nI (FC zz)), (fun zz => nI (FA zz)), (fun zz => nI (FP zz)), (fun zz => nI (FH zz)), yHan, (fun zz => nI (FT zz)), (fun zz => nI (TA zz)), (fun zz => nI (TH zz)), fSelf, yKept, stk) 18 (nI c) := by
    intro post r hf h
    unfold wpY_calls
    refine nm_r (Int32.sub_eq_add_neg _ _) ⟨c + 1, hY1 _ _ _ ?_⟩
    unfold wY_calls_4
    refine br_t (by decide) (br_f (by decide) ?_)
    unfold wY_calls_43
    exact hY2 _ (hf _ (br_f (by decide) h))
  rcases ob_isf (n := n) (d := (e+1)) (b := b) (m := m) (deep := deep) (res := res) (thr := thr) (thn := thn) (CL := CL) (cStr := cStr) (cOp := cOp) (cA := cA) (cB := cB) (OK := OK) (oKin := oKin) (oOpen := oOpen) (pVal := pVal) (aOut := aOut) (aVar := aVar) (FC := FC) (FA := FA) (FP := FP) (FH := FH3) (FT := FT) (fSelf := fSelf) (stk := stk) (TA := TA) (TH := TH) (tw := tw) (te := te) (tc := tc) (S := S) (yCo := yCo) (yAr := yAr) (M := M) (yPair := yPair) (ySeen := ySeen) (ySet := ySet) (yStay := yStay) (yArg := yA) (yHan := yHan) (yKept := yKept) (yGiven := (nI c)) R2.2.1 hVf with ⟨hno, hf⟩ | ⟨o, ho, rfl, h2, hf⟩
  · refine ⟨_, _, ob_S_mk (deep := deep) (cStr := cStr) (oOpen := oOpen) (te := te) (xArg := xA) (ySeen := ySeen) (yArg := yA) (yGiven := (nI c)) (ob_raise R2 (ob_V_Ty n)) (by omega : m ≤ B) (by omega), fun post hp => hXo post ?_, fun post hp => hYo post 0 hf (br_t rfl (br_t rfl hp))⟩
    refine ob_objA hn hVf _ (fun _ => br_t (by decide) hp) (fun o ho hv => ?_)
    have hOK := (R2.2.1.2 o ho).1
    refine br_f (nI_pos (by omega)) ⟨vp_in_nI (by omega) (by decide), ?_⟩
    rw [ob_cl (by omega)]
    exact br_f (fun z => hno o ho hv ((nI_eq (b := 2) (by omega) (by decide)).mp z)) hp
  · have hXk : ∀ post : SX → Prop, wpX_kinOf (fun r_160 => (((0 ≤ r_160 → (wX_beginNew_62 post (nI c) (lN (17179869184 + o)) r_160 0 (nI n) (nI (e+1)) (nI b) deep res thr thn (fun zz => nI (CL zz)) cStr cOp cA cB (fun zz => nI (OK zz)) oKin oOpen xFc xFs xPc xKo xPk (fun zz => ob_xa (tw zz) (te zz) (tc zz)) pVal xSet (fun zz => nI (S zz)) aOut aVar (fun zz => nI (FC zz)) (fun zz => nI (FP zz)) (fun zz => nI (FA zz)) (fun zz => nI (FH3 zz)) (fun zz => nI (XH zz)) (fun zz => nI (FT zz)) fSelf xHeld stk (fun zz => nI (TA zz)) (fun zz => nI (TH zz)) xA)) ∧ (¬ 0 ≤ r_160 → (wX_beginNew_62 post (nI c) (lN (17179869184 + o)) 0 0 (nI n) (nI (e+1)) (nI b) deep res thr thn (fun zz => nI (CL zz)) cStr cOp cA cB (fun zz => nI (OK zz)) oKin oOpen xFc xFs xPc xKo xPk (fun zz => ob_xa (tw zz) (te zz) (tc zz)) pVal xSet (fun zz => nI (S zz)) aOut aVar (fun zz => nI (FC zz)) (fun zz => nI (FP zz)) (fun zz => nI (FA zz)) (fun zz => nI (FH3 zz)) (fun zz => nI (XH zz)) (fun zz => nI (FT zz)) fSelf xHeld stk (fun zz => nI (TA zz)) (fun zz => nI (TH zz)) xA))))) (nI n, nI (e+1), nI b, deep, res, thr, thn, (fun zz => nI (CL zz)), cStr, cOp, cA, cB, (fun zz => nI (OK zz)), oKin, oOpen, xFc, xFs, xPc, xKo, xPk, (fun zz => ob_xa (tw zz) (te zz) (tc zz)), pVal, xSet, (fun zz => nI (S zz)), aOut, aVar, (fun zz => nI (FC zz)), (fun zz => nI (FP zz)), (fun zz => nI (FA zz)), (fun zz => nI (FH3 zz)), (fun zz => nI (XH zz)), (fun zz => nI (FT zz)), fSelf, xHeld, stk, (fun zz => nI (TA zz)), (fun zz => nI (TH zz)), xA) (nI o) → wpX_makeOp post (nI n, nI (e+1), nI b, deep, res, thr, thn, (fun zz => nI (CL zz)), cStr, cOp, cA, cB, (fun zz => nI (OK zz)), oKin, oOpen, xFc, xFs, xPc, xKo, xPk, (fun zz => ob_xa (tw zz) (te zz) (tc zz)), pVal, xSet, (fun zz => nI (S zz)), aOut, aVar, (fun zz => nI (FC zz)), (fun zz => nI (FP zz)), (fun zz => nI (FA zz)), (fun zz => nI (FH zz)), (fun zz => nI (XH zz)), (fun zz => nI (FT zz)), fSelf, xHeld, stk, (fun zz => nI (TA zz)), (fun zz => nI (TH zz)), xArg) 18 (nI c) := by
      intro post h
      refine hXo post (ob_objO hn ho _ (br_f (nI_pos (by omega)) ⟨vp_in_nI (by omega) (by decide), ?_⟩))
      rw [ob_cl (by omega), h2]
      exact br_t rfl h
    obtain ⟨r, hr, hXr, hYr⟩ := ob_kin (n := n) (d := (e+1)) (b := b) (m := m) (deep := deep) (res := res) (thr := thr) (thn := thn) (CL := CL) (cStr := cStr) (cOp := cOp) (cA := cA) (cB := cB) (OK := OK) (oKin := oKin) (oOpen := oOpen) (pVal := pVal) (aOut := aOut) (aVar := aVar) (FC := FC) (FA := FA) (FP := FP) (FH := FH3) (FT := FT) (fSelf := fSelf) (stk := stk) (TA := TA) (TH := TH) (xFc := xFc) (xFs := xFs) (xPc := xPc) (xKo := xKo) (xPk := xPk) (tw := tw) (te := te) (tc := tc) (xSet := xSet) (S := S) (XH := XH) (xHeld := xHeld) (xArg := xA) (yCo := yCo) (yAr := yAr) (M := M) (yPair := yPair) (ySeen := ySeen) (ySet := ySet) (yStay := yStay) (yArg := yA) (yHan := yHan) (yKept := yKept) (yGiven := (nI c)) R2.2.1 R2.2.2.1 (by omega) ho
    obtain ⟨pr, hpr, hXq, hYq⟩ : ∃ pr : Int32, (∃ p, p < n ∧ pr = nI p) ∧ (∀ post : SX → Prop, wX_beginNew_62 post (nI c) (lN (17179869184 + o)) pr 0 (nI n) (nI (e+1)) (nI b) deep res thr thn (fun zz => nI (CL zz)) cStr cOp cA cB (fun zz => nI (OK zz)) oKin oOpen xFc xFs xPc xKo xPk (fun zz => ob_xa (tw zz) (te zz) (tc zz)) pVal xSet (fun zz => nI (S zz)) aOut aVar (fun zz => nI (FC zz)) (fun zz => nI (FP zz)) (fun zz => nI (FA zz)) (fun zz => nI (FH3 zz)) (fun zz => nI (XH zz)) (fun zz => nI (FT zz)) fSelf xHeld stk (fun zz => nI (TA zz)) (fun zz => nI (TH zz)) xA → wpX_makeOp post (nI n, nI (e+1), nI b, deep, res, thr, thn, (fun zz => nI (CL zz)), cStr, cOp, cA, cB, (fun zz => nI (OK zz)), oKin, oOpen, xFc, xFs, xPc, xKo, xPk, (fun zz => ob_xa (tw zz) (te zz) (tc zz)), pVal, xSet, (fun zz => nI (S zz)), aOut, aVar, (fun zz => nI (FC zz)), (fun zz => nI (FP zz)), (fun zz => nI (FA zz)), (fun zz => nI (FH zz)), (fun zz => nI (XH zz)), (fun zz => nI (FT zz)), fSelf, xHeld, stk, (fun zz => nI (TA zz)), (fun zz => nI (TH zz)), xArg) 18 (nI c)) ∧ (¬ n = 32 → ∀ post : SY → Prop, wY_calls_132 post (lN (17179869184 + o)) pr 0 (nI n) (nI m) (nI c) (nI (e+1)) deep (nI b) thr thn res cStr (fun zz => nI (CL zz)) cOp cA cB (fun zz => nI (OK zz)) oKin yCo yAr oOpen (fun zz => nI (M zz)) (fun zz => ob_yf (tw zz) (te zz) (tc zz)) yPair ySeen pVal ySet (fun zz => ob_th (S zz)) yStay aOut aVar yA (fun zz => nI (FC zz)) (fun zz => nI (FA zz)) (fun zz => nI (FP zz)) (fun zz => nI (FH3 zz)) yHan (fun zz => nI (FT zz)) (fun zz => nI (TA zz)) (fun zz => nI (TH zz)) fSelf yKept stk → wpY_calls post (nI n, nI m, yGiven, nI (e+1), deep, nI b, thr, thn, res, cStr, (fun zz => nI (CL zz)), cOp, cA, cB, (fun zz => nI (OK zz)), oKin, yCo, yAr, oOpen, (fun zz => nI (M zz)), (fun zz => ob_yf (tw zz) (te zz) (tc zz)), yPair, ySeen, pVal, ySet, (fun zz => ob_th (S zz)), yStay, aOut, aVar, yArg, (fun zz => nI (FC zz)), (fun zz => nI (FA zz)), (fun zz => nI (FP zz)), (fun zz => nI (FH zz)), yHan, (fun zz => nI (FT zz)), (fun zz => nI (TA zz)), (fun zz => nI (TH zz)), fSelf, yKept, stk) 18 (nI c)) := by
      rcases hr with rfl | ⟨p, hp, rfl⟩
      · refine ⟨0, ⟨0, by omega, rfl⟩, fun post h => hXk post (hXr _ (br_f (by decide) h)), fun h32 post h => hYo post 1 hf (br_f (by decide) (br_f (fun z => h32 ((nI_eq (b := 32) (by omega) (by decide)).mp z)) (hYr _ (br_f (by decide) h))))⟩
      · refine ⟨nI p, ⟨p, hp, rfl⟩, fun post h => hXk post (hXr _ (br_t (nI_pos' (by omega)) h)), fun h32 post h => hYo post 1 hf (br_f (by decide) (br_f (fun z => h32 ((nI_eq (b := 32) (by omega) (by decide)).mp z)) (hYr _ (br_t (nI_pos' (by omega)) h))))⟩
    by_cases h32 : n = 32
    · refine ⟨_, _, ob_S_mk (deep := deep) (cStr := cStr) (oOpen := oOpen) (te := te) (xArg := xA) (ySeen := ySeen) (yArg := yA) (yGiven := (nI c)) (ob_raise R2 (ob_V_Ra n)) (by omega : m ≤ B) (by omega), fun post hp => hXq post ?_, fun post hp => hYo post 1 hf (br_f (by decide) (br_t (by rw [h32]; rfl) (br_f (by decide) hp)))⟩
      unfold wX_beginNew_62
      exact ob_newXf h32 _ (br_f (by decide) hp)
    · have R3 := ob_newR (kd := 0) (pr := pr) (xFc' := xFc) (xFs' := xFs) (yCo' := yCo) (yAr' := upd yAr n (-1)) R2 (by omega) (Or.inr hpr) (by decide) (by decide) (fun q hq => ⟨rfl, rfl, rfl, pk_un (by omega)⟩) (fun h => absurd h (by decide))
      obtain ⟨d', deep', thr', thn', S', aOut', aVar', FC', FA', FP', FH', FT', fSelf', XH', yHan', xHeld', yKept', yStay', R4, hw4, hXe, hYe⟩ := ob_enter (self := lN (17179869184 + n)) (held := lN (17179869184 + n)) (kept := lN (17179869184 + n)) (c := c) (t := 2) (deep := deep) (cStr := cStr) (oOpen := (upd oOpen n 1)) (te := te) (xArg := xA) (ySeen := ySeen) (yArg := yA) R3 (ob_resU R3) (ob_V_up (by omega) hVf) (ob_V_o (by omega)) (by decide) (fun _ => ⟨rfl, ob_V_o (by omega)⟩) hc (fun k hk => ⟨(harg k hk).1, ob_V_up (by omega) (harg k hk).2⟩)
      refine ⟨_, _, ob_S_mk (deep := deep') (cStr := cStr) (oOpen := (upd oOpen n 1)) (te := te) (xArg := xA) (ySeen := ySeen) (yArg := yA) (yGiven := (nI c)) R4 (by omega : m ≤ B) (by omega), fun post hp => hXq post ?_, fun post hp => hYq h32 post ?_⟩
      · unfold wX_beginNew_62
        refine ob_newX (kd := 0) (by omega) _ (br_t (nI_pos' (by omega)) ?_)
        rw [ob_obj_toI n (by omega)]
        exact nm_e (hXe _ hp)
      · unfold wY_calls_132
        refine ob_newY (kd := 0) (by omega) (by decide) (by decide) _ ?_
        rw [ob_obj_toI n (by omega)]
        exact hYe _ hp
end
end
section
/-! ===== one instruction ===== -/
/-- how the component finds the instruction -/
def ob_xd (post : SX → Prop) (u : SX) (q a bb : Int32) : Prop :=
  (7 < q → (13 < q → (18 < q → (24 < q → (27 < q → wpX_valueOp post u q a) ∧ (¬ 27 < q → wpX_numberOp post u q)) ∧ (¬ 24 < q → wpX_controlOp post u q a)) ∧ (¬ 18 < q → wpX_makeOp post u q a)) ∧ (¬ 13 < q → wpX_propertyOp post u q a)) ∧ (¬ 7 < q → wpX_stackOp post u q a bb)
section
variable {n : Nat} {d : Nat} {b : Nat} {m : Nat} {deep : Int32} {res : Int64} {thr : Int32} {thn : Int64} {CL : Nat → Nat} {cStr : Nat → Int32} {cOp : Nat → Int32} {cA : Nat → Int32} {cB : Nat → Int32} {OK : Nat → Nat} {oKin : Nat → Int32} {oOpen : Nat → Int32} {pVal : Nat → Int64} {aOut : Nat → Int32} {aVar : Nat → Int64} {FC : Nat → Nat} {FA : Nat → Nat} {FP : Nat → Nat} {FH : Nat → Nat} {FT : Nat → Nat} {fSelf : Nat → Int64} {stk : Nat → Int64} {TA : Nat → Nat} {TH : Nat → Nat} {xFc : Nat → Int32} {xFs : Nat → Int32} {xPc : Nat → Int32} {xKo : Nat → Int32} {xPk : Nat → Int32} {tw : Nat → Bool} {te : Nat → Bool} {tc : Nat → Bool} {xSet : Nat → Int64} {S : Nat → Nat} {XH : Nat → Nat} {xHeld : Nat → Int64} {xArg : Nat → Int64} {yCo : Nat → Int32} {yAr : Nat → Int32} {M : Nat → Nat} {yPair : Nat → Int32} {ySeen : Nat → Int32} {ySet : Nat → Int64} {yStay : Nat → Int32} {yArg : Nat → Int64} {yHan : Nat → Int32} {yKept : Nat → Int64} {yGiven : Int32}
variable {e B w : Nat} {op a bb : Int32}
theorem ob_act (R : ob_R n (e+1) b m res thr thn CL cOp cA cB OK oKin pVal aOut aVar FC FA FP FH FT fSelf stk TA TH xFc xFs xPc xKo xPk tw tc xSet S XH xHeld yCo yAr M yPair ySet yStay yHan yKept) (ht : thr = 0) (hok : ob_ok op a bb) (hm : m + 5 ≤ B) (hB : B < 2 ^ 31) (hw : 4 * (e + 1) + ob_hs XH (e + 1) ≤ w) :
    ∃ u' v', ob_S b B (w + 4) u' v' ∧ (∀ post : SX → Prop, post u' → ob_xd post (nI n, nI (e+1), nI b, deep, res, thr, thn, (fun zz => nI (CL zz)), cStr, cOp, cA, cB, (fun zz => nI (OK zz)), oKin, oOpen, xFc, xFs, xPc, xKo, xPk, (fun zz => ob_xa (tw zz) (te zz) (tc zz)), pVal, xSet, (fun zz => nI (S zz)), aOut, aVar, (fun zz => nI (FC zz)), (fun zz => nI (FP zz)), (fun zz => nI (FA zz)), (fun zz => nI (FH zz)), (fun zz => nI (XH zz)), (fun zz => nI (FT zz)), fSelf, xHeld, stk, (fun zz => nI (TA zz)), (fun zz => nI (TH zz)), xArg) op a bb) ∧ (∀ post : SY → Prop, post v' → wpY_act post (nI n, nI m, yGiven, nI (e+1), deep, nI b, thr, thn, res, cStr, (fun zz => nI (CL zz)), cOp, cA, cB, (fun zz => nI (OK zz)), oKin, yCo, yAr, oOpen, (fun zz => nI (M zz)), (fun zz => ob_yf (tw zz) (te zz) (tc zz)), yPair, ySeen, pVal, ySet, (fun zz => ob_th (S zz)), yStay, aOut, aVar, yArg, (fun zz => nI (FC zz)), (fun zz => nI (FA zz)), (fun zz => nI (FP zz)), (fun zz => nI (FH zz)), yHan, (fun zz => nI (FT zz)), (fun zz => nI (TA zz)), (fun zz => nI (TH zz)), fSelf, yKept, stk) op a bb) := by
  obtain ⟨q, hq, rfl, hA, hV⟩ := hok
  have hcases : q = 0 ∨ q = 1 ∨ q = 2 ∨ q = 3 ∨ q = 4 ∨ q = 5 ∨ q = 6 ∨ q = 7 ∨ q = 8 ∨ q = 9 ∨ q = 10 ∨ q = 11 ∨ q = 12 ∨ q = 13 ∨ q = 14 ∨ q = 15 ∨ q = 16 ∨ q = 17 ∨ q = 18 ∨ q = 19 ∨ q = 20 ∨ q = 21 ∨ q = 22 ∨ q = 23 ∨ q = 24 ∨ q = 25 ∨ q = 26 ∨ q = 27 ∨ q = 28 ∨ q = 29 ∨ q = 30 ∨ q = 31 := by omega
  rcases hcases with rfl | rfl | rfl | rfl | rfl | rfl | rfl | rfl | rfl | rfl | rfl | rfl | rfl | rfl | rfl | rfl | rfl | rfl | rfl | rfl | rfl | rfl | rfl | rfl | rfl | rfl | rfl | rfl | rfl | rfl | rfl | rfl
  · obtain ⟨u2, v2, hS, hX, hY⟩ := ob_op0 (deep := deep) (cStr := cStr) (oOpen := oOpen) (te := te) (xArg := xArg) (ySeen := ySeen) (yArg := yArg) (yGiven := yGiven) (a := a) (bb := bb) (B := B) (w := w) R hm hw
    refine ⟨u2, v2, hS, fun post hp => br_f (by decide) (hX post hp), fun post hp => ?_⟩
    exact hY post hp
  · obtain ⟨x, hx, rfl⟩ := hA _ rfl
    obtain ⟨u2, v2, hS, hX, hY⟩ := ob_op1 (deep := deep) (cStr := cStr) (oOpen := oOpen) (te := te) (xArg := xArg) (ySeen := ySeen) (yArg := yArg) (yGiven := yGiven) (bb := bb) (B := B) (w := w) R hm hw hx
    refine ⟨u2, v2, hS, fun post hp => br_f (by decide) (hX post hp), fun post hp => ?_⟩
    exact hY post hp
  · obtain ⟨u2, v2, hS, hX, hY⟩ := ob_op2 (deep := deep) (cStr := cStr) (oOpen := oOpen) (te := te) (xArg := xArg) (ySeen := ySeen) (yArg := yArg) (yGiven := yGiven) (a := a) (bb := bb) (B := B) (w := w) R hm hw
    refine ⟨u2, v2, hS, fun post hp => br_f (by decide) (hX post hp), fun post hp => ?_⟩
    exact hY post hp
  · obtain ⟨u2, v2, hS, hX, hY⟩ := ob_op3 (deep := deep) (cStr := cStr) (oOpen := oOpen) (te := te) (xArg := xArg) (ySeen := ySeen) (yArg := yArg) (yGiven := yGiven) (a := a) (bb := bb) (B := B) (w := w) R ht hm hw
    refine ⟨u2, v2, hS, fun post hp => br_f (by decide) (hX post hp), fun post hp => ?_⟩
    exact hY post hp
  · obtain ⟨u2, v2, hS, hX, hY⟩ := ob_op4 (deep := deep) (cStr := cStr) (oOpen := oOpen) (te := te) (xArg := xArg) (ySeen := ySeen) (yArg := yArg) (yGiven := yGiven) (a := a) (bb := bb) (B := B) (w := w) R ht hm hw
    refine ⟨u2, v2, hS, fun post hp => br_f (by decide) (hX post hp), fun post hp => ?_⟩
    exact hY post hp
  · obtain ⟨x, hx, rfl⟩ := hA _ rfl
    obtain ⟨y, hy, rfl⟩ := hV (Or.inl rfl)
    obtain ⟨u2, v2, hS, hX, hY⟩ := ob_op5 (deep := deep) (cStr := cStr) (oOpen := oOpen) (te := te) (xArg := xArg) (ySeen := ySeen) (yArg := yArg) (yGiven := yGiven) (B := B) (w := w) R hm hw hx hy
    refine ⟨u2, v2, hS, fun post hp => br_f (by decide) (hX post hp), fun post hp => ?_⟩
    exact hY post hp
  · obtain ⟨x, hx, rfl⟩ := hA _ rfl
    obtain ⟨y, hy, rfl⟩ := hV (Or.inr rfl)
    obtain ⟨u2, v2, hS, hX, hY⟩ := ob_op6 (deep := deep) (cStr := cStr) (oOpen := oOpen) (te := te) (xArg := xArg) (ySeen := ySeen) (yArg := yArg) (yGiven := yGiven) (B := B) (w := w) R hm hw hx hy
    refine ⟨u2, v2, hS, fun post hp => br_f (by decide) (hX post hp), fun post hp => ?_⟩
    exact hY post hp
  · obtain ⟨u2, v2, hS, hX, hY⟩ := ob_op7 (deep := deep) (cStr := cStr) (oOpen := oOpen) (te := te) (xArg := xArg) (ySeen := ySeen) (yArg := yArg) (yGiven := yGiven) (a := a) (bb := bb) (B := B) (w := w) R hm hw
    refine ⟨u2, v2, hS, fun post hp => br_f (by decide) (hX post hp), fun post hp => ?_⟩
    exact hY post hp
  · obtain ⟨x, hx, rfl⟩ := hA _ rfl
    obtain ⟨u2, v2, hS, hX, hY⟩ := ob_op8 (deep := deep) (cStr := cStr) (oOpen := oOpen) (te := te) (xArg := xArg) (ySeen := ySeen) (yArg := yArg) (yGiven := yGiven) (k := x) (B := B) (w := w) R hm hB hw (by omega)
    refine ⟨u2, v2, hS, fun post hp => br_t (by decide) (br_f (by decide) (hX post hp)), fun post hp => ?_⟩
    unfold wpY_act; refine nm_r (nI_pred e) (br_f (by decide) (br_f (by decide) (br_f (by decide) (br_f (by decide) (br_f (by decide) (br_f (by decide) (?_)))))))
    unfold wY_act_49; refine br_f (by decide) ?_; unfold wY_act_65; refine br_f (by decide) (br_f (by decide) (br_f (by decide) (br_f (by decide) (br_f (by decide) (br_f (by decide) (br_f (by decide) (br_f (by decide) (br_f (by decide) (br_f (by decide) (br_t rfl ?_))))))))))
    unfold wY_act_255
    exact hY _ hp
  · obtain ⟨x, hx, rfl⟩ := hA _ rfl
    obtain ⟨u2, v2, hS, hX, hY⟩ := ob_op9 (deep := deep) (cStr := cStr) (oOpen := oOpen) (te := te) (xArg := xArg) (ySeen := ySeen) (yArg := yArg) (yGiven := yGiven) (k := x) (B := B) (w := w) R hm hB hw (by omega)
    refine ⟨u2, v2, hS, fun post hp => br_t (by decide) (br_f (by decide) (hX post hp)), fun post hp => ?_⟩
    unfold wpY_act; refine nm_r (nI_pred e) (br_f (by decide) (br_f (by decide) (br_f (by decide) (br_f (by decide) (br_f (by decide) (br_f (by decide) (?_)))))))
    unfold wY_act_49; refine br_f (by decide) ?_; unfold wY_act_65; refine br_f (by decide) (br_f (by decide) (br_f (by decide) (br_f (by decide) (br_f (by decide) (br_f (by decide) (br_f (by decide) (br_f (by decide) (br_f (by decide) (br_f (by decide) (br_f (by decide) (br_t rfl ?_)))))))))))
    unfold wY_act_255
    exact hY _ hp
  · obtain ⟨u2, v2, hS, hX, hY⟩ := ob_op10 (deep := deep) (cStr := cStr) (oOpen := oOpen) (te := te) (xArg := xArg) (ySeen := ySeen) (yArg := yArg) (yGiven := yGiven) (a := a) (B := B) (w := w) R hm hB hw
    refine ⟨u2, v2, hS, fun post hp => br_t (by decide) (br_f (by decide) (hX post hp)), fun post hp => ?_⟩
    unfold wpY_act; refine nm_r (nI_pred e) (br_f (by decide) (br_f (by decide) (br_f (by decide) (br_f (by decide) (br_f (by decide) (br_f (by decide) (?_)))))))
    unfold wY_act_49; refine br_f (by decide) ?_; unfold wY_act_65; refine br_f (by decide) (br_f (by decide) (br_f (by decide) (br_f (by decide) (br_f (by decide) (br_f (by decide) (br_f (by decide) (br_f (by decide) (br_f (by decide) (br_f (by decide) (br_f (by decide) (br_f (by decide) (br_t rfl ?_))))))))))))
    unfold wY_act_255
    exact hY _ hp
  · obtain ⟨u2, v2, hS, hX, hY⟩ := ob_op11 (deep := deep) (cStr := cStr) (oOpen := oOpen) (te := te) (xArg := xArg) (ySeen := ySeen) (yArg := yArg) (yGiven := yGiven) (a := a) (B := B) (w := w) R hm hB hw
    refine ⟨u2, v2, hS, fun post hp => br_t (by decide) (br_f (by decide) (hX post hp)), fun post hp => ?_⟩
    unfold wpY_act; refine nm_r (nI_pred e) (br_f (by decide) (br_f (by decide) (br_f (by decide) (br_f (by decide) (br_f (by decide) (br_f (by decide) (?_)))))))
    unfold wY_act_49; refine br_f (by decide) ?_; unfold wY_act_65; refine br_f (by decide) (br_f (by decide) (br_f (by decide) (br_f (by decide) (br_f (by decide) (br_f (by decide) (br_f (by decide) (br_f (by decide) (br_f (by decide) (br_f (by decide) (br_f (by decide) (br_f (by decide) (br_f (by decide) (br_t rfl ?_)))))))))))))
    unfold wY_act_255
    exact hY _ hp
  · obtain ⟨x, hx, rfl⟩ := hA _ rfl
    obtain ⟨u2, v2, hS, hX, hY⟩ := ob_op12 (deep := deep) (cStr := cStr) (oOpen := oOpen) (te := te) (xArg := xArg) (ySeen := ySeen) (yArg := yArg) (yGiven := yGiven) (k := x) (B := B) (w := w) R hm hB hw (by omega)
    refine ⟨u2, v2, hS, fun post hp => br_t (by decide) (br_f (by decide) (hX post hp)), fun post hp => ?_⟩
    unfold wpY_act; refine nm_r (nI_pred e) (br_f (by decide) (br_f (by decide) (br_f (by decide) (br_f (by decide) (br_f (by decide) (br_f (by decide) (?_)))))))
    unfold wY_act_49; refine br_f (by decide) ?_; unfold wY_act_65; refine br_f (by decide) (br_f (by decide) (br_f (by decide) (br_f (by decide) (br_f (by decide) (br_f (by decide) (br_f (by decide) (br_f (by decide) (br_f (by decide) (br_f (by decide) (br_f (by decide) (br_f (by decide) (br_f (by decide) (br_f (by decide) (br_t rfl ?_))))))))))))))
    unfold wY_act_264
    exact hY _ hp
  · obtain ⟨x, hx, rfl⟩ := hA _ rfl
    obtain ⟨u2, v2, hS, hX, hY⟩ := ob_op13 (deep := deep) (cStr := cStr) (oOpen := oOpen) (te := te) (xArg := xArg) (ySeen := ySeen) (yArg := yArg) (yGiven := yGiven) (k := x) (B := B) (w := w) R hm hB hw (by omega)
    refine ⟨u2, v2, hS, fun post hp => br_t (by decide) (br_f (by decide) (hX post hp)), fun post hp => ?_⟩
    unfold wpY_act; refine nm_r (nI_pred e) (br_f (by decide) (br_f (by decide) (br_f (by decide) (br_f (by decide) (br_f (by decide) (br_f (by decide) (?_)))))))
    unfold wY_act_49; refine br_f (by decide) ?_; unfold wY_act_65; refine br_f (by decide) (br_f (by decide) (br_f (by decide) (br_f (by decide) (br_f (by decide) (br_f (by decide) (br_f (by decide) (br_f (by decide) (br_f (by decide) (br_f (by decide) (br_f (by decide) (br_f (by decide) (br_f (by decide) (br_f (by decide) (br_f (by decide) (br_t rfl ?_)))))))))))))))
    unfold wY_act_264
    exact hY _ hp
  · obtain ⟨u2, v2, hS, hX, hY⟩ := ob_op14 (deep := deep) (cStr := cStr) (oOpen := oOpen) (te := te) (xArg := xArg) (ySeen := ySeen) (yArg := yArg) (yGiven := yGiven) (a := a) (B := B) (w := w) R hm hw
    refine ⟨u2, v2, hS, fun post hp => br_t (by decide) (br_t (by decide) (br_f (by decide) (hX post hp))), fun post hp => ?_⟩
    unfold wpY_act; refine nm_r (nI_pred e) (br_f (by decide) (br_f (by decide) (br_f (by decide) (br_f (by decide) (br_f (by decide) (br_f (by decide) (?_)))))))
    unfold wY_act_49; refine br_f (by decide) ?_; unfold wY_act_65; refine br_f (by decide) (br_f (by decide) (br_f (by decide) (br_f (by decide) (br_f (by decide) (br_f (by decide) (br_f (by decide) (br_f (by decide) (br_f (by decide) (br_f (by decide) (br_f (by decide) (br_f (by decide) (br_f (by decide) (br_f (by decide) (br_f (by decide) (br_f (by decide) (br_t rfl ?_))))))))))))))))
    unfold wY_act_273
    exact hY _ hp
  · obtain ⟨x, hx, rfl⟩ := hA _ rfl
    obtain ⟨u2, v2, hS, hX, hY⟩ := ob_op15 (deep := deep) (cStr := cStr) (oOpen := oOpen) (te := te) (xArg := xArg) (ySeen := ySeen) (yArg := yArg) (yGiven := yGiven) (B := B) (w := w) R hm hB hw hx
    refine ⟨u2, v2, hS, fun post hp => br_t (by decide) (br_t (by decide) (br_f (by decide) (hX post hp))), fun post hp => ?_⟩
    unfold wpY_act; refine nm_r (nI_pred e) (br_f (by decide) (br_f (by decide) (br_f (by decide) (br_f (by decide) (br_f (by decide) (br_f (by decide) (?_)))))))
    unfold wY_act_49; refine br_f (by decide) ?_; unfold wY_act_65; refine br_f (by decide) (br_f (by decide) (br_f (by decide) (br_f (by decide) (br_f (by decide) (br_f (by decide) (br_f (by decide) (br_f (by decide) (br_f (by decide) (br_f (by decide) (br_f (by decide) (br_f (by decide) (br_f (by decide) (br_f (by decide) (br_f (by decide) (br_f (by decide) (br_f (by decide) (br_t rfl ?_)))))))))))))))))
    unfold wY_act_273
    exact hY _ hp
  · obtain ⟨x, hx, rfl⟩ := hA _ rfl
    obtain ⟨u2, v2, hS, hX, hY⟩ := ob_op16 (deep := deep) (cStr := cStr) (oOpen := oOpen) (te := te) (xArg := xArg) (ySeen := ySeen) (yArg := yArg) (yGiven := yGiven) (B := B) (w := w) R hm hw hx
    refine ⟨u2, v2, hS, fun post hp => br_t (by decide) (br_t (by decide) (br_f (by decide) (hX post hp))), fun post hp => ?_⟩
    unfold wpY_act; refine nm_r (nI_pred e) (br_f (by decide) (br_f (by decide) (br_f (by decide) (br_f (by decide) (br_f (by decide) (br_f (by decide) (?_)))))))
    unfold wY_act_49; refine br_f (by decide) ?_; unfold wY_act_65; refine br_f (by decide) (br_f (by decide) (br_f (by decide) (br_f (by decide) (br_f (by decide) (br_f (by decide) (br_f (by decide) (br_f (by decide) (br_f (by decide) (br_f (by decide) (br_f (by decide) (br_f (by decide) (br_f (by decide) (br_f (by decide) (br_f (by decide) (br_f (by decide) (br_f (by decide) (br_f (by decide) (br_t rfl ?_))))))))))))))))))
    unfold wY_act_273
    exact hY _ hp
  · obtain ⟨x, hx, rfl⟩ := hA _ rfl
    obtain ⟨u2, v2, hS, hX, hY⟩ := ob_op17 (deep := deep) (cStr := cStr) (oOpen := oOpen) (te := te) (xArg := xArg) (ySeen := ySeen) (yArg := yArg) (yGiven := yGiven) (B := B) (w := w) R hm hw hx
    refine ⟨u2, v2, hS, fun post hp => br_t (by decide) (br_t (by decide) (br_f (by decide) (hX post hp))), fun post hp => ?_⟩
    unfold wpY_act; refine nm_r (nI_pred e) (br_f (by decide) (br_f (by decide) (br_f (by decide) (br_f (by decide) (br_f (by decide) (br_f (by decide) (?_)))))))
    unfold wY_act_49; refine br_f (by decide) ?_; unfold wY_act_65; refine br_f (by decide) (br_f (by decide) (br_f (by decide) (br_f (by decide) (br_f (by decide) (br_f (by decide) (br_f (by decide) (br_f (by decide) (br_f (by decide) (br_f (by decide) (br_f (by decide) (br_f (by decide) (br_f (by decide) (br_f (by decide) (br_f (by decide) (br_f (by decide) (br_f (by decide) (br_f (by decide) (br_f (by decide) (br_t rfl ?_)))))))))))))))))))
    unfold wY_act_282
    exact hY _ hp
  · obtain ⟨x, hx, rfl⟩ := hA _ rfl
    obtain ⟨u2, v2, hS, hX, hY⟩ := ob_op18 (deep := deep) (cStr := cStr) (oOpen := oOpen) (te := te) (xArg := xArg) (ySeen := ySeen) (yArg := yArg) (yGiven := yGiven) (B := B) (w := w) R hm hB hw hx
    refine ⟨u2, v2, hS, fun post hp => br_t (by decide) (br_t (by decide) (br_f (by decide) (hX post hp))), fun post hp => ?_⟩
    unfold wpY_act; refine nm_r (nI_pred e) (br_f (by decide) (br_f (by decide) (br_f (by decide) (br_f (by decide) (br_f (by decide) (br_f (by decide) (?_)))))))
    unfold wY_act_49; refine br_f (by decide) ?_; unfold wY_act_65; refine br_f (by decide) (br_f (by decide) (br_f (by decide) (br_f (by decide) (br_f (by decide) (br_f (by decide) (br_f (by decide) (br_f (by decide) (br_f (by decide) (br_f (by decide) (br_f (by decide) (br_f (by decide) (br_f (by decide) (br_f (by decide) (br_f (by decide) (br_f (by decide) (br_f (by decide) (br_f (by decide) (br_f (by decide) (br_f (by decide) (br_t rfl ?_))))))))))))))))))))
    unfold wY_act_282
    exact hY _ hp
  · obtain ⟨u2, v2, hS, hX, hY⟩ := ob_op19 (deep := deep) (cStr := cStr) (oOpen := oOpen) (te := te) (xArg := xArg) (ySeen := ySeen) (yArg := yArg) (yGiven := yGiven) (a := a) (bb := bb) (B := B) (w := w) R hm hw
    refine ⟨u2, v2, hS, fun post hp => br_t (by decide) (br_t (by decide) (br_t (by decide) (br_f (by decide) (hX post hp)))), fun post hp => ?_⟩
    exact hY post hp
  · obtain ⟨u2, v2, hS, hX, hY⟩ := ob_op20 (deep := deep) (cStr := cStr) (oOpen := oOpen) (te := te) (xArg := xArg) (ySeen := ySeen) (yArg := yArg) (yGiven := yGiven) (a := a) (bb := bb) (B := B) (w := w) R hm hw
    refine ⟨u2, v2, hS, fun post hp => br_t (by decide) (br_t (by decide) (br_t (by decide) (br_f (by decide) (hX post hp)))), fun post hp => ?_⟩
    exact hY post hp
  · obtain ⟨x, hx, rfl⟩ := hA _ rfl
    obtain ⟨u2, v2, hS, hX, hY⟩ := ob_op21 (deep := deep) (cStr := cStr) (oOpen := oOpen) (te := te) (xArg := xArg) (ySeen := ySeen) (yArg := yArg) (yGiven := yGiven) (bb := bb) (B := B) (w := w) R hm hw hx
    refine ⟨u2, v2, hS, fun post hp => br_t (by decide) (br_t (by decide) (br_t (by decide) (br_f (by decide) (hX post hp)))), fun post hp => ?_⟩
    exact hY post hp
  · obtain ⟨u2, v2, hS, hX, hY⟩ := ob_op22 (deep := deep) (cStr := cStr) (oOpen := oOpen) (te := te) (xArg := xArg) (ySeen := ySeen) (yArg := yArg) (yGiven := yGiven) (a := a) (bb := bb) (B := B) (w := w) R hm hw
    refine ⟨u2, v2, hS, fun post hp => br_t (by decide) (br_t (by decide) (br_t (by decide) (br_f (by decide) (hX post hp)))), fun post hp => ?_⟩
    exact hY post hp
  · obtain ⟨x, hx, rfl⟩ := hA _ rfl
    obtain ⟨u2, v2, hS, hX, hY⟩ := ob_op23 (deep := deep) (cStr := cStr) (oOpen := oOpen) (te := te) (xArg := xArg) (ySeen := ySeen) (yArg := yArg) (yGiven := yGiven) (bb := bb) (B := B) (w := w) R hm hw hx
    refine ⟨u2, v2, hS, fun post hp => br_t (by decide) (br_t (by decide) (br_t (by decide) (br_f (by decide) (hX post hp)))), fun post hp => ?_⟩
    exact hY post hp
  · obtain ⟨x, hx, rfl⟩ := hA _ rfl
    obtain ⟨u2, v2, hS, hX, hY⟩ := ob_op24 (deep := deep) (cStr := cStr) (oOpen := oOpen) (te := te) (xArg := xArg) (ySeen := ySeen) (yArg := yArg) (yGiven := yGiven) (bb := bb) (B := B) (w := w) R hm hw hx
    refine ⟨u2, v2, hS, fun post hp => br_t (by decide) (br_t (by decide) (br_t (by decide) (br_f (by decide) (hX post hp)))), fun post hp => ?_⟩
    exact hY post hp
  · obtain ⟨u2, v2, hS, hX, hY⟩ := ob_opN (deep := deep) (cStr := cStr) (oOpen := oOpen) (te := te) (xArg := xArg) (ySeen := ySeen) (yArg := yArg) (yGiven := yGiven) (q := nI 25) (a := a) (B := B) (w := w) R hm hw (Or.inl rfl)
    refine ⟨u2, v2, hS, fun post hp => br_t (by decide) (br_t (by decide) (br_t (by decide) (br_t (by decide) (br_f (by decide) (hX post hp))))), fun post hp => ?_⟩
    unfold wpY_act; refine nm_r (nI_pred e) (br_f (by decide) (br_f (by decide) (br_f (by decide) (br_f (by decide) (br_f (by decide) (br_f (by decide) (?_)))))))
    unfold wY_act_49; refine br_f (by decide) ?_; unfold wY_act_65; refine br_f (by decide) (br_t (by decide) ?_)
    exact hY _ hp
  · obtain ⟨u2, v2, hS, hX, hY⟩ := ob_opN (deep := deep) (cStr := cStr) (oOpen := oOpen) (te := te) (xArg := xArg) (ySeen := ySeen) (yArg := yArg) (yGiven := yGiven) (q := nI 26) (a := a) (B := B) (w := w) R hm hw (Or.inr (Or.inl rfl))
    refine ⟨u2, v2, hS, fun post hp => br_t (by decide) (br_t (by decide) (br_t (by decide) (br_t (by decide) (br_f (by decide) (hX post hp))))), fun post hp => ?_⟩
    unfold wpY_act; refine nm_r (nI_pred e) (br_f (by decide) (br_f (by decide) (br_f (by decide) (br_f (by decide) (br_f (by decide) (br_f (by decide) (?_)))))))
    unfold wY_act_49; refine br_f (by decide) ?_; unfold wY_act_65; refine br_f (by decide) (br_t (by decide) ?_)
    exact hY _ hp
  · obtain ⟨u2, v2, hS, hX, hY⟩ := ob_opN (deep := deep) (cStr := cStr) (oOpen := oOpen) (te := te) (xArg := xArg) (ySeen := ySeen) (yArg := yArg) (yGiven := yGiven) (q := nI 27) (a := a) (B := B) (w := w) R hm hw (Or.inr (Or.inr rfl))
    refine ⟨u2, v2, hS, fun post hp => br_t (by decide) (br_t (by decide) (br_t (by decide) (br_t (by decide) (br_f (by decide) (hX post hp))))), fun post hp => ?_⟩
    unfold wpY_act; refine nm_r (nI_pred e) (br_f (by decide) (br_f (by decide) (br_f (by decide) (br_f (by decide) (br_f (by decide) (br_f (by decide) (?_)))))))
    unfold wY_act_49; refine br_f (by decide) ?_; unfold wY_act_65; refine br_f (by decide) (br_t (by decide) ?_)
    exact hY _ hp
  · obtain ⟨u2, v2, hS, hX, hY⟩ := ob_op28 (deep := deep) (cStr := cStr) (oOpen := oOpen) (te := te) (xArg := xArg) (ySeen := ySeen) (yArg := yArg) (yGiven := yGiven) (a := a) (B := B) (w := w) R hm hw
    refine ⟨u2, v2, hS, fun post hp => br_t (by decide) (br_t (by decide) (br_t (by decide) (br_t (by decide) (br_t (by decide) (hX post hp))))), fun post hp => ?_⟩
    unfold wpY_act; refine nm_r (nI_pred e) (br_f (by decide) (br_f (by decide) (br_f (by decide) (br_f (by decide) (br_f (by decide) (br_f (by decide) (?_)))))))
    unfold wY_act_49; refine br_f (by decide) ?_; unfold wY_act_65; refine br_f (by decide) (br_t (by decide) ?_)
    exact hY _ hp
  · obtain ⟨u2, v2, hS, hX, hY⟩ := ob_op29 (deep := deep) (cStr := cStr) (oOpen := oOpen) (te := te) (xArg := xArg) (ySeen := ySeen) (yArg := yArg) (yGiven := yGiven) (a := a) (B := B) (w := w) R hm hB hw
    refine ⟨u2, v2, hS, fun post hp => br_t (by decide) (br_t (by decide) (br_t (by decide) (br_t (by decide) (br_t (by decide) (hX post hp))))), fun post hp => ?_⟩
    unfold wpY_act; refine nm_r (nI_pred e) (br_f (by decide) (br_f (by decide) (br_f (by decide) (br_f (by decide) (br_f (by decide) (br_f (by decide) (?_)))))))
    unfold wY_act_49; refine br_f (by decide) ?_; unfold wY_act_65; refine br_f (by decide) (br_t (by decide) ?_)
    exact hY _ hp
  · obtain ⟨u2, v2, hS, hX, hY⟩ := ob_op30 (deep := deep) (cStr := cStr) (oOpen := oOpen) (te := te) (xArg := xArg) (ySeen := ySeen) (yArg := yArg) (yGiven := yGiven) (a := a) (B := B) (w := w) R hm hw
    refine ⟨u2, v2, hS, fun post hp => br_t (by decide) (br_t (by decide) (br_t (by decide) (br_t (by decide) (br_t (by decide) (hX post hp))))), fun post hp => ?_⟩
    unfold wpY_act; refine nm_r (nI_pred e) (br_f (by decide) (br_f (by decide) (br_f (by decide) (br_f (by decide) (br_f (by decide) (br_f (by decide) (?_)))))))
    unfold wY_act_49; refine br_f (by decide) ?_; unfold wY_act_65; refine br_f (by decide) (br_t (by decide) ?_)
    exact hY _ hp
  · obtain ⟨x, hx, rfl⟩ := hA _ rfl
    obtain ⟨u2, v2, hS, hX, hY⟩ := ob_op31 (deep := deep) (cStr := cStr) (oOpen := oOpen) (te := te) (xArg := xArg) (ySeen := ySeen) (yArg := yArg) (yGiven := yGiven) (B := B) (w := w) R hm hw hx
    refine ⟨u2, v2, hS, fun post hp => br_t (by decide) (br_t (by decide) (br_t (by decide) (br_t (by decide) (br_t (by decide) (hX post hp))))), fun post hp => ?_⟩
    unfold wpY_act; refine nm_r (nI_pred e) (br_f (by decide) (br_f (by decide) (br_f (by decide) (br_f (by decide) (br_f (by decide) (br_f (by decide) (?_)))))))
    unfold wY_act_49; refine br_f (by decide) ?_; unfold wY_act_65; refine br_f (by decide) (br_t (by decide) ?_)
    exact hY _ hp
end
end
section
/-! ===== a run to its end ===== -/
/-- no frame is left -/
def ob_E (B : Nat) (u : SX) (v : SY) : Prop :=
  ∃ (n : Nat) (b : Nat) (m : Nat) (deep : Int32) (res : Int64) (thr : Int32) (thn : Int64) (CL : Nat → Nat) (cStr : Nat → Int32) (cOp : Nat → Int32) (cA : Nat → Int32) (cB : Nat → Int32) (OK : Nat → Nat) (oKin : Nat → Int32) (oOpen : Nat → Int32) (pVal : Nat → Int64) (aOut : Nat → Int32) (aVar : Nat → Int64) (FC : Nat → Nat) (FA : Nat → Nat) (FP : Nat → Nat) (FH : Nat → Nat) (FT : Nat → Nat) (fSelf : Nat → Int64) (stk : Nat → Int64) (TA : Nat → Nat) (TH : Nat → Nat) (xFc : Nat → Int32) (xFs : Nat → Int32) (xPc : Nat → Int32) (xKo : Nat → Int32) (xPk : Nat → Int32) (tw : Nat → Bool) (te : Nat → Bool) (tc : Nat → Bool) (xSet : Nat → Int64) (S : Nat → Nat) (XH : Nat → Nat) (xHeld : Nat → Int64) (xArg : Nat → Int64) (yCo : Nat → Int32) (yAr : Nat → Int32) (M : Nat → Nat) (yPair : Nat → Int32) (ySeen : Nat → Int32) (ySet : Nat → Int64) (yStay : Nat → Int32) (yArg : Nat → Int64) (yHan : Nat → Int32) (yKept : Nat → Int64) (yGiven : Int32), u = (nI n, nI 0, nI b, deep, res, thr, thn, (fun zz => nI (CL zz)), cStr, cOp, cA, cB, (fun zz => nI (OK zz)), oKin, oOpen, xFc, xFs, xPc, xKo, xPk, (fun zz => ob_xa (tw zz) (te zz) (tc zz)), pVal, xSet, (fun zz => nI (S zz)), aOut, aVar, (fun zz => nI (FC zz)), (fun zz => nI (FP zz)), (fun zz => nI (FA zz)), (fun zz => nI (FH zz)), (fun zz => nI (XH zz)), (fun zz => nI (FT zz)), fSelf, xHeld, stk, (fun zz => nI (TA zz)), (fun zz => nI (TH zz)), xArg) ∧ v = (nI n, nI m, yGiven, nI 0, deep, nI b, thr, thn, res, cStr, (fun zz => nI (CL zz)), cOp, cA, cB, (fun zz => nI (OK zz)), oKin, yCo, yAr, oOpen, (fun zz => nI (M zz)), (fun zz => ob_yf (tw zz) (te zz) (tc zz)), yPair, ySeen, pVal, ySet, (fun zz => ob_th (S zz)), yStay, aOut, aVar, yArg, (fun zz => nI (FC zz)), (fun zz => nI (FA zz)), (fun zz => nI (FP zz)), (fun zz => nI (FH zz)), yHan, (fun zz => nI (FT zz)), (fun zz => nI (TA zz)), (fun zz => nI (TH zz)), fSelf, yKept, stk) ∧ ob_R n 0 b m res thr thn CL cOp cA cB OK oKin pVal aOut aVar FC FA FP FH FT fSelf stk TA TH xFc xFs xPc xKo xPk tw tc xSet S XH xHeld yCo yAr M yPair ySet yStay yHan yKept ∧ m ≤ B
def ob_xr (post : Int32 → SX → Prop) (fuel : Nat) (step : Int32) (u : SX) : Prop := match u with
  | (pf_objectCount, pf_frames, pf_begun, pf_deepest, pf_latest, pf_throwing, pf_thrown, pa_codeLength, pa_codeStrict, pa_codeOp, pa_codeA, pa_codeB, pa_objectKind, pa_prototype, pa_extensible, pa_functionCode, pa_functionScope, pa_propertyCount, pa_keyOrder, pa_propertyKind, pa_attributes, pa_valueOrGetter, pa_setterOf, pa_activationState, pa_activationAround, pa_variables, pa_frameCode, pa_frameNext, pa_frameActivation, pa_frameHeight, pa_frameHandlers, pa_frameEnding, pa_frameThis, pa_frameHeld, pa_stack, pa_handlerAt, pa_handlerHeight, pa_arguments) => wX_run_2 post fuel step pf_objectCount pf_frames pf_begun pf_deepest pf_latest pf_throwing pf_thrown pa_codeLength pa_codeStrict pa_codeOp pa_codeA pa_codeB pa_objectKind pa_prototype pa_extensible pa_functionCode pa_functionScope pa_propertyCount pa_keyOrder pa_propertyKind pa_attributes pa_valueOrGetter pa_setterOf pa_activationState pa_activationAround pa_variables pa_frameCode pa_frameNext pa_frameActivation pa_frameHeight pa_frameHandlers pa_frameEnding pa_frameThis pa_frameHeld pa_stack pa_handlerAt pa_handlerHeight pa_arguments
def ob_yr (post : Int32 → SY → Prop) (fuel : Nat) (v : SY) : Prop := match v with
  | (pf_objects, pf_moment, pf_given, pf_depth, pf_deepest, pf_begun, pf_throwing, pf_thrown, pf_result, pa_strict, pa_length, pa_ops, pa_as, pa_bs, pa_kind, pa_kin, pa_codeOf, pa_around, pa_open, pa_made, pa_flags, pa_pair, pa_seen, pa_value, pa_setter, pa_there, pa_stays, pa_outer, pa_variables, pa_arguments, pa_code, pa_activation, pa_at, pa_high, pa_handlers, pa_then, pa_tryAt, pa_tryHigh, pa_self, pa_kept, pa_stack) => wY_work_0 post fuel pf_objects pf_moment pf_given pf_depth pf_deepest pf_begun pf_throwing pf_thrown pf_result pa_strict pa_length pa_ops pa_as pa_bs pa_kind pa_kin pa_codeOf pa_around pa_open pa_made pa_flags pa_pair pa_seen pa_value pa_setter pa_there pa_stays pa_outer pa_variables pa_arguments pa_code pa_activation pa_at pa_high pa_handlers pa_then pa_tryAt pa_tryHigh pa_self pa_kept pa_stack
section
variable {n : Nat} {d : Nat} {b : Nat} {m : Nat} {deep : Int32} {res : Int64} {thr : Int32} {thn : Int64} {CL : Nat → Nat} {cStr : Nat → Int32} {cOp : Nat → Int32} {cA : Nat → Int32} {cB : Nat → Int32} {OK : Nat → Nat} {oKin : Nat → Int32} {oOpen : Nat → Int32} {pVal : Nat → Int64} {aOut : Nat → Int32} {aVar : Nat → Int64} {FC : Nat → Nat} {FA : Nat → Nat} {FP : Nat → Nat} {FH : Nat → Nat} {FT : Nat → Nat} {fSelf : Nat → Int64} {stk : Nat → Int64} {TA : Nat → Nat} {TH : Nat → Nat} {xFc : Nat → Int32} {xFs : Nat → Int32} {xPc : Nat → Int32} {xKo : Nat → Int32} {xPk : Nat → Int32} {tw : Nat → Bool} {te : Nat → Bool} {tc : Nat → Bool} {xSet : Nat → Int64} {S : Nat → Nat} {XH : Nat → Nat} {xHeld : Nat → Int64} {xArg : Nat → Int64} {yCo : Nat → Int32} {yAr : Nat → Int32} {M : Nat → Nat} {yPair : Nat → Int32} {ySeen : Nat → Int32} {ySet : Nat → Int64} {yStay : Nat → Int32} {yArg : Nat → Int64} {yHan : Nat → Int32} {yKept : Nat → Int64} {yGiven : Int32}
variable {e B w : Nat}
theorem ob_E_mk (R : ob_R n 0 b m res thr thn CL cOp cA cB OK oKin pVal aOut aVar FC FA FP FH FT fSelf stk TA TH xFc xFs xPc xKo xPk tw tc xSet S XH xHeld yCo yAr M yPair ySet yStay yHan yKept) (hm : m ≤ B) : ob_E B (nI n, nI 0, nI b, deep, res, thr, thn, (fun zz => nI (CL zz)), cStr, cOp, cA, cB, (fun zz => nI (OK zz)), oKin, oOpen, xFc, xFs, xPc, xKo, xPk, (fun zz => ob_xa (tw zz) (te zz) (tc zz)), pVal, xSet, (fun zz => nI (S zz)), aOut, aVar, (fun zz => nI (FC zz)), (fun zz => nI (FP zz)), (fun zz => nI (FA zz)), (fun zz => nI (FH zz)), (fun zz => nI (XH zz)), (fun zz => nI (FT zz)), fSelf, xHeld, stk, (fun zz => nI (TA zz)), (fun zz => nI (TH zz)), xArg) (nI n, nI m, yGiven, nI 0, deep, nI b, thr, thn, res, cStr, (fun zz => nI (CL zz)), cOp, cA, cB, (fun zz => nI (OK zz)), oKin, yCo, yAr, oOpen, (fun zz => nI (M zz)), (fun zz => ob_yf (tw zz) (te zz) (tc zz)), yPair, ySeen, pVal, ySet, (fun zz => ob_th (S zz)), yStay, aOut, aVar, yArg, (fun zz => nI (FC zz)), (fun zz => nI (FA zz)), (fun zz => nI (FP zz)), (fun zz => nI (FH zz)), yHan, (fun zz => nI (FT zz)), (fun zz => nI (TA zz)), (fun zz => nI (TH zz)), fSelf, yKept, stk) :=
  ⟨n, b, m, deep, res, thr, thn, CL, cStr, cOp, cA, cB, OK, oKin, oOpen, pVal, aOut, aVar, FC, FA, FP, FH, FT, fSelf, stk, TA, TH, xFc, xFs, xPc, xKo, xPk, tw, te, tc, xSet, S, XH, xHeld, xArg, yCo, yAr, M, yPair, ySeen, ySet, yStay, yArg, yHan, yKept, yGiven, rfl, rfl, R, hm⟩
/-- LONG: all frames are left -/
theorem ob_long : ∀ (d : Nat) (S : Nat → Nat) (i : Nat), i + d ≤ 6 → ob_R n d b m res thr thn CL cOp cA cB OK oKin pVal aOut aVar FC FA FP FH FT fSelf stk TA TH xFc xFs xPc xKo xPk tw tc xSet S XH xHeld yCo yAr M yPair ySet yStay yHan yKept → ∃ S' : Nat → Nat, ob_R n 0 b m res thr thn CL cOp cA cB OK oKin pVal aOut aVar FC FA FP FH FT fSelf stk TA TH xFc xFs xPc xKo xPk tw tc xSet S' XH xHeld yCo yAr M yPair ySet yStay yHan yKept ∧
    (∀ post : Int32 → SX → Prop, post 2 (nI n, nI 0, nI b, deep, res, thr, thn, (fun zz => nI (CL zz)), cStr, cOp, cA, cB, (fun zz => nI (OK zz)), oKin, oOpen, xFc, xFs, xPc, xKo, xPk, (fun zz => ob_xa (tw zz) (te zz) (tc zz)), pVal, xSet, (fun zz => nI (S' zz)), aOut, aVar, (fun zz => nI (FC zz)), (fun zz => nI (FP zz)), (fun zz => nI (FA zz)), (fun zz => nI (FH zz)), (fun zz => nI (XH zz)), (fun zz => nI (FT zz)), fSelf, xHeld, stk, (fun zz => nI (TA zz)), (fun zz => nI (TH zz)), xArg) → wX_endLong_2 post (d + 1) (nI i) (nI n) (nI d) (nI b) deep res thr thn (fun zz => nI (CL zz)) cStr cOp cA cB (fun zz => nI (OK zz)) oKin oOpen xFc xFs xPc xKo xPk (fun zz => ob_xa (tw zz) (te zz) (tc zz)) pVal xSet (fun zz => nI (S zz)) aOut aVar (fun zz => nI (FC zz)) (fun zz => nI (FP zz)) (fun zz => nI (FA zz)) (fun zz => nI (FH zz)) (fun zz => nI (XH zz)) (fun zz => nI (FT zz)) fSelf xHeld stk (fun zz => nI (TA zz)) (fun zz => nI (TH zz)) xArg) ∧
    (∀ post : Int32 → SY → Prop, post 2 (nI n, nI m, yGiven, nI 0, deep, nI b, thr, thn, 8589934592, cStr, (fun zz => nI (CL zz)), cOp, cA, cB, (fun zz => nI (OK zz)), oKin, yCo, yAr, oOpen, (fun zz => nI (M zz)), (fun zz => ob_yf (tw zz) (te zz) (tc zz)), yPair, ySeen, pVal, ySet, (fun zz => ob_th (S' zz)), yStay, aOut, aVar, yArg, (fun zz => nI (FC zz)), (fun zz => nI (FA zz)), (fun zz => nI (FP zz)), (fun zz => nI (FH zz)), yHan, (fun zz => nI (FT zz)), (fun zz => nI (TA zz)), (fun zz => nI (TH zz)), fSelf, yKept, stk) → wY_work_85 post (d + 1) (nI n) (nI m) yGiven (nI d) deep (nI b) thr thn res cStr (fun zz => nI (CL zz)) cOp cA cB (fun zz => nI (OK zz)) oKin yCo yAr oOpen (fun zz => nI (M zz)) (fun zz => ob_yf (tw zz) (te zz) (tc zz)) yPair ySeen pVal ySet (fun zz => ob_th (S zz)) yStay aOut aVar yArg (fun zz => nI (FC zz)) (fun zz => nI (FA zz)) (fun zz => nI (FP zz)) (fun zz => nI (FH zz)) yHan (fun zz => nI (FT zz)) (fun zz => nI (TA zz)) (fun zz => nI (TH zz)) fSelf yKept stk) := by
  intro d
  induction d with
  | zero =>
    intro S i hi R
    refine ⟨S, R, fun post hp => ?_, fun post hp => ?_⟩
    · unfold wX_endLong_2
      exact br_c (fun _ => hp) (fun _ => br_t (by decide) hp)
    · unfold wY_work_85
      exact br_t (by decide) hp
  | succ e ih =>
    intro S i hi R
    obtain ⟨he, ha, hS, hs⟩ := ob_actS R
    obtain ⟨S', R', hX, hY⟩ := ih _ (i + 1) (by omega) (ob_leaveR R)
    refine ⟨S', R', fun post hp => ?_, fun post hp => ?_⟩
    · unfold wX_endLong_2
      refine br_f (nI_ge (b := 6) (by omega) (by decide)) (br_f (nI_nle (by omega) (by omega)) ?_)
      refine ob_leaveX he ha hS _ ?_
      rw [nI_1]
      exact nm_e (hX post hp)
    · unfold wY_work_85
      refine br_f (nI_nle (by omega) (by omega)) ?_
      refine ob_leaveY he ha hS hs _ ?_
      exact hY post hp
/-- no frame: the run has ended -/
theorem ob_end (R : ob_R n 0 b m res thr thn CL cOp cA cB OK oKin pVal aOut aVar FC FA FP FH FT fSelf stk TA TH xFc xFs xPc xKo xPk tw tc xSet S XH xHeld yCo yAr M yPair ySet yStay yHan yKept) (hm : m ≤ B) : ∃ (r : Int32) (u' : SX) (v' : SY), ob_E B u' v' ∧
    (∀ post : Int32 → SX → Prop, post r u' → ∀ f step, step < 1000000 → wX_run_2 post (f + 1) (nI step) (nI n) (nI 0) (nI b) deep res thr thn (fun zz => nI (CL zz)) cStr cOp cA cB (fun zz => nI (OK zz)) oKin oOpen xFc xFs xPc xKo xPk (fun zz => ob_xa (tw zz) (te zz) (tc zz)) pVal xSet (fun zz => nI (S zz)) aOut aVar (fun zz => nI (FC zz)) (fun zz => nI (FP zz)) (fun zz => nI (FA zz)) (fun zz => nI (FH zz)) (fun zz => nI (XH zz)) (fun zz => nI (FT zz)) fSelf xHeld stk (fun zz => nI (TA zz)) (fun zz => nI (TH zz)) xArg) ∧
    (∀ post : Int32 → SY → Prop, post r v' → ∀ f, wY_work_0 post (f + 1) (nI n) (nI m) yGiven (nI 0) deep (nI b) thr thn res cStr (fun zz => nI (CL zz)) cOp cA cB (fun zz => nI (OK zz)) oKin yCo yAr oOpen (fun zz => nI (M zz)) (fun zz => ob_yf (tw zz) (te zz) (tc zz)) yPair ySeen pVal ySet (fun zz => ob_th (S zz)) yStay aOut aVar yArg (fun zz => nI (FC zz)) (fun zz => nI (FA zz)) (fun zz => nI (FP zz)) (fun zz => nI (FH zz)) yHan (fun zz => nI (FT zz)) (fun zz => nI (TA zz)) (fun zz => nI (TH zz)) fSelf yKept stk) := by
  have hT := R.2.2.2.2.2.2.2
  have hst : ∀ step, step < 1000000 → ¬ (1000000 : Int32) ≤ nI step := fun step h => nI_ge (b := 1000000) h (by decide)
  rcases hT.2.1 with h0 | ⟨h1, hv⟩
  · refine ⟨0, _, _, ob_E_mk (deep := deep) (cStr := cStr) (oOpen := oOpen) (te := te) (xArg := xArg) (ySeen := ySeen) (yArg := yArg) (yGiven := yGiven) R hm, fun post hp f step hs => ?_, fun post hp f => ?_⟩
    · unfold wX_run_2 wX_run_260
      exact br_f (hst step hs) (br_t (by decide) (br_t h0 hp))
    · unfold wY_work_0 wY_work_168
      exact br_t (by decide) (br_t h0 (br_t h0 hp))
  · have hne : ¬ thr = 0 := by rw [h1]; decide
    have R' : ob_R n 0 b m thn thr thn CL cOp cA cB OK oKin pVal aOut aVar FC FA FP FH FT fSelf stk TA TH xFc xFs xPc xKo xPk tw tc xSet S XH xHeld yCo yAr M yPair ySet yStay yHan yKept := by
      obtain ⟨hC, hO, hP, hL, hY, hA, hF, hT⟩ := R
      exact ⟨hC, hO, hP, hL, hY, hA, hF, hT.1, hT.2.1, fun h => absurd rfl h⟩
    refine ⟨1, _, _, ob_E_mk (deep := deep) (cStr := cStr) (oOpen := oOpen) (te := te) (xArg := xArg) (ySeen := ySeen) (yArg := yArg) (yGiven := yGiven) R' hm, fun post hp f step hs => ?_, fun post hp f => ?_⟩
    · unfold wX_run_2 wX_run_260
      exact br_f (hst step hs) (br_t (by decide) (br_f hne hp))
    · unfold wY_work_0 wY_work_168
      exact br_t (by decide) (br_f hne (br_f hne hp))
theorem ob_xr_of {b B w : Nat} {u : SX} {v : SY} (h : ob_S b B w u v) (post : Int32 → SX → Prop) (fuel : Nat) (step : Int32) : ob_xr post fuel step u → (match u with | (pf_objectCount, pf_frames, pf_begun, pf_deepest, pf_latest, pf_throwing, pf_thrown, pa_codeLength, pa_codeStrict, pa_codeOp, pa_codeA, pa_codeB, pa_objectKind, pa_prototype, pa_extensible, pa_functionCode, pa_functionScope, pa_propertyCount, pa_keyOrder, pa_propertyKind, pa_attributes, pa_valueOrGetter, pa_setterOf, pa_activationState, pa_activationAround, pa_variables, pa_frameCode, pa_frameNext, pa_frameActivation, pa_frameHeight, pa_frameHandlers, pa_frameEnding, pa_frameThis, pa_frameHeld, pa_stack, pa_handlerAt, pa_handlerHeight, pa_arguments) => ∀ x1 : Int32, x1 = step → wX_run_2 post fuel x1 pf_objectCount pf_frames pf_begun pf_deepest pf_latest pf_throwing pf_thrown pa_codeLength pa_codeStrict pa_codeOp pa_codeA pa_codeB pa_objectKind pa_prototype pa_extensible pa_functionCode pa_functionScope pa_propertyCount pa_keyOrder pa_propertyKind pa_attributes pa_valueOrGetter pa_setterOf pa_activationState pa_activationAround pa_variables pa_frameCode pa_frameNext pa_frameActivation pa_frameHeight pa_frameHandlers pa_frameEnding pa_frameThis pa_frameHeld pa_stack pa_handlerAt pa_handlerHeight pa_arguments) := by
  obtain ⟨n, d, m, deep, res, thr, thn, CL, cStr, cOp, cA, cB, OK, oKin, oOpen, pVal, aOut, aVar, FC, FA, FP, FH, FT, fSelf, stk, TA, TH, xFc, xFs, xPc, xKo, xPk, tw, te, tc, xSet, S, XH, xHeld, xArg, yCo, yAr, M, yPair, ySeen, ySet, yStay, yArg, yHan, yKept, yGiven, rfl, rfl, _⟩ := h
  exact fun h x e => by rw [e]; exact h
/-- one step of the run: a throw goes on, a frame ends, an instruction is done; or the run is too long -/
theorem ob_step {B0 : Nat} (R : ob_R n (e+1) b m res thr thn CL cOp cA cB OK oKin pVal aOut aVar FC FA FP FH FT fSelf stk TA TH xFc xFs xPc xKo xPk tw tc xSet S XH xHeld yCo yAr M yPair ySet yStay yHan yKept) (hB : B0 + 1500 < 2 ^ 31) (hm : m ≤ B0 + 5 * b) (hw : 4 * (e + 1) + ob_hs XH (e + 1) ≤ w) :
    (∃ b' w' u1 v1, ob_S b' (B0 + 5 * b') w' u1 v1 ∧ 5 * (300 - b') + w' < 5 * (300 - b) + w ∧
      (∀ (post : Int32 → SX → Prop) (f step : Nat), step < 1000000 → (match u1 with | (pf_objectCount, pf_frames, pf_begun, pf_deepest, pf_latest, pf_throwing, pf_thrown, pa_codeLength, pa_codeStrict, pa_codeOp, pa_codeA, pa_codeB, pa_objectKind, pa_prototype, pa_extensible, pa_functionCode, pa_functionScope, pa_propertyCount, pa_keyOrder, pa_propertyKind, pa_attributes, pa_valueOrGetter, pa_setterOf, pa_activationState, pa_activationAround, pa_variables, pa_frameCode, pa_frameNext, pa_frameActivation, pa_frameHeight, pa_frameHandlers, pa_frameEnding, pa_frameThis, pa_frameHeld, pa_stack, pa_handlerAt, pa_handlerHeight, pa_arguments) => ∀ x1 : Int32, x1 = nI (step + 1) → wX_run_2 post f x1 pf_objectCount pf_frames pf_begun pf_deepest pf_latest pf_throwing pf_thrown pa_codeLength pa_codeStrict pa_codeOp pa_codeA pa_codeB pa_objectKind pa_prototype pa_extensible pa_functionCode pa_functionScope pa_propertyCount pa_keyOrder pa_propertyKind pa_attributes pa_valueOrGetter pa_setterOf pa_activationState pa_activationAround pa_variables pa_frameCode pa_frameNext pa_frameActivation pa_frameHeight pa_frameHandlers pa_frameEnding pa_frameThis pa_frameHeld pa_stack pa_handlerAt pa_handlerHeight pa_arguments) → wX_run_2 post (f + 1) (nI step) (nI n) (nI (e+1)) (nI b) deep res thr thn (fun zz => nI (CL zz)) cStr cOp cA cB (fun zz => nI (OK zz)) oKin oOpen xFc xFs xPc xKo xPk (fun zz => ob_xa (tw zz) (te zz) (tc zz)) pVal xSet (fun zz => nI (S zz)) aOut aVar (fun zz => nI (FC zz)) (fun zz => nI (FP zz)) (fun zz => nI (FA zz)) (fun zz => nI (FH zz)) (fun zz => nI (XH zz)) (fun zz => nI (FT zz)) fSelf xHeld stk (fun zz => nI (TA zz)) (fun zz => nI (TH zz)) xArg) ∧
      (∀ (post : Int32 → SY → Prop) (f : Nat), ob_yr post f v1 → wY_work_0 post (f + 1) (nI n) (nI m) yGiven (nI (e+1)) deep (nI b) thr thn res cStr (fun zz => nI (CL zz)) cOp cA cB (fun zz => nI (OK zz)) oKin yCo yAr oOpen (fun zz => nI (M zz)) (fun zz => ob_yf (tw zz) (te zz) (tc zz)) yPair ySeen pVal ySet (fun zz => ob_th (S zz)) yStay aOut aVar yArg (fun zz => nI (FC zz)) (fun zz => nI (FA zz)) (fun zz => nI (FP zz)) (fun zz => nI (FH zz)) yHan (fun zz => nI (FT zz)) (fun zz => nI (TA zz)) (fun zz => nI (TH zz)) fSelf yKept stk)) ∨
    (∃ u1 v1, ob_E (B0 + 1500) u1 v1 ∧
      (∀ (post : Int32 → SX → Prop) (f step : Nat), step < 1000000 → post 2 u1 → wX_run_2 post (f + 1) (nI step) (nI n) (nI (e+1)) (nI b) deep res thr thn (fun zz => nI (CL zz)) cStr cOp cA cB (fun zz => nI (OK zz)) oKin oOpen xFc xFs xPc xKo xPk (fun zz => ob_xa (tw zz) (te zz) (tc zz)) pVal xSet (fun zz => nI (S zz)) aOut aVar (fun zz => nI (FC zz)) (fun zz => nI (FP zz)) (fun zz => nI (FA zz)) (fun zz => nI (FH zz)) (fun zz => nI (XH zz)) (fun zz => nI (FT zz)) fSelf xHeld stk (fun zz => nI (TA zz)) (fun zz => nI (TH zz)) xArg) ∧
      (∀ (post : Int32 → SY → Prop) (f : Nat), post 2 v1 → wY_work_0 post (f + 1) (nI n) (nI m) yGiven (nI (e+1)) deep (nI b) thr thn res cStr (fun zz => nI (CL zz)) cOp cA cB (fun zz => nI (OK zz)) oKin yCo yAr oOpen (fun zz => nI (M zz)) (fun zz => ob_yf (tw zz) (te zz) (tc zz)) yPair ySeen pVal ySet (fun zz => ob_th (S zz)) yStay aOut aVar yArg (fun zz => nI (FC zz)) (fun zz => nI (FA zz)) (fun zz => nI (FP zz)) (fun zz => nI (FH zz)) yHan (fun zz => nI (FT zz)) (fun zz => nI (TA zz)) (fun zz => nI (TH zz)) fSelf yKept stk)) := by
  have hF := R.2.2.2.2.2.2.1
  have hT := R.2.2.2.2.2.2.2
  have hCC := R.1
  have he : e + 1 ≤ 6 := hF.1
  obtain ⟨f1, f2, f3, f4, f5, f6⟩ := hF.2.1 e (by omega)
  have hst : ∀ step, step < 1000000 → ¬ (1000000 : Int32) ≤ nI step := fun step h => nI_ge (b := 1000000) h (by decide)
  have hd0 : ¬ nI (e + 1) ≤ 0 := nI_nle (by omega) (by omega)
  have hin : vp_in (nI e) 6 := vp_in_nI (by omega) (by decide)
  have hcl : (nI e).toNatClampNeg = e := ob_cl (by omega)
  have hb := hT.1
  have hin5 : FP e < 24 → vp_in (nI (24 * FC e + FP e)) 192 := fun h => vp_in_nI (by omega) (by decide)
  have hcl5 : (nI (24 * FC e + FP e)).toNatClampNeg = 24 * FC e + FP e := ob_cl (by omega)
  by_cases hthr : thr = 0
  · obtain ⟨hCl, hok⟩ := hCC (FC e) f1
    by_cases hlt : FP e < CL (FC e)
    · by_cases hb3 : b < 300
      · left
        have hin5 := hin5 (by omega)
        have R1 : ob_R n (e+1) (b+1) m res thr thn CL cOp cA cB OK oKin pVal aOut aVar FC FA (ob_um FP e (FP e + 1)) FH FT fSelf stk TA TH xFc xFs xPc xKo xPk tw tc xSet S XH xHeld yCo yAr M yPair ySet yStay yHan yKept := by
          obtain ⟨hC, hO, hP, hL, hY, hA, hF, hT⟩ := R
          exact ⟨hC, hO, hP, hL, hY, hA, ob_gF_at hF (by omega), by omega, hT.2.1, hT.2.2⟩
        obtain ⟨u1, v1, hS, hX, hY⟩ := ob_act (deep := deep) (cStr := cStr) (oOpen := oOpen) (te := te) (xArg := xArg) (ySeen := ySeen) (yArg := yArg) (yGiven := yGiven) (B := B0 + 5 * (b + 1)) (w := w) R1 hthr (hok (FP e) hlt) (by omega) (by omega) hw
        refine ⟨b + 1, w + 4, u1, v1, hS, by omega, fun post f step hs h => ?_, fun post f h => ?_⟩
        · have key : ob_xd (fun u => match u with | (pf_objectCount, pf_frames, pf_begun, pf_deepest, pf_latest, pf_throwing, pf_thrown, pa_codeLength, pa_codeStrict, pa_codeOp, pa_codeA, pa_codeB, pa_objectKind, pa_prototype, pa_extensible, pa_functionCode, pa_functionScope, pa_propertyCount, pa_keyOrder, pa_propertyKind, pa_attributes, pa_valueOrGetter, pa_setterOf, pa_activationState, pa_activationAround, pa_variables, pa_frameCode, pa_frameNext, pa_frameActivation, pa_frameHeight, pa_frameHandlers, pa_frameEnding, pa_frameThis, pa_frameHeld, pa_stack, pa_handlerAt, pa_handlerHeight, pa_arguments) => ∀ x1 : Int32, x1 = nI (step + 1) → wX_run_2 post f x1 pf_objectCount pf_frames pf_begun pf_deepest pf_latest pf_throwing pf_thrown pa_codeLength pa_codeStrict pa_codeOp pa_codeA pa_codeB pa_objectKind pa_prototype pa_extensible pa_functionCode pa_functionScope pa_propertyCount pa_keyOrder pa_propertyKind pa_attributes pa_valueOrGetter pa_setterOf pa_activationState pa_activationAround pa_variables pa_frameCode pa_frameNext pa_frameActivation pa_frameHeight pa_frameHandlers pa_frameEnding pa_frameThis pa_frameHeld pa_stack pa_handlerAt pa_handlerHeight pa_arguments) (nI n, nI (e+1), nI (b+1), deep, res, thr, thn, (fun zz => nI (CL zz)), cStr, cOp, cA, cB, (fun zz => nI (OK zz)), oKin, oOpen, xFc, xFs, xPc, xKo, xPk, (fun zz => ob_xa (tw zz) (te zz) (tc zz)), pVal, xSet, (fun zz => nI (S zz)), aOut, aVar, (fun zz => nI (FC zz)), (fun zz => nI ((ob_um FP e (FP e + 1)) zz)), (fun zz => nI (FA zz)), (fun zz => nI (FH zz)), (fun zz => nI (XH zz)), (fun zz => nI (FT zz)), fSelf, xHeld, stk, (fun zz => nI (TA zz)), (fun zz => nI (TH zz)), xArg) (cOp (24 * FC e + FP e)) (cA (24 * FC e + FP e)) (cB (24 * FC e + FP e)) := hX _ h
          unfold wX_run_2
          refine br_f (hst step hs) (br_f hd0 (nm_r (nI_pred e) ⟨hin, nm_r (e' := nI (FC e)) (by rw [hcl]) ⟨hin, nm_r (e' := nI (FP e)) (by rw [hcl]) (br_t hthr ⟨vp_in_nI f1 (by decide), br_t (by rw [ob_cl (by omega)]; exact nI_lt hlt (by omega)) (br_t (nI_lt (b := 300) hb3 (by decide)) (nm_r (nI_1 b) ⟨hin, nm_r (e' := fun zz => nI (ob_um FP e (FP e + 1) zz)) (by rw [hcl, nI_1, ob_uN]) (nm_r (ob_ix24 _ _) ⟨hin5, nm_r (e' := cOp (24 * FC e + FP e)) (by rw [hcl5]) ?_⟩)⟩))⟩)⟩⟩))
          rw [hcl5, nI_1 step]
          exact ⟨fun h7 => ⟨fun h13 => ⟨fun h18 => ⟨fun h24 => ⟨fun h27 => ⟨hin5, ((((key.1 h7).1 h13).1 h18).1 h24).1 h27⟩, fun h27 => ((((key.1 h7).1 h13).1 h18).1 h24).2 h27⟩, fun h24 => ⟨hin5, (((key.1 h7).1 h13).1 h18).2 h24⟩⟩, fun h18 => ⟨hin5, ((key.1 h7).1 h13).2 h18⟩⟩, fun h13 => ⟨hin5, (key.1 h7).2 h13⟩⟩, fun h7 => ⟨hin5, hin5, key.2 h7⟩⟩
        · unfold wY_work_0
          refine br_f hd0 (nm_r (nI_pred e) ⟨hin, hin, nm_r (e' := nI (24 * FC e + FP e)) (by rw [hcl]; exact ob_iy24 _ _) (br_t hthr ⟨hin, hin, by rw [hcl]; exact vp_in_nI f1 (by decide), ?_⟩)⟩)
          rw [hcl]
          refine br_t (by rw [ob_cl (by omega)]; exact nI_lt hlt (by omega)) (br_f (fun z => by have := (nI_eq (b := 300) (by omega) (by decide)).mp z; omega) (nm_r (nI_1 b) ⟨hin, hin, nm_r (e' := fun zz => nI (ob_um FP e (FP e + 1) zz)) (by rw [nI_1, ob_uN]) ⟨hin5, hin5, hin5, ?_⟩⟩))
          rw [hcl5]
          exact hY _ h
      · right
        have hb300 : b = 300 := by omega
        have hres := ob_resU R
        subst hres
        obtain ⟨S', R', hXl, hYl⟩ := ob_long (n := n) (b := b) (m := m) (deep := deep) (thr := thr) (thn := thn) (CL := CL) (cStr := cStr) (cOp := cOp) (cA := cA) (cB := cB) (OK := OK) (oKin := oKin) (oOpen := oOpen) (pVal := pVal) (aOut := aOut) (aVar := aVar) (FC := FC) (FA := FA) (FP := FP) (FH := FH) (FT := FT) (fSelf := fSelf) (stk := stk) (TA := TA) (TH := TH) (xFc := xFc) (xFs := xFs) (xPc := xPc) (xKo := xKo) (xPk := xPk) (tw := tw) (te := te) (tc := tc) (xSet := xSet) (XH := XH) (xHeld := xHeld) (xArg := xArg) (yCo := yCo) (yAr := yAr) (M := M) (yPair := yPair) (ySeen := ySeen) (ySet := ySet) (yStay := yStay) (yArg := yArg) (yHan := yHan) (yKept := yKept) (yGiven := yGiven) (res := 8589934592) (e + 1) S 0 (by omega) R
        refine ⟨_, _, ob_E_mk (deep := deep) (cStr := cStr) (oOpen := oOpen) (te := te) (xArg := xArg) (ySeen := ySeen) (yArg := yArg) (yGiven := yGiven) R' (by omega), fun post f step hs h => ?_, fun post f h => ?_⟩
        · unfold wX_run_2
          refine br_f (hst step hs) (br_f hd0 (nm_r (nI_pred e) ⟨hin, nm_r (e' := nI (FC e)) (by rw [hcl]) ⟨hin, nm_r (e' := nI (FP e)) (by rw [hcl]) (br_t hthr ⟨vp_in_nI f1 (by decide), br_t (by rw [ob_cl (by omega)]; exact nI_lt hlt (by omega)) (br_f (by rw [hb300]; decide) ?_)⟩)⟩⟩))
          unfold wpX_endLong
          exact ⟨e + 2, hXl _ h⟩
        · unfold wY_work_0
          refine br_f hd0 (nm_r (nI_pred e) ⟨hin, hin, nm_r (e' := nI (24 * FC e + FP e)) (by rw [hcl]; exact ob_iy24 _ _) (br_t hthr ⟨hin, hin, by rw [hcl]; exact vp_in_nI f1 (by decide), ?_⟩)⟩)
          rw [hcl]
          refine br_t (by rw [ob_cl (by omega)]; exact nI_lt hlt (by omega)) (br_t (by rw [hb300]; rfl) ⟨e + 2, hYl _ h⟩)
    · left
      obtain ⟨S', res', thr', thn', FH2, stk', R2, hX2, hY2⟩ := ob_finish (deep := deep) (cStr := cStr) (oOpen := oOpen) (te := te) (xArg := xArg) (ySeen := ySeen) (yArg := yArg) (yGiven := yGiven) R (ob_V_U n)
      have hw' : 4 * (e + 1) + (ob_hs XH e + XH e) ≤ w := hw
      refine ⟨b, w - 4, _, _, ob_S_mk (deep := deep) (cStr := cStr) (oOpen := oOpen) (te := te) (xArg := xArg) (ySeen := ySeen) (yArg := yArg) (yGiven := yGiven) R2 hm (by omega), by omega, fun post f step hs h => ?_, fun post f h => ?_⟩
      · unfold wX_run_2
        refine br_f (hst step hs) (br_f hd0 (nm_r (nI_pred e) ⟨hin, nm_r (e' := nI (FC e)) (by rw [hcl]) ⟨hin, nm_r (e' := nI (FP e)) (by rw [hcl]) (br_t hthr ⟨vp_in_nI f1 (by decide), br_f (by rw [ob_cl (by omega)]; exact nI_nlt (by omega) (by omega)) ?_⟩)⟩⟩))
        rw [nI_1 step]
        exact hX2 _ h
      · unfold wY_work_0
        refine br_f hd0 (nm_r (nI_pred e) ⟨hin, hin, nm_r (e' := nI (24 * FC e + FP e)) (by rw [hcl]; exact ob_iy24 _ _) (br_t hthr ⟨hin, hin, by rw [hcl]; exact vp_in_nI f1 (by decide), ?_⟩)⟩)
        rw [hcl]
        refine br_f (by rw [ob_cl (by omega)]; exact nI_nlt (by omega) (by omega)) ?_
        exact hY2 _ h
  · left
    have hv : ob_V n thn := by
      rcases hT.2.1 with h | h
      · exact absurd h hthr
      · exact h.2
    obtain ⟨d', S', XH', yHan', FP', FH', res', thr', thn', stk', R2, hw2, hX2, hY2⟩ := ob_land (deep := deep) (cStr := cStr) (oOpen := oOpen) (te := te) (xArg := xArg) (ySeen := ySeen) (yArg := yArg) (yGiven := yGiven) R hv
    refine ⟨b, w - 1, _, _, ob_S_mk (deep := deep) (cStr := cStr) (oOpen := oOpen) (te := te) (xArg := xArg) (ySeen := ySeen) (yArg := yArg) (yGiven := yGiven) R2 hm (by omega), by omega, fun post f step hs h => ?_, fun post f h => ?_⟩
    · unfold wX_run_2
      refine br_f (hst step hs) (br_f hd0 (nm_r (nI_pred e) ⟨hin, nm_r (e' := nI (FC e)) (by rw [hcl]) ⟨hin, nm_r (e' := nI (FP e)) (by rw [hcl]) (br_f hthr ?_)⟩⟩))
      rw [nI_1 step]
      exact hX2 _ h
    · unfold wY_work_0
      refine br_f hd0 (nm_r (nI_pred e) ⟨hin, hin, nm_r (e' := nI (24 * FC e + FP e)) (by rw [hcl]; exact ob_iy24 _ _) (br_f hthr ?_)⟩)
      exact hY2 _ h
end
end
section
/-! ===== a run, from any state to its end ===== -/
theorem ob_run {B0 : Nat} (hB : B0 + 1500 < 2 ^ 31) : ∀ (g b w : Nat) (u : SX) (v : SY), 5 * (300 - b) + w ≤ g → ob_S b (B0 + 5 * b) w u v → ∃ (r : Int32) (u' : SX) (v' : SY), ob_E (B0 + 1500) u' v' ∧
    (∀ post : Int32 → SX → Prop, post r u' → ∀ fuel step, g < fuel → step + g < 1000000 → ob_xr post fuel (nI step) u) ∧
    (∀ post : Int32 → SY → Prop, post r v' → ∀ fuel, g < fuel → ob_yr post fuel v) := by
  intro g
  induction g with
  | zero =>
    intro b w u v hg hS
    obtain ⟨n, d, m, deep, res, thr, thn, CL, cStr, cOp, cA, cB, OK, oKin, oOpen, pVal, aOut, aVar, FC, FA, FP, FH, FT, fSelf, stk, TA, TH, xFc, xFs, xPc, xKo, xPk, tw, te, tc, xSet, S, XH, xHeld, xArg, yCo, yAr, M, yPair, ySeen, ySet, yStay, yArg, yHan, yKept, yGiven, rfl, rfl, R, hm, hw⟩ := hS
    have hd : d = 0 := by omega
    subst hd
    have hb := R.2.2.2.2.2.2.2.1
    obtain ⟨r, u', v', hE, hX, hY⟩ := ob_end (deep := deep) (cStr := cStr) (oOpen := oOpen) (te := te) (xArg := xArg) (ySeen := ySeen) (yArg := yArg) (yGiven := yGiven) (B := B0 + 1500) R (by omega)
    refine ⟨r, u', v', hE, fun post hp fuel step hf hs => ?_, fun post hp fuel hf => ?_⟩
    · obtain ⟨f, rfl⟩ : ∃ f, fuel = f + 1 := ⟨fuel - 1, by omega⟩
      exact hX post hp f step (by omega)
    · obtain ⟨f, rfl⟩ : ∃ f, fuel = f + 1 := ⟨fuel - 1, by omega⟩
      exact hY post hp f
  | succ g ih =>
    intro b w u v hg hS
    obtain ⟨n, d, m, deep, res, thr, thn, CL, cStr, cOp, cA, cB, OK, oKin, oOpen, pVal, aOut, aVar, FC, FA, FP, FH, FT, fSelf, stk, TA, TH, xFc, xFs, xPc, xKo, xPk, tw, te, tc, xSet, S, XH, xHeld, xArg, yCo, yAr, M, yPair, ySeen, ySet, yStay, yArg, yHan, yKept, yGiven, rfl, rfl, R, hm, hw⟩ := hS
    cases d with
    | zero =>
      have hb := R.2.2.2.2.2.2.2.1
      obtain ⟨r, u', v', hE, hX, hY⟩ := ob_end (deep := deep) (cStr := cStr) (oOpen := oOpen) (te := te) (xArg := xArg) (ySeen := ySeen) (yArg := yArg) (yGiven := yGiven) (B := B0 + 1500) R (by omega)
      refine ⟨r, u', v', hE, fun post hp fuel step hf hs => ?_, fun post hp fuel hf => ?_⟩
      · obtain ⟨f, rfl⟩ : ∃ f, fuel = f + 1 := ⟨fuel - 1, by omega⟩
        exact hX post hp f step (by omega)
      · obtain ⟨f, rfl⟩ : ∃ f, fuel = f + 1 := ⟨fuel - 1, by omega⟩
        exact hY post hp f
    | succ e =>
      rcases ob_step (deep := deep) (cStr := cStr) (oOpen := oOpen) (te := te) (xArg := xArg) (ySeen := ySeen) (yArg := yArg) (yGiven := yGiven) R hB hm hw with ⟨b', w', u1, v1, hS1, hlt, hX1, hY1⟩ | ⟨u1, v1, hE, hX1, hY1⟩
      · obtain ⟨r, u', v', hE, hX, hY⟩ := ih b' w' u1 v1 (by omega) hS1
        refine ⟨r, u', v', hE, fun post hp fuel step hf hs => ?_, fun post hp fuel hf => ?_⟩
        · obtain ⟨f, rfl⟩ : ∃ f, fuel = f + 1 := ⟨fuel - 1, by omega⟩
          exact hX1 post f step (by omega) (ob_xr_of hS1 post f (nI (step + 1)) (hX post hp f (step + 1) (by omega) (by omega)))
        · obtain ⟨f, rfl⟩ : ∃ f, fuel = f + 1 := ⟨fuel - 1, by omega⟩
          exact hY1 post f (hY post hp f (by omega))
      · refine ⟨2, u1, v1, hE, fun post hp fuel step hf hs => ?_, fun post hp fuel hf => ?_⟩
        · obtain ⟨f, rfl⟩ : ∃ f, fuel = f + 1 := ⟨fuel - 1, by omega⟩
          exact hX1 post f step (by omega) hp
        · obtain ⟨f, rfl⟩ : ∃ f, fuel = f + 1 := ⟨fuel - 1, by omega⟩
          exact hY1 post f hp
/-- both sides run to their end, with one answer -/
theorem ob_runs {B0 w : Nat} {u : SX} {v : SY} (hB : B0 + 1500 < 2 ^ 31) (hw : w ≤ 100000) (h : ob_S 0 B0 w u v) : ∃ (r : Int32) (u' : SX) (v' : SY), ob_E (B0 + 1500) u' v' ∧
    (∀ post : Int32 → SX → Prop, post r u' → wpX_run post u) ∧ (∀ post : Int32 → SY → Prop, post r v' → wpY_work post v) := by
  obtain ⟨r, u', v', hE, hX, hY⟩ := ob_run hB (1500 + w) 0 w u v (by omega) h
  obtain ⟨n, d, m, deep, res, thr, thn, CL, cStr, cOp, cA, cB, OK, oKin, oOpen, pVal, aOut, aVar, FC, FA, FP, FH, FT, fSelf, stk, TA, TH, xFc, xFs, xPc, xKo, xPk, tw, te, tc, xSet, S, XH, xHeld, xArg, yCo, yAr, M, yPair, ySeen, ySet, yStay, yArg, yHan, yKept, yGiven, rfl, rfl, _⟩ := h
  exact ⟨r, u', v', hE, fun post hp => ⟨1500 + w + 1, hX post hp (1500 + w + 1) 0 (by omega) (by omega)⟩, fun post hp => ⟨1500 + w + 1, hY post hp (1500 + w + 1) (by omega)⟩⟩
end
section
/-! ===== the relation at a turn; what the arguments of a call are ===== -/
def i_Rel (k : Nat) (u : SX) (v : SY) : Prop := ob_E (300 * k) u v
theorem i_up {k : Nat} {u : SX} {v : SY} (h : i_Rel k u v) : i_Rel (k + 6) u v := by
  obtain ⟨n, b, m, deep, res, thr, thn, CL, cStr, cOp, cA, cB, OK, oKin, oOpen, pVal, aOut, aVar, FC, FA, FP, FH, FT, fSelf, stk, TA, TH, xFc, xFs, xPc, xKo, xPk, tw, te, tc, xSet, S, XH, xHeld, xArg, yCo, yAr, M, yPair, ySeen, ySet, yStay, yArg, yHan, yKept, yGiven, h1, h2, h3, h4⟩ := h
  exact ⟨n, b, m, deep, res, thr, thn, CL, cStr, cOp, cA, cB, OK, oKin, oOpen, pVal, aOut, aVar, FC, FA, FP, FH, FT, fSelf, stk, TA, TH, xFc, xFs, xPc, xKo, xPk, tw, te, tc, xSet, S, XH, xHeld, xArg, yCo, yAr, M, yPair, ySeen, ySet, yStay, yArg, yHan, yKept, yGiven, h1, h2, h3, by omega⟩
theorem ob_etaX (P : Int32 → SX → Prop) (r : Int32) (u : SX) (h : P r u) : (match u with | (pf_objectCount, pf_frames, pf_begun, pf_deepest, pf_latest, pf_throwing, pf_thrown, pa_codeLength, pa_codeStrict, pa_codeOp, pa_codeA, pa_codeB, pa_objectKind, pa_prototype, pa_extensible, pa_functionCode, pa_functionScope, pa_propertyCount, pa_keyOrder, pa_propertyKind, pa_attributes, pa_valueOrGetter, pa_setterOf, pa_activationState, pa_activationAround, pa_variables, pa_frameCode, pa_frameNext, pa_frameActivation, pa_frameHeight, pa_frameHandlers, pa_frameEnding, pa_frameThis, pa_frameHeld, pa_stack, pa_handlerAt, pa_handlerHeight, pa_arguments) => P r (pf_objectCount, pf_frames, pf_begun, pf_deepest, pf_latest, pf_throwing, pf_thrown, pa_codeLength, pa_codeStrict, pa_codeOp, pa_codeA, pa_codeB, pa_objectKind, pa_prototype, pa_extensible, pa_functionCode, pa_functionScope, pa_propertyCount, pa_keyOrder, pa_propertyKind, pa_attributes, pa_valueOrGetter, pa_setterOf, pa_activationState, pa_activationAround, pa_variables, pa_frameCode, pa_frameNext, pa_frameActivation, pa_frameHeight, pa_frameHandlers, pa_frameEnding, pa_frameThis, pa_frameHeld, pa_stack, pa_handlerAt, pa_handlerHeight, pa_arguments)) := h
theorem ob_etaY (P : Int32 → SY → Prop) (r : Int32) (u : SY) (h : P r u) : (match u with | (pf_objects, pf_moment, pf_given, pf_depth, pf_deepest, pf_begun, pf_throwing, pf_thrown, pf_result, pa_strict, pa_length, pa_ops, pa_as, pa_bs, pa_kind, pa_kin, pa_codeOf, pa_around, pa_open, pa_made, pa_flags, pa_pair, pa_seen, pa_value, pa_setter, pa_there, pa_stays, pa_outer, pa_variables, pa_arguments, pa_code, pa_activation, pa_at, pa_high, pa_handlers, pa_then, pa_tryAt, pa_tryHigh, pa_self, pa_kept, pa_stack) => P r (pf_objects, pf_moment, pf_given, pf_depth, pf_deepest, pf_begun, pf_throwing, pf_thrown, pf_result, pa_strict, pa_length, pa_ops, pa_as, pa_bs, pa_kind, pa_kin, pa_codeOf, pa_around, pa_open, pa_made, pa_flags, pa_pair, pa_seen, pa_value, pa_setter, pa_there, pa_stays, pa_outer, pa_variables, pa_arguments, pa_code, pa_activation, pa_at, pa_high, pa_handlers, pa_then, pa_tryAt, pa_tryHigh, pa_self, pa_kept, pa_stack)) := h
section
variable {n : Nat} {d : Nat} {b : Nat} {m : Nat} {deep : Int32} {res : Int64} {thr : Int32} {thn : Int64} {CL : Nat → Nat} {cStr : Nat → Int32} {cOp : Nat → Int32} {cA : Nat → Int32} {cB : Nat → Int32} {OK : Nat → Nat} {oKin : Nat → Int32} {oOpen : Nat → Int32} {pVal : Nat → Int64} {aOut : Nat → Int32} {aVar : Nat → Int64} {FC : Nat → Nat} {FA : Nat → Nat} {FP : Nat → Nat} {FH : Nat → Nat} {FT : Nat → Nat} {fSelf : Nat → Int64} {stk : Nat → Int64} {TA : Nat → Nat} {TH : Nat → Nat} {xFc : Nat → Int32} {xFs : Nat → Int32} {xPc : Nat → Int32} {xKo : Nat → Int32} {xPk : Nat → Int32} {tw : Nat → Bool} {te : Nat → Bool} {tc : Nat → Bool} {xSet : Nat → Int64} {S : Nat → Nat} {XH : Nat → Nat} {xHeld : Nat → Int64} {xArg : Nat → Int64} {yCo : Nat → Int32} {yAr : Nat → Int32} {M : Nat → Nat} {yPair : Nat → Int32} {ySeen : Nat → Int32} {ySet : Nat → Int64} {yStay : Nat → Int32} {yArg : Nat → Int64} {yHan : Nat → Int32} {yKept : Nat → Int64} {yGiven : Int32}
variable {k o B : Nat} {v1 v2 : Int32} {v : Int64}
theorem ob_nle1 (hn : 1 ≤ n) (hn2 : n < 2 ^ 31) (h : nI n ≤ v1) : nI n - 1 < v1 := by
  rw [ob_sub1 hn]
  exact Int32.lt_of_lt_of_le (nI_lt (by omega) hn2) h
/-- an object -/
theorem ob_isO (hO : ob_gO n OK oKin) (v1 : Int32) : (∃ o, o < n ∧ v1 = nI o) ∨ (v1 < 0 ∨ nI n ≤ v1) := by
  have := hO.1
  rcases pk_ix v1 (n := n) (by omega) with h | h | h
  · exact Or.inr (Or.inl h)
  · exact Or.inr (Or.inr h)
  · exact Or.inl h
theorem ob_inF {lo hi : Int32} (h : v1 < lo ∨ hi < v1) (post : Int32 → Prop) (hp : post 0) : wpY_in post v1 lo hi := by
  unfold wpY_in
  by_cases h0 : v1 < lo
  · exact br_t h0 hp
  · exact br_f h0 (br_t (h.resolve_left h0) hp)
/-- a property -/
theorem ob_isP (hO : ob_gO n OK oKin) (v1 v2 : Int32) : (∃ o k, o < n ∧ k < 32 ∧ v1 = nI o ∧ v2 = nI k ∧ (∀ post : Int32 → Prop, post 1 → wpX_isThere post (nI n, nI d, nI b, deep, res, thr, thn, (fun zz => nI (CL zz)), cStr, cOp, cA, cB, (fun zz => nI (OK zz)), oKin, oOpen, xFc, xFs, xPc, xKo, xPk, (fun zz => ob_xa (tw zz) (te zz) (tc zz)), pVal, xSet, (fun zz => nI (S zz)), aOut, aVar, (fun zz => nI (FC zz)), (fun zz => nI (FP zz)), (fun zz => nI (FA zz)), (fun zz => nI (FH zz)), (fun zz => nI (XH zz)), (fun zz => nI (FT zz)), fSelf, xHeld, stk, (fun zz => nI (TA zz)), (fun zz => nI (TH zz)), xArg) v1 v2) ∧ (∀ post : Int32 → Prop, post 1 → wpY_isProperty post (nI n, nI m, yGiven, nI d, deep, nI b, thr, thn, res, cStr, (fun zz => nI (CL zz)), cOp, cA, cB, (fun zz => nI (OK zz)), oKin, yCo, yAr, oOpen, (fun zz => nI (M zz)), (fun zz => ob_yf (tw zz) (te zz) (tc zz)), yPair, ySeen, pVal, ySet, (fun zz => ob_th (S zz)), yStay, aOut, aVar, yArg, (fun zz => nI (FC zz)), (fun zz => nI (FA zz)), (fun zz => nI (FP zz)), (fun zz => nI (FH zz)), yHan, (fun zz => nI (FT zz)), (fun zz => nI (TA zz)), (fun zz => nI (TH zz)), fSelf, yKept, stk) v1 v2)) ∨
    ((∀ post : Int32 → Prop, post 0 → wpX_isThere post (nI n, nI d, nI b, deep, res, thr, thn, (fun zz => nI (CL zz)), cStr, cOp, cA, cB, (fun zz => nI (OK zz)), oKin, oOpen, xFc, xFs, xPc, xKo, xPk, (fun zz => ob_xa (tw zz) (te zz) (tc zz)), pVal, xSet, (fun zz => nI (S zz)), aOut, aVar, (fun zz => nI (FC zz)), (fun zz => nI (FP zz)), (fun zz => nI (FA zz)), (fun zz => nI (FH zz)), (fun zz => nI (XH zz)), (fun zz => nI (FT zz)), fSelf, xHeld, stk, (fun zz => nI (TA zz)), (fun zz => nI (TH zz)), xArg) v1 v2) ∧ (∀ post : Int32 → Prop, post 0 → wpY_isProperty post (nI n, nI m, yGiven, nI d, deep, nI b, thr, thn, res, cStr, (fun zz => nI (CL zz)), cOp, cA, cB, (fun zz => nI (OK zz)), oKin, yCo, yAr, oOpen, (fun zz => nI (M zz)), (fun zz => ob_yf (tw zz) (te zz) (tc zz)), yPair, ySeen, pVal, ySet, (fun zz => ob_th (S zz)), yStay, aOut, aVar, yArg, (fun zz => nI (FC zz)), (fun zz => nI (FA zz)), (fun zz => nI (FP zz)), (fun zz => nI (FH zz)), yHan, (fun zz => nI (FT zz)), (fun zz => nI (TA zz)), (fun zz => nI (TH zz)), fSelf, yKept, stk) v1 v2)) := by
  have h3 := hO.1
  rcases ob_isO hO v1 with ⟨o, ho, rfl⟩ | h
  · have hYo : ∀ P : Int32 → Prop, P 1 → wpY_in P (nI o) 0 (nI n - 1) := by
      intro P hP
      rw [ob_sub1 (by omega)]
      exact ob_inT (b := 0) (by omega) (by omega) (by omega) _ hP
    have hXo : ¬ nI o < 0 := nI_pos (by omega)
    have hXo2 : ¬ nI n ≤ nI o := nI_ge ho (by omega)
    rcases pk_ix v2 (n := 32) (by decide) with h | h | ⟨k, hk, rfl⟩
    · refine Or.inr ⟨fun post hp => ?_, fun post hp => ?_⟩
      · unfold wpX_isThere
        exact br_f hXo (br_f hXo2 (br_t h hp))
      · unfold wpY_isProperty
        exact hYo _ (br_f (by decide) (ob_inF (Or.inl h) _ (br_t rfl hp)))
    · have h0 : ¬ v2 < 0 := by
        intro z
        have := Int32.lt_of_le_of_lt h z
        exact absurd this (by decide)
      have h31 : 31 < v2 := Int32.lt_of_lt_of_le (by decide) h
      refine Or.inr ⟨fun post hp => ?_, fun post hp => ?_⟩
      · unfold wpX_isThere
        exact br_f hXo (br_f hXo2 (br_f h0 (br_t h hp)))
      · unfold wpY_isProperty
        exact hYo _ (br_f (by decide) (ob_inF (Or.inr h31) _ (br_t rfl hp)))
    · refine Or.inl ⟨o, k, ho, hk, rfl, rfl, fun post hp => ?_, fun post hp => ?_⟩
      · unfold wpX_isThere
        exact br_f hXo (br_f hXo2 (br_f (nI_pos (by omega)) (br_f (nI_ge (b := 32) hk (by decide)) hp)))
      · unfold wpY_isProperty
        exact hYo _ (br_f (by decide) (ob_inT (b := 0) (c := 31) (by omega) (by omega) (by decide) _ (br_f (by decide) hp)))
  · refine Or.inr ⟨fun post hp => ?_, fun post hp => ?_⟩
    · unfold wpX_isThere
      by_cases h0 : v1 < 0
      · exact br_t h0 hp
      · exact br_f h0 (br_t (h.resolve_left h0) hp)
    · unfold wpY_isProperty
      exact ob_inF (h.imp id (ob_nle1 (by omega) (by omega))) _ (br_t rfl hp)
/-- a value -/
theorem ob_isV (hO : ob_gO n OK oKin) (v : Int64) : (ob_V n v ∧ (∀ post : Int32 → Prop, post 1 → wpX_isValue post (nI n, nI d, nI b, deep, res, thr, thn, (fun zz => nI (CL zz)), cStr, cOp, cA, cB, (fun zz => nI (OK zz)), oKin, oOpen, xFc, xFs, xPc, xKo, xPk, (fun zz => ob_xa (tw zz) (te zz) (tc zz)), pVal, xSet, (fun zz => nI (S zz)), aOut, aVar, (fun zz => nI (FC zz)), (fun zz => nI (FP zz)), (fun zz => nI (FA zz)), (fun zz => nI (FH zz)), (fun zz => nI (XH zz)), (fun zz => nI (FT zz)), fSelf, xHeld, stk, (fun zz => nI (TA zz)), (fun zz => nI (TH zz)), xArg) v) ∧ (∀ post : Int32 → Prop, post 1 → wpY_isValue post (nI n, nI m, yGiven, nI d, deep, nI b, thr, thn, res, cStr, (fun zz => nI (CL zz)), cOp, cA, cB, (fun zz => nI (OK zz)), oKin, yCo, yAr, oOpen, (fun zz => nI (M zz)), (fun zz => ob_yf (tw zz) (te zz) (tc zz)), yPair, ySeen, pVal, ySet, (fun zz => ob_th (S zz)), yStay, aOut, aVar, yArg, (fun zz => nI (FC zz)), (fun zz => nI (FA zz)), (fun zz => nI (FP zz)), (fun zz => nI (FH zz)), yHan, (fun zz => nI (FT zz)), (fun zz => nI (TA zz)), (fun zz => nI (TH zz)), fSelf, yKept, stk) v)) ∨
    ((¬ ob_V n v) ∧ (∀ post : Int32 → Prop, post 0 → wpX_isValue post (nI n, nI d, nI b, deep, res, thr, thn, (fun zz => nI (CL zz)), cStr, cOp, cA, cB, (fun zz => nI (OK zz)), oKin, oOpen, xFc, xFs, xPc, xKo, xPk, (fun zz => ob_xa (tw zz) (te zz) (tc zz)), pVal, xSet, (fun zz => nI (S zz)), aOut, aVar, (fun zz => nI (FC zz)), (fun zz => nI (FP zz)), (fun zz => nI (FA zz)), (fun zz => nI (FH zz)), (fun zz => nI (XH zz)), (fun zz => nI (FT zz)), fSelf, xHeld, stk, (fun zz => nI (TA zz)), (fun zz => nI (TH zz)), xArg) v) ∧ (∀ post : Int32 → Prop, post 0 → wpY_isValue post (nI n, nI m, yGiven, nI d, deep, nI b, thr, thn, res, cStr, (fun zz => nI (CL zz)), cOp, cA, cB, (fun zz => nI (OK zz)), oKin, yCo, yAr, oOpen, (fun zz => nI (M zz)), (fun zz => ob_yf (tw zz) (te zz) (tc zz)), yPair, ySeen, pVal, ySet, (fun zz => ob_th (S zz)), yStay, aOut, aVar, yArg, (fun zz => nI (FC zz)), (fun zz => nI (FA zz)), (fun zz => nI (FP zz)), (fun zz => nI (FH zz)), yHan, (fun zz => nI (FT zz)), (fun zz => nI (TA zz)), (fun zz => nI (TH zz)), fSelf, yKept, stk) v)) := by
  have h3 := hO.1
  by_cases hnum : v = v.toInt32.toInt64
  · have hlt : v < 8589934592 := by
      rw [ob_Tlt, ob_TU]
      have := (ob_num_b hnum).2
      omega
    refine Or.inl ⟨Or.inl hnum, fun post hp => ?_, fun post hp => ?_⟩
    · unfold wpX_isValue wX_isValue_20 wX_isValue_21 wpX_isNumber
      exact br_t hlt (br_t rfl (br_t hnum (br_f (by decide) hp)))
    · unfold wpY_isValue wpY_isNumber
      exact br_t hnum (br_f (by decide) hp)
  · by_cases hsp : ¬ v < 8589934592 ∧ v ≤ 8589934597
    · have hnr : ¬ (8589934597 : Int64) < v := by
        rw [ob_Tlt]
        have := hsp.2
        rw [ob_Tle] at this
        omega
      refine Or.inl ⟨Or.inr (Or.inl ?_), fun post hp => ?_, fun post hp => ?_⟩
      · have h0 : ¬ v < 0 := by
          rw [ob_Tlt, show (0 : Int64).toInt = 0 from by decide]
          have := hsp.1
          rw [ob_Tlt, ob_TU] at this
          omega
        obtain ⟨j, hj, rfl⟩ := pk_lOf h0
        have h1 := hsp.1
        have h2 := hsp.2
        rw [ob_Tlt, ob_TU, pk_lT hj] at h1
        rw [ob_Tle, ob_TR, pk_lT hj] at h2
        exact ⟨j - 8589934592, by omega, by rw [show 8589934592 + (j - 8589934592) = j from by omega]⟩
      · unfold wpX_isValue wX_isValue_21
        exact br_f hsp.1 (br_f hnr (br_f (by decide) hp))
      · unfold wpY_isValue wpY_isNumber
        exact br_f hnum (br_t rfl (br_f hsp.1 (br_t hsp.2 hp)))
    · have hX : ∀ post : Int32 → Prop, wpX_objectOf (fun r_5 => (((r_5 < 0 → (post 0)) ∧ (¬ r_5 < 0 → (post 1))))) (nI n, nI d, nI b, deep, res, thr, thn, (fun zz => nI (CL zz)), cStr, cOp, cA, cB, (fun zz => nI (OK zz)), oKin, oOpen, xFc, xFs, xPc, xKo, xPk, (fun zz => ob_xa (tw zz) (te zz) (tc zz)), pVal, xSet, (fun zz => nI (S zz)), aOut, aVar, (fun zz => nI (FC zz)), (fun zz => nI (FP zz)), (fun zz => nI (FA zz)), (fun zz => nI (FH zz)), (fun zz => nI (XH zz)), (fun zz => nI (FT zz)), fSelf, xHeld, stk, (fun zz => nI (TA zz)), (fun zz => nI (TH zz)), xArg) v → wpX_isValue post (nI n, nI d, nI b, deep, res, thr, thn, (fun zz => nI (CL zz)), cStr, cOp, cA, cB, (fun zz => nI (OK zz)), oKin, oOpen, xFc, xFs, xPc, xKo, xPk, (fun zz => ob_xa (tw zz) (te zz) (tc zz)), pVal, xSet, (fun zz => nI (S zz)), aOut, aVar, (fun zz => nI (FC zz)), (fun zz => nI (FP zz)), (fun zz => nI (FA zz)), (fun zz => nI (FH zz)), (fun zz => nI (XH zz)), (fun zz => nI (FT zz)), fSelf, xHeld, stk, (fun zz => nI (TA zz)), (fun zz => nI (TH zz)), xArg) v := by
        intro post h
        have h20 : wX_isValue_20 post v (nI n) (nI d) (nI b) deep res thr thn (fun zz => nI (CL zz)) cStr cOp cA cB (fun zz => nI (OK zz)) oKin oOpen xFc xFs xPc xKo xPk (fun zz => ob_xa (tw zz) (te zz) (tc zz)) pVal xSet (fun zz => nI (S zz)) aOut aVar (fun zz => nI (FC zz)) (fun zz => nI (FP zz)) (fun zz => nI (FA zz)) (fun zz => nI (FH zz)) (fun zz => nI (XH zz)) (fun zz => nI (FT zz)) fSelf xHeld stk (fun zz => nI (TA zz)) (fun zz => nI (TH zz)) xArg := by
          unfold wX_isValue_20 wX_isValue_21 wpX_isNumber
          exact br_t rfl (br_f hnum (br_t rfl h))
        unfold wpX_isValue
        by_cases h1 : v < 8589934592
        · exact br_t h1 h20
        · refine br_f h1 (br_t ?_ h20)
          have : ¬ v ≤ 8589934597 := fun z => hsp ⟨h1, z⟩
          rw [ob_Tle] at this
          rw [ob_Tlt]
          omega
      have hY : ∀ post : Int32 → Prop, wY_isValue_23 post v (nI n) (nI m) yGiven (nI d) deep (nI b) thr thn res cStr (fun zz => nI (CL zz)) cOp cA cB (fun zz => nI (OK zz)) oKin yCo yAr oOpen (fun zz => nI (M zz)) (fun zz => ob_yf (tw zz) (te zz) (tc zz)) yPair ySeen pVal ySet (fun zz => ob_th (S zz)) yStay aOut aVar yArg (fun zz => nI (FC zz)) (fun zz => nI (FA zz)) (fun zz => nI (FP zz)) (fun zz => nI (FH zz)) yHan (fun zz => nI (FT zz)) (fun zz => nI (TA zz)) (fun zz => nI (TH zz)) fSelf yKept stk → wpY_isValue post (nI n, nI m, yGiven, nI d, deep, nI b, thr, thn, res, cStr, (fun zz => nI (CL zz)), cOp, cA, cB, (fun zz => nI (OK zz)), oKin, yCo, yAr, oOpen, (fun zz => nI (M zz)), (fun zz => ob_yf (tw zz) (te zz) (tc zz)), yPair, ySeen, pVal, ySet, (fun zz => ob_th (S zz)), yStay, aOut, aVar, yArg, (fun zz => nI (FC zz)), (fun zz => nI (FA zz)), (fun zz => nI (FP zz)), (fun zz => nI (FH zz)), yHan, (fun zz => nI (FT zz)), (fun zz => nI (TA zz)), (fun zz => nI (TH zz)), fSelf, yKept, stk) v := by
        intro post h
        unfold wpY_isValue wpY_isNumber
        refine br_f hnum (br_t rfl ?_)
        by_cases h1 : v < 8589934592
        · exact br_t h1 h
        · exact br_f h1 (br_f (fun z => hsp ⟨h1, z⟩) h)
      by_cases hob : ¬ v < 17179869184 ∧ v < 17179869184 + (nI n).toInt64
      · have h0 : ¬ v < 0 := by
          rw [ob_Tlt, show (0 : Int64).toInt = 0 from by decide]
          have := hob.1
          rw [ob_Tlt, ob_TO] at this
          omega
        obtain ⟨j, hj, rfl⟩ := pk_lOf h0
        have h1 := hob.1
        have h2 := hob.2
        rw [ob_Tlt, ob_TO, pk_lT hj] at h1
        rw [ob_obj_toI n (by omega), pk_lLT hj (by omega)] at h2
        obtain ⟨o, ho, rfl⟩ : ∃ o, o < n ∧ j = 17179869184 + o := ⟨j - 17179869184, by omega, by omega⟩
        refine Or.inl ⟨ob_V_o ho, fun post hp => hX post ?_, fun post hp => hY post ?_⟩
        · exact ob_objO h3.2 ho _ (br_f (nI_pos (by omega)) hp)
        · unfold wY_isValue_23
          refine ob_isoT o (by omega) _ (br_f (by decide) (br_f ?_ hp))
          rw [ob_obj_toI n (by omega), pk_lLE (by omega) (by omega)]
          omega
      · refine Or.inr ⟨fun hv => ?_, fun post hp => hX post ?_, fun post hp => hY post ?_⟩
        · rcases hv with h | ⟨j, hj, rfl⟩ | ⟨o, ho, rfl⟩
          · exact hnum h
          · refine hsp ⟨?_, ?_⟩
            · rw [ob_Tlt, ob_TU, pk_lT (by omega)]
              omega
            · rw [ob_Tle, ob_TR, pk_lT (by omega)]
              omega
          · exact hob ⟨ob_obj_nlt o (by omega), ob_obj_lt ho (by omega)⟩
        · by_cases h1 : v < 17179869184
          · exact ob_objN h1 _ (br_t (by decide) hp)
          · unfold wpX_objectOf
            exact br_f h1 (br_f (fun z => hob ⟨h1, z⟩) (br_t (by decide) hp))
        · unfold wY_isValue_23
          by_cases h1 : v < 17179869184
          · exact ob_isoF h1 _ (br_t rfl hp)
          · unfold wpY_isObject
            refine br_f h1 (br_f (by decide) (br_t ?_ hp))
            have : ¬ v < 17179869184 + (nI n).toInt64 := fun z => hob ⟨h1, z⟩
            exact Int64.not_lt.mp this
theorem ob_startR (R : ob_R n 0 b m res thr thn CL cOp cA cB OK oKin pVal aOut aVar FC FA FP FH FT fSelf stk TA TH xFc xFs xPc xKo xPk tw tc xSet S XH xHeld yCo yAr M yPair ySet yStay yHan yKept) : ob_R n 0 0 m 8589934592 0 thn CL cOp cA cB OK oKin pVal aOut aVar FC FA FP FH FT fSelf stk TA TH xFc xFs xPc xKo xPk tw tc xSet S XH xHeld yCo yAr M yPair ySet yStay yHan yKept := by
  obtain ⟨hC, hO, hP, hL, hY, hA, hF, hT⟩ := R
  exact ⟨hC, hO, hP, hL, hY, hA, hF, by omega, Or.inl rfl, fun _ => rfl⟩
end
end
section
/-! ===== result, state, seal, remove, call, get, put ===== -/
theorem i_vc_result {k : Nat} {u : SX} {v : SY} (I : i_Rel k u v) (hk : k + 6 ≤ 3072) : wpX_result (fun r => wpY_result (fun r' => r' = r ∧ i_Rel (k + 6) u v) v) u := by
  have J := i_up I
  obtain ⟨n, b, m, deep, res, thr, thn, CL, cStr, cOp, cA, cB, OK, oKin, oOpen, pVal, aOut, aVar, FC, FA, FP, FH, FT, fSelf, stk, TA, TH, xFc, xFs, xPc, xKo, xPk, tw, te, tc, xSet, S, XH, xHeld, xArg, yCo, yAr, M, yPair, ySeen, ySet, yStay, yArg, yHan, yKept, yGiven, rfl, rfl, R, hm⟩ := I
  exact ⟨rfl, J⟩
theorem i_vc_state {k : Nat} {u : SX} {v : SY} (I : i_Rel k u v) (hk : k + 6 ≤ 3072) (v1 : Int32) : wpX_state (fun r => wpY_state (fun r' => r' = r ∧ i_Rel (k + 6) u v) v v1) u v1 := by
  have J := i_up I
  obtain ⟨n, b, m, deep, res, thr, thn, CL, cStr, cOp, cA, cB, OK, oKin, oOpen, pVal, aOut, aVar, FC, FA, FP, FH, FT, fSelf, stk, TA, TH, xFc, xFs, xPc, xKo, xPk, tw, te, tc, xSet, S, XH, xHeld, xArg, yCo, yAr, M, yPair, ySeen, ySet, yStay, yArg, yHan, yKept, yGiven, rfl, rfl, R, hm⟩ := I
  have hS2 : ∀ q, q < 24 → S q ≤ 2 := fun q hq => (R.2.2.2.2.2.1.2 q hq).1
  have hother : (v1 < 0 ∨ 3 < v1) → ¬ v1 = 0 ∧ ¬ v1 = 1 ∧ ¬ v1 = 2 ∧ ¬ v1 = 3 := by
    intro h
    refine ⟨?_, ?_, ?_, ?_⟩ <;> intro e <;> rw [e] at h <;> exact absurd h (by decide)
  unfold wpX_state wpY_state
  by_cases h0 : v1 < 0
  · obtain ⟨e0, e1, e2, e3⟩ := hother (Or.inl h0)
    exact br_t h0 (br_f e0 (br_f e1 (br_f e2 (br_f e3 ⟨rfl, J⟩))))
  by_cases h3 : 3 < v1
  · obtain ⟨e0, e1, e2, e3⟩ := hother (Or.inr h3)
    exact br_f h0 (br_t h3 (br_f e0 (br_f e1 (br_f e2 (br_f e3 ⟨rfl, J⟩)))))
  refine br_f h0 (br_f h3 ?_)
  by_cases e0 : v1 = 0
  · exact br_t e0 (br_t e0 ⟨rfl, J⟩)
  by_cases e1 : v1 = 1
  · refine br_f e0 (br_t e1 ?_)
    refine ob_actsX hS2 _ ?_
    refine br_f e0 (br_t e1 ?_)
    exact ob_actsY _ ⟨rfl, J⟩
  by_cases e2 : v1 = 2
  · exact br_f e0 (br_f e1 (br_t e2 (br_f e0 (br_f e1 (br_t e2 ⟨rfl, J⟩)))))
  by_cases e3 : v1 = 3
  · exact br_f e0 (br_f e1 (br_f e2 (br_t e3 (br_f e0 (br_f e1 (br_f e2 (br_t e3 ⟨rfl, J⟩)))))))
  · exact br_f e0 (br_f e1 (br_f e2 (br_f e3 trivial)))
theorem i_vc_remove {k : Nat} {u : SX} {v : SY} (I : i_Rel k u v) (hk : k + 6 ≤ 3072) (v1 : Int32) (v2 : Int32) : wpX_remove (fun r u' => wpY_remove (fun r' v' => r' = r ∧ i_Rel (k + 6) u' v') v v1 v2) u v1 v2 := by
  have J := i_up I
  obtain ⟨n, b, m, deep, res, thr, thn, CL, cStr, cOp, cA, cB, OK, oKin, oOpen, pVal, aOut, aVar, FC, FA, FP, FH, FT, fSelf, stk, TA, TH, xFc, xFs, xPc, xKo, xPk, tw, te, tc, xSet, S, XH, xHeld, xArg, yCo, yAr, M, yPair, ySeen, ySet, yStay, yArg, yHan, yKept, yGiven, rfl, rfl, R, hm⟩ := I
  unfold wpX_remove wpY_remove
  rcases ob_isP (n := n) (d := 0) (b := b) (m := m) (deep := deep) (res := res) (thr := thr) (thn := thn) (CL := CL) (cStr := cStr) (cOp := cOp) (cA := cA) (cB := cB) (OK := OK) (oKin := oKin) (oOpen := oOpen) (pVal := pVal) (aOut := aOut) (aVar := aVar) (FC := FC) (FA := FA) (FP := FP) (FH := FH) (FT := FT) (fSelf := fSelf) (stk := stk) (TA := TA) (TH := TH) (xFc := xFc) (xFs := xFs) (xPc := xPc) (xKo := xKo) (xPk := xPk) (tw := tw) (te := te) (tc := tc) (xSet := xSet) (S := S) (XH := XH) (xHeld := xHeld) (xArg := xArg) (yCo := yCo) (yAr := yAr) (M := M) (yPair := yPair) (ySeen := ySeen) (ySet := ySet) (yStay := yStay) (yArg := yArg) (yHan := yHan) (yKept := yKept) (yGiven := yGiven) R.2.1 v1 v2 with ⟨o, j, ho, hj, rfl, rfl, hX, hY⟩ | ⟨hX, hY⟩
  · obtain ⟨r, M', xPc', xKo', xPk', R2, hr, hX2, hY2⟩ := ob_lose (deep := deep) (cStr := cStr) (oOpen := oOpen) (te := te) (xArg := xArg) (ySeen := ySeen) (yArg := yArg) (yGiven := yGiven) R (by omega) ho hj
    have K : i_Rel (k + 6) _ _ := ob_E_mk (deep := deep) (cStr := cStr) (oOpen := oOpen) (te := te) (xArg := xArg) (ySeen := ySeen) (yArg := yArg) (yGiven := yGiven) R2 (by omega : m ≤ 300 * (k + 6))
    refine hX _ (br_f (by decide) (hX2 _ ?_))
    rcases hr with rfl | rfl
    · exact br_t rfl (hY _ (br_f (by decide) (hY2 _ ⟨rfl, K⟩)))
    · exact br_f (by decide) (hY _ (br_f (by decide) (hY2 _ ⟨rfl, K⟩)))
  · exact hX _ (br_t rfl (hY _ (br_t rfl ⟨rfl, J⟩)))
theorem i_vc_seal {k : Nat} {u : SX} {v : SY} (I : i_Rel k u v) (hk : k + 6 ≤ 3072) (v1 : Int32) (v2 : Int32) : wpX_seal (fun r u' => wpY_seal (fun r' v' => r' = r ∧ i_Rel (k + 6) u' v') v v1 v2) u v1 v2 := by
  have J := i_up I
  obtain ⟨n, b, m, deep, res, thr, thn, CL, cStr, cOp, cA, cB, OK, oKin, oOpen, pVal, aOut, aVar, FC, FA, FP, FH, FT, fSelf, stk, TA, TH, xFc, xFs, xPc, xKo, xPk, tw, te, tc, xSet, S, XH, xHeld, xArg, yCo, yAr, M, yPair, ySeen, ySet, yStay, yArg, yHan, yKept, yGiven, rfl, rfl, R, hm⟩ := I
  have h3 := R.2.1.1
  unfold wpX_seal
  rcases ob_isO R.2.1 v1 with ⟨o, ho, rfl⟩ | h
  · rcases pk_ix v2 (n := 3) (by decide) with h | h | ⟨q, hq, rfl⟩
    · refine br_f (nI_pos (by omega)) (br_f (nI_ge ho (by omega)) (br_t h ?_))
      unfold wpY_seal
      dsimp only
      rw [ob_sub1 (a := n) (by omega)]
      exact ob_inT (b := 0) (by omega) (by omega) (by omega) _ (br_f (by decide) (ob_inF (Or.inl h) _ (br_t rfl ⟨rfl, J⟩)))
    · have h0 : ¬ v2 < 0 := fun z => absurd (Int32.lt_of_le_of_lt h z) (by decide)
      have h2 : 2 < v2 := Int32.lt_of_lt_of_le (by decide) h
      refine br_f (nI_pos (by omega)) (br_f (nI_ge ho (by omega)) (br_f h0 (br_f (Int32.not_le.mpr h2) ?_)))
      unfold wpY_seal
      dsimp only
      rw [ob_sub1 (a := n) (by omega)]
      exact ob_inT (b := 0) (by omega) (by omega) (by omega) _ (br_f (by decide) (ob_inF (Or.inr h2) _ (br_t rfl ⟨rfl, J⟩)))
    · have R2 := ob_sealR (o := o) (onW := decide (q = 2)) (onC := decide (q ≠ 0)) R
      have K : i_Rel (k + 6) _ _ := ob_E_mk (deep := deep) (cStr := cStr) (oOpen := (upd oOpen o 0)) (te := te) (xArg := xArg) (ySeen := ySeen) (yArg := yArg) (yGiven := yGiven) R2 (by omega : m ≤ 300 * (k + 6))
      refine br_f (nI_pos (by omega)) (br_f (nI_ge ho (by omega)) (br_f (nI_pos (by omega)) (br_t (nI_le (b := 2) (by omega) (by decide)) ?_)))
      exact ob_sealX (by omega) (by omega) _ (ob_sealY ho h3.2 (by omega) _ ⟨rfl, K⟩)
  · have hY : ∀ post : Int32 → SY → Prop, post 0 (nI n, nI m, yGiven, nI 0, deep, nI b, thr, thn, res, cStr, (fun zz => nI (CL zz)), cOp, cA, cB, (fun zz => nI (OK zz)), oKin, yCo, yAr, oOpen, (fun zz => nI (M zz)), (fun zz => ob_yf (tw zz) (te zz) (tc zz)), yPair, ySeen, pVal, ySet, (fun zz => ob_th (S zz)), yStay, aOut, aVar, yArg, (fun zz => nI (FC zz)), (fun zz => nI (FA zz)), (fun zz => nI (FP zz)), (fun zz => nI (FH zz)), yHan, (fun zz => nI (FT zz)), (fun zz => nI (TA zz)), (fun zz => nI (TH zz)), fSelf, yKept, stk) → wpY_seal post (nI n, nI m, yGiven, nI 0, deep, nI b, thr, thn, res, cStr, (fun zz => nI (CL zz)), cOp, cA, cB, (fun zz => nI (OK zz)), oKin, yCo, yAr, oOpen, (fun zz => nI (M zz)), (fun zz => ob_yf (tw zz) (te zz) (tc zz)), yPair, ySeen, pVal, ySet, (fun zz => ob_th (S zz)), yStay, aOut, aVar, yArg, (fun zz => nI (FC zz)), (fun zz => nI (FA zz)), (fun zz => nI (FP zz)), (fun zz => nI (FH zz)), yHan, (fun zz => nI (FT zz)), (fun zz => nI (TA zz)), (fun zz => nI (TH zz)), fSelf, yKept, stk) v1 v2 := by
      intro post hp
      unfold wpY_seal
      exact ob_inF (h.imp id (ob_nle1 (by omega) (by omega))) _ (br_t rfl hp)
    by_cases h0 : v1 < 0
    · exact br_t h0 (hY _ ⟨rfl, J⟩)
    · exact br_f h0 (br_t (h.resolve_left h0) (hY _ ⟨rfl, J⟩))
theorem i_vc_get {k : Nat} {u : SX} {v : SY} (I : i_Rel k u v) (hk : k + 6 ≤ 3072) (v1 : Int32) (v2 : Int32) : wpX_get (fun r u' => wpY_get (fun r' v' => r' = r ∧ i_Rel (k + 6) u' v') v v1 v2) u v1 v2 := by
  have J := i_up I
  obtain ⟨n, b, m, deep, res, thr, thn, CL, cStr, cOp, cA, cB, OK, oKin, oOpen, pVal, aOut, aVar, FC, FA, FP, FH, FT, fSelf, stk, TA, TH, xFc, xFs, xPc, xKo, xPk, tw, te, tc, xSet, S, XH, xHeld, xArg, yCo, yAr, M, yPair, ySeen, ySet, yStay, yArg, yHan, yKept, yGiven, rfl, rfl, R, hm⟩ := I
  have h3 := R.2.1.1
  unfold wpX_get wpY_get
  rcases ob_isP (n := n) (d := 0) (b := b) (m := m) (deep := deep) (res := res) (thr := thr) (thn := thn) (CL := CL) (cStr := cStr) (cOp := cOp) (cA := cA) (cB := cB) (OK := OK) (oKin := oKin) (oOpen := oOpen) (pVal := pVal) (aOut := aOut) (aVar := aVar) (FC := FC) (FA := FA) (FP := FP) (FH := FH) (FT := FT) (fSelf := fSelf) (stk := stk) (TA := TA) (TH := TH) (xFc := xFc) (xFs := xFs) (xPc := xPc) (xKo := xKo) (xPk := xPk) (tw := tw) (te := te) (tc := tc) (xSet := xSet) (S := S) (XH := XH) (xHeld := xHeld) (xArg := xArg) (yCo := yCo) (yAr := yAr) (M := M) (yPair := yPair) (ySeen := ySeen) (ySet := ySet) (yStay := yStay) (yArg := yArg) (yHan := yHan) (yKept := yKept) (yGiven := yGiven) R.2.1 v1 v2 with ⟨o, j, ho, hj, rfl, rfl, hX, hY⟩ | ⟨hX, hY⟩
  · obtain ⟨u1, v1', hS, hX2, hY2⟩ := ob_fetch (deep := 0) (cStr := cStr) (oOpen := oOpen) (te := te) (xArg := xArg) (ySeen := ySeen) (yArg := yArg) (yGiven := yGiven) (w := 0) (ob_startR R) rfl (ob_V_o ho) hj (Nat.le_refl m) (by omega) (by show 4 * 0 + 0 ≤ 0; omega)
    obtain ⟨r, u2, v2', hE, hX3, hY3⟩ := ob_runs (by omega) (by omega) hS
    have K : i_Rel (k + 6) u2 v2' := by
      obtain ⟨n, b, m, deep, res, thr, thn, CL, cStr, cOp, cA, cB, OK, oKin, oOpen, pVal, aOut, aVar, FC, FA, FP, FH, FT, fSelf, stk, TA, TH, xFc, xFs, xPc, xKo, xPk, tw, te, tc, xSet, S, XH, xHeld, xArg, yCo, yAr, M, yPair, ySeen, ySet, yStay, yArg, yHan, yKept, yGiven, h1, h2, h3, h4⟩ := hE
      exact ⟨n, b, m, deep, res, thr, thn, CL, cStr, cOp, cA, cB, OK, oKin, oOpen, pVal, aOut, aVar, FC, FA, FP, FH, FT, fSelf, stk, TA, TH, xFc, xFs, xPc, xKo, xPk, tw, te, tc, xSet, S, XH, xHeld, xArg, yCo, yAr, M, yPair, ySeen, ySet, yStay, yArg, yHan, yKept, yGiven, h1, h2, h3, by omega⟩
    refine hX _ (br_f (by decide) ?_)
    unfold wpX_startRun
    dsimp only
    rw [ob_obj_toI o (by omega)]
    refine hX2 _ (hX3 _ ?_)
    refine hY _ (br_f (by decide) ?_)
    unfold wpY_begin
    dsimp only
    exact hY2 _ (hY3 _ ⟨rfl, K⟩)
  · exact hX _ (br_t rfl (hY _ (br_t rfl ⟨rfl, J⟩)))
end
section
/-! ===== call, put, code ===== -/
theorem i_vc_put {k : Nat} {u : SX} {v : SY} (I : i_Rel k u v) (hk : k + 6 ≤ 3072) (v1 : Int32) (v2 : Int32) (a2 : Int64) (v5 : Int32) : wpX_put (fun r u' => wpY_put (fun r' v' => r' = r ∧ i_Rel (k + 6) u' v') v v1 v2 a2 (lw_bz v5)) u v1 v2 a2 (lw_bz v5) := by
  have J := i_up I
  obtain ⟨n, b, m, deep, res, thr, thn, CL, cStr, cOp, cA, cB, OK, oKin, oOpen, pVal, aOut, aVar, FC, FA, FP, FH, FT, fSelf, stk, TA, TH, xFc, xFs, xPc, xKo, xPk, tw, te, tc, xSet, S, XH, xHeld, xArg, yCo, yAr, M, yPair, ySeen, ySet, yStay, yArg, yHan, yKept, yGiven, rfl, rfl, R, hm⟩ := I
  have h3 := R.2.1.1
  unfold wpX_put wpY_put
  rcases ob_isP (n := n) (d := 0) (b := b) (m := m) (deep := deep) (res := res) (thr := thr) (thn := thn) (CL := CL) (cStr := cStr) (cOp := cOp) (cA := cA) (cB := cB) (OK := OK) (oKin := oKin) (oOpen := oOpen) (pVal := pVal) (aOut := aOut) (aVar := aVar) (FC := FC) (FA := FA) (FP := FP) (FH := FH) (FT := FT) (fSelf := fSelf) (stk := stk) (TA := TA) (TH := TH) (xFc := xFc) (xFs := xFs) (xPc := xPc) (xKo := xKo) (xPk := xPk) (tw := tw) (te := te) (tc := tc) (xSet := xSet) (S := S) (XH := XH) (xHeld := xHeld) (xArg := xArg) (yCo := yCo) (yAr := yAr) (M := M) (yPair := yPair) (ySeen := ySeen) (ySet := ySet) (yStay := yStay) (yArg := yArg) (yHan := yHan) (yKept := yKept) (yGiven := yGiven) R.2.1 v1 v2 with ⟨o, j, ho, hj, rfl, rfl, hX, hY⟩ | ⟨hX, hY⟩
  · rcases ob_isV (n := n) (d := 0) (b := b) (m := m) (deep := deep) (res := res) (thr := thr) (thn := thn) (CL := CL) (cStr := cStr) (cOp := cOp) (cA := cA) (cB := cB) (OK := OK) (oKin := oKin) (oOpen := oOpen) (pVal := pVal) (aOut := aOut) (aVar := aVar) (FC := FC) (FA := FA) (FP := FP) (FH := FH) (FT := FT) (fSelf := fSelf) (stk := stk) (TA := TA) (TH := TH) (xFc := xFc) (xFs := xFs) (xPc := xPc) (xKo := xKo) (xPk := xPk) (tw := tw) (te := te) (tc := tc) (xSet := xSet) (S := S) (XH := XH) (xHeld := xHeld) (xArg := xArg) (yCo := yCo) (yAr := yAr) (M := M) (yPair := yPair) (ySeen := ySeen) (ySet := ySet) (yStay := yStay) (yArg := yArg) (yHan := yHan) (yKept := yKept) (yGiven := yGiven) R.2.1 a2 with ⟨hv, hXv, hYv⟩ | ⟨_, hXv, hYv⟩
    · obtain ⟨u1, v1', hS, hX2, hY2⟩ := ob_putv (deep := 0) (cStr := cStr) (oOpen := oOpen) (te := te) (xArg := xArg) (ySeen := ySeen) (yArg := yArg) (yGiven := yGiven) (strict := lw_bz v5) (B := m + 1) (w := 0) (ob_startR R) rfl (ob_V_o ho) hv hj (Nat.le_refl _) (by omega) (by show 4 * 0 + 0 ≤ 0; omega)
      obtain ⟨r, u2, v2', hE, hX3, hY3⟩ := ob_runs (by omega) (by omega) hS
      have K : i_Rel (k + 6) u2 v2' := by
        obtain ⟨n, b, m, deep, res, thr, thn, CL, cStr, cOp, cA, cB, OK, oKin, oOpen, pVal, aOut, aVar, FC, FA, FP, FH, FT, fSelf, stk, TA, TH, xFc, xFs, xPc, xKo, xPk, tw, te, tc, xSet, S, XH, xHeld, xArg, yCo, yAr, M, yPair, ySeen, ySet, yStay, yArg, yHan, yKept, yGiven, h1, h2, h3, h4⟩ := hE
        exact ⟨n, b, m, deep, res, thr, thn, CL, cStr, cOp, cA, cB, OK, oKin, oOpen, pVal, aOut, aVar, FC, FA, FP, FH, FT, fSelf, stk, TA, TH, xFc, xFs, xPc, xKo, xPk, tw, te, tc, xSet, S, XH, xHeld, xArg, yCo, yAr, M, yPair, ySeen, ySet, yStay, yArg, yHan, yKept, yGiven, h1, h2, h3, by omega⟩
      refine hX _ (br_f (by decide) (hXv _ (br_f (by decide) ?_)))
      unfold wpX_startRun
      dsimp only
      rw [ob_obj_toI o (by omega)]
      refine hX2 _ (hX3 _ ?_)
      refine hY _ (br_f (by decide) (hYv _ (br_f (by decide) ?_)))
      unfold wpY_begin
      dsimp only
      exact hY2 _ (hY3 _ ⟨rfl, K⟩)
    · exact hX _ (br_f (by decide) (hXv _ (br_t rfl (hY _ (br_f (by decide) (hYv _ (br_t rfl ⟨rfl, J⟩)))))))
  · exact hX _ (br_t rfl (hY _ (br_t rfl ⟨rfl, J⟩)))
theorem i_vc_call {k : Nat} {u : SX} {v : SY} (I : i_Rel k u v) (hk : k + 6 ≤ 3072) (v1 : Int32) (a1 : Int64) (a2 : Int64) : wpX_call (fun r u' => wpY_call (fun r' v' => r' = r ∧ i_Rel (k + 6) u' v') v v1 a1 a2) u v1 a1 a2 := by
  have J := i_up I
  obtain ⟨n, b, m, deep, res, thr, thn, CL, cStr, cOp, cA, cB, OK, oKin, oOpen, pVal, aOut, aVar, FC, FA, FP, FH, FT, fSelf, stk, TA, TH, xFc, xFs, xPc, xKo, xPk, tw, te, tc, xSet, S, XH, xHeld, xArg, yCo, yAr, M, yPair, ySeen, ySet, yStay, yArg, yHan, yKept, yGiven, rfl, rfl, R, hm⟩ := I
  have h3 := R.2.1.1
  unfold wpX_call
  rcases ob_isO R.2.1 v1 with ⟨o, ho, rfl⟩ | h
  · have hYin : ∀ P : Int32 → Prop, P 1 → wpY_in P (nI o) 0 (nI n - 1) := by
      intro P hP
      rw [ob_sub1 (a := n) (by omega)]
      exact ob_inT (b := 0) (by omega) (by omega) (by omega) _ hP
    refine br_f (nI_pos (by omega)) (br_f (nI_ge ho (by omega)) ?_)
    rcases ob_isV (n := n) (d := 0) (b := b) (m := m) (deep := deep) (res := res) (thr := thr) (thn := thn) (CL := CL) (cStr := cStr) (cOp := cOp) (cA := cA) (cB := cB) (OK := OK) (oKin := oKin) (oOpen := oOpen) (pVal := pVal) (aOut := aOut) (aVar := aVar) (FC := FC) (FA := FA) (FP := FP) (FH := FH) (FT := FT) (fSelf := fSelf) (stk := stk) (TA := TA) (TH := TH) (xFc := xFc) (xFs := xFs) (xPc := xPc) (xKo := xKo) (xPk := xPk) (tw := tw) (te := te) (tc := tc) (xSet := xSet) (S := S) (XH := XH) (xHeld := xHeld) (xArg := xArg) (yCo := yCo) (yAr := yAr) (M := M) (yPair := yPair) (ySeen := ySeen) (ySet := ySet) (yStay := yStay) (yArg := yArg) (yHan := yHan) (yKept := yKept) (yGiven := yGiven) R.2.1 a1 with ⟨hv1, hXv1, hYv1⟩ | ⟨_, hXv1, hYv1⟩
    · rcases ob_isV (n := n) (d := 0) (b := b) (m := m) (deep := deep) (res := res) (thr := thr) (thn := thn) (CL := CL) (cStr := cStr) (cOp := cOp) (cA := cA) (cB := cB) (OK := OK) (oKin := oKin) (oOpen := oOpen) (pVal := pVal) (aOut := aOut) (aVar := aVar) (FC := FC) (FA := FA) (FP := FP) (FH := FH) (FT := FT) (fSelf := fSelf) (stk := stk) (TA := TA) (TH := TH) (xFc := xFc) (xFs := xFs) (xPc := xPc) (xKo := xKo) (xPk := xPk) (tw := tw) (te := te) (tc := tc) (xSet := xSet) (S := S) (XH := XH) (xHeld := xHeld) (xArg := xArg) (yCo := yCo) (yAr := yAr) (M := M) (yPair := yPair) (ySeen := ySeen) (ySet := ySet) (yStay := yStay) (yArg := yArg) (yHan := yHan) (yKept := yKept) (yGiven := yGiven) R.2.1 a2 with ⟨hv2, hXv2, hYv2⟩ | ⟨_, hXv2, hYv2⟩
      · obtain ⟨d', deep', thr', thn', S', aOut', aVar', FC', FA', FP', FH', FT', fSelf', XH', yHan', xHeld', yKept', yStay', R2, hw2, hXe, hYe⟩ := ob_enter (fn := lN (17179869184 + o)) (self := a1) (held := 8589934592) (kept := 0) (c := 1) (t := 0) (deep := 0) (cStr := cStr) (oOpen := oOpen) (te := te) (xArg := (vp_updL xArg 0 a2)) (ySeen := ySeen) (yArg := (vp_updL yArg 0 a2)) (ob_startR R) rfl (ob_V_o ho) hv1 (by decide) (fun z => absurd rfl z) (by decide) (fun j hj => by
          have : j = 0 := by omega
          subst this
          exact ⟨rfl, hv2⟩)
        have hS := ob_S_mk (B := m) (w := 4) (deep := deep') (cStr := cStr) (oOpen := oOpen) (te := te) (xArg := (vp_updL xArg 0 a2)) (ySeen := ySeen) (yArg := (vp_updL yArg 0 a2)) (yGiven := (nI 1)) R2 (Nat.le_refl _) (by
          have : 4 * 0 + ob_hs XH 0 = 0 := rfl
          omega)
        obtain ⟨r, u2, v2', hE, hX3, hY3⟩ := ob_runs (by omega) (by omega) hS
        have K : i_Rel (k + 6) u2 v2' := by
          obtain ⟨n, b, m, deep, res, thr, thn, CL, cStr, cOp, cA, cB, OK, oKin, oOpen, pVal, aOut, aVar, FC, FA, FP, FH, FT, fSelf, stk, TA, TH, xFc, xFs, xPc, xKo, xPk, tw, te, tc, xSet, S, XH, xHeld, xArg, yCo, yAr, M, yPair, ySeen, ySet, yStay, yArg, yHan, yKept, yGiven, h1, h2, h3, h4⟩ := hE
          exact ⟨n, b, m, deep, res, thr, thn, CL, cStr, cOp, cA, cB, OK, oKin, oOpen, pVal, aOut, aVar, FC, FA, FP, FH, FT, fSelf, stk, TA, TH, xFc, xFs, xPc, xKo, xPk, tw, te, tc, xSet, S, XH, xHeld, xArg, yCo, yAr, M, yPair, ySeen, ySet, yStay, yArg, yHan, yKept, yGiven, h1, h2, h3, by omega⟩
        refine hXv1 _ (br_f (by decide) (hXv2 _ (br_f (by decide) ?_)))
        unfold wpX_startRun
        dsimp only
        rw [ob_obj_toI o (by omega)]
        refine nm_e (hXe _ (hX3 _ ?_))
        unfold wpY_call
        refine hYin _ (br_f (by decide) (hYv1 _ (br_f (by decide) (hYv2 _ (br_f (by decide) ?_)))))
        unfold wpY_begin
        dsimp only
        rw [ob_obj_toI o (by omega)]
        exact nm_e (hYe _ (hY3 _ ⟨rfl, K⟩))
      · refine hXv1 _ (br_f (by decide) (hXv2 _ (br_t rfl ?_)))
        unfold wpY_call
        exact hYin _ (br_f (by decide) (hYv1 _ (br_f (by decide) (hYv2 _ (br_t rfl ⟨rfl, J⟩)))))
    · refine hXv1 _ (br_t rfl ?_)
      unfold wpY_call
      exact hYin _ (br_f (by decide) (hYv1 _ (br_t rfl ⟨rfl, J⟩)))
  · have hY : ∀ post : Int32 → SY → Prop, post (-1) (nI n, nI m, yGiven, nI 0, deep, nI b, thr, thn, res, cStr, (fun zz => nI (CL zz)), cOp, cA, cB, (fun zz => nI (OK zz)), oKin, yCo, yAr, oOpen, (fun zz => nI (M zz)), (fun zz => ob_yf (tw zz) (te zz) (tc zz)), yPair, ySeen, pVal, ySet, (fun zz => ob_th (S zz)), yStay, aOut, aVar, yArg, (fun zz => nI (FC zz)), (fun zz => nI (FA zz)), (fun zz => nI (FP zz)), (fun zz => nI (FH zz)), yHan, (fun zz => nI (FT zz)), (fun zz => nI (TA zz)), (fun zz => nI (TH zz)), fSelf, yKept, stk) → wpY_call post (nI n, nI m, yGiven, nI 0, deep, nI b, thr, thn, res, cStr, (fun zz => nI (CL zz)), cOp, cA, cB, (fun zz => nI (OK zz)), oKin, yCo, yAr, oOpen, (fun zz => nI (M zz)), (fun zz => ob_yf (tw zz) (te zz) (tc zz)), yPair, ySeen, pVal, ySet, (fun zz => ob_th (S zz)), yStay, aOut, aVar, yArg, (fun zz => nI (FC zz)), (fun zz => nI (FA zz)), (fun zz => nI (FP zz)), (fun zz => nI (FH zz)), yHan, (fun zz => nI (FT zz)), (fun zz => nI (TA zz)), (fun zz => nI (TH zz)), fSelf, yKept, stk) v1 a1 a2 := by
      intro post hp
      unfold wpY_call
      exact ob_inF (h.imp id (ob_nle1 (by omega) (by omega))) _ (br_t rfl hp)
    by_cases h0 : v1 < 0
    · exact br_t h0 (hY _ ⟨rfl, J⟩)
    · exact br_f h0 (br_t (h.resolve_left h0) (hY _ ⟨rfl, J⟩))
theorem i_vc_code {k : Nat} {u : SX} {v : SY} (I : i_Rel k u v) (hk : k + 6 ≤ 3072) (v1 : Int32) (v2 : Int32) : wpX_code (fun r u' => wpY_code (fun r' v' => r' = r ∧ i_Rel (k + 6) u' v') v v1 (lw_bz v2)) u v1 (lw_bz v2) := by
  have J := i_up I
  obtain ⟨n, b, m, deep, res, thr, thn, CL, cStr, cOp, cA, cB, OK, oKin, oOpen, pVal, aOut, aVar, FC, FA, FP, FH, FT, fSelf, stk, TA, TH, xFc, xFs, xPc, xKo, xPk, tw, te, tc, xSet, S, XH, xHeld, xArg, yCo, yAr, M, yPair, ySeen, ySet, yStay, yArg, yHan, yKept, yGiven, rfl, rfl, R, hm⟩ := I
  unfold wpX_code
  rcases pk_ix v1 (n := 8) (by decide) with h | h | ⟨c, hc, rfl⟩
  · refine br_t h ?_
    unfold wpY_code
    exact ob_inF (Or.inl h) _ (br_t rfl ⟨rfl, J⟩)
  · have h0 : ¬ v1 < 0 := fun z => absurd (Int32.lt_of_le_of_lt h z) (by decide)
    have h7 : 7 < v1 := Int32.lt_of_lt_of_le (by decide) h
    refine br_f h0 (br_f (Int32.not_lt.mpr h) ?_)
    unfold wpY_code
    exact ob_inF (Or.inr h7) _ (br_t rfl ⟨rfl, J⟩)
  · have hin : vp_in (nI c) 8 := vp_in_nI hc (by decide)
    have R2 : ob_R n 0 b m res thr thn (ob_um CL c 0) cOp cA cB OK oKin pVal aOut aVar FC FA FP FH FT fSelf stk TA TH xFc xFs xPc xKo xPk tw tc xSet S XH xHeld yCo yAr M yPair ySet yStay yHan yKept := by
      obtain ⟨hC, hO, hP, hL, hY, hA, hF, hT⟩ := R
      refine ⟨fun q hq => ?_, hO, hP, hL, hY, hA, hF, hT⟩
      by_cases z : q = c
      · subst z
        rw [ob_um_s]
        exact ⟨by omega, fun j hj => absurd hj (by omega)⟩
      · rw [ob_um_n _ _ z]
        exact hC q hq
    have K : i_Rel (k + 6) _ _ := ob_E_mk (deep := deep) (cStr := (upd cStr c (vp_nar .boolean (lw_bz v2)))) (oOpen := oOpen) (te := te) (xArg := xArg) (ySeen := ySeen) (yArg := yArg) (yGiven := yGiven) R2 (by omega : m ≤ 300 * (k + 6))
    refine br_f (nI_pos (by omega)) (br_t (nI_lt (b := 8) hc (by decide)) ⟨hin, ?_⟩)
    rw [ob_cl (by omega)]
    refine nm_e ⟨hin, nm_r (ob_uN0 _ _) ⟨hin, nm_e ?_⟩⟩
    unfold wpY_code
    refine ob_inT (b := 0) (c := 7) (by omega) (by omega) (by decide) _ (br_f (by decide) ⟨hin, ?_⟩)
    rw [ob_cl (by omega)]
    exact nm_e ⟨hin, nm_r (ob_uN0 _ _) ⟨hin, nm_e ⟨rfl, K⟩⟩⟩
end
section
/-! ===== add, make ===== -/
def ob_mI (q : Nat) : Int32 := match ob_most q with
  | none => -1
  | some g => nI g
theorem ob_grX : ∀ q, q < 32 → ∀ post : Int32 → Prop, post (ob_mI q) → wpX_greatestA post (nI q) := by
  intro q hq post hp
  unfold wpX_greatestA
  have hcases : q = 0 ∨ q = 1 ∨ q = 2 ∨ q = 3 ∨ q = 4 ∨ q = 5 ∨ q = 6 ∨ q = 7 ∨ q = 8 ∨ q = 9 ∨ q = 10 ∨ q = 11 ∨ q = 12 ∨ q = 13 ∨ q = 14 ∨ q = 15 ∨ q = 16 ∨ q = 17 ∨ q = 18 ∨ q = 19 ∨ q = 20 ∨ q = 21 ∨ q = 22 ∨ q = 23 ∨ q = 24 ∨ q = 25 ∨ q = 26 ∨ q = 27 ∨ q = 28 ∨ q = 29 ∨ q = 30 ∨ q = 31 := by omega
  rcases hcases with rfl | rfl | rfl | rfl | rfl | rfl | rfl | rfl | rfl | rfl | rfl | rfl | rfl | rfl | rfl | rfl | rfl | rfl | rfl | rfl | rfl | rfl | rfl | rfl | rfl | rfl | rfl | rfl | rfl | rfl | rfl | rfl
  all_goals
    simp (disch := first | omega | decide) only [forall_eq, not_true, not_false_iff, false_implies, true_implies, true_and, and_true, ob_sub1, Nat.add_sub_cancel, nI_1, ob_ix, ob_iy, ob_ix24, ob_iy24, ob_ix10, ob_iy10, ob_ix4, ob_iy4, ob_ix3, ob_iy3, ob_s1, ob_s2, ob_s3, ob_s4, ob_ltl, ob_lel, ob_eql, ob_ltr, ob_ler, ob_uN, Nat.add_one_ne_zero, ob_xs3, ob_lnn, ob_ltn, ob_eqn, Nat.not_lt_zero, Nat.zero_le, Nat.reduceEqDiff, Nat.reduceLeDiff, Nat.reduceLT, ob_eqll, Int32.reduceLT, Int32.reduceLE, eq_self_iff_true]
    exact hp
theorem ob_grY : ∀ q, q < 32 → ∀ post : Int32 → Prop, post (ob_mI q) → wpY_mostA post (nI q) := by
  intro q hq post hp
  unfold wpY_mostA
  have hcases : q = 0 ∨ q = 1 ∨ q = 2 ∨ q = 3 ∨ q = 4 ∨ q = 5 ∨ q = 6 ∨ q = 7 ∨ q = 8 ∨ q = 9 ∨ q = 10 ∨ q = 11 ∨ q = 12 ∨ q = 13 ∨ q = 14 ∨ q = 15 ∨ q = 16 ∨ q = 17 ∨ q = 18 ∨ q = 19 ∨ q = 20 ∨ q = 21 ∨ q = 22 ∨ q = 23 ∨ q = 24 ∨ q = 25 ∨ q = 26 ∨ q = 27 ∨ q = 28 ∨ q = 29 ∨ q = 30 ∨ q = 31 := by omega
  rcases hcases with rfl | rfl | rfl | rfl | rfl | rfl | rfl | rfl | rfl | rfl | rfl | rfl | rfl | rfl | rfl | rfl | rfl | rfl | rfl | rfl | rfl | rfl | rfl | rfl | rfl | rfl | rfl | rfl | rfl | rfl | rfl | rfl
  all_goals
    simp (disch := first | omega | decide) only [forall_eq, not_true, not_false_iff, false_implies, true_implies, true_and, and_true, ob_sub1, Nat.add_sub_cancel, nI_1, ob_ix, ob_iy, ob_ix24, ob_iy24, ob_ix10, ob_iy10, ob_ix4, ob_iy4, ob_ix3, ob_iy3, ob_s1, ob_s2, ob_s3, ob_s4, ob_ltl, ob_lel, ob_eql, ob_ltr, ob_ler, ob_uN, Nat.add_one_ne_zero, ob_xs3, ob_lnn, ob_ltn, ob_eqn, Nat.not_lt_zero, Nat.zero_le, Nat.reduceEqDiff, Nat.reduceLeDiff, Nat.reduceLT, ob_eqll, Int32.reduceLT, Int32.reduceLE, eq_self_iff_true]
    exact hp
theorem ob_most_le : ∀ q g, ob_most q = some g → g ≤ 31 := by
  intro q g h
  unfold ob_most at h
  repeat' split at h
  all_goals first
    | (injection h with h; omega)
    | exact absurd h (by simp)
/-- what an instruction may hold -/
def ob_okA (q : Nat) (a : Int32) : Prop := ∀ g, ob_most q = some g → ∃ x, x ≤ g ∧ a = nI x
def ob_okB (q : Nat) (bb : Int32) : Prop := q = 5 ∨ q = 6 → ∃ y, y ≤ 3 ∧ bb = nI y
theorem ob_rgA {a : Int32} {g : Nat} (hg : g < 2 ^ 31) : (∃ x, x ≤ g ∧ a = nI x) ∨ ((a < 0 ∨ nI g < a) ∧ ¬ ∃ x, x ≤ g ∧ a = nI x) := by
  by_cases h0 : a < 0
  · refine Or.inr ⟨Or.inl h0, fun ⟨x, hx, e⟩ => ?_⟩
    rw [e] at h0
    exact nI_pos (by omega) h0
  · obtain ⟨j, hj, rfl⟩ := nI_of h0
    by_cases h : j ≤ g
    · exact Or.inl ⟨j, h, rfl⟩
    · refine Or.inr ⟨Or.inr (nI_lt (by omega) hj), fun ⟨x, hx, e⟩ => ?_⟩
      have := (nI_eq hj (by omega)).mp e
      omega
theorem ob_insX {q : Nat} (hq : q < 32) (a bb : Int32) (post : Int32 → Prop) (h1 : ob_okA q a → ob_okB q bb → post 1) (h0 : ¬ (ob_okA q a ∧ ob_okB q bb) → post 0) : wpX_isInstruction post (nI q) a bb := by
  have h44 : ob_okB q bb → wX_isInstruction_44 post (nI q) a := by
    intro hB
    unfold wX_isInstruction_44
    refine ob_grX q hq _ ?_
    unfold ob_mI
    cases hm : ob_most q with
    | none =>
      exact br_t rfl (h1 (fun g hg => absurd (hm.symm.trans hg) (by simp)) hB)
    | some g =>
      have hg31 := ob_most_le q g hm
      refine br_f (ob_m1n g (by omega)) ?_
      rcases ob_rgA (a := a) (g := g) (by omega) with ⟨x, hx, rfl⟩ | ⟨h, hno⟩
      · refine br_f (nI_pos (by omega)) (br_f (nI_nlt hx (by omega)) (h1 (fun g' hg' => ?_) hB))
        have e : g = g' := Option.some.inj (hm.symm.trans hg')
        exact ⟨x, by omega, rfl⟩
      · have hz : post 0 := h0 (fun z => hno (z.1 g hm))
        by_cases ha : a < 0
        · exact br_t ha hz
        · exact br_f ha (br_t (h.resolve_left ha) hz)
  have h23 : (q = 5 ∨ q = 6) → wX_isInstruction_23 post (nI q) a bb := by
    intro h56
    unfold wX_isInstruction_23 wX_isInstruction_28
    refine br_f (by decide) ?_
    rcases ob_rgA (a := bb) (g := 3) (by decide) with ⟨y, hy, rfl⟩ | ⟨h, hno⟩
    · exact br_f (nI_pos (by omega)) (br_t (nI_lt (b := 4) (by omega) (by decide)) (h44 (fun _ => ⟨y, hy, rfl⟩)))
    · have hz : post 0 := h0 (fun z => hno (z.2 h56))
      by_cases hb : bb < 0
      · exact br_t hb hz
      · refine br_f hb (br_f (fun z => ?_) hz)
        have h3 := h.resolve_left hb
        rw [Int32.lt_iff_toInt_lt] at h3 z
        rw [show (nI 3).toInt = 3 from by decide] at h3
        rw [show (4 : Int32).toInt = 4 from by decide] at z
        omega
  unfold wpX_isInstruction
  refine br_f (nI_pos (by omega)) (br_t (nI_le (b := 31) (by omega) (by decide)) ?_)
  by_cases h5 : q = 5
  · exact br_t (by rw [h5]; rfl) (h23 (Or.inl h5))
  by_cases h6 : q = 6
  · exact br_f (fun z => h5 ((nI_eq (b := 5) (by omega) (by decide)).mp z)) (br_t (by rw [h6]; rfl) (h23 (Or.inr h6)))
  refine br_f (fun z => h5 ((nI_eq (b := 5) (by omega) (by decide)).mp z)) (br_f (fun z => h6 ((nI_eq (b := 6) (by omega) (by decide)).mp z)) ?_)
  unfold wX_isInstruction_28
  exact br_t rfl (h44 (fun z => absurd z (by omega)))
section
variable {n : Nat} {d : Nat} {b : Nat} {m : Nat} {deep : Int32} {res : Int64} {thr : Int32} {thn : Int64} {CL : Nat → Nat} {cStr : Nat → Int32} {cOp : Nat → Int32} {cA : Nat → Int32} {cB : Nat → Int32} {OK : Nat → Nat} {oKin : Nat → Int32} {oOpen : Nat → Int32} {pVal : Nat → Int64} {aOut : Nat → Int32} {aVar : Nat → Int64} {FC : Nat → Nat} {FA : Nat → Nat} {FP : Nat → Nat} {FH : Nat → Nat} {FT : Nat → Nat} {fSelf : Nat → Int64} {stk : Nat → Int64} {TA : Nat → Nat} {TH : Nat → Nat} {xFc : Nat → Int32} {xFs : Nat → Int32} {xPc : Nat → Int32} {xKo : Nat → Int32} {xPk : Nat → Int32} {tw : Nat → Bool} {te : Nat → Bool} {tc : Nat → Bool} {xSet : Nat → Int64} {S : Nat → Nat} {XH : Nat → Nat} {xHeld : Nat → Int64} {xArg : Nat → Int64} {yCo : Nat → Int32} {yAr : Nat → Int32} {M : Nat → Nat} {yPair : Nat → Int32} {ySeen : Nat → Int32} {ySet : Nat → Int64} {yStay : Nat → Int32} {yArg : Nat → Int64} {yHan : Nat → Int32} {yKept : Nat → Int64} {yGiven : Int32}
theorem ob_insY {q c : Nat} (hq : q < 32) (hc : c < 8) (a bb : Int32) (post : Int32 → SY → Prop) (hl : CL c ≤ 24) (h1 : ob_okA q a → ob_okB q bb → wY_add_79 post (nI c) (nI q) a bb (nI (24 * c + CL c)) (nI n) (nI m) yGiven (nI d) deep (nI b) thr thn res cStr (fun zz => nI (CL zz)) cOp cA cB (fun zz => nI (OK zz)) oKin yCo yAr oOpen (fun zz => nI (M zz)) (fun zz => ob_yf (tw zz) (te zz) (tc zz)) yPair ySeen pVal ySet (fun zz => ob_th (S zz)) yStay aOut aVar yArg (fun zz => nI (FC zz)) (fun zz => nI (FA zz)) (fun zz => nI (FP zz)) (fun zz => nI (FH zz)) yHan (fun zz => nI (FT zz)) (fun zz => nI (TA zz)) (fun zz => nI (TH zz)) fSelf yKept stk) (h0 : ¬ (ob_okA q a ∧ ob_okB q bb) → post (-1) (nI n, nI m, yGiven, nI d, deep, nI b, thr, thn, res, cStr, (fun zz => nI (CL zz)), cOp, cA, cB, (fun zz => nI (OK zz)), oKin, yCo, yAr, oOpen, (fun zz => nI (M zz)), (fun zz => ob_yf (tw zz) (te zz) (tc zz)), yPair, ySeen, pVal, ySet, (fun zz => ob_th (S zz)), yStay, aOut, aVar, yArg, (fun zz => nI (FC zz)), (fun zz => nI (FA zz)), (fun zz => nI (FP zz)), (fun zz => nI (FH zz)), yHan, (fun zz => nI (FT zz)), (fun zz => nI (TA zz)), (fun zz => nI (TH zz)), fSelf, yKept, stk)) : wpY_add post (nI n, nI m, yGiven, nI d, deep, nI b, thr, thn, res, cStr, (fun zz => nI (CL zz)), cOp, cA, cB, (fun zz => nI (OK zz)), oKin, yCo, yAr, oOpen, (fun zz => nI (M zz)), (fun zz => ob_yf (tw zz) (te zz) (tc zz)), yPair, ySeen, pVal, ySet, (fun zz => ob_th (S zz)), yStay, aOut, aVar, yArg, (fun zz => nI (FC zz)), (fun zz => nI (FA zz)), (fun zz => nI (FP zz)), (fun zz => nI (FH zz)), yHan, (fun zz => nI (FT zz)), (fun zz => nI (TA zz)), (fun zz => nI (TH zz)), fSelf, yKept, stk) (nI c) (nI q) a bb := by
  have hin : vp_in (nI c) 8 := vp_in_nI hc (by decide)
  have h56 : ob_okA q a → wY_add_56 post (nI c) (nI q) a bb (nI (24 * c + CL c)) (nI n) (nI m) yGiven (nI d) deep (nI b) thr thn res cStr (fun zz => nI (CL zz)) cOp cA cB (fun zz => nI (OK zz)) oKin yCo yAr oOpen (fun zz => nI (M zz)) (fun zz => ob_yf (tw zz) (te zz) (tc zz)) yPair ySeen pVal ySet (fun zz => ob_th (S zz)) yStay aOut aVar yArg (fun zz => nI (FC zz)) (fun zz => nI (FA zz)) (fun zz => nI (FP zz)) (fun zz => nI (FH zz)) yHan (fun zz => nI (FT zz)) (fun zz => nI (TA zz)) (fun zz => nI (TH zz)) fSelf yKept stk := by
    intro hA
    have h67 : (q = 5 ∨ q = 6) → wY_add_67 post (nI c) (nI q) a bb (nI (24 * c + CL c)) (nI n) (nI m) yGiven (nI d) deep (nI b) thr thn res cStr (fun zz => nI (CL zz)) cOp cA cB (fun zz => nI (OK zz)) oKin yCo yAr oOpen (fun zz => nI (M zz)) (fun zz => ob_yf (tw zz) (te zz) (tc zz)) yPair ySeen pVal ySet (fun zz => ob_th (S zz)) yStay aOut aVar yArg (fun zz => nI (FC zz)) (fun zz => nI (FA zz)) (fun zz => nI (FP zz)) (fun zz => nI (FH zz)) yHan (fun zz => nI (FT zz)) (fun zz => nI (TA zz)) (fun zz => nI (TH zz)) fSelf yKept stk := by
      intro h
      unfold wY_add_67
      rcases ob_rgA (a := bb) (g := 3) (by decide) with ⟨y, hy, rfl⟩ | ⟨hh, hno⟩
      · exact ob_inT (b := 0) (c := 3) (by omega) hy (by decide) _ (br_f (by decide) (h1 hA (fun _ => ⟨y, hy, rfl⟩)))
      · exact ob_inF hh _ (br_t rfl (h0 (fun z => hno (z.2 h))))
    unfold wY_add_56
    by_cases h5 : q = 5
    · exact br_t (by rw [h5]; rfl) (h67 (Or.inl h5))
    by_cases h6 : q = 6
    · exact br_f (fun z => h5 ((nI_eq (b := 5) (by omega) (by decide)).mp z)) (br_t (by rw [h6]; rfl) (h67 (Or.inr h6)))
    exact br_f (fun z => h5 ((nI_eq (b := 5) (by omega) (by decide)).mp z)) (br_f (fun z => h6 ((nI_eq (b := 6) (by omega) (by decide)).mp z)) (h1 hA (fun z => absurd z (by omega))))
  unfold wpY_add
  refine ob_inT (b := 0) (c := 7) (by omega) (by omega) (by decide) _ (br_f (by decide) ?_)
  refine ob_inT (b := 0) (c := 31) (by omega) (by omega) (by decide) _ (br_f (by decide) ?_)
  refine ob_grY q hq _ ⟨hin, nm_r (e' := nI (24 * c + CL c)) (by rw [ob_cl (by omega)]; exact ob_iy24 _ _) ?_⟩
  unfold ob_mI
  cases hm : ob_most q with
  | none => exact br_t (by decide) (h56 (fun g hg => absurd (hm.symm.trans hg) (by simp)))
  | some g =>
    have hg31 := ob_most_le q g hm
    refine br_f (nI_pos (by omega)) ?_
    rcases ob_rgA (a := a) (g := g) (by omega) with ⟨x, hx, rfl⟩ | ⟨h, hno⟩
    · refine ob_inT (b := 0) (by omega) hx (by omega) _ (br_f (by decide) (h56 (fun g' hg' => ?_)))
      have e : g = g' := Option.some.inj (hm.symm.trans hg')
      exact ⟨x, by omega, rfl⟩
    · exact ob_inF h _ (br_t rfl (h0 (fun z => hno (z.1 g hm))))
end
end
section
/-! ===== add, make: the turns ===== -/
theorem i_vc_add {k : Nat} {u : SX} {v : SY} (I : i_Rel k u v) (hk : k + 6 ≤ 3072) (v1 : Int32) (v2 : Int32) (v3 : Int32) (v4 : Int32) : wpX_add (fun r u' => wpY_add (fun r' v' => r' = r ∧ i_Rel (k + 6) u' v') v v1 v2 v3 v4) u v1 v2 v3 v4 := by
  have J := i_up I
  obtain ⟨n, b, m, deep, res, thr, thn, CL, cStr, cOp, cA, cB, OK, oKin, oOpen, pVal, aOut, aVar, FC, FA, FP, FH, FT, fSelf, stk, TA, TH, xFc, xFs, xPc, xKo, xPk, tw, te, tc, xSet, S, XH, xHeld, xArg, yCo, yAr, M, yPair, ySeen, ySet, yStay, yArg, yHan, yKept, yGiven, rfl, rfl, R, hm⟩ := I
  unfold wpX_add
  have hYc : (v1 < 0 ∨ 7 < v1) → ∀ post : Int32 → SY → Prop, post (-1) (nI n, nI m, yGiven, nI 0, deep, nI b, thr, thn, res, cStr, (fun zz => nI (CL zz)), cOp, cA, cB, (fun zz => nI (OK zz)), oKin, yCo, yAr, oOpen, (fun zz => nI (M zz)), (fun zz => ob_yf (tw zz) (te zz) (tc zz)), yPair, ySeen, pVal, ySet, (fun zz => ob_th (S zz)), yStay, aOut, aVar, yArg, (fun zz => nI (FC zz)), (fun zz => nI (FA zz)), (fun zz => nI (FP zz)), (fun zz => nI (FH zz)), yHan, (fun zz => nI (FT zz)), (fun zz => nI (TA zz)), (fun zz => nI (TH zz)), fSelf, yKept, stk) → wpY_add post (nI n, nI m, yGiven, nI 0, deep, nI b, thr, thn, res, cStr, (fun zz => nI (CL zz)), cOp, cA, cB, (fun zz => nI (OK zz)), oKin, yCo, yAr, oOpen, (fun zz => nI (M zz)), (fun zz => ob_yf (tw zz) (te zz) (tc zz)), yPair, ySeen, pVal, ySet, (fun zz => ob_th (S zz)), yStay, aOut, aVar, yArg, (fun zz => nI (FC zz)), (fun zz => nI (FA zz)), (fun zz => nI (FP zz)), (fun zz => nI (FH zz)), yHan, (fun zz => nI (FT zz)), (fun zz => nI (TA zz)), (fun zz => nI (TH zz)), fSelf, yKept, stk) v1 v2 v3 v4 := by
    intro h post hp
    unfold wpY_add
    exact ob_inF h _ (br_t rfl hp)
  rcases pk_ix v1 (n := 8) (by decide) with h | h | ⟨c, hc, rfl⟩
  · exact br_t h (hYc (Or.inl h) _ ⟨rfl, J⟩)
  · have h0 : ¬ v1 < 0 := fun z => absurd (Int32.lt_of_le_of_lt h z) (by decide)
    have h7 : 7 < v1 := Int32.lt_of_lt_of_le (by decide) h
    exact br_f h0 (br_t h (hYc (Or.inr h7) _ ⟨rfl, J⟩))
  · have hin : vp_in (nI c) 8 := vp_in_nI hc (by decide)
    obtain ⟨hl, hokc⟩ := R.1 c hc
    refine br_f (nI_pos (by omega)) (br_f (nI_ge (b := 8) hc (by decide)) ?_)
    have hYop : (v2 < 0 ∨ 31 < v2) → ∀ post : Int32 → SY → Prop, post (-1) (nI n, nI m, yGiven, nI 0, deep, nI b, thr, thn, res, cStr, (fun zz => nI (CL zz)), cOp, cA, cB, (fun zz => nI (OK zz)), oKin, yCo, yAr, oOpen, (fun zz => nI (M zz)), (fun zz => ob_yf (tw zz) (te zz) (tc zz)), yPair, ySeen, pVal, ySet, (fun zz => ob_th (S zz)), yStay, aOut, aVar, yArg, (fun zz => nI (FC zz)), (fun zz => nI (FA zz)), (fun zz => nI (FP zz)), (fun zz => nI (FH zz)), yHan, (fun zz => nI (FT zz)), (fun zz => nI (TA zz)), (fun zz => nI (TH zz)), fSelf, yKept, stk) → wpY_add post (nI n, nI m, yGiven, nI 0, deep, nI b, thr, thn, res, cStr, (fun zz => nI (CL zz)), cOp, cA, cB, (fun zz => nI (OK zz)), oKin, yCo, yAr, oOpen, (fun zz => nI (M zz)), (fun zz => ob_yf (tw zz) (te zz) (tc zz)), yPair, ySeen, pVal, ySet, (fun zz => ob_th (S zz)), yStay, aOut, aVar, yArg, (fun zz => nI (FC zz)), (fun zz => nI (FA zz)), (fun zz => nI (FP zz)), (fun zz => nI (FH zz)), yHan, (fun zz => nI (FT zz)), (fun zz => nI (TA zz)), (fun zz => nI (TH zz)), fSelf, yKept, stk) (nI c) v2 v3 v4 := by
      intro h post hp
      unfold wpY_add
      exact ob_inT (b := 0) (c := 7) (by omega) (by omega) (by decide) _ (br_f (by decide) (ob_inF h _ (br_t rfl hp)))
    rcases pk_ix v2 (n := 32) (by decide) with h | h | ⟨q, hq, rfl⟩
    · unfold wpX_isInstruction
      exact br_t h (br_t rfl (hYop (Or.inl h) _ ⟨rfl, J⟩))
    · have h0 : ¬ v2 < 0 := fun z => absurd (Int32.lt_of_le_of_lt h z) (by decide)
      have h31 : 31 < v2 := Int32.lt_of_lt_of_le (by decide) h
      unfold wpX_isInstruction
      exact br_f h0 (br_f (Int32.not_le.mpr h31) (br_t rfl (hYop (Or.inr h31) _ ⟨rfl, J⟩)))
    · refine ob_insX hq v3 v4 _ (fun hA hB => br_f (by decide) ⟨hin, ?_⟩) (fun hno => br_t rfl ?_)
      · rw [ob_cl (by omega)]
        have hin5 : CL c < 24 → vp_in (nI (24 * c + CL c)) 192 := fun h => vp_in_nI (by omega) (by decide)
        have hcl5 : (nI (24 * c + CL c)).toNatClampNeg = 24 * c + CL c := ob_cl (by omega)
        by_cases h24 : CL c < 24
        · have hin5 := hin5 h24
          have R2 : ob_R n 0 b m res thr thn (ob_um CL c (CL c + 1)) (upd cOp (24 * c + CL c) (nI q)) (upd cA (24 * c + CL c) v3) (upd cB (24 * c + CL c) v4) OK oKin pVal aOut aVar FC FA FP FH FT fSelf stk TA TH xFc xFs xPc xKo xPk tw tc xSet S XH xHeld yCo yAr M yPair ySet yStay yHan yKept := by
            obtain ⟨hC, hO, hP, hL, hY, hA', hF, hT⟩ := R
            refine ⟨fun c' hc' => ?_, hO, hP, hL, hY, hA', hF, hT⟩
            obtain ⟨hl', hok'⟩ := hC c' hc'
            by_cases z : c' = c
            · subst z
              rw [ob_um_s]
              refine ⟨by omega, fun j hj => ?_⟩
              by_cases y : j = CL c'
              · subst y
                rw [pk_us, pk_us, pk_us]
                exact ⟨q, hq, rfl, hA, hB⟩
              · rw [pk_un (by omega), pk_un (by omega), pk_un (by omega)]
                exact hok' j (by omega)
            · rw [ob_um_n _ _ z]
              refine ⟨hl', fun j hj => ?_⟩
              rw [pk_un (by omega), pk_un (by omega), pk_un (by omega)]
              exact hok' j hj
          have K : i_Rel (k + 6) _ _ := ob_E_mk (deep := deep) (cStr := cStr) (oOpen := oOpen) (te := te) (xArg := xArg) (ySeen := ySeen) (yArg := yArg) (yGiven := yGiven) R2 (by omega : m ≤ 300 * (k + 6))
          refine nm_e (br_t (nI_lt (b := 24) h24 (by decide)) (nm_r (ob_ix24 _ _) ⟨hin5, ?_⟩))
          rw [hcl5]
          refine nm_e ⟨hin5, nm_e ⟨hin5, nm_e ⟨hin, nm_r (e' := fun zz => nI (ob_um CL c (CL c + 1) zz)) (by rw [nI_1]; exact ob_uN _ _ _) ?_⟩⟩⟩
          refine ob_insY hq hc v3 v4 _ hl (fun _ _ => ?_) (fun hno => absurd ⟨hA, hB⟩ hno)
          unfold wY_add_79
          refine ⟨hin, ?_⟩
          rw [ob_cl (by omega)]
          refine br_f (fun z => by have := (nI_eq (b := 24) (by omega) (by decide)).mp z; omega) ⟨hin5, ?_⟩
          rw [hcl5]
          refine nm_e ⟨hin5, nm_e ⟨hin5, nm_e ⟨hin, hin, nm_r (e' := fun zz => nI (ob_um CL c (CL c + 1) zz)) (by rw [nI_1]; exact ob_uN _ _ _) ⟨rfl, K⟩⟩⟩⟩
        · have h24' : CL c = 24 := by omega
          refine nm_e (br_f (nI_nlt (b := 24) (by omega) (by omega)) ?_)
          refine ob_insY hq hc v3 v4 _ hl (fun _ _ => ?_) (fun hno => absurd ⟨hA, hB⟩ hno)
          unfold wY_add_79
          refine ⟨hin, ?_⟩
          rw [ob_cl (by omega)]
          exact br_t (congrArg nI h24') ⟨rfl, J⟩
      · exact ob_insY hq hc v3 v4 _ hl (fun hA hB => absurd ⟨hA, hB⟩ hno) (fun _ => ⟨rfl, J⟩)
theorem i_vc_make {k : Nat} {u : SX} {v : SY} (I : i_Rel k u v) (hk : k + 6 ≤ 3072) (v1 : Int32) (v2 : Int32) : wpX_make (fun r u' => wpY_make (fun r' v' => r' = r ∧ i_Rel (k + 6) u' v') v v1 v2) u v1 v2 := by
  have J := i_up I
  obtain ⟨n, b, m, deep, res, thr, thn, CL, cStr, cOp, cA, cB, OK, oKin, oOpen, pVal, aOut, aVar, FC, FA, FP, FH, FT, fSelf, stk, TA, TH, xFc, xFs, xPc, xKo, xPk, tw, te, tc, xSet, S, XH, xHeld, xArg, yCo, yAr, M, yPair, ySeen, ySet, yStay, yArg, yHan, yKept, yGiven, rfl, rfl, R, hm⟩ := I
  have h3 := R.2.1.1
  unfold wpX_make
  by_cases e0 : v1 = 0
  · subst e0
    have hXno : ∀ post : Int32 → SX → Prop, post (-1) (nI n, nI 0, nI b, deep, res, thr, thn, (fun zz => nI (CL zz)), cStr, cOp, cA, cB, (fun zz => nI (OK zz)), oKin, oOpen, xFc, xFs, xPc, xKo, xPk, (fun zz => ob_xa (tw zz) (te zz) (tc zz)), pVal, xSet, (fun zz => nI (S zz)), aOut, aVar, (fun zz => nI (FC zz)), (fun zz => nI (FP zz)), (fun zz => nI (FA zz)), (fun zz => nI (FH zz)), (fun zz => nI (XH zz)), (fun zz => nI (FT zz)), fSelf, xHeld, stk, (fun zz => nI (TA zz)), (fun zz => nI (TH zz)), xArg) → wX_make_21 post 0 v2 (nI n) (nI 0) (nI b) deep res thr thn (fun zz => nI (CL zz)) cStr cOp cA cB (fun zz => nI (OK zz)) oKin oOpen xFc xFs xPc xKo xPk (fun zz => ob_xa (tw zz) (te zz) (tc zz)) pVal xSet (fun zz => nI (S zz)) aOut aVar (fun zz => nI (FC zz)) (fun zz => nI (FP zz)) (fun zz => nI (FA zz)) (fun zz => nI (FH zz)) (fun zz => nI (XH zz)) (fun zz => nI (FT zz)) fSelf xHeld stk (fun zz => nI (TA zz)) (fun zz => nI (TH zz)) xArg := by
      intro post hp
      unfold wX_make_21 wX_make_22 wX_make_42 wX_make_43 wX_make_64 wX_make_65
      exact br_f (by decide) (br_f (by decide) (br_t rfl (br_t rfl (br_t rfl hp))))
    have hYin : ∀ post : Int32 → SY → Prop, wY_make_44 post 0 v2 (nI n - 1) (-1) v2 (nI n) (nI m) yGiven (nI 0) deep (nI b) thr thn res cStr (fun zz => nI (CL zz)) cOp cA cB (fun zz => nI (OK zz)) oKin yCo yAr oOpen (fun zz => nI (M zz)) (fun zz => ob_yf (tw zz) (te zz) (tc zz)) yPair ySeen pVal ySet (fun zz => ob_th (S zz)) yStay aOut aVar yArg (fun zz => nI (FC zz)) (fun zz => nI (FA zz)) (fun zz => nI (FP zz)) (fun zz => nI (FH zz)) yHan (fun zz => nI (FT zz)) (fun zz => nI (TA zz)) (fun zz => nI (TH zz)) fSelf yKept stk → wpY_make post (nI n, nI m, yGiven, nI 0, deep, nI b, thr, thn, res, cStr, (fun zz => nI (CL zz)), cOp, cA, cB, (fun zz => nI (OK zz)), oKin, yCo, yAr, oOpen, (fun zz => nI (M zz)), (fun zz => ob_yf (tw zz) (te zz) (tc zz)), yPair, ySeen, pVal, ySet, (fun zz => ob_th (S zz)), yStay, aOut, aVar, yArg, (fun zz => nI (FC zz)), (fun zz => nI (FA zz)), (fun zz => nI (FP zz)), (fun zz => nI (FH zz)), yHan, (fun zz => nI (FT zz)), (fun zz => nI (TA zz)), (fun zz => nI (TH zz)), fSelf, yKept, stk) 0 v2 := by
      intro post hp
      unfold wpY_make
      refine ob_inT (a := 0) (b := 0) (c := 2) (by omega) (by omega) (by decide) _ (br_f (by decide) (br_t rfl ?_))
      unfold wY_make_19
      exact br_t rfl hp
    have hcl : (v2 < -1 ∨ nI n ≤ v2) ∨ (¬ v2 < -1 ∧ ¬ nI n ≤ v2 ∧ (v2 = -1 ∨ ∃ p, p < n ∧ v2 = nI p)) := by
      by_cases h1 : v2 < -1
      · exact Or.inl (Or.inl h1)
      by_cases h2 : nI n ≤ v2
      · exact Or.inl (Or.inr h2)
      refine Or.inr ⟨h1, h2, ?_⟩
      rcases ob_isO R.2.1 v2 with h | h | h
      · exact Or.inr h
      · left
        apply Int32.toInt_inj.mp
        rw [Int32.lt_iff_toInt_lt] at h h1
        rw [show (0 : Int32).toInt = 0 from by decide] at h
        rw [show (-1 : Int32).toInt = -1 from by decide] at h1 ⊢
        omega
      · exact absurd h h2
    rcases hcl with h | ⟨h1, h2, hpr⟩
    · have hY : ∀ post : Int32 → SY → Prop, post (-1) (nI n, nI m, yGiven, nI 0, deep, nI b, thr, thn, res, cStr, (fun zz => nI (CL zz)), cOp, cA, cB, (fun zz => nI (OK zz)), oKin, yCo, yAr, oOpen, (fun zz => nI (M zz)), (fun zz => ob_yf (tw zz) (te zz) (tc zz)), yPair, ySeen, pVal, ySet, (fun zz => ob_th (S zz)), yStay, aOut, aVar, yArg, (fun zz => nI (FC zz)), (fun zz => nI (FA zz)), (fun zz => nI (FP zz)), (fun zz => nI (FH zz)), yHan, (fun zz => nI (FT zz)), (fun zz => nI (TA zz)), (fun zz => nI (TH zz)), fSelf, yKept, stk) → wpY_make post (nI n, nI m, yGiven, nI 0, deep, nI b, thr, thn, res, cStr, (fun zz => nI (CL zz)), cOp, cA, cB, (fun zz => nI (OK zz)), oKin, yCo, yAr, oOpen, (fun zz => nI (M zz)), (fun zz => ob_yf (tw zz) (te zz) (tc zz)), yPair, ySeen, pVal, ySet, (fun zz => ob_th (S zz)), yStay, aOut, aVar, yArg, (fun zz => nI (FC zz)), (fun zz => nI (FA zz)), (fun zz => nI (FP zz)), (fun zz => nI (FH zz)), yHan, (fun zz => nI (FT zz)), (fun zz => nI (TA zz)), (fun zz => nI (TH zz)), fSelf, yKept, stk) 0 v2 := by
        intro post hp
        refine hYin post ?_
        unfold wY_make_44
        exact ob_inF (h.imp id (ob_nle1 (by omega) (by omega))) _ (br_t rfl hp)
      refine br_t rfl ?_
      by_cases h1 : v2 < -1
      · exact br_t h1 (hXno _ (hY _ ⟨rfl, J⟩))
      · exact br_f h1 (br_t (h.resolve_left h1) (hXno _ (hY _ ⟨rfl, J⟩)))
    · have hYok : ∀ post : Int32 → SY → Prop, ((nI n = 32 → post (-2) (nI n, nI m, yGiven, nI 0, deep, nI b, thr, thn, res, cStr, (fun zz => nI (CL zz)), cOp, cA, cB, (fun zz => nI (OK zz)), oKin, yCo, yAr, oOpen, (fun zz => nI (M zz)), (fun zz => ob_yf (tw zz) (te zz) (tc zz)), yPair, ySeen, pVal, ySet, (fun zz => ob_th (S zz)), yStay, aOut, aVar, yArg, (fun zz => nI (FC zz)), (fun zz => nI (FA zz)), (fun zz => nI (FP zz)), (fun zz => nI (FH zz)), yHan, (fun zz => nI (FT zz)), (fun zz => nI (TA zz)), (fun zz => nI (TH zz)), fSelf, yKept, stk)) ∧ (¬ nI n = 32 → wY_make_84 post 0 v2 v2 0 (nI n) (nI m) yGiven (nI 0) deep (nI b) thr thn res cStr (fun zz => nI (CL zz)) cOp cA cB (fun zz => nI (OK zz)) oKin yCo yAr oOpen (fun zz => nI (M zz)) (fun zz => ob_yf (tw zz) (te zz) (tc zz)) yPair ySeen pVal ySet (fun zz => ob_th (S zz)) yStay aOut aVar yArg (fun zz => nI (FC zz)) (fun zz => nI (FA zz)) (fun zz => nI (FP zz)) (fun zz => nI (FH zz)) yHan (fun zz => nI (FT zz)) (fun zz => nI (TA zz)) (fun zz => nI (TH zz)) fSelf yKept stk)) → wpY_make post (nI n, nI m, yGiven, nI 0, deep, nI b, thr, thn, res, cStr, (fun zz => nI (CL zz)), cOp, cA, cB, (fun zz => nI (OK zz)), oKin, yCo, yAr, oOpen, (fun zz => nI (M zz)), (fun zz => ob_yf (tw zz) (te zz) (tc zz)), yPair, ySeen, pVal, ySet, (fun zz => ob_th (S zz)), yStay, aOut, aVar, yArg, (fun zz => nI (FC zz)), (fun zz => nI (FA zz)), (fun zz => nI (FP zz)), (fun zz => nI (FH zz)), yHan, (fun zz => nI (FT zz)), (fun zz => nI (TA zz)), (fun zz => nI (TH zz)), fSelf, yKept, stk) 0 v2 := by
        intro post hp
        refine hYin post ?_
        unfold wY_make_44
        have hnlt : ¬ nI n - 1 < v2 := by
          rw [ob_sub1 (by omega)]
          rcases hpr with rfl | ⟨p, hp, rfl⟩
          · intro z
            have := Int32.lt_trans z (show (-1 : Int32) < 0 from by decide)
            exact nI_pos (by omega) this
          · exact nI_nlt (by omega) (by omega)
        refine br_f h1 (br_f hnlt (br_f (by decide) ?_))
        by_cases h32 : nI n = 32
        · exact br_t h32 (hp.1 h32)
        · exact br_f h32 (br_t rfl (hp.2 h32))
      refine br_t rfl (br_f h1 (br_f h2 ?_))
      unfold wX_make_22 wX_make_42 wX_make_43 wX_make_64 wX_make_65 wX_make_83
      refine br_f (by decide) (br_f (by decide) (br_f (by decide) (br_f (by decide) ?_)))
      by_cases h32 : n = 32
      · refine ob_newXf h32 _ ?_
        unfold wX_make_121
        exact br_f (by decide) (hYok _ (br_t (by rw [h32]; rfl) ⟨rfl, J⟩))
      · have R1 := ob_newR (kd := 0) (pr := v2) (xFc' := xFc) (xFs' := xFs) (yCo' := upd yCo n v2) (yAr' := upd yAr n (-1)) R (by omega) hpr (by decide) (by decide) (fun q hq => ⟨rfl, rfl, pk_un (by omega), pk_un (by omega)⟩) (fun h => absurd h (by decide))
        have K : i_Rel (k + 6) _ _ := ob_E_mk (deep := deep) (cStr := cStr) (oOpen := (upd oOpen n 1)) (te := te) (xArg := xArg) (ySeen := ySeen) (yArg := yArg) (yGiven := yGiven) R1 (by omega : m ≤ 300 * (k + 6))
        refine ob_newX (kd := 0) (by omega) _ ?_
        unfold wX_make_121
        refine br_t (nI_pos' (by omega)) (hYok _ (br_f (fun z => h32 ((nI_eq (b := 32) (by omega) (by decide)).mp z)) ?_))
        unfold wY_make_84
        refine ob_newY (kd := 0) (by omega) (by decide) (by decide) _ (br_f (by decide) ⟨vp_in_nI (by omega) (by decide), ?_⟩)
        rw [ob_cl (by omega)]
        exact nm_e ⟨rfl, K⟩
  refine br_f e0 ?_
  unfold wX_make_21 wX_make_22
  by_cases e1 : v1 = 1
  · subst e1
    have hYin : ∀ post : Int32 → SY → Prop, wY_make_44 post 1 v2 16 0 v2 (nI n) (nI m) yGiven (nI 0) deep (nI b) thr thn res cStr (fun zz => nI (CL zz)) cOp cA cB (fun zz => nI (OK zz)) oKin yCo yAr oOpen (fun zz => nI (M zz)) (fun zz => ob_yf (tw zz) (te zz) (tc zz)) yPair ySeen pVal ySet (fun zz => ob_th (S zz)) yStay aOut aVar yArg (fun zz => nI (FC zz)) (fun zz => nI (FA zz)) (fun zz => nI (FP zz)) (fun zz => nI (FH zz)) yHan (fun zz => nI (FT zz)) (fun zz => nI (TA zz)) (fun zz => nI (TH zz)) fSelf yKept stk → wpY_make post (nI n, nI m, yGiven, nI 0, deep, nI b, thr, thn, res, cStr, (fun zz => nI (CL zz)), cOp, cA, cB, (fun zz => nI (OK zz)), oKin, yCo, yAr, oOpen, (fun zz => nI (M zz)), (fun zz => ob_yf (tw zz) (te zz) (tc zz)), yPair, ySeen, pVal, ySet, (fun zz => ob_th (S zz)), yStay, aOut, aVar, yArg, (fun zz => nI (FC zz)), (fun zz => nI (FA zz)), (fun zz => nI (FP zz)), (fun zz => nI (FH zz)), yHan, (fun zz => nI (FT zz)), (fun zz => nI (TA zz)), (fun zz => nI (TH zz)), fSelf, yKept, stk) 1 v2 := by
      intro post hp
      unfold wpY_make
      refine ob_inT (a := 1) (b := 0) (c := 2) (by omega) (by omega) (by decide) _ (br_f (by decide) (br_f (by decide) ?_))
      unfold wY_make_19
      exact br_f (by decide) (br_t rfl hp)
    refine br_t rfl ?_
    rcases ob_rgA (a := v2) (g := 16) (by decide) with ⟨l, hl, rfl⟩ | ⟨h, _⟩
    · refine br_f (nI_pos (by omega)) (br_f (nI_nlt (a := 16) hl (by decide)) ?_)
      have hYok : ∀ post : Int32 → SY → Prop, ((nI n = 32 → post (-2) (nI n, nI m, yGiven, nI 0, deep, nI b, thr, thn, res, cStr, (fun zz => nI (CL zz)), cOp, cA, cB, (fun zz => nI (OK zz)), oKin, yCo, yAr, oOpen, (fun zz => nI (M zz)), (fun zz => ob_yf (tw zz) (te zz) (tc zz)), yPair, ySeen, pVal, ySet, (fun zz => ob_th (S zz)), yStay, aOut, aVar, yArg, (fun zz => nI (FC zz)), (fun zz => nI (FA zz)), (fun zz => nI (FP zz)), (fun zz => nI (FH zz)), yHan, (fun zz => nI (FT zz)), (fun zz => nI (TA zz)), (fun zz => nI (TH zz)), fSelf, yKept, stk)) ∧ (¬ nI n = 32 → wY_make_84 post 1 (nI l) 2 1 (nI n) (nI m) yGiven (nI 0) deep (nI b) thr thn res cStr (fun zz => nI (CL zz)) cOp cA cB (fun zz => nI (OK zz)) oKin yCo yAr oOpen (fun zz => nI (M zz)) (fun zz => ob_yf (tw zz) (te zz) (tc zz)) yPair ySeen pVal ySet (fun zz => ob_th (S zz)) yStay aOut aVar yArg (fun zz => nI (FC zz)) (fun zz => nI (FA zz)) (fun zz => nI (FP zz)) (fun zz => nI (FH zz)) yHan (fun zz => nI (FT zz)) (fun zz => nI (TA zz)) (fun zz => nI (TH zz)) fSelf yKept stk)) → wpY_make post (nI n, nI m, yGiven, nI 0, deep, nI b, thr, thn, res, cStr, (fun zz => nI (CL zz)), cOp, cA, cB, (fun zz => nI (OK zz)), oKin, yCo, yAr, oOpen, (fun zz => nI (M zz)), (fun zz => ob_yf (tw zz) (te zz) (tc zz)), yPair, ySeen, pVal, ySet, (fun zz => ob_th (S zz)), yStay, aOut, aVar, yArg, (fun zz => nI (FC zz)), (fun zz => nI (FA zz)), (fun zz => nI (FP zz)), (fun zz => nI (FH zz)), yHan, (fun zz => nI (FT zz)), (fun zz => nI (TA zz)), (fun zz => nI (TH zz)), fSelf, yKept, stk) 1 (nI l) := by
        intro post hp
        refine hYin post ?_
        unfold wY_make_44
        refine ob_inT (b := 0) (c := 16) (by omega) hl (by decide) _ (br_f (by decide) ?_)
        by_cases h32 : nI n = 32
        · exact br_t h32 (hp.1 h32)
        · exact br_f h32 (br_f (by decide) (br_t rfl (hp.2 h32)))
      unfold wX_make_43 wX_make_64 wX_make_65 wX_make_83
      refine br_f (by decide) (br_t rfl (br_f (by decide) (br_t rfl (br_f (by decide) ?_))))
      by_cases h32 : n = 32
      · refine ob_arrXf h32 _ ?_
        unfold wX_make_121
        exact br_f (by decide) (hYok _ (br_t (by rw [h32]; rfl) ⟨rfl, J⟩))
      · have R1 := ob_arrR (l := l) (yCo' := upd yCo n (nI l)) R (by omega) hl (fun q hq => pk_un (by omega))
        have K : i_Rel (k + 6) _ _ := ob_E_mk (deep := deep) (cStr := cStr) (oOpen := (upd oOpen n 1)) (te := (ob_ub te (32 * n + 16) false)) (xArg := xArg) (ySeen := ySeen) (yArg := yArg) (yGiven := yGiven) R1 (by omega : m + 1 ≤ 300 * (k + 6))
        refine ob_arrX (by omega) hl _ ?_
        unfold wX_make_121
        refine br_t (nI_pos' (by omega)) (hYok _ (br_f (fun z => h32 ((nI_eq (b := 32) (by omega) (by decide)).mp z)) ?_))
        unfold wY_make_84
        have e16 : 32 * nI n + 16 = nI (32 * n + 16) := ob_iy n 16
        refine ob_newYa (by omega) _ (br_t rfl ?_)
        rw [e16, ob_cl (by omega), nI_l (by omega), ob_cl (by omega)]
        exact ⟨vp_in_nI (by omega) (by decide), nm_r ob_uuL ⟨vp_in_nI (by omega) (by decide), nm_e ⟨rfl, K⟩⟩⟩
    · have hX42 : ∀ post : Int32 → SX → Prop, post (-1) (nI n, nI 0, nI b, deep, res, thr, thn, (fun zz => nI (CL zz)), cStr, cOp, cA, cB, (fun zz => nI (OK zz)), oKin, oOpen, xFc, xFs, xPc, xKo, xPk, (fun zz => ob_xa (tw zz) (te zz) (tc zz)), pVal, xSet, (fun zz => nI (S zz)), aOut, aVar, (fun zz => nI (FC zz)), (fun zz => nI (FP zz)), (fun zz => nI (FA zz)), (fun zz => nI (FH zz)), (fun zz => nI (XH zz)), (fun zz => nI (FT zz)), fSelf, xHeld, stk, (fun zz => nI (TA zz)), (fun zz => nI (TH zz)), xArg) → wX_make_42 post 1 v2 0 (nI n) (nI 0) (nI b) deep res thr thn (fun zz => nI (CL zz)) cStr cOp cA cB (fun zz => nI (OK zz)) oKin oOpen xFc xFs xPc xKo xPk (fun zz => ob_xa (tw zz) (te zz) (tc zz)) pVal xSet (fun zz => nI (S zz)) aOut aVar (fun zz => nI (FC zz)) (fun zz => nI (FP zz)) (fun zz => nI (FA zz)) (fun zz => nI (FH zz)) (fun zz => nI (XH zz)) (fun zz => nI (FT zz)) fSelf xHeld stk (fun zz => nI (TA zz)) (fun zz => nI (TH zz)) xArg := by
        intro post hp
        unfold wX_make_42 wX_make_43 wX_make_64 wX_make_65
        exact br_f (by decide) (br_t rfl (br_t rfl (br_t rfl hp)))
      have hY : ∀ post : Int32 → SY → Prop, post (-1) (nI n, nI m, yGiven, nI 0, deep, nI b, thr, thn, res, cStr, (fun zz => nI (CL zz)), cOp, cA, cB, (fun zz => nI (OK zz)), oKin, yCo, yAr, oOpen, (fun zz => nI (M zz)), (fun zz => ob_yf (tw zz) (te zz) (tc zz)), yPair, ySeen, pVal, ySet, (fun zz => ob_th (S zz)), yStay, aOut, aVar, yArg, (fun zz => nI (FC zz)), (fun zz => nI (FA zz)), (fun zz => nI (FP zz)), (fun zz => nI (FH zz)), yHan, (fun zz => nI (FT zz)), (fun zz => nI (TA zz)), (fun zz => nI (TH zz)), fSelf, yKept, stk) → wpY_make post (nI n, nI m, yGiven, nI 0, deep, nI b, thr, thn, res, cStr, (fun zz => nI (CL zz)), cOp, cA, cB, (fun zz => nI (OK zz)), oKin, yCo, yAr, oOpen, (fun zz => nI (M zz)), (fun zz => ob_yf (tw zz) (te zz) (tc zz)), yPair, ySeen, pVal, ySet, (fun zz => ob_th (S zz)), yStay, aOut, aVar, yArg, (fun zz => nI (FC zz)), (fun zz => nI (FA zz)), (fun zz => nI (FP zz)), (fun zz => nI (FH zz)), yHan, (fun zz => nI (FT zz)), (fun zz => nI (TA zz)), (fun zz => nI (TH zz)), fSelf, yKept, stk) 1 v2 := by
        intro post hp
        refine hYin post ?_
        unfold wY_make_44
        exact ob_inF h _ (br_t rfl hp)
      by_cases h0 : v2 < 0
      · exact br_t h0 (hX42 _ (hY _ ⟨rfl, J⟩))
      · exact br_f h0 (br_t (h.resolve_left h0) (hX42 _ (hY _ ⟨rfl, J⟩)))
  refine br_f e1 ?_
  unfold wX_make_42 wX_make_43
  by_cases e2 : v1 = 2
  · subst e2
    have hYin : ∀ post : Int32 → SY → Prop, wY_make_44 post 2 v2 7 0 v2 (nI n) (nI m) yGiven (nI 0) deep (nI b) thr thn res cStr (fun zz => nI (CL zz)) cOp cA cB (fun zz => nI (OK zz)) oKin yCo yAr oOpen (fun zz => nI (M zz)) (fun zz => ob_yf (tw zz) (te zz) (tc zz)) yPair ySeen pVal ySet (fun zz => ob_th (S zz)) yStay aOut aVar yArg (fun zz => nI (FC zz)) (fun zz => nI (FA zz)) (fun zz => nI (FP zz)) (fun zz => nI (FH zz)) yHan (fun zz => nI (FT zz)) (fun zz => nI (TA zz)) (fun zz => nI (TH zz)) fSelf yKept stk → wpY_make post (nI n, nI m, yGiven, nI 0, deep, nI b, thr, thn, res, cStr, (fun zz => nI (CL zz)), cOp, cA, cB, (fun zz => nI (OK zz)), oKin, yCo, yAr, oOpen, (fun zz => nI (M zz)), (fun zz => ob_yf (tw zz) (te zz) (tc zz)), yPair, ySeen, pVal, ySet, (fun zz => ob_th (S zz)), yStay, aOut, aVar, yArg, (fun zz => nI (FC zz)), (fun zz => nI (FA zz)), (fun zz => nI (FP zz)), (fun zz => nI (FH zz)), yHan, (fun zz => nI (FT zz)), (fun zz => nI (TA zz)), (fun zz => nI (TH zz)), fSelf, yKept, stk) 2 v2 := by
      intro post hp
      unfold wpY_make
      refine ob_inT (a := 2) (b := 0) (c := 2) (by omega) (by omega) (by decide) _ (br_f (by decide) (br_f (by decide) ?_))
      unfold wY_make_19
      exact br_f (by decide) (br_f (by decide) hp)
    refine br_t rfl ?_
    rcases ob_rgA (a := v2) (g := 7) (by decide) with ⟨c, hc, rfl⟩ | ⟨h, _⟩
    · refine br_f (nI_pos (by omega)) (br_f (nI_ge (b := 8) (by omega) (by decide)) ?_)
      have hYok : ∀ post : Int32 → SY → Prop, ((nI n = 32 → post (-2) (nI n, nI m, yGiven, nI 0, deep, nI b, thr, thn, res, cStr, (fun zz => nI (CL zz)), cOp, cA, cB, (fun zz => nI (OK zz)), oKin, yCo, yAr, oOpen, (fun zz => nI (M zz)), (fun zz => ob_yf (tw zz) (te zz) (tc zz)), yPair, ySeen, pVal, ySet, (fun zz => ob_th (S zz)), yStay, aOut, aVar, yArg, (fun zz => nI (FC zz)), (fun zz => nI (FA zz)), (fun zz => nI (FP zz)), (fun zz => nI (FH zz)), yHan, (fun zz => nI (FT zz)), (fun zz => nI (TA zz)), (fun zz => nI (TH zz)), fSelf, yKept, stk)) ∧ (¬ nI n = 32 → wY_make_84 post 2 (nI c) 1 2 (nI n) (nI m) yGiven (nI 0) deep (nI b) thr thn res cStr (fun zz => nI (CL zz)) cOp cA cB (fun zz => nI (OK zz)) oKin yCo yAr oOpen (fun zz => nI (M zz)) (fun zz => ob_yf (tw zz) (te zz) (tc zz)) yPair ySeen pVal ySet (fun zz => ob_th (S zz)) yStay aOut aVar yArg (fun zz => nI (FC zz)) (fun zz => nI (FA zz)) (fun zz => nI (FP zz)) (fun zz => nI (FH zz)) yHan (fun zz => nI (FT zz)) (fun zz => nI (TA zz)) (fun zz => nI (TH zz)) fSelf yKept stk)) → wpY_make post (nI n, nI m, yGiven, nI 0, deep, nI b, thr, thn, res, cStr, (fun zz => nI (CL zz)), cOp, cA, cB, (fun zz => nI (OK zz)), oKin, yCo, yAr, oOpen, (fun zz => nI (M zz)), (fun zz => ob_yf (tw zz) (te zz) (tc zz)), yPair, ySeen, pVal, ySet, (fun zz => ob_th (S zz)), yStay, aOut, aVar, yArg, (fun zz => nI (FC zz)), (fun zz => nI (FA zz)), (fun zz => nI (FP zz)), (fun zz => nI (FH zz)), yHan, (fun zz => nI (FT zz)), (fun zz => nI (TA zz)), (fun zz => nI (TH zz)), fSelf, yKept, stk) 2 (nI c) := by
        intro post hp
        refine hYin post ?_
        unfold wY_make_44
        refine ob_inT (b := 0) (c := 7) (by omega) hc (by decide) _ (br_f (by decide) ?_)
        by_cases h32 : nI n = 32
        · exact br_t h32 (hp.1 h32)
        · exact br_f h32 (br_f (by decide) (br_f (by decide) (hp.2 h32)))
      unfold wX_make_65 wX_make_83 wpX_newFunction
      refine br_t rfl (br_t rfl (br_f (by decide) (br_t rfl (br_t rfl ?_))))
      by_cases h32 : n = 32
      · refine ob_newXf h32 _ (br_t (by decide) ?_)
        unfold wX_make_121
        exact br_f (by decide) (hYok _ (br_t (by rw [h32]; rfl) ⟨rfl, J⟩))
      · have R1 := ob_newR (kd := 2) (pr := 1) (xFc' := upd xFc n (nI c)) (xFs' := upd xFs n (-1)) (yCo' := upd yCo n (nI c)) (yAr' := upd yAr n (-1)) R (by omega) (Or.inr ⟨1, by omega, rfl⟩) (by decide) (by decide) (fun q hq => ⟨pk_un (by omega), pk_un (by omega), pk_un (by omega), pk_un (by omega)⟩) (fun _ => ⟨by rw [pk_us, pk_us], ⟨c, by omega, pk_us⟩, by rw [pk_us, pk_us], by rw [pk_us]; exact Or.inl rfl⟩)
        have K : i_Rel (k + 6) _ _ := ob_E_mk (deep := deep) (cStr := cStr) (oOpen := (upd oOpen n 1)) (te := te) (xArg := xArg) (ySeen := ySeen) (yArg := yArg) (yGiven := yGiven) R1 (by omega : m ≤ 300 * (k + 6))
        refine ob_newX (kd := 2) (by omega) _ (br_f (nI_pos (by omega)) ⟨vp_in_nI (by omega) (by decide), ?_⟩)
        rw [ob_cl (by omega)]
        refine nm_e ⟨vp_in_nI (by omega) (by decide), nm_e ?_⟩
        unfold wX_make_121
        refine br_t (nI_pos' (by omega)) (hYok _ (br_f (fun z => h32 ((nI_eq (b := 32) (by omega) (by decide)).mp z)) ?_))
        unfold wY_make_84
        refine ob_newY (kd := 2) (by omega) (by decide) (by decide) _ (br_f (by decide) ⟨vp_in_nI (by omega) (by decide), ?_⟩)
        rw [ob_cl (by omega)]
        exact nm_e ⟨rfl, K⟩
    · have hX64 : ∀ post : Int32 → SX → Prop, post (-1) (nI n, nI 0, nI b, deep, res, thr, thn, (fun zz => nI (CL zz)), cStr, cOp, cA, cB, (fun zz => nI (OK zz)), oKin, oOpen, xFc, xFs, xPc, xKo, xPk, (fun zz => ob_xa (tw zz) (te zz) (tc zz)), pVal, xSet, (fun zz => nI (S zz)), aOut, aVar, (fun zz => nI (FC zz)), (fun zz => nI (FP zz)), (fun zz => nI (FA zz)), (fun zz => nI (FH zz)), (fun zz => nI (XH zz)), (fun zz => nI (FT zz)), fSelf, xHeld, stk, (fun zz => nI (TA zz)), (fun zz => nI (TH zz)), xArg) → wX_make_64 post v2 0 0 (nI n) (nI 0) (nI b) deep res thr thn (fun zz => nI (CL zz)) cStr cOp cA cB (fun zz => nI (OK zz)) oKin oOpen xFc xFs xPc xKo xPk (fun zz => ob_xa (tw zz) (te zz) (tc zz)) pVal xSet (fun zz => nI (S zz)) aOut aVar (fun zz => nI (FC zz)) (fun zz => nI (FP zz)) (fun zz => nI (FA zz)) (fun zz => nI (FH zz)) (fun zz => nI (XH zz)) (fun zz => nI (FT zz)) fSelf xHeld stk (fun zz => nI (TA zz)) (fun zz => nI (TH zz)) xArg := by
        intro post hp
        unfold wX_make_64 wX_make_65
        exact br_t rfl (br_t rfl (br_t rfl hp))
      have hY : ∀ post : Int32 → SY → Prop, post (-1) (nI n, nI m, yGiven, nI 0, deep, nI b, thr, thn, res, cStr, (fun zz => nI (CL zz)), cOp, cA, cB, (fun zz => nI (OK zz)), oKin, yCo, yAr, oOpen, (fun zz => nI (M zz)), (fun zz => ob_yf (tw zz) (te zz) (tc zz)), yPair, ySeen, pVal, ySet, (fun zz => ob_th (S zz)), yStay, aOut, aVar, yArg, (fun zz => nI (FC zz)), (fun zz => nI (FA zz)), (fun zz => nI (FP zz)), (fun zz => nI (FH zz)), yHan, (fun zz => nI (FT zz)), (fun zz => nI (TA zz)), (fun zz => nI (TH zz)), fSelf, yKept, stk) → wpY_make post (nI n, nI m, yGiven, nI 0, deep, nI b, thr, thn, res, cStr, (fun zz => nI (CL zz)), cOp, cA, cB, (fun zz => nI (OK zz)), oKin, yCo, yAr, oOpen, (fun zz => nI (M zz)), (fun zz => ob_yf (tw zz) (te zz) (tc zz)), yPair, ySeen, pVal, ySet, (fun zz => ob_th (S zz)), yStay, aOut, aVar, yArg, (fun zz => nI (FC zz)), (fun zz => nI (FA zz)), (fun zz => nI (FP zz)), (fun zz => nI (FH zz)), yHan, (fun zz => nI (FT zz)), (fun zz => nI (TA zz)), (fun zz => nI (TH zz)), fSelf, yKept, stk) 2 v2 := by
        intro post hp
        refine hYin post ?_
        unfold wY_make_44
        exact ob_inF h _ (br_t rfl hp)
      by_cases h0 : v2 < 0
      · exact br_t h0 (hX64 _ (hY _ ⟨rfl, J⟩))
      · refine br_f h0 (br_t ?_ (hX64 _ (hY _ ⟨rfl, J⟩)))
        have h7 := h.resolve_left h0
        rw [Int32.lt_iff_toInt_lt, show (nI 7).toInt = 7 from by decide] at h7
        rw [Int32.le_iff_toInt_le, show (8 : Int32).toInt = 8 from by decide]
        omega
  refine br_f e2 ?_
  unfold wX_make_64 wX_make_65
  refine br_t rfl (br_t rfl (br_t rfl ?_))
  unfold wpY_make
  have hno : v1 < 0 ∨ 2 < v1 := by
    rcases pk_ix v1 (n := 3) (by decide) with h | h | ⟨q, hq, rfl⟩
    · exact Or.inl h
    · exact Or.inr (Int32.lt_of_lt_of_le (by decide) h)
    · have : q = 0 ∨ q = 1 ∨ q = 2 := by omega
      rcases this with rfl | rfl | rfl
      · exact absurd rfl e0
      · exact absurd rfl e1
      · exact absurd rfl e2
  exact ob_inF hno _ (br_t rfl ⟨rfl, J⟩)
end
section
/-! ===== define, accessor ===== -/
theorem ob_dS : ∀ a : Fin 128, (((((nI a.val >>> ((6 : Int32) &&& 31)) * 1) ||| (((nI a.val >>> ((3 : Int32) &&& 31)) &&& 1) * 2)) ||| (((nI a.val >>> ((4 : Int32) &&& 31)) &&& 1) * 16)) ||| (((nI a.val >>> ((5 : Int32) &&& 31)) &&& 1) * 32)) = ob_ys (a.val.testBit 6) false false (a.val.testBit 3) (a.val.testBit 4) (a.val.testBit 5) := by decide +kernel
theorem ob_dO : ∀ a : Fin 128, ((((nI a.val &&& 1) * 2) ||| (((nI a.val >>> ((1 : Int32) &&& 31)) &&& 1) * 16)) ||| (((nI a.val >>> ((2 : Int32) &&& 31)) &&& 1) * 32)) = ob_yf (a.val.testBit 0) (a.val.testBit 1) (a.val.testBit 2) := by decide +kernel
theorem ob_d64 : ∀ a : Fin 128, ((nI a.val &&& 64) = 0 ↔ a.val.testBit 6 = false) ∧ (nI a.val ≤ 63 ↔ a.val.testBit 6 = false) := by decide +kernel
theorem ob_aX : ∀ a : Fin 64, ∀ g s : Bool, (((nI a.val &&& 54) ||| (if g then 128 else 0)) ||| (if s then 256 else 0)) = ob_xs false g s false (a.val.testBit 4) (a.val.testBit 5) false (a.val.testBit 1) (a.val.testBit 2) := by decide +kernel
theorem ob_a1 : ∀ a : Fin 64, ((nI a.val &&& 1) = 0 ↔ a.val.testBit 0 = false) ∧ ((nI a.val &&& 8) = 0 ↔ a.val.testBit 3 = false) := by decide +kernel
theorem ob_aS : ∀ a : Fin 64, (((((nI a.val &&& 1) * 4) ||| (((nI a.val >>> ((3 : Int32) &&& 31)) &&& 1) * 8)) ||| (((nI a.val >>> ((4 : Int32) &&& 31)) &&& 1) * 16)) ||| (((nI a.val >>> ((5 : Int32) &&& 31)) &&& 1) * 32)) = ob_ys false (a.val.testBit 0) (a.val.testBit 3) false (a.val.testBit 4) (a.val.testBit 5) := by decide +kernel
theorem ob_aO : ∀ a : Fin 64, ((((nI a.val >>> ((1 : Int32) &&& 31)) &&& 1) * 16) ||| (((nI a.val >>> ((2 : Int32) &&& 31)) &&& 1) * 32)) = ob_yf false (a.val.testBit 1) (a.val.testBit 2) := by decide +kernel
theorem i_vc_define {k : Nat} {u : SX} {v : SY} (I : i_Rel k u v) (hk : k + 6 ≤ 3072) (v1 : Int32) (v2 : Int32) (a2 : Int64) (v5 : Int32) : wpX_define (fun r u' => wpY_define (fun r' v' => r' = r ∧ i_Rel (k + 6) u' v') v v1 v2 a2 v5) u v1 v2 a2 v5 := by
  have J := i_up I
  obtain ⟨n, b, m, deep, res, thr, thn, CL, cStr, cOp, cA, cB, OK, oKin, oOpen, pVal, aOut, aVar, FC, FA, FP, FH, FT, fSelf, stk, TA, TH, xFc, xFs, xPc, xKo, xPk, tw, te, tc, xSet, S, XH, xHeld, xArg, yCo, yAr, M, yPair, ySeen, ySet, yStay, yArg, yHan, yKept, yGiven, rfl, rfl, R, hm⟩ := I
  unfold wpX_define wpY_define
  rcases ob_isP (n := n) (d := 0) (b := b) (m := m) (deep := deep) (res := res) (thr := thr) (thn := thn) (CL := CL) (cStr := cStr) (cOp := cOp) (cA := cA) (cB := cB) (OK := OK) (oKin := oKin) (oOpen := oOpen) (pVal := pVal) (aOut := aOut) (aVar := aVar) (FC := FC) (FA := FA) (FP := FP) (FH := FH) (FT := FT) (fSelf := fSelf) (stk := stk) (TA := TA) (TH := TH) (xFc := xFc) (xFs := xFs) (xPc := xPc) (xKo := xKo) (xPk := xPk) (tw := tw) (te := te) (tc := tc) (xSet := xSet) (S := S) (XH := XH) (xHeld := xHeld) (xArg := xArg) (yCo := yCo) (yAr := yAr) (M := M) (yPair := yPair) (ySeen := ySeen) (ySet := ySet) (yStay := yStay) (yArg := yArg) (yHan := yHan) (yKept := yKept) (yGiven := yGiven) R.2.1 v1 v2 with ⟨o, j, ho, hj, rfl, rfl, hX, hY⟩ | ⟨hX, hY⟩
  · rcases ob_rgA (a := v5) (g := 127) (by decide) with ⟨f, hf, rfl⟩ | ⟨h, _⟩
    · obtain ⟨a, rfl⟩ : ∃ a : Fin 128, f = a.val := ⟨⟨f, by omega⟩, rfl⟩
      refine hX _ (br_f (by decide) (br_f (nI_pos (by omega)) (br_t (nI_le (b := 127) hf (by decide)) ?_)))
      have hYin : ∀ P : Int32 → Prop, P 1 → wpY_in P (nI a.val) 0 127 := fun P hP => ob_inT (b := 0) (c := 127) (by omega) hf (by decide) _ hP
      have hmain : (a.val.testBit 6 = true → ob_V n a2) → wX_define_41 (fun r u' => wpY_define (fun r' v' => r' = r ∧ i_Rel (k + 6) u' v') (nI n, nI m, yGiven, nI 0, deep, nI b, thr, thn, res, cStr, (fun zz => nI (CL zz)), cOp, cA, cB, (fun zz => nI (OK zz)), oKin, yCo, yAr, oOpen, (fun zz => nI (M zz)), (fun zz => ob_yf (tw zz) (te zz) (tc zz)), yPair, ySeen, pVal, ySet, (fun zz => ob_th (S zz)), yStay, aOut, aVar, yArg, (fun zz => nI (FC zz)), (fun zz => nI (FA zz)), (fun zz => nI (FP zz)), (fun zz => nI (FH zz)), yHan, (fun zz => nI (FT zz)), (fun zz => nI (TA zz)), (fun zz => nI (TH zz)), fSelf, yKept, stk) (nI o) (nI j) a2 (nI a.val)) (nI o) (nI j) a2 (nI a.val) (nI n) (nI 0) (nI b) deep res thr thn (fun zz => nI (CL zz)) cStr cOp cA cB (fun zz => nI (OK zz)) oKin oOpen xFc xFs xPc xKo xPk (fun zz => ob_xa (tw zz) (te zz) (tc zz)) pVal xSet (fun zz => nI (S zz)) aOut aVar (fun zz => nI (FC zz)) (fun zz => nI (FP zz)) (fun zz => nI (FA zz)) (fun zz => nI (FH zz)) (fun zz => nI (XH zz)) (fun zz => nI (FT zz)) fSelf xHeld stk (fun zz => nI (TA zz)) (fun zz => nI (TH zz)) xArg := by
        intro hv
        obtain ⟨r, m', M', xPc', xKo', pVal', xPk', tw', te', tc', xSet', yPair', ySet', R2, hm2, hr, hX2, hY2⟩ := ob_settle (deep := deep) (cStr := cStr) (oOpen := oOpen) (te := te) (xArg := xArg) (ySeen := ySeen) (yArg := yArg) (yGiven := yGiven) (o := o) (k := j) (sV := a.val.testBit 6) (sG := false) (sS := false) (sW := a.val.testBit 3) (sE := a.val.testBit 4) (sC := a.val.testBit 5) (oW := a.val.testBit 0) (oE := a.val.testBit 1) (oC := a.val.testBit 2) (pW := a.val.testBit 0) (pE := a.val.testBit 1) (pC := a.val.testBit 2) (v := a2) (w := 8589934592) (wy := 0) ⟨fun _ => rfl, fun _ => rfl, fun _ => rfl⟩ R ho hj (by omega) (by simp) (fun h => hv (by simpa using h)) (fun h => absurd h (by decide))
        have K : i_Rel (k + 6) _ _ := ob_E_mk (deep := deep) (cStr := cStr) (oOpen := oOpen) (te := te') (xArg := xArg) (ySeen := ySeen) (yArg := yArg) (yGiven := yGiven) R2 (by omega : m' ≤ 300 * (k + 6))
        rw [ob_sDef a] at hX2
        have hYd : wpY_define (fun r' v' => r' = r ∧ i_Rel (k + 6) (nI n, nI 0, nI b, deep, res, thr, thn, (fun zz => nI (CL zz)), cStr, cOp, cA, cB, (fun zz => nI (OK zz)), oKin, oOpen, xFc, xFs, xPc', xKo', xPk', (fun zz => ob_xa (tw' zz) (te' zz) (tc' zz)), pVal', xSet', (fun zz => nI (S zz)), aOut, aVar, (fun zz => nI (FC zz)), (fun zz => nI (FP zz)), (fun zz => nI (FA zz)), (fun zz => nI (FH zz)), (fun zz => nI (XH zz)), (fun zz => nI (FT zz)), fSelf, xHeld, stk, (fun zz => nI (TA zz)), (fun zz => nI (TH zz)), xArg) v') (nI n, nI m, yGiven, nI 0, deep, nI b, thr, thn, res, cStr, (fun zz => nI (CL zz)), cOp, cA, cB, (fun zz => nI (OK zz)), oKin, yCo, yAr, oOpen, (fun zz => nI (M zz)), (fun zz => ob_yf (tw zz) (te zz) (tc zz)), yPair, ySeen, pVal, ySet, (fun zz => ob_th (S zz)), yStay, aOut, aVar, yArg, (fun zz => nI (FC zz)), (fun zz => nI (FA zz)), (fun zz => nI (FP zz)), (fun zz => nI (FH zz)), yHan, (fun zz => nI (FT zz)), (fun zz => nI (TA zz)), (fun zz => nI (TH zz)), fSelf, yKept, stk) (nI o) (nI j) a2 (nI a.val) := by
          have h37 : wY_define_37 (fun r' v' => r' = r ∧ i_Rel (k + 6) (nI n, nI 0, nI b, deep, res, thr, thn, (fun zz => nI (CL zz)), cStr, cOp, cA, cB, (fun zz => nI (OK zz)), oKin, oOpen, xFc, xFs, xPc', xKo', xPk', (fun zz => ob_xa (tw' zz) (te' zz) (tc' zz)), pVal', xSet', (fun zz => nI (S zz)), aOut, aVar, (fun zz => nI (FC zz)), (fun zz => nI (FP zz)), (fun zz => nI (FA zz)), (fun zz => nI (FH zz)), (fun zz => nI (XH zz)), (fun zz => nI (FT zz)), fSelf, xHeld, stk, (fun zz => nI (TA zz)), (fun zz => nI (TH zz)), xArg) v') (nI o) (nI j) a2 (nI a.val) (nI n) (nI m) yGiven (nI 0) deep (nI b) thr thn res cStr (fun zz => nI (CL zz)) cOp cA cB (fun zz => nI (OK zz)) oKin yCo yAr oOpen (fun zz => nI (M zz)) (fun zz => ob_yf (tw zz) (te zz) (tc zz)) yPair ySeen pVal ySet (fun zz => ob_th (S zz)) yStay aOut aVar yArg (fun zz => nI (FC zz)) (fun zz => nI (FA zz)) (fun zz => nI (FP zz)) (fun zz => nI (FH zz)) yHan (fun zz => nI (FT zz)) (fun zz => nI (TA zz)) (fun zz => nI (TH zz)) fSelf yKept stk := by
            unfold wY_define_37
            rw [ob_dS a, ob_dO a]
            exact nm_e (hY2 _ ⟨rfl, K⟩)
          unfold wpY_define
          refine hY _ (br_f (by decide) (hYin _ (br_f (by decide) ?_)))
          cases hb : a.val.testBit 6
          · exact br_t ((ob_d64 a).2.mpr hb) h37
          · refine br_f (fun z => absurd (hb.symm.trans ((ob_d64 a).2.mp z)) (by decide)) ?_
            rcases ob_isV (n := n) (d := 0) (b := b) (m := m) (deep := deep) (res := res) (thr := thr) (thn := thn) (CL := CL) (cStr := cStr) (cOp := cOp) (cA := cA) (cB := cB) (OK := OK) (oKin := oKin) (oOpen := oOpen) (pVal := pVal) (aOut := aOut) (aVar := aVar) (FC := FC) (FA := FA) (FP := FP) (FH := FH) (FT := FT) (fSelf := fSelf) (stk := stk) (TA := TA) (TH := TH) (xFc := xFc) (xFs := xFs) (xPc := xPc) (xKo := xKo) (xPk := xPk) (tw := tw) (te := te) (tc := tc) (xSet := xSet) (S := S) (XH := XH) (xHeld := xHeld) (xArg := xArg) (yCo := yCo) (yAr := yAr) (M := M) (yPair := yPair) (ySeen := ySeen) (ySet := ySet) (yStay := yStay) (yArg := yArg) (yHan := yHan) (yKept := yKept) (yGiven := yGiven) R.2.1 a2 with ⟨_, _, hYv⟩ | ⟨hnv, _, _⟩
            · exact hYv _ (br_f (by decide) h37)
            · exact absurd (hv hb) hnv
        unfold wX_define_41
        refine hX2 _ ?_
        by_cases hr2 : r = -2
        · subst hr2
          exact br_t rfl hYd
        · exact br_f hr2 hYd
      cases hb : a.val.testBit 6
      · exact br_t ((ob_d64 a).1.mpr hb) (hmain (fun z => absurd (hb.symm.trans z) (by decide)))
      · refine br_f (fun z => absurd (hb.symm.trans ((ob_d64 a).1.mp z)) (by decide)) ?_
        rcases ob_isV (n := n) (d := 0) (b := b) (m := m) (deep := deep) (res := res) (thr := thr) (thn := thn) (CL := CL) (cStr := cStr) (cOp := cOp) (cA := cA) (cB := cB) (OK := OK) (oKin := oKin) (oOpen := oOpen) (pVal := pVal) (aOut := aOut) (aVar := aVar) (FC := FC) (FA := FA) (FP := FP) (FH := FH) (FT := FT) (fSelf := fSelf) (stk := stk) (TA := TA) (TH := TH) (xFc := xFc) (xFs := xFs) (xPc := xPc) (xKo := xKo) (xPk := xPk) (tw := tw) (te := te) (tc := tc) (xSet := xSet) (S := S) (XH := XH) (xHeld := xHeld) (xArg := xArg) (yCo := yCo) (yAr := yAr) (M := M) (yPair := yPair) (ySeen := ySeen) (ySet := ySet) (yStay := yStay) (yArg := yArg) (yHan := yHan) (yKept := yKept) (yGiven := yGiven) R.2.1 a2 with ⟨hv, hXv, _⟩ | ⟨_, hXv, hYv⟩
        · exact hXv _ (br_f (by decide) (hmain (fun _ => hv)))
        · refine hXv _ (br_t rfl (hY _ (br_f (by decide) (hYin _ (br_f (by decide) ?_)))))
          exact br_f (fun z => absurd (hb.symm.trans ((ob_d64 a).2.mp z)) (by decide)) (hYv _ (br_t rfl ⟨rfl, J⟩))
    · refine hX _ (br_f (by decide) ?_)
      by_cases h0 : v5 < 0
      · exact br_t h0 (hY _ (br_f (by decide) (ob_inF h _ (br_t rfl ⟨rfl, J⟩))))
      · refine br_f h0 (br_f (Int32.not_le.mpr (h.resolve_left h0)) (hY _ (br_f (by decide) (ob_inF h _ (br_t rfl ⟨rfl, J⟩)))))
  · exact hX _ (br_t rfl (hY _ (br_t rfl ⟨rfl, J⟩)))
end
section
/-! ===== accessor ===== -/
def ob_gv (x : Int32) : Int64 := if 0 ≤ x then 17179869184 + x.toInt64 else 8589934592
section
variable {n : Nat} {d : Nat} {b : Nat} {m : Nat} {deep : Int32} {res : Int64} {thr : Int32} {thn : Int64} {CL : Nat → Nat} {cStr : Nat → Int32} {cOp : Nat → Int32} {cA : Nat → Int32} {cB : Nat → Int32} {OK : Nat → Nat} {oKin : Nat → Int32} {oOpen : Nat → Int32} {pVal : Nat → Int64} {aOut : Nat → Int32} {aVar : Nat → Int64} {FC : Nat → Nat} {FA : Nat → Nat} {FP : Nat → Nat} {FH : Nat → Nat} {FT : Nat → Nat} {fSelf : Nat → Int64} {stk : Nat → Int64} {TA : Nat → Nat} {TH : Nat → Nat} {xFc : Nat → Int32} {xFs : Nat → Int32} {xPc : Nat → Int32} {xKo : Nat → Int32} {xPk : Nat → Int32} {tw : Nat → Bool} {te : Nat → Bool} {tc : Nat → Bool} {xSet : Nat → Int64} {S : Nat → Nat} {XH : Nat → Nat} {xHeld : Nat → Int64} {xArg : Nat → Int64} {yCo : Nat → Int32} {yAr : Nat → Int32} {M : Nat → Nat} {yPair : Nat → Int32} {ySeen : Nat → Int32} {ySet : Nat → Int64} {yStay : Nat → Int32} {yArg : Nat → Int64} {yHan : Nat → Int32} {yKept : Nat → Int64} {yGiven : Int32}
theorem ob_half (hO : ob_gO n OK oKin) (x : Int32) : (ob_V n (ob_gv x) ∧ (∀ post : Int32 → Prop, post 1 → wpX_mayAccess post (nI n, nI d, nI b, deep, res, thr, thn, (fun zz => nI (CL zz)), cStr, cOp, cA, cB, (fun zz => nI (OK zz)), oKin, oOpen, xFc, xFs, xPc, xKo, xPk, (fun zz => ob_xa (tw zz) (te zz) (tc zz)), pVal, xSet, (fun zz => nI (S zz)), aOut, aVar, (fun zz => nI (FC zz)), (fun zz => nI (FP zz)), (fun zz => nI (FA zz)), (fun zz => nI (FH zz)), (fun zz => nI (XH zz)), (fun zz => nI (FT zz)), fSelf, xHeld, stk, (fun zz => nI (TA zz)), (fun zz => nI (TH zz)), xArg) x) ∧ (∀ post : Int32 → Prop, post 1 → wpY_isHalf post (nI n, nI m, yGiven, nI d, deep, nI b, thr, thn, res, cStr, (fun zz => nI (CL zz)), cOp, cA, cB, (fun zz => nI (OK zz)), oKin, yCo, yAr, oOpen, (fun zz => nI (M zz)), (fun zz => ob_yf (tw zz) (te zz) (tc zz)), yPair, ySeen, pVal, ySet, (fun zz => ob_th (S zz)), yStay, aOut, aVar, yArg, (fun zz => nI (FC zz)), (fun zz => nI (FA zz)), (fun zz => nI (FP zz)), (fun zz => nI (FH zz)), yHan, (fun zz => nI (FT zz)), (fun zz => nI (TA zz)), (fun zz => nI (TH zz)), fSelf, yKept, stk) x)) ∨ ((∀ post : Int32 → Prop, post 0 → wpX_mayAccess post (nI n, nI d, nI b, deep, res, thr, thn, (fun zz => nI (CL zz)), cStr, cOp, cA, cB, (fun zz => nI (OK zz)), oKin, oOpen, xFc, xFs, xPc, xKo, xPk, (fun zz => ob_xa (tw zz) (te zz) (tc zz)), pVal, xSet, (fun zz => nI (S zz)), aOut, aVar, (fun zz => nI (FC zz)), (fun zz => nI (FP zz)), (fun zz => nI (FA zz)), (fun zz => nI (FH zz)), (fun zz => nI (XH zz)), (fun zz => nI (FT zz)), fSelf, xHeld, stk, (fun zz => nI (TA zz)), (fun zz => nI (TH zz)), xArg) x) ∧ (∀ post : Int32 → Prop, post 0 → wpY_isHalf post (nI n, nI m, yGiven, nI d, deep, nI b, thr, thn, res, cStr, (fun zz => nI (CL zz)), cOp, cA, cB, (fun zz => nI (OK zz)), oKin, yCo, yAr, oOpen, (fun zz => nI (M zz)), (fun zz => ob_yf (tw zz) (te zz) (tc zz)), yPair, ySeen, pVal, ySet, (fun zz => ob_th (S zz)), yStay, aOut, aVar, yArg, (fun zz => nI (FC zz)), (fun zz => nI (FA zz)), (fun zz => nI (FP zz)), (fun zz => nI (FH zz)), yHan, (fun zz => nI (FT zz)), (fun zz => nI (TA zz)), (fun zz => nI (TH zz)), fSelf, yKept, stk) x)) := by
  have h3 := hO.1
  rcases ob_isO hO x with ⟨o, ho, rfl⟩ | h
  · have hin : vp_in (nI o) 32 := vp_in_nI (by omega) (by decide)
    have hcl : (nI o).toNatClampNeg = o := ob_cl (by omega)
    have hOK := (hO.2 o ho).1
    have hX : ∀ post : Int32 → Prop, ((nI (OK o) = 2 → post 1) ∧ (¬ nI (OK o) = 2 → post 0)) → wpX_mayAccess post (nI n, nI d, nI b, deep, res, thr, thn, (fun zz => nI (CL zz)), cStr, cOp, cA, cB, (fun zz => nI (OK zz)), oKin, oOpen, xFc, xFs, xPc, xKo, xPk, (fun zz => ob_xa (tw zz) (te zz) (tc zz)), pVal, xSet, (fun zz => nI (S zz)), aOut, aVar, (fun zz => nI (FC zz)), (fun zz => nI (FP zz)), (fun zz => nI (FA zz)), (fun zz => nI (FH zz)), (fun zz => nI (XH zz)), (fun zz => nI (FT zz)), fSelf, xHeld, stk, (fun zz => nI (TA zz)), (fun zz => nI (TH zz)), xArg) (nI o) := by
      intro post hp
      unfold wpX_mayAccess
      refine br_f (nI_pos (by omega)) (br_t (nI_lt ho (by omega)) ⟨hin, ?_⟩)
      rw [hcl]
      exact hp
    have hY : ∀ post : Int32 → Prop, ((nI (OK o) = 2 → post 1) ∧ (¬ nI (OK o) = 2 → post 0)) → wpY_isHalf post (nI n, nI m, yGiven, nI d, deep, nI b, thr, thn, res, cStr, (fun zz => nI (CL zz)), cOp, cA, cB, (fun zz => nI (OK zz)), oKin, yCo, yAr, oOpen, (fun zz => nI (M zz)), (fun zz => ob_yf (tw zz) (te zz) (tc zz)), yPair, ySeen, pVal, ySet, (fun zz => ob_th (S zz)), yStay, aOut, aVar, yArg, (fun zz => nI (FC zz)), (fun zz => nI (FA zz)), (fun zz => nI (FP zz)), (fun zz => nI (FH zz)), yHan, (fun zz => nI (FT zz)), (fun zz => nI (TA zz)), (fun zz => nI (TH zz)), fSelf, yKept, stk) (nI o) := by
      intro post hp
      unfold wpY_isHalf
      dsimp only
      rw [ob_sub1 (a := n) (by omega)]
      refine br_f (ob_m1n o (by omega)) (ob_inT (b := 0) (by omega) (by omega) (by omega) _ (br_f (by decide) ⟨hin, ?_⟩))
      rw [hcl]
      exact hp
    by_cases h2 : nI (OK o) = 2
    · refine Or.inl ⟨?_, fun post hp => hX post (br_t h2 hp), fun post hp => hY post (br_t h2 hp)⟩
      unfold ob_gv
      rw [if_pos (nI_pos' (by omega)), ob_obj_toI o (by omega)]
      exact ob_V_o ho
    · exact Or.inr ⟨fun post hp => hX post (br_f h2 hp), fun post hp => hY post (br_f h2 hp)⟩
  · have hX : ∀ post : Int32 → Prop, ((x = -1 → post 1) ∧ (¬ x = -1 → post 0)) → wpX_mayAccess post (nI n, nI d, nI b, deep, res, thr, thn, (fun zz => nI (CL zz)), cStr, cOp, cA, cB, (fun zz => nI (OK zz)), oKin, oOpen, xFc, xFs, xPc, xKo, xPk, (fun zz => ob_xa (tw zz) (te zz) (tc zz)), pVal, xSet, (fun zz => nI (S zz)), aOut, aVar, (fun zz => nI (FC zz)), (fun zz => nI (FP zz)), (fun zz => nI (FA zz)), (fun zz => nI (FH zz)), (fun zz => nI (XH zz)), (fun zz => nI (FT zz)), fSelf, xHeld, stk, (fun zz => nI (TA zz)), (fun zz => nI (TH zz)), xArg) x := by
      intro post hp
      unfold wpX_mayAccess wX_mayAccess_12
      by_cases h0 : x < 0
      · exact br_t h0 hp
      · exact br_f h0 (br_f (Int32.not_lt.mpr (h.resolve_left h0)) hp)
    by_cases hm1 : x = -1
    · refine Or.inl ⟨?_, fun post hp => hX post (br_t hm1 hp), fun post hp => ?_⟩
      · rw [hm1]
        exact ob_V_U n
      · unfold wpY_isHalf
        exact br_t hm1 hp
    · refine Or.inr ⟨fun post hp => hX post (br_f hm1 hp), fun post hp => ?_⟩
      unfold wpY_isHalf
      exact br_f hm1 (ob_inF (h.imp id (ob_nle1 (by omega) (by omega))) _ (br_t rfl hp))
end
theorem i_vc_accessor {k : Nat} {u : SX} {v : SY} (I : i_Rel k u v) (hk : k + 6 ≤ 3072) (v1 : Int32) (v2 : Int32) (v3 : Int32) (v4 : Int32) (v5 : Int32) : wpX_accessor (fun r u' => wpY_accessor (fun r' v' => r' = r ∧ i_Rel (k + 6) u' v') v v1 v2 v3 v4 v5) u v1 v2 v3 v4 v5 := by
  have J := i_up I
  obtain ⟨n, b, m, deep, res, thr, thn, CL, cStr, cOp, cA, cB, OK, oKin, oOpen, pVal, aOut, aVar, FC, FA, FP, FH, FT, fSelf, stk, TA, TH, xFc, xFs, xPc, xKo, xPk, tw, te, tc, xSet, S, XH, xHeld, xArg, yCo, yAr, M, yPair, ySeen, ySet, yStay, yArg, yHan, yKept, yGiven, rfl, rfl, R, hm⟩ := I
  unfold wpX_accessor
  rcases ob_isP (n := n) (d := 0) (b := b) (m := m) (deep := deep) (res := res) (thr := thr) (thn := thn) (CL := CL) (cStr := cStr) (cOp := cOp) (cA := cA) (cB := cB) (OK := OK) (oKin := oKin) (oOpen := oOpen) (pVal := pVal) (aOut := aOut) (aVar := aVar) (FC := FC) (FA := FA) (FP := FP) (FH := FH) (FT := FT) (fSelf := fSelf) (stk := stk) (TA := TA) (TH := TH) (xFc := xFc) (xFs := xFs) (xPc := xPc) (xKo := xKo) (xPk := xPk) (tw := tw) (te := te) (tc := tc) (xSet := xSet) (S := S) (XH := XH) (xHeld := xHeld) (xArg := xArg) (yCo := yCo) (yAr := yAr) (M := M) (yPair := yPair) (ySeen := ySeen) (ySet := ySet) (yStay := yStay) (yArg := yArg) (yHan := yHan) (yKept := yKept) (yGiven := yGiven) R.2.1 v1 v2 with ⟨o, j, ho, hj, rfl, rfl, hX, hY⟩ | ⟨hX, hY⟩
  · rcases ob_rgA (a := v5) (g := 63) (by decide) with ⟨f, hf, rfl⟩ | ⟨h, _⟩
    · obtain ⟨a, rfl⟩ : ∃ a : Fin 64, f = a.val := ⟨⟨f, by omega⟩, rfl⟩
      refine hX _ (br_f (by decide) (br_f (nI_pos (by omega)) (br_t (nI_le (b := 63) hf (by decide)) ?_)))
      have hY0 : ∀ post : Int32 → SY → Prop, ((((nI a.val &&& 1) = 0 → (wY_accessor_35 post (nI o) (nI j) v3 v4 (nI a.val) (nI n) (nI m) yGiven (nI 0) deep (nI b) thr thn res cStr (fun zz => nI (CL zz)) cOp cA cB (fun zz => nI (OK zz)) oKin yCo yAr oOpen (fun zz => nI (M zz)) (fun zz => ob_yf (tw zz) (te zz) (tc zz)) yPair ySeen pVal ySet (fun zz => ob_th (S zz)) yStay aOut aVar yArg (fun zz => nI (FC zz)) (fun zz => nI (FA zz)) (fun zz => nI (FP zz)) (fun zz => nI (FH zz)) yHan (fun zz => nI (FT zz)) (fun zz => nI (TA zz)) (fun zz => nI (TH zz)) fSelf yKept stk)) ∧ (¬ (nI a.val &&& 1) = 0 → (wpY_isHalf (fun r_136 => (((r_136 = 0 → (post (-1) (nI n, nI m, yGiven, nI 0, deep, nI b, thr, thn, res, cStr, (fun zz => nI (CL zz)), cOp, cA, cB, (fun zz => nI (OK zz)), oKin, yCo, yAr, oOpen, (fun zz => nI (M zz)), (fun zz => ob_yf (tw zz) (te zz) (tc zz)), yPair, ySeen, pVal, ySet, (fun zz => ob_th (S zz)), yStay, aOut, aVar, yArg, (fun zz => nI (FC zz)), (fun zz => nI (FA zz)), (fun zz => nI (FP zz)), (fun zz => nI (FH zz)), yHan, (fun zz => nI (FT zz)), (fun zz => nI (TA zz)), (fun zz => nI (TH zz)), fSelf, yKept, stk))) ∧ (¬ r_136 = 0 → (wY_accessor_35 post (nI o) (nI j) v3 v4 (nI a.val) (nI n) (nI m) yGiven (nI 0) deep (nI b) thr thn res cStr (fun zz => nI (CL zz)) cOp cA cB (fun zz => nI (OK zz)) oKin yCo yAr oOpen (fun zz => nI (M zz)) (fun zz => ob_yf (tw zz) (te zz) (tc zz)) yPair ySeen pVal ySet (fun zz => ob_th (S zz)) yStay aOut aVar yArg (fun zz => nI (FC zz)) (fun zz => nI (FA zz)) (fun zz => nI (FP zz)) (fun zz => nI (FH zz)) yHan (fun zz => nI (FT zz)) (fun zz => nI (TA zz)) (fun zz => nI (TH zz)) fSelf yKept stk))))) (nI n, nI m, yGiven, nI 0, deep, nI b, thr, thn, res, cStr, (fun zz => nI (CL zz)), cOp, cA, cB, (fun zz => nI (OK zz)), oKin, yCo, yAr, oOpen, (fun zz => nI (M zz)), (fun zz => ob_yf (tw zz) (te zz) (tc zz)), yPair, ySeen, pVal, ySet, (fun zz => ob_th (S zz)), yStay, aOut, aVar, yArg, (fun zz => nI (FC zz)), (fun zz => nI (FA zz)), (fun zz => nI (FP zz)), (fun zz => nI (FH zz)), yHan, (fun zz => nI (FT zz)), (fun zz => nI (TA zz)), (fun zz => nI (TH zz)), fSelf, yKept, stk) v3)))) → wpY_accessor post (nI n, nI m, yGiven, nI 0, deep, nI b, thr, thn, res, cStr, (fun zz => nI (CL zz)), cOp, cA, cB, (fun zz => nI (OK zz)), oKin, yCo, yAr, oOpen, (fun zz => nI (M zz)), (fun zz => ob_yf (tw zz) (te zz) (tc zz)), yPair, ySeen, pVal, ySet, (fun zz => ob_th (S zz)), yStay, aOut, aVar, yArg, (fun zz => nI (FC zz)), (fun zz => nI (FA zz)), (fun zz => nI (FP zz)), (fun zz => nI (FH zz)), yHan, (fun zz => nI (FT zz)), (fun zz => nI (TA zz)), (fun zz => nI (TH zz)), fSelf, yKept, stk) (nI o) (nI j) v3 v4 (nI a.val) := by
        intro post h
        unfold wpY_accessor
        exact hY _ (br_f (by decide) (ob_inT (b := 0) (c := 63) (by omega) hf (by decide) _ (br_f (by decide) h)))
      /- both halves are fit: DEFINE -/
      have hmain : (a.val.testBit 0 = true → ob_V n (ob_gv v3)) → (a.val.testBit 3 = true → ob_V n (ob_gv v4)) → ∃ u' r, (∀ post : Int32 → SX → Prop, post r u' → wX_accessor_81 post (nI o) (nI j) v3 v4 (nI a.val) (ob_01 (a.val.testBit 0)) (ob_01 (a.val.testBit 3)) (nI n) (nI 0) (nI b) deep res thr thn (fun zz => nI (CL zz)) cStr cOp cA cB (fun zz => nI (OK zz)) oKin oOpen xFc xFs xPc xKo xPk (fun zz => ob_xa (tw zz) (te zz) (tc zz)) pVal xSet (fun zz => nI (S zz)) aOut aVar (fun zz => nI (FC zz)) (fun zz => nI (FP zz)) (fun zz => nI (FA zz)) (fun zz => nI (FH zz)) (fun zz => nI (XH zz)) (fun zz => nI (FT zz)) fSelf xHeld stk (fun zz => nI (TA zz)) (fun zz => nI (TH zz)) xArg) ∧ wY_accessor_54 (fun r' v' => r' = r ∧ i_Rel (k + 6) u' v') (nI o) (nI j) v3 v4 (nI a.val) (nI n) (nI m) yGiven (nI 0) deep (nI b) thr thn res cStr (fun zz => nI (CL zz)) cOp cA cB (fun zz => nI (OK zz)) oKin yCo yAr oOpen (fun zz => nI (M zz)) (fun zz => ob_yf (tw zz) (te zz) (tc zz)) yPair ySeen pVal ySet (fun zz => ob_th (S zz)) yStay aOut aVar yArg (fun zz => nI (FC zz)) (fun zz => nI (FA zz)) (fun zz => nI (FP zz)) (fun zz => nI (FH zz)) yHan (fun zz => nI (FT zz)) (fun zz => nI (TA zz)) (fun zz => nI (TH zz)) fSelf yKept stk := by
        intro hv hw
        obtain ⟨r, m', M', xPc', xKo', pVal', xPk', tw', te', tc', xSet', yPair', ySet', R2, hm2, hr, hX2, hY2⟩ := ob_settle (deep := deep) (cStr := cStr) (oOpen := oOpen) (te := te) (xArg := xArg) (ySeen := ySeen) (yArg := yArg) (yGiven := yGiven) (o := o) (k := j) (sV := false) (sG := a.val.testBit 0) (sS := a.val.testBit 3) (sW := false) (sE := a.val.testBit 4) (sC := a.val.testBit 5) (oW := false) (oE := a.val.testBit 1) (oC := a.val.testBit 2) (pW := false) (pE := a.val.testBit 1) (pC := a.val.testBit 2) (v := ob_gv v3) (w := ob_gv v4) (wy := ob_gv v4) ⟨fun _ => rfl, fun _ => rfl, fun _ => rfl⟩ R ho hj (by omega) (by simp) (fun h => hv (by simpa using h)) (fun h => ⟨hw h, rfl⟩)
        have K : i_Rel (k + 6) _ _ := ob_E_mk (deep := deep) (cStr := cStr) (oOpen := oOpen) (te := te') (xArg := xArg) (ySeen := ySeen) (yArg := yArg) (yGiven := yGiven) R2 (by omega : m' ≤ 300 * (k + 6))
        refine ⟨(nI n, nI 0, nI b, deep, res, thr, thn, (fun zz => nI (CL zz)), cStr, cOp, cA, cB, (fun zz => nI (OK zz)), oKin, oOpen, xFc, xFs, xPc', xKo', xPk', (fun zz => ob_xa (tw' zz) (te' zz) (tc' zz)), pVal', xSet', (fun zz => nI (S zz)), aOut, aVar, (fun zz => nI (FC zz)), (fun zz => nI (FP zz)), (fun zz => nI (FA zz)), (fun zz => nI (FH zz)), (fun zz => nI (XH zz)), (fun zz => nI (FT zz)), fSelf, xHeld, stk, (fun zz => nI (TA zz)), (fun zz => nI (TH zz)), xArg), r, fun post hp => ?_, ?_⟩
        · rw [← ob_aX a] at hX2
          have h119 : ∀ z0 z1 : Int32, (z1 ||| z0) = (((nI a.val &&& 54) ||| (if a.val.testBit 0 then 128 else 0)) ||| (if a.val.testBit 3 then 256 else 0)) → wX_accessor_119 post (nI o) (nI j) v3 v4 z0 z1 (nI n) (nI 0) (nI b) deep res thr thn (fun zz => nI (CL zz)) cStr cOp cA cB (fun zz => nI (OK zz)) oKin oOpen xFc xFs xPc xKo xPk (fun zz => ob_xa (tw zz) (te zz) (tc zz)) pVal xSet (fun zz => nI (S zz)) aOut aVar (fun zz => nI (FC zz)) (fun zz => nI (FP zz)) (fun zz => nI (FA zz)) (fun zz => nI (FH zz)) (fun zz => nI (XH zz)) (fun zz => nI (FT zz)) fSelf xHeld stk (fun zz => nI (TA zz)) (fun zz => nI (TH zz)) xArg := by
            intro z0 z1 e
            unfold wX_accessor_119
            rw [e]
            have h138 : wX_accessor_138 post (nI o) (nI j) v4 (((nI a.val &&& 54) ||| (if a.val.testBit 0 then 128 else 0)) ||| (if a.val.testBit 3 then 256 else 0)) (ob_gv v3) (nI n) (nI 0) (nI b) deep res thr thn (fun zz => nI (CL zz)) cStr cOp cA cB (fun zz => nI (OK zz)) oKin oOpen xFc xFs xPc xKo xPk (fun zz => ob_xa (tw zz) (te zz) (tc zz)) pVal xSet (fun zz => nI (S zz)) aOut aVar (fun zz => nI (FC zz)) (fun zz => nI (FP zz)) (fun zz => nI (FA zz)) (fun zz => nI (FH zz)) (fun zz => nI (XH zz)) (fun zz => nI (FT zz)) fSelf xHeld stk (fun zz => nI (TA zz)) (fun zz => nI (TH zz)) xArg := by
              have h158 : wX_accessor_158 post (nI o) (nI j) (((nI a.val &&& 54) ||| (if a.val.testBit 0 then 128 else 0)) ||| (if a.val.testBit 3 then 256 else 0)) (ob_gv v3) (ob_gv v4) (nI n) (nI 0) (nI b) deep res thr thn (fun zz => nI (CL zz)) cStr cOp cA cB (fun zz => nI (OK zz)) oKin oOpen xFc xFs xPc xKo xPk (fun zz => ob_xa (tw zz) (te zz) (tc zz)) pVal xSet (fun zz => nI (S zz)) aOut aVar (fun zz => nI (FC zz)) (fun zz => nI (FP zz)) (fun zz => nI (FA zz)) (fun zz => nI (FH zz)) (fun zz => nI (XH zz)) (fun zz => nI (FT zz)) fSelf xHeld stk (fun zz => nI (TA zz)) (fun zz => nI (TH zz)) xArg := by
                unfold wX_accessor_158
                exact hX2 _ hp
              unfold wX_accessor_138
              unfold ob_gv at h158 ⊢
              by_cases h4 : 0 ≤ v4
              · rw [if_pos h4] at h158
                exact br_t h4 h158
              · rw [if_neg h4] at h158
                exact br_f h4 h158
            refine nm_e ?_
            unfold ob_gv at h138
            by_cases h3 : 0 ≤ v3
            · rw [if_pos h3] at h138
              exact br_t h3 h138
            · rw [if_neg h3] at h138
              exact br_f h3 h138
          have h102 : ∀ z0 : Int32, z0 = (if a.val.testBit 0 then 128 else 0) → wX_accessor_102 post (nI o) (nI j) v3 v4 (ob_01 (a.val.testBit 3)) z0 (nI a.val &&& 54) (nI n) (nI 0) (nI b) deep res thr thn (fun zz => nI (CL zz)) cStr cOp cA cB (fun zz => nI (OK zz)) oKin oOpen xFc xFs xPc xKo xPk (fun zz => ob_xa (tw zz) (te zz) (tc zz)) pVal xSet (fun zz => nI (S zz)) aOut aVar (fun zz => nI (FC zz)) (fun zz => nI (FP zz)) (fun zz => nI (FA zz)) (fun zz => nI (FH zz)) (fun zz => nI (XH zz)) (fun zz => nI (FT zz)) fSelf xHeld stk (fun zz => nI (TA zz)) (fun zz => nI (TH zz)) xArg := by
            intro z0 e
            unfold wX_accessor_102
            refine nm_e ?_
            rw [e]
            cases hb : a.val.testBit 3
            · exact br_t rfl (h119 _ _ (by rw [hb]; rfl))
            · exact br_f (by decide) (h119 _ _ (by rw [hb]; rfl))
          unfold wX_accessor_81
          refine nm_e ?_
          cases hb : a.val.testBit 0
          · exact br_t rfl (h102 0 (by rw [hb]; rfl))
          · exact br_f (by decide) (h102 128 (by rw [hb]; rfl))
        · have h150 : wY_accessor_150 (fun r' v' => r' = r ∧ i_Rel (k + 6) (nI n, nI 0, nI b, deep, res, thr, thn, (fun zz => nI (CL zz)), cStr, cOp, cA, cB, (fun zz => nI (OK zz)), oKin, oOpen, xFc, xFs, xPc', xKo', xPk', (fun zz => ob_xa (tw' zz) (te' zz) (tc' zz)), pVal', xSet', (fun zz => nI (S zz)), aOut, aVar, (fun zz => nI (FC zz)), (fun zz => nI (FP zz)), (fun zz => nI (FA zz)), (fun zz => nI (FH zz)), (fun zz => nI (XH zz)), (fun zz => nI (FT zz)), fSelf, xHeld, stk, (fun zz => nI (TA zz)), (fun zz => nI (TH zz)), xArg) v') (ob_gv v4) (ob_gv v3) (ob_yf false (a.val.testBit 1) (a.val.testBit 2)) (ob_ys false (a.val.testBit 0) (a.val.testBit 3) false (a.val.testBit 4) (a.val.testBit 5)) (nI j) (nI o) (nI n) (nI m) yGiven (nI 0) deep (nI b) thr thn res cStr (fun zz => nI (CL zz)) cOp cA cB (fun zz => nI (OK zz)) oKin yCo yAr oOpen (fun zz => nI (M zz)) (fun zz => ob_yf (tw zz) (te zz) (tc zz)) yPair ySeen pVal ySet (fun zz => ob_th (S zz)) yStay aOut aVar yArg (fun zz => nI (FC zz)) (fun zz => nI (FA zz)) (fun zz => nI (FP zz)) (fun zz => nI (FH zz)) yHan (fun zz => nI (FT zz)) (fun zz => nI (TA zz)) (fun zz => nI (TH zz)) fSelf yKept stk := by
            unfold wY_accessor_150
            exact hY2 _ ⟨rfl, K⟩
          have h132 : wY_accessor_132 (fun r' v' => r' = r ∧ i_Rel (k + 6) (nI n, nI 0, nI b, deep, res, thr, thn, (fun zz => nI (CL zz)), cStr, cOp, cA, cB, (fun zz => nI (OK zz)), oKin, oOpen, xFc, xFs, xPc', xKo', xPk', (fun zz => ob_xa (tw' zz) (te' zz) (tc' zz)), pVal', xSet', (fun zz => nI (S zz)), aOut, aVar, (fun zz => nI (FC zz)), (fun zz => nI (FP zz)), (fun zz => nI (FA zz)), (fun zz => nI (FH zz)), (fun zz => nI (XH zz)), (fun zz => nI (FT zz)), fSelf, xHeld, stk, (fun zz => nI (TA zz)), (fun zz => nI (TH zz)), xArg) v') v4 (ob_gv v3) (ob_yf false (a.val.testBit 1) (a.val.testBit 2)) (ob_ys false (a.val.testBit 0) (a.val.testBit 3) false (a.val.testBit 4) (a.val.testBit 5)) (nI j) (nI o) (nI n) (nI m) yGiven (nI 0) deep (nI b) thr thn res cStr (fun zz => nI (CL zz)) cOp cA cB (fun zz => nI (OK zz)) oKin yCo yAr oOpen (fun zz => nI (M zz)) (fun zz => ob_yf (tw zz) (te zz) (tc zz)) yPair ySeen pVal ySet (fun zz => ob_th (S zz)) yStay aOut aVar yArg (fun zz => nI (FC zz)) (fun zz => nI (FA zz)) (fun zz => nI (FP zz)) (fun zz => nI (FH zz)) yHan (fun zz => nI (FT zz)) (fun zz => nI (TA zz)) (fun zz => nI (TH zz)) fSelf yKept stk := by
            unfold wY_accessor_132
            by_cases h4 : 0 ≤ v4
            · rw [show ob_gv v4 = 17179869184 + v4.toInt64 from if_pos h4] at h150
              exact br_t h4 h150
            · rw [show ob_gv v4 = 8589934592 from if_neg h4] at h150
              exact br_f h4 h150
          unfold wY_accessor_54
          rw [ob_aS a, ob_aO a]
          refine nm_e ?_
          by_cases h3 : 0 ≤ v3
          · rw [show ob_gv v3 = 17179869184 + v3.toInt64 from if_pos h3] at h132
            exact br_t h3 h132
          · rw [show ob_gv v3 = 8589934592 from if_neg h3] at h132
            exact br_f h3 h132
      /- the setter -/
      have hset : (a.val.testBit 0 = true → ob_V n (ob_gv v3)) → (∀ post : Int32 → SY → Prop, wY_accessor_35 post (nI o) (nI j) v3 v4 (nI a.val) (nI n) (nI m) yGiven (nI 0) deep (nI b) thr thn res cStr (fun zz => nI (CL zz)) cOp cA cB (fun zz => nI (OK zz)) oKin yCo yAr oOpen (fun zz => nI (M zz)) (fun zz => ob_yf (tw zz) (te zz) (tc zz)) yPair ySeen pVal ySet (fun zz => ob_th (S zz)) yStay aOut aVar yArg (fun zz => nI (FC zz)) (fun zz => nI (FA zz)) (fun zz => nI (FP zz)) (fun zz => nI (FH zz)) yHan (fun zz => nI (FT zz)) (fun zz => nI (TA zz)) (fun zz => nI (TH zz)) fSelf yKept stk → wpY_accessor post (nI n, nI m, yGiven, nI 0, deep, nI b, thr, thn, res, cStr, (fun zz => nI (CL zz)), cOp, cA, cB, (fun zz => nI (OK zz)), oKin, yCo, yAr, oOpen, (fun zz => nI (M zz)), (fun zz => ob_yf (tw zz) (te zz) (tc zz)), yPair, ySeen, pVal, ySet, (fun zz => ob_th (S zz)), yStay, aOut, aVar, yArg, (fun zz => nI (FC zz)), (fun zz => nI (FA zz)), (fun zz => nI (FP zz)), (fun zz => nI (FH zz)), yHan, (fun zz => nI (FT zz)), (fun zz => nI (TA zz)), (fun zz => nI (TH zz)), fSelf, yKept, stk) (nI o) (nI j) v3 v4 (nI a.val)) → wX_accessor_65 (fun r u' => wpY_accessor (fun r' v' => r' = r ∧ i_Rel (k + 6) u' v') (nI n, nI m, yGiven, nI 0, deep, nI b, thr, thn, res, cStr, (fun zz => nI (CL zz)), cOp, cA, cB, (fun zz => nI (OK zz)), oKin, yCo, yAr, oOpen, (fun zz => nI (M zz)), (fun zz => ob_yf (tw zz) (te zz) (tc zz)), yPair, ySeen, pVal, ySet, (fun zz => ob_th (S zz)), yStay, aOut, aVar, yArg, (fun zz => nI (FC zz)), (fun zz => nI (FA zz)), (fun zz => nI (FP zz)), (fun zz => nI (FH zz)), yHan, (fun zz => nI (FT zz)), (fun zz => nI (TA zz)), (fun zz => nI (TH zz)), fSelf, yKept, stk) (nI o) (nI j) v3 v4 (nI a.val)) (nI o) (nI j) v3 v4 (nI a.val) (ob_01 (a.val.testBit 0)) (ob_01 (a.val.testBit 3)) (nI n) (nI 0) (nI b) deep res thr thn (fun zz => nI (CL zz)) cStr cOp cA cB (fun zz => nI (OK zz)) oKin oOpen xFc xFs xPc xKo xPk (fun zz => ob_xa (tw zz) (te zz) (tc zz)) pVal xSet (fun zz => nI (S zz)) aOut aVar (fun zz => nI (FC zz)) (fun zz => nI (FP zz)) (fun zz => nI (FA zz)) (fun zz => nI (FH zz)) (fun zz => nI (XH zz)) (fun zz => nI (FT zz)) fSelf xHeld stk (fun zz => nI (TA zz)) (fun zz => nI (TH zz)) xArg := by
        intro hv hY35
        unfold wX_accessor_65
        cases hb : a.val.testBit 3
        · obtain ⟨u', r, h1, h2⟩ := hmain hv (fun z => absurd (hb.symm.trans z) (by decide))
          rw [hb] at h1
          refine br_t rfl (h1 _ (hY35 _ ?_))
          unfold wY_accessor_35
          exact br_t ((ob_a1 a).2.mpr hb) h2
        · have hn8 : ¬ (nI a.val &&& 8) = 0 := fun z => absurd (hb.symm.trans ((ob_a1 a).2.mp z)) (by decide)
          refine br_f (by decide) ?_
          rcases ob_half (n := n) (d := 0) (b := b) (m := m) (deep := deep) (res := res) (thr := thr) (thn := thn) (CL := CL) (cStr := cStr) (cOp := cOp) (cA := cA) (cB := cB) (OK := OK) (oKin := oKin) (oOpen := oOpen) (pVal := pVal) (aOut := aOut) (aVar := aVar) (FC := FC) (FA := FA) (FP := FP) (FH := FH) (FT := FT) (fSelf := fSelf) (stk := stk) (TA := TA) (TH := TH) (xFc := xFc) (xFs := xFs) (xPc := xPc) (xKo := xKo) (xPk := xPk) (tw := tw) (te := te) (tc := tc) (xSet := xSet) (S := S) (XH := XH) (xHeld := xHeld) (xArg := xArg) (yCo := yCo) (yAr := yAr) (M := M) (yPair := yPair) (ySeen := ySeen) (ySet := ySet) (yStay := yStay) (yArg := yArg) (yHan := yHan) (yKept := yKept) (yGiven := yGiven) R.2.1 v4 with ⟨hw, hXh, hYh⟩ | ⟨hXh, hYh⟩
          · obtain ⟨u', r, h1, h2⟩ := hmain hv (fun _ => hw)
            rw [hb] at h1
            refine hXh _ (br_f (by decide) (h1 _ (hY35 _ ?_)))
            unfold wY_accessor_35
            exact br_f hn8 (hYh _ (br_f (by decide) h2))
          · refine hXh _ (br_t rfl (hY35 _ ?_))
            unfold wY_accessor_35
            exact br_f hn8 (hYh _ (br_t rfl ⟨rfl, J⟩))
      have h35 : wX_accessor_35 (fun r u' => wpY_accessor (fun r' v' => r' = r ∧ i_Rel (k + 6) u' v') (nI n, nI m, yGiven, nI 0, deep, nI b, thr, thn, res, cStr, (fun zz => nI (CL zz)), cOp, cA, cB, (fun zz => nI (OK zz)), oKin, yCo, yAr, oOpen, (fun zz => nI (M zz)), (fun zz => ob_yf (tw zz) (te zz) (tc zz)), yPair, ySeen, pVal, ySet, (fun zz => ob_th (S zz)), yStay, aOut, aVar, yArg, (fun zz => nI (FC zz)), (fun zz => nI (FA zz)), (fun zz => nI (FP zz)), (fun zz => nI (FH zz)), yHan, (fun zz => nI (FT zz)), (fun zz => nI (TA zz)), (fun zz => nI (TH zz)), fSelf, yKept, stk) (nI o) (nI j) v3 v4 (nI a.val)) (nI o) (nI j) v3 v4 (nI a.val) (ob_01 (a.val.testBit 0)) (nI n) (nI 0) (nI b) deep res thr thn (fun zz => nI (CL zz)) cStr cOp cA cB (fun zz => nI (OK zz)) oKin oOpen xFc xFs xPc xKo xPk (fun zz => ob_xa (tw zz) (te zz) (tc zz)) pVal xSet (fun zz => nI (S zz)) aOut aVar (fun zz => nI (FC zz)) (fun zz => nI (FP zz)) (fun zz => nI (FA zz)) (fun zz => nI (FH zz)) (fun zz => nI (XH zz)) (fun zz => nI (FT zz)) fSelf xHeld stk (fun zz => nI (TA zz)) (fun zz => nI (TH zz)) xArg := by
        have h50 : wX_accessor_50 (fun r u' => wpY_accessor (fun r' v' => r' = r ∧ i_Rel (k + 6) u' v') (nI n, nI m, yGiven, nI 0, deep, nI b, thr, thn, res, cStr, (fun zz => nI (CL zz)), cOp, cA, cB, (fun zz => nI (OK zz)), oKin, yCo, yAr, oOpen, (fun zz => nI (M zz)), (fun zz => ob_yf (tw zz) (te zz) (tc zz)), yPair, ySeen, pVal, ySet, (fun zz => ob_th (S zz)), yStay, aOut, aVar, yArg, (fun zz => nI (FC zz)), (fun zz => nI (FA zz)), (fun zz => nI (FP zz)), (fun zz => nI (FH zz)), yHan, (fun zz => nI (FT zz)), (fun zz => nI (TA zz)), (fun zz => nI (TH zz)), fSelf, yKept, stk) (nI o) (nI j) v3 v4 (nI a.val)) (nI o) (nI j) v3 v4 (nI a.val) (ob_01 (a.val.testBit 0)) (ob_01 (a.val.testBit 3)) (nI n) (nI 0) (nI b) deep res thr thn (fun zz => nI (CL zz)) cStr cOp cA cB (fun zz => nI (OK zz)) oKin oOpen xFc xFs xPc xKo xPk (fun zz => ob_xa (tw zz) (te zz) (tc zz)) pVal xSet (fun zz => nI (S zz)) aOut aVar (fun zz => nI (FC zz)) (fun zz => nI (FP zz)) (fun zz => nI (FA zz)) (fun zz => nI (FH zz)) (fun zz => nI (XH zz)) (fun zz => nI (FT zz)) fSelf xHeld stk (fun zz => nI (TA zz)) (fun zz => nI (TH zz)) xArg := by
          unfold wX_accessor_50
          cases hb : a.val.testBit 0
          · rw [hb] at hset
            exact br_t rfl (hset (fun z => absurd z (by decide)) (fun post h => hY0 post (br_t ((ob_a1 a).1.mpr hb) h)))
          · have hn1 : ¬ (nI a.val &&& 1) = 0 := fun z => absurd (hb.symm.trans ((ob_a1 a).1.mp z)) (by decide)
            rw [hb] at hset
            refine br_f (by decide) ?_
            rcases ob_half (n := n) (d := 0) (b := b) (m := m) (deep := deep) (res := res) (thr := thr) (thn := thn) (CL := CL) (cStr := cStr) (cOp := cOp) (cA := cA) (cB := cB) (OK := OK) (oKin := oKin) (oOpen := oOpen) (pVal := pVal) (aOut := aOut) (aVar := aVar) (FC := FC) (FA := FA) (FP := FP) (FH := FH) (FT := FT) (fSelf := fSelf) (stk := stk) (TA := TA) (TH := TH) (xFc := xFc) (xFs := xFs) (xPc := xPc) (xKo := xKo) (xPk := xPk) (tw := tw) (te := te) (tc := tc) (xSet := xSet) (S := S) (XH := XH) (xHeld := xHeld) (xArg := xArg) (yCo := yCo) (yAr := yAr) (M := M) (yPair := yPair) (ySeen := ySeen) (ySet := ySet) (yStay := yStay) (yArg := yArg) (yHan := yHan) (yKept := yKept) (yGiven := yGiven) R.2.1 v3 with ⟨hw, hXh, hYh⟩ | ⟨hXh, hYh⟩
            · exact hXh _ (br_f (by decide) (hset (fun _ => hw) (fun post h => hY0 post (br_f hn1 (hYh _ (br_f (by decide) h))))))
            · exact hXh _ (br_t rfl (hY0 _ (br_f hn1 (hYh _ (br_t rfl ⟨rfl, J⟩)))))
        unfold wX_accessor_35
        cases hb : a.val.testBit 3
        · rw [hb] at h50
          exact br_t ((ob_a1 a).2.mpr hb) h50
        · rw [hb] at h50
          exact br_f (fun z => absurd (hb.symm.trans ((ob_a1 a).2.mp z)) (by decide)) h50
      cases hb : a.val.testBit 0
      · rw [hb] at h35
        exact br_t ((ob_a1 a).1.mpr hb) h35
      · rw [hb] at h35
        exact br_f (fun z => absurd (hb.symm.trans ((ob_a1 a).1.mp z)) (by decide)) h35
    · refine hX _ (br_f (by decide) ?_)
      have hYn : ∀ post : Int32 → SY → Prop, post (-1) (nI n, nI m, yGiven, nI 0, deep, nI b, thr, thn, res, cStr, (fun zz => nI (CL zz)), cOp, cA, cB, (fun zz => nI (OK zz)), oKin, yCo, yAr, oOpen, (fun zz => nI (M zz)), (fun zz => ob_yf (tw zz) (te zz) (tc zz)), yPair, ySeen, pVal, ySet, (fun zz => ob_th (S zz)), yStay, aOut, aVar, yArg, (fun zz => nI (FC zz)), (fun zz => nI (FA zz)), (fun zz => nI (FP zz)), (fun zz => nI (FH zz)), yHan, (fun zz => nI (FT zz)), (fun zz => nI (TA zz)), (fun zz => nI (TH zz)), fSelf, yKept, stk) → wpY_accessor post (nI n, nI m, yGiven, nI 0, deep, nI b, thr, thn, res, cStr, (fun zz => nI (CL zz)), cOp, cA, cB, (fun zz => nI (OK zz)), oKin, yCo, yAr, oOpen, (fun zz => nI (M zz)), (fun zz => ob_yf (tw zz) (te zz) (tc zz)), yPair, ySeen, pVal, ySet, (fun zz => ob_th (S zz)), yStay, aOut, aVar, yArg, (fun zz => nI (FC zz)), (fun zz => nI (FA zz)), (fun zz => nI (FP zz)), (fun zz => nI (FH zz)), yHan, (fun zz => nI (FT zz)), (fun zz => nI (TA zz)), (fun zz => nI (TH zz)), fSelf, yKept, stk) (nI o) (nI j) v3 v4 v5 := by
        intro post hp
        unfold wpY_accessor
        exact hY _ (br_f (by decide) (ob_inF h _ (br_t rfl hp)))
      by_cases h0 : v5 < 0
      · exact br_t h0 (hYn _ ⟨rfl, J⟩)
      · exact br_f h0 (br_f (Int32.not_le.mpr (h.resolve_left h0)) (hYn _ ⟨rfl, J⟩))
  · refine hX _ (br_t rfl ?_)
    unfold wpY_accessor
    exact hY _ (br_t rfl ⟨rfl, J⟩)
end
section
/-! ===== of, own ===== -/
theorem ob_cP_s (p : Nat → Bool) (j : Nat) : (List.range (j + 1)).countP p = (List.range j).countP p + (if p j then 1 else 0) := by
  rw [List.range_succ, List.countP_append, List.countP_singleton]
theorem ob_cP_le (p : Nat → Bool) (j : Nat) : (List.range j).countP p ≤ j := by
  have := List.countP_le_length (p := p) (l := List.range j)
  rwa [List.length_range] at this
theorem ob_fl1 : ∀ w e c : Bool, ((((ob_yf w e c / 2) - (ob_yf w e c / 2) / 2 * 2) + (((ob_yf w e c / 16) - (ob_yf w e c / 16) / 2 * 2) * 2)) + (((ob_yf w e c / 32) - (ob_yf w e c / 32) / 2 * 2) * 4)) = ob_xa w e c := by decide +kernel
section
variable {n : Nat} {d : Nat} {b : Nat} {m : Nat} {deep : Int32} {res : Int64} {thr : Int32} {thn : Int64} {CL : Nat → Nat} {cStr : Nat → Int32} {cOp : Nat → Int32} {cA : Nat → Int32} {cB : Nat → Int32} {OK : Nat → Nat} {oKin : Nat → Int32} {oOpen : Nat → Int32} {pVal : Nat → Int64} {aOut : Nat → Int32} {aVar : Nat → Int64} {FC : Nat → Nat} {FA : Nat → Nat} {FP : Nat → Nat} {FH : Nat → Nat} {FT : Nat → Nat} {fSelf : Nat → Int64} {stk : Nat → Int64} {TA : Nat → Nat} {TH : Nat → Nat} {xFc : Nat → Int32} {xFs : Nat → Int32} {xPc : Nat → Int32} {xKo : Nat → Int32} {xPk : Nat → Int32} {tw : Nat → Bool} {te : Nat → Bool} {tc : Nat → Bool} {xSet : Nat → Int64} {S : Nat → Nat} {XH : Nat → Nat} {xHeld : Nat → Int64} {xArg : Nat → Int64} {yCo : Nat → Int32} {yAr : Nat → Int32} {M : Nat → Nat} {yPair : Nat → Int32} {ySeen : Nat → Int32} {ySet : Nat → Int64} {yStay : Nat → Int32} {yArg : Nat → Int64} {yHan : Nat → Int32} {yKept : Nat → Int64} {yGiven : Int32}
variable {o k : Nat} {x2 x3 : Int32}
/-- the reference counts the properties of o -/
theorem ob_ofY (ho : o < 32) (hm : ∀ j, M j ≤ m) (hm2 : m < 2 ^ 31) (post : Int32 → Prop) (hp : wY_of_33 post (nI o) x2 (nI n) (nI m) yGiven (nI d) deep (nI b) thr thn res cStr (fun zz => nI (CL zz)) cOp cA cB (fun zz => nI (OK zz)) oKin yCo yAr oOpen (fun zz => nI (M zz)) (fun zz => ob_yf (tw zz) (te zz) (tc zz)) yPair ySeen pVal ySet (fun zz => ob_th (S zz)) yStay aOut aVar yArg (fun zz => nI (FC zz)) (fun zz => nI (FA zz)) (fun zz => nI (FP zz)) (fun zz => nI (FH zz)) yHan (fun zz => nI (FT zz)) (fun zz => nI (TA zz)) (fun zz => nI (TH zz)) fSelf yKept stk 1 (nI ((List.range 32).countP (fun k => decide (M (32 * o + k) ≠ 0)))) (nI (32 * o + 32))) :
    ∀ t j, t + j = 32 → wY_of_33 post (nI o) x2 (nI n) (nI m) yGiven (nI d) deep (nI b) thr thn res cStr (fun zz => nI (CL zz)) cOp cA cB (fun zz => nI (OK zz)) oKin yCo yAr oOpen (fun zz => nI (M zz)) (fun zz => ob_yf (tw zz) (te zz) (tc zz)) yPair ySeen pVal ySet (fun zz => ob_th (S zz)) yStay aOut aVar yArg (fun zz => nI (FC zz)) (fun zz => nI (FA zz)) (fun zz => nI (FP zz)) (fun zz => nI (FH zz)) yHan (fun zz => nI (FT zz)) (fun zz => nI (TA zz)) (fun zz => nI (TH zz)) fSelf yKept stk (t + 1) (nI ((List.range j).countP (fun k => decide (M (32 * o + k) ≠ 0)))) (nI (32 * o + j))
  | 0, j, e => by
    have e' : j = 32 := by omega
    subst e'
    exact hp
  | t + 1, j, e => by
    have ih := ob_ofY ho hm hm2 post hp t (j + 1) (by omega)
    have e2 : 32 * nI o + 32 = nI (32 * o + 32) := ob_iy o 32
    have hle := ob_cP_le (fun k => decide (M (32 * o + k) ≠ 0)) j
    have hMm := hm (32 * o + j)
    have hn : ¬ 32 * o + 32 ≤ 32 * o + j := by omega
    rw [ob_cP_s] at ih
    unfold wY_of_33
    rw [e2]
    by_cases z : M (32 * o + j) = 0
    · have hz : M (32 * o + j) ≤ 0 := by omega
      rw [show (if decide (M (32 * o + j) ≠ 0) = true then 1 else 0) = 0 from by simp [z]] at ih
      simp (disch := first | omega | decide) only [hn, hz, forall_eq, not_true, not_false_iff, false_implies, true_implies, true_and, and_true, ob_sub1, Nat.add_sub_cancel, nI_1, ob_ix, ob_iy, ob_ix24, ob_iy24, ob_ix10, ob_iy10, ob_ix4, ob_iy4, ob_ix3, ob_iy3, ob_s1, ob_s2, ob_s3, ob_s4, ob_ltl, ob_lel, ob_eql, ob_ltr, ob_ler, ob_uN, Nat.add_one_ne_zero, ob_xs3, ob_lnn, ob_ltn, ob_eqn, Nat.not_lt_zero, Nat.zero_le, Nat.reduceEqDiff, Nat.reduceLeDiff, Nat.reduceLT, ob_eqll, Int32.reduceLT, Int32.reduceLE, eq_self_iff_true]
      exact ih
    · have hz : ¬ M (32 * o + j) ≤ 0 := by omega
      rw [show (if decide (M (32 * o + j) ≠ 0) = true then 1 else 0) = 1 from by simp [z]] at ih
      simp (disch := first | omega | decide) only [hn, hz, forall_eq, not_true, not_false_iff, false_implies, true_implies, true_and, and_true, ob_sub1, Nat.add_sub_cancel, nI_1, ob_ix, ob_iy, ob_ix24, ob_iy24, ob_ix10, ob_iy10, ob_ix4, ob_iy4, ob_ix3, ob_iy3, ob_s1, ob_s2, ob_s3, ob_s4, ob_ltl, ob_lel, ob_eql, ob_ltr, ob_ler, ob_uN, Nat.add_one_ne_zero, ob_xs3, ob_lnn, ob_ltn, ob_eqn, Nat.not_lt_zero, Nat.zero_le, Nat.reduceEqDiff, Nat.reduceLeDiff, Nat.reduceLT, ob_eqll, Int32.reduceLT, Int32.reduceLE, eq_self_iff_true]
      exact ih
/-- the reference counts the properties of o that came before -/
theorem ob_ownY {i : Nat} (ho : o < 32) (hi : i < 1024) (hm : ∀ j, M j ≤ m) (hm2 : m < 2 ^ 31) (post : Int64 → Prop) (hp : wY_own_61 post (nI o) x3 (nI i) (nI n) (nI m) yGiven (nI d) deep (nI b) thr thn res cStr (fun zz => nI (CL zz)) cOp cA cB (fun zz => nI (OK zz)) oKin yCo yAr oOpen (fun zz => nI (M zz)) (fun zz => ob_yf (tw zz) (te zz) (tc zz)) yPair ySeen pVal ySet (fun zz => ob_th (S zz)) yStay aOut aVar yArg (fun zz => nI (FC zz)) (fun zz => nI (FA zz)) (fun zz => nI (FP zz)) (fun zz => nI (FH zz)) yHan (fun zz => nI (FT zz)) (fun zz => nI (TA zz)) (fun zz => nI (TH zz)) fSelf yKept stk 1 (nI ((List.range 32).countP (fun k => decide (M (32 * o + k) ≠ 0 ∧ M (32 * o + k) < M i)))) (nI (32 * o + 32))) :
    ∀ t j, t + j = 32 → wY_own_61 post (nI o) x3 (nI i) (nI n) (nI m) yGiven (nI d) deep (nI b) thr thn res cStr (fun zz => nI (CL zz)) cOp cA cB (fun zz => nI (OK zz)) oKin yCo yAr oOpen (fun zz => nI (M zz)) (fun zz => ob_yf (tw zz) (te zz) (tc zz)) yPair ySeen pVal ySet (fun zz => ob_th (S zz)) yStay aOut aVar yArg (fun zz => nI (FC zz)) (fun zz => nI (FA zz)) (fun zz => nI (FP zz)) (fun zz => nI (FH zz)) yHan (fun zz => nI (FT zz)) (fun zz => nI (TA zz)) (fun zz => nI (TH zz)) fSelf yKept stk (t + 1) (nI ((List.range j).countP (fun k => decide (M (32 * o + k) ≠ 0 ∧ M (32 * o + k) < M i)))) (nI (32 * o + j))
  | 0, j, e => by
    have e' : j = 32 := by omega
    subst e'
    exact hp
  | t + 1, j, e => by
    have ih := ob_ownY ho hi hm hm2 post hp t (j + 1) (by omega)
    have e2 : 32 * nI o + 32 = nI (32 * o + 32) := ob_iy o 32
    have hle := ob_cP_le (fun k => decide (M (32 * o + k) ≠ 0 ∧ M (32 * o + k) < M i)) j
    have hMm := hm (32 * o + j)
    have hMi := hm i
    have hn : ¬ 32 * o + 32 ≤ 32 * o + j := by omega
    rw [ob_cP_s] at ih
    unfold wY_own_61
    rw [e2]
    by_cases z : M (32 * o + j) = 0
    · have hz : M (32 * o + j) ≤ 0 := by omega
      rw [show (if decide (M (32 * o + j) ≠ 0 ∧ M (32 * o + j) < M i) = true then 1 else 0) = 0 from by simp [z]] at ih
      simp (disch := first | omega | decide) only [hn, hz, forall_eq, not_true, not_false_iff, false_implies, true_implies, true_and, and_true, ob_sub1, Nat.add_sub_cancel, nI_1, ob_ix, ob_iy, ob_ix24, ob_iy24, ob_ix10, ob_iy10, ob_ix4, ob_iy4, ob_ix3, ob_iy3, ob_s1, ob_s2, ob_s3, ob_s4, ob_ltl, ob_lel, ob_eql, ob_ltr, ob_ler, ob_uN, Nat.add_one_ne_zero, ob_xs3, ob_lnn, ob_ltn, ob_eqn, Nat.not_lt_zero, Nat.zero_le, Nat.reduceEqDiff, Nat.reduceLeDiff, Nat.reduceLT, ob_eqll, Int32.reduceLT, Int32.reduceLE, eq_self_iff_true]
      exact ih
    · have hz : ¬ M (32 * o + j) ≤ 0 := by omega
      by_cases y : M i ≤ M (32 * o + j)
      · rw [show (if decide (M (32 * o + j) ≠ 0 ∧ M (32 * o + j) < M i) = true then 1 else 0) = 0 from by rw [if_neg]; simp; omega] at ih
        simp (disch := first | omega | decide) only [hn, hz, y, forall_eq, not_true, not_false_iff, false_implies, true_implies, true_and, and_true, ob_sub1, Nat.add_sub_cancel, nI_1, ob_ix, ob_iy, ob_ix24, ob_iy24, ob_ix10, ob_iy10, ob_ix4, ob_iy4, ob_ix3, ob_iy3, ob_s1, ob_s2, ob_s3, ob_s4, ob_ltl, ob_lel, ob_eql, ob_ltr, ob_ler, ob_uN, Nat.add_one_ne_zero, ob_xs3, ob_lnn, ob_ltn, ob_eqn, Nat.not_lt_zero, Nat.zero_le, Nat.reduceEqDiff, Nat.reduceLeDiff, Nat.reduceLT, ob_eqll, Int32.reduceLT, Int32.reduceLE, eq_self_iff_true]
        exact ih
      · rw [show (if decide (M (32 * o + j) ≠ 0 ∧ M (32 * o + j) < M i) = true then 1 else 0) = 1 from by rw [if_pos]; simp; omega] at ih
        simp (disch := first | omega | decide) only [hn, hz, y, forall_eq, not_true, not_false_iff, false_implies, true_implies, true_and, and_true, ob_sub1, Nat.add_sub_cancel, nI_1, ob_ix, ob_iy, ob_ix24, ob_iy24, ob_ix10, ob_iy10, ob_ix4, ob_iy4, ob_ix3, ob_iy3, ob_s1, ob_s2, ob_s3, ob_s4, ob_ltl, ob_lel, ob_eql, ob_ltr, ob_ler, ob_uN, Nat.add_one_ne_zero, ob_xs3, ob_lnn, ob_ltn, ob_eqn, Nat.not_lt_zero, Nat.zero_le, Nat.reduceEqDiff, Nat.reduceLeDiff, Nat.reduceLT, ob_eqll, Int32.reduceLT, Int32.reduceLE, eq_self_iff_true]
        exact ih
/-- the component looks for the key's place -/
theorem ob_plX {L : List Nat} {p : Nat} (ho : o < 32) (hl : L.length ≤ 32) (hx : ∀ p x, L[p]? = some x → xKo (32 * o + p) = nI x ∧ x < 32) (hk : k < 32) (hnd : L.Nodup) (hp : L[p]? = some k) (post : Int32 → Prop) (hpost : post (nI p)) :
    ∀ t j, t + j = p → wX_placeInOrder_10 post (nI o) (nI k) (nI L.length) (nI n) (nI d) (nI b) deep res thr thn (fun zz => nI (CL zz)) cStr cOp cA cB (fun zz => nI (OK zz)) oKin oOpen xFc xFs xPc xKo xPk (fun zz => ob_xa (tw zz) (te zz) (tc zz)) pVal xSet (fun zz => nI (S zz)) aOut aVar (fun zz => nI (FC zz)) (fun zz => nI (FP zz)) (fun zz => nI (FA zz)) (fun zz => nI (FH zz)) (fun zz => nI (XH zz)) (fun zz => nI (FT zz)) fSelf xHeld stk (fun zz => nI (TA zz)) (fun zz => nI (TH zz)) xArg (t + 1) (nI j)
  | 0, j, e => by
    have e' : j = p := by omega
    subst e'
    obtain ⟨hlt, _⟩ := List.getElem?_eq_some_iff.mp hp
    obtain ⟨h1, h2⟩ := hx j k hp
    have hn : ¬ L.length ≤ j := by omega
    unfold wX_placeInOrder_10
    simp (disch := first | omega | decide) only [hn, h1, forall_eq, not_true, not_false_iff, false_implies, true_implies, true_and, and_true, ob_sub1, Nat.add_sub_cancel, nI_1, ob_ix, ob_iy, ob_ix24, ob_iy24, ob_ix10, ob_iy10, ob_ix4, ob_iy4, ob_ix3, ob_iy3, ob_s1, ob_s2, ob_s3, ob_s4, ob_ltl, ob_lel, ob_eql, ob_ltr, ob_ler, ob_uN, Nat.add_one_ne_zero, ob_xs3, ob_lnn, ob_ltn, ob_eqn, Nat.not_lt_zero, Nat.zero_le, Nat.reduceEqDiff, Nat.reduceLeDiff, Nat.reduceLT, ob_eqll, Int32.reduceLT, Int32.reduceLE, eq_self_iff_true]
    exact hpost
  | t + 1, j, e => by
    have ih := ob_plX ho hl hx hk hnd hp post hpost t (j + 1) (by omega)
    obtain ⟨hlt, hke⟩ := List.getElem?_eq_some_iff.mp hp
    have hjl : j < L.length := by omega
    obtain ⟨h1, h2⟩ := hx j L[j] (List.getElem?_eq_getElem hjl)
    have hn : ¬ L.length ≤ j := by omega
    have hne : ¬ L[j] = k := by
      intro z
      exact (List.pairwise_iff_getElem.mp hnd) j p hjl hlt (by omega) (z.trans hke.symm)
    unfold wX_placeInOrder_10
    simp (disch := first | omega | decide) only [hn, h1, hne, forall_eq, not_true, not_false_iff, false_implies, true_implies, true_and, and_true, ob_sub1, Nat.add_sub_cancel, nI_1, ob_ix, ob_iy, ob_ix24, ob_iy24, ob_ix10, ob_iy10, ob_ix4, ob_iy4, ob_ix3, ob_iy3, ob_s1, ob_s2, ob_s3, ob_s4, ob_ltl, ob_lel, ob_eql, ob_ltr, ob_ler, ob_uN, Nat.add_one_ne_zero, ob_xs3, ob_lnn, ob_ltn, ob_eqn, Nat.not_lt_zero, Nat.zero_le, Nat.reduceEqDiff, Nat.reduceLeDiff, Nat.reduceLT, ob_eqll, Int32.reduceLT, Int32.reduceLE, eq_self_iff_true]
    exact ih
end
theorem i_vc_of {k : Nat} {u : SX} {v : SY} (I : i_Rel k u v) (hk : k + 6 ≤ 3072) (v1 : Int32) (v2 : Int32) : wpX_of (fun r => wpY_of (fun r' => r' = r ∧ i_Rel (k + 6) u v) v v1 v2) u v1 v2 := by
  have J := i_up I
  obtain ⟨n, b, m, deep, res, thr, thn, CL, cStr, cOp, cA, cB, OK, oKin, oOpen, pVal, aOut, aVar, FC, FA, FP, FH, FT, fSelf, stk, TA, TH, xFc, xFs, xPc, xKo, xPk, tw, te, tc, xSet, S, XH, xHeld, xArg, yCo, yAr, M, yPair, ySeen, ySet, yStay, yArg, yHan, yKept, yGiven, rfl, rfl, R, hm⟩ := I
  have h3 := R.2.1.1
  unfold wpX_of
  rcases ob_isO R.2.1 v1 with ⟨o, ho, rfl⟩ | h
  · obtain ⟨L, hl1, hl2, hl3⟩ := R.2.2.2.1 o ho
    have hin : vp_in (nI o) 32 := vp_in_nI (by omega) (by decide)
    have hcl : (nI o).toNatClampNeg = o := ob_cl (by omega)
    have hYin : ∀ P : Int32 → Prop, P 1 → wpY_in P (nI o) 0 (nI n - 1) := by
      intro P hP
      rw [ob_sub1 (by omega)]
      exact ob_inT (b := 0) (by omega) (by omega) (by omega) _ hP
    refine br_f (nI_pos (by omega)) (br_t (nI_lt ho (by omega)) ?_)
    rcases pk_ix v2 (n := 4) (by decide) with h | h | ⟨q, hq, rfl⟩
    · refine br_t h ?_
      unfold wpY_of
      exact hYin _ (br_f (by decide) (ob_inF (Or.inl h) _ (br_t rfl ⟨rfl, J⟩)))
    · have h0 : ¬ v2 < 0 := fun z => absurd (Int32.lt_of_le_of_lt h z) (by decide)
      have h4 : 3 < v2 := Int32.lt_of_lt_of_le (by decide) h
      refine br_f h0 (br_t h4 ?_)
      unfold wpY_of
      exact hYin _ (br_f (by decide) (ob_inF (Or.inr h4) _ (br_t rfl ⟨rfl, J⟩)))
    · have hY : ∀ post : Int32 → Prop, ((nI q = 0 → (vp_in (nI o) 32 ∧ (post (nI (OK o))))) ∧ (¬ nI q = 0 → (((nI q = 1 → (vp_in (nI o) 32 ∧ (post (oKin o)))) ∧ (¬ nI q = 1 → (((nI q = 2 → (vp_in (nI o) 32 ∧ ((((oOpen o) = 0 → (post 0)) ∧ (¬ (oOpen o) = 0 → (post 1)))))) ∧ (¬ nI q = 2 → (post (nI L.length)))))))))) → wpY_of post (nI n, nI m, yGiven, nI 0, deep, nI b, thr, thn, res, cStr, (fun zz => nI (CL zz)), cOp, cA, cB, (fun zz => nI (OK zz)), oKin, yCo, yAr, oOpen, (fun zz => nI (M zz)), (fun zz => ob_yf (tw zz) (te zz) (tc zz)), yPair, ySeen, pVal, ySet, (fun zz => ob_th (S zz)), yStay, aOut, aVar, yArg, (fun zz => nI (FC zz)), (fun zz => nI (FA zz)), (fun zz => nI (FP zz)), (fun zz => nI (FH zz)), yHan, (fun zz => nI (FT zz)), (fun zz => nI (TA zz)), (fun zz => nI (TH zz)), fSelf, yKept, stk) (nI o) (nI q) := by
        intro post hp
        unfold wpY_of
        refine hYin _ (br_f (by decide) (ob_inT (b := 0) (c := 3) (by omega) (by omega) (by decide) _ (br_f (by decide) ?_)))
        refine nm_r (e' := nI (32 * o)) (pk_mul 32 o) ⟨33, ?_⟩
        refine ob_ofY (by omega) R.2.2.1.1 (by omega) post ?_ 32 0 rfl
        rw [ob_ord_cnt hl3]
        unfold wY_of_33
        rw [show 32 * nI o + 32 = nI (32 * o + 32) from ob_iy o 32, hcl]
        exact br_t (Int32.le_refl _) hp
      refine br_f (nI_pos (by omega)) (br_f (nI_nlt (a := 3) (by omega) (by decide)) ?_)
      have hc4 : q = 0 ∨ q = 1 ∨ q = 2 ∨ q = 3 := by omega
      rw [hcl]
      rcases hc4 with rfl | rfl | rfl | rfl
      · exact br_t rfl ⟨hin, hY _ (br_t rfl ⟨hin, rfl, J⟩)⟩
      · exact br_f (by decide) (br_t rfl ⟨hin, hY _ (br_f (by decide) (br_t rfl ⟨hin, rfl, J⟩))⟩)
      · refine br_f (by decide) (br_f (by decide) (br_t rfl ⟨hin, ?_⟩))
        by_cases ho0 : oOpen o = 0
        · exact br_t ho0 (hY _ (br_f (by decide) (br_f (by decide) (br_t rfl ⟨hin, br_t ho0 ⟨rfl, J⟩⟩))))
        · exact br_f ho0 (hY _ (br_f (by decide) (br_f (by decide) (br_t rfl ⟨hin, br_f ho0 ⟨rfl, J⟩⟩))))
      · refine br_f (by decide) (br_f (by decide) (br_f (by decide) (br_t rfl ⟨hin, ?_⟩)))
        rw [hl1]
        exact hY _ (br_f (by decide) (br_f (by decide) (br_f (by decide) ⟨rfl, J⟩)))
  · have hYn : ∀ post : Int32 → Prop, post (-1) → wpY_of post (nI n, nI m, yGiven, nI 0, deep, nI b, thr, thn, res, cStr, (fun zz => nI (CL zz)), cOp, cA, cB, (fun zz => nI (OK zz)), oKin, yCo, yAr, oOpen, (fun zz => nI (M zz)), (fun zz => ob_yf (tw zz) (te zz) (tc zz)), yPair, ySeen, pVal, ySet, (fun zz => ob_th (S zz)), yStay, aOut, aVar, yArg, (fun zz => nI (FC zz)), (fun zz => nI (FA zz)), (fun zz => nI (FP zz)), (fun zz => nI (FH zz)), yHan, (fun zz => nI (FT zz)), (fun zz => nI (TA zz)), (fun zz => nI (TH zz)), fSelf, yKept, stk) v1 v2 := by
      intro post hp
      unfold wpY_of
      exact ob_inF (h.imp id (ob_nle1 (by omega) (by omega))) _ (br_t rfl hp)
    by_cases h0 : v1 < 0
    · exact br_t h0 (hYn _ ⟨rfl, J⟩)
    · exact br_f h0 (br_f (Int32.not_lt.mpr (h.resolve_left h0)) (hYn _ ⟨rfl, J⟩))
end
section
/-! ===== own ===== -/
theorem i_vc_own {k : Nat} {u : SX} {v : SY} (I : i_Rel k u v) (hk : k + 6 ≤ 3072) (v1 : Int32) (v2 : Int32) (v3 : Int32) : wpX_own (fun r => wpY_own (fun r' => r' = r ∧ i_Rel (k + 6) u v) v v1 v2 v3) u v1 v2 v3 := by
  have J := i_up I
  obtain ⟨n, b, m, deep, res, thr, thn, CL, cStr, cOp, cA, cB, OK, oKin, oOpen, pVal, aOut, aVar, FC, FA, FP, FH, FT, fSelf, stk, TA, TH, xFc, xFs, xPc, xKo, xPk, tw, te, tc, xSet, S, XH, xHeld, xArg, yCo, yAr, M, yPair, ySeen, ySet, yStay, yArg, yHan, yKept, yGiven, rfl, rfl, R, hm⟩ := I
  have h3 := R.2.1.1
  unfold wpX_own
  rcases ob_isP (n := n) (d := 0) (b := b) (m := m) (deep := deep) (res := res) (thr := thr) (thn := thn) (CL := CL) (cStr := cStr) (cOp := cOp) (cA := cA) (cB := cB) (OK := OK) (oKin := oKin) (oOpen := oOpen) (pVal := pVal) (aOut := aOut) (aVar := aVar) (FC := FC) (FA := FA) (FP := FP) (FH := FH) (FT := FT) (fSelf := fSelf) (stk := stk) (TA := TA) (TH := TH) (xFc := xFc) (xFs := xFs) (xPc := xPc) (xKo := xKo) (xPk := xPk) (tw := tw) (te := te) (tc := tc) (xSet := xSet) (S := S) (XH := XH) (xHeld := xHeld) (xArg := xArg) (yCo := yCo) (yAr := yAr) (M := M) (yPair := yPair) (ySeen := ySeen) (ySet := ySet) (yStay := yStay) (yArg := yArg) (yHan := yHan) (yKept := yKept) (yGiven := yGiven) R.2.1 v1 v2 with ⟨o, j, ho, hj, rfl, rfl, hX, hY⟩ | ⟨hX, hY⟩
  · have hi : 32 * o + j < 1024 := by omega
    have hin : vp_in (nI (32 * o + j)) 1024 := vp_in_nI hi (by decide)
    have hcl : (nI (32 * o + j)).toNatClampNeg = 32 * o + j := ob_cl hi
    have hMm := R.2.2.1.1 (32 * o + j)
    have hsl := R.2.2.1.2.2 (32 * o + j) (by omega)
    obtain ⟨L, hl1, hl2, hl3⟩ := R.2.2.2.1 o ho
    have hlen := ob_ord_len hl3
    have hYout : (v3 < 0 ∨ 4 < v3) → ∀ post : Int64 → Prop, post 8589934592 → wpY_own post (nI n, nI m, yGiven, nI 0, deep, nI b, thr, thn, res, cStr, (fun zz => nI (CL zz)), cOp, cA, cB, (fun zz => nI (OK zz)), oKin, yCo, yAr, oOpen, (fun zz => nI (M zz)), (fun zz => ob_yf (tw zz) (te zz) (tc zz)), yPair, ySeen, pVal, ySet, (fun zz => ob_th (S zz)), yStay, aOut, aVar, yArg, (fun zz => nI (FC zz)), (fun zz => nI (FA zz)), (fun zz => nI (FP zz)), (fun zz => nI (FH zz)), yHan, (fun zz => nI (FT zz)), (fun zz => nI (TA zz)), (fun zz => nI (TH zz)), fSelf, yKept, stk) (nI o) (nI j) v3 := by
      intro h post hp
      unfold wpY_own
      exact hY _ (br_f (by decide) (ob_inF h _ (br_t rfl hp)))
    have hYab : ∀ q, q < 5 → v3 = nI q → M (32 * o + j) = 0 → ∀ post : Int64 → Prop, ((v3 = 0 → post 0) ∧ (¬ v3 = 0 → post 8589934592)) → wpY_own post (nI n, nI m, yGiven, nI 0, deep, nI b, thr, thn, res, cStr, (fun zz => nI (CL zz)), cOp, cA, cB, (fun zz => nI (OK zz)), oKin, yCo, yAr, oOpen, (fun zz => nI (M zz)), (fun zz => ob_yf (tw zz) (te zz) (tc zz)), yPair, ySeen, pVal, ySet, (fun zz => ob_th (S zz)), yStay, aOut, aVar, yArg, (fun zz => nI (FC zz)), (fun zz => nI (FA zz)), (fun zz => nI (FP zz)), (fun zz => nI (FH zz)), yHan, (fun zz => nI (FT zz)), (fun zz => nI (TA zz)), (fun zz => nI (TH zz)), fSelf, yKept, stk) (nI o) (nI j) v3 := by
      intro q hq e hz post hp
      unfold wpY_own
      rw [e] at hp ⊢
      refine hY _ (br_f (by decide) (ob_inT (b := 0) (c := 4) (by omega) (by omega) (by decide) _ (br_f (by decide) (nm_r (ob_iy o j) ⟨hin, ?_⟩))))
      rw [hcl]
      exact br_t (congrArg nI hz) hp
    have hYpr : ∀ q, q < 5 → M (32 * o + j) ≠ 0 → ∀ post : Int64 → Prop, wY_own_61 post (nI o) (nI q) (nI (32 * o + j)) (nI n) (nI m) yGiven (nI 0) deep (nI b) thr thn res cStr (fun zz => nI (CL zz)) cOp cA cB (fun zz => nI (OK zz)) oKin yCo yAr oOpen (fun zz => nI (M zz)) (fun zz => ob_yf (tw zz) (te zz) (tc zz)) yPair ySeen pVal ySet (fun zz => ob_th (S zz)) yStay aOut aVar yArg (fun zz => nI (FC zz)) (fun zz => nI (FA zz)) (fun zz => nI (FP zz)) (fun zz => nI (FH zz)) yHan (fun zz => nI (FT zz)) (fun zz => nI (TA zz)) (fun zz => nI (TH zz)) fSelf yKept stk 1 (nI ((List.range 32).countP (fun k => decide (M (32 * o + k) ≠ 0 ∧ M (32 * o + k) < M (32 * o + j))))) (nI (32 * o + 32)) → wpY_own post (nI n, nI m, yGiven, nI 0, deep, nI b, thr, thn, res, cStr, (fun zz => nI (CL zz)), cOp, cA, cB, (fun zz => nI (OK zz)), oKin, yCo, yAr, oOpen, (fun zz => nI (M zz)), (fun zz => ob_yf (tw zz) (te zz) (tc zz)), yPair, ySeen, pVal, ySet, (fun zz => ob_th (S zz)), yStay, aOut, aVar, yArg, (fun zz => nI (FC zz)), (fun zz => nI (FA zz)), (fun zz => nI (FP zz)), (fun zz => nI (FH zz)), yHan, (fun zz => nI (FT zz)), (fun zz => nI (TA zz)), (fun zz => nI (TH zz)), fSelf, yKept, stk) (nI o) (nI j) (nI q) := by
      intro q hq hz post hp
      unfold wpY_own
      refine hY _ (br_f (by decide) (ob_inT (b := 0) (c := 4) (by omega) (by omega) (by decide) _ (br_f (by decide) (nm_r (ob_iy o j) ⟨hin, ?_⟩))))
      rw [hcl]
      refine br_f (fun z => hz ((nI_eq (b := 0) (by omega) (by decide)).mp z)) (nm_r (e' := nI (32 * o)) (pk_mul 32 o) ⟨33, ?_⟩)
      exact ob_ownY (by omega) hi R.2.2.1.1 (by omega) post hp 32 0 rfl
    have e32 : 32 * nI o + 32 = nI (32 * o + 32) := ob_iy o 32
    refine hX _ (br_f (by decide) (nm_r (ob_ix o j) ⟨hin, ?_⟩))
    rw [hcl]
    refine nm_e ?_
    rcases pk_ix v3 (n := 5) (by decide) with h | h | ⟨q, hq, rfl⟩
    · have hn0 : ¬ v3 = 0 := fun z => by rw [z] at h; exact absurd h (by decide)
      have hlt1 : v3 < 1 := Int32.lt_trans h (by decide)
      exact br_f hn0 (br_c (fun _ => hYout (Or.inl h) _ ⟨rfl, J⟩) (fun _ => br_t hlt1 (hYout (Or.inl h) _ ⟨rfl, J⟩)))
    · have h4 : 4 < v3 := Int32.lt_of_lt_of_le (by decide) h
      have hn0 : ¬ v3 = 0 := fun z => by rw [z] at h4; exact absurd h4 (by decide)
      have hn1 : ¬ v3 < 1 := fun z => absurd (Int32.lt_trans h4 z) (by decide)
      exact br_f hn0 (br_c (fun _ => hYout (Or.inr h4) _ ⟨rfl, J⟩) (fun _ => br_f hn1 (br_t h4 (hYout (Or.inr h4) _ ⟨rfl, J⟩))))
    · rcases hsl with ⟨hz, hpk⟩ | ⟨hz, hv, hs⟩
      · by_cases hq0 : q = 0
        · subst hq0
          refine br_t rfl (hYab 0 (by decide) rfl hz _ (br_t rfl ?_))
          rw [hpk]
          exact ⟨rfl, J⟩
        · have hn0 : ¬ nI q = 0 := fun z => hq0 ((nI_eq (b := 0) (by omega) (by decide)).mp z)
          exact br_f hn0 (br_t hpk (hYab q hq rfl hz _ (br_f hn0 ⟨rfl, J⟩)))
      · have hpk0 : ¬ xPk (32 * o + j) = 0 := by
          rcases hs with h | h
          · rw [h.2]; decide
          · rw [h.2.1]; decide
        have hc5 : q = 0 ∨ q = 1 ∨ q = 2 ∨ q = 3 ∨ q = 4 := by omega
        rcases hc5 with rfl | rfl | rfl | rfl | rfl
        · refine br_t rfl (hYpr 0 (by decide) hz _ ?_)
          unfold wY_own_61
          rw [e32]
          refine br_t (Int32.le_refl _) (br_f (by decide) (br_f (by decide) ⟨hin, ?_⟩))
          rw [hcl]
          rcases hs with ⟨h1, h2⟩ | ⟨h1, h2, _⟩
          · rw [h2]
            exact br_t h1 ⟨rfl, J⟩
          · rw [h2]
            exact br_f (by rw [h1]; decide) ⟨rfl, J⟩
        · refine br_f (by decide) (br_f hpk0 (br_f (by decide) (br_f (by decide) (br_t rfl ⟨hin, hYpr 1 (by decide) hz _ ?_⟩))))
          unfold wY_own_61
          rw [e32, hcl]
          refine br_t (Int32.le_refl _) (br_f (by decide) (br_t rfl ⟨hin, by decide, by decide, hin, by decide, by decide, hin, by decide, by decide, ?_⟩))
          refine ⟨?_, J⟩
          exact congrArg Int32.toInt64 (ob_fl1 _ _ _)
        · refine br_f (by decide) (br_f hpk0 (br_f (by decide) (br_f (by decide) (br_f (by decide) (br_t rfl ⟨hin, hYpr 2 (by decide) hz _ ?_⟩)))))
          unfold wY_own_61
          rw [e32, hcl]
          exact br_t (Int32.le_refl _) (br_t (by decide) (br_t rfl ⟨hin, rfl, J⟩))
        · refine br_f (by decide) (br_f hpk0 (br_f (by decide) (br_f (by decide) (br_f (by decide) (br_f (by decide) (br_t rfl ?_))))))
          rcases hs with ⟨h1, h2⟩ | ⟨h1, h2, _, h4, _⟩
          · refine br_f (by rw [h2]; decide) (hYpr 3 (by decide) hz _ ?_)
            unfold wY_own_61
            rw [e32, hcl]
            exact br_t (Int32.le_refl _) (br_t (by decide) (br_f (by decide) (br_f (by decide) ⟨hin, br_t h1 ⟨rfl, J⟩⟩)))
          · refine br_t h2 ⟨hin, hYpr 3 (by decide) hz _ ?_⟩
            unfold wY_own_61
            rw [e32, hcl]
            exact br_t (Int32.le_refl _) (br_t (by decide) (br_f (by decide) (br_f (by decide) ⟨hin, br_f (by rw [h1]; decide) ⟨hin, h4.symm, J⟩⟩)))
        · refine br_f (by decide) (br_f hpk0 (br_f (by decide) (br_f (by decide) (br_f (by decide) (br_f (by decide) (br_f (by decide) (br_t rfl ?_)))))))
          have hmem := (hl3.2 j).mpr ⟨hj, hz⟩
          obtain ⟨p, hp, hpe⟩ := List.getElem_of_mem hmem
          have hpq : L[p]? = some j := List.getElem?_eq_some_iff.mpr ⟨hp, hpe⟩
          have hx : ∀ p x, L[p]? = some x → xKo (32 * o + p) = nI x ∧ x < 32 := fun p x hpx => ⟨hl2 p x hpx, ((hl3.2 x).mp (List.mem_of_getElem? hpx)).1⟩
          unfold wpX_placeInOrder
          refine ⟨vp_in_nI (by omega) (by decide), ?_⟩
          rw [ob_cl (by omega), hl1]
          refine nm_e ⟨p + 1, ob_plX (by omega) hlen hx hj (ob_ord_nd hl3) hpq _ ?_ p 0 rfl⟩
          have hcp := ob_ord_pl hl3 hp
          rw [hpe] at hcp
          refine hYpr 4 (by decide) hz _ ?_
          rw [hcp]
          unfold wY_own_61
          rw [e32]
          exact br_t (Int32.le_refl _) (br_t (by decide) (br_f (by decide) (br_t rfl ⟨rfl, J⟩)))
  · refine hX _ (br_t rfl ?_)
    unfold wpY_own
    exact hY _ (br_t rfl ⟨rfl, J⟩)
end
section
/-! ===== clear, and the constructors ===== -/
def ob_z1 (f : Nat → Nat) (k : Nat) : Nat → Nat := fun i => if i < k then 0 else f i
theorem ob_z1_0 (f : Nat → Nat) : ob_z1 f 0 = f := by
  funext i; unfold ob_z1; rw [if_neg (by omega)]
theorem ob_z1_s (f : Nat → Nat) (k : Nat) : ob_um (ob_z1 f k) k 0 = ob_z1 f (k + 1) := by
  funext i
  unfold ob_um ob_z1
  by_cases h : i = k
  · rw [if_pos h, if_pos (by omega)]
  · rw [if_neg h]
    by_cases h2 : i < k
    · rw [if_pos h2, if_pos (by omega)]
    · rw [if_neg h2, if_neg (by omega)]
theorem ob_nar0t : vp_nar .boolean 0 = ob_th 0 := rfl
section
variable {n : Nat} {d : Nat} {b : Nat} {m : Nat} {deep : Int32} {res : Int64} {thr : Int32} {thn : Int64} {CL : Nat → Nat} {cStr : Nat → Int32} {cOp : Nat → Int32} {cA : Nat → Int32} {cB : Nat → Int32} {OK : Nat → Nat} {oKin : Nat → Int32} {oOpen : Nat → Int32} {pVal : Nat → Int64} {aOut : Nat → Int32} {aVar : Nat → Int64} {FC : Nat → Nat} {FA : Nat → Nat} {FP : Nat → Nat} {FH : Nat → Nat} {FT : Nat → Nat} {fSelf : Nat → Int64} {stk : Nat → Int64} {TA : Nat → Nat} {TH : Nat → Nat} {xFc : Nat → Int32} {xFs : Nat → Int32} {xPc : Nat → Int32} {xKo : Nat → Int32} {xPk : Nat → Int32} {tw : Nat → Bool} {te : Nat → Bool} {tc : Nat → Bool} {xSet : Nat → Int64} {S : Nat → Nat} {XH : Nat → Nat} {xHeld : Nat → Int64} {xArg : Nat → Int64} {yCo : Nat → Int32} {yAr : Nat → Int32} {M : Nat → Nat} {yPair : Nat → Int32} {ySeen : Nat → Int32} {ySet : Nat → Int64} {yStay : Nat → Int32} {yArg : Nat → Int64} {yHan : Nat → Int32} {yKept : Nat → Int64} {yGiven : Int32}
theorem ob_rs28 (post : SX → Prop) (hp : post (nI n, nI 0, nI 0, 0, 8589934592, 0, thn, (fun zz => nI (CL zz)), cStr, cOp, cA, cB, (fun zz => nI (OK zz)), oKin, oOpen, xFc, xFs, xPc, xKo, xPk, (fun zz => ob_xa (tw zz) (te zz) (tc zz)), pVal, xSet, (fun zz => nI ((ob_z1 S 24) zz)), aOut, aVar, (fun zz => nI (FC zz)), (fun zz => nI (FP zz)), (fun zz => nI (FA zz)), (fun zz => nI (FH zz)), (fun zz => nI (XH zz)), (fun zz => nI (FT zz)), fSelf, xHeld, stk, (fun zz => nI (TA zz)), (fun zz => nI (TH zz)), xArg)) : ∀ t j, t + j = 24 → wX_reset_28 post (nI n) (nI d) (nI b) deep res thr thn (t + 1) (nI j) (fun zz => nI (CL zz)) cStr cOp cA cB (fun zz => nI (OK zz)) oKin oOpen xFc xFs xPc xKo xPk (fun zz => ob_xa (tw zz) (te zz) (tc zz)) pVal xSet (fun zz => nI ((ob_z1 S j) zz)) aOut aVar (fun zz => nI (FC zz)) (fun zz => nI (FP zz)) (fun zz => nI (FA zz)) (fun zz => nI (FH zz)) (fun zz => nI (XH zz)) (fun zz => nI (FT zz)) fSelf xHeld stk (fun zz => nI (TA zz)) (fun zz => nI (TH zz)) xArg
  | 0, j, e => by
    have e' : j = 24 := by omega
    subst e'
    unfold wX_reset_28
    exact br_t (by decide) hp
  | t + 1, j, e => by
    have ih := ob_rs28 post hp t (j + 1) (by omega)
    have hn : ¬ 24 ≤ j := by omega
    unfold wX_reset_28
    simp (disch := first | omega | decide) only [hn, ob_uN0, ob_z1_s, forall_eq, not_true, not_false_iff, false_implies, true_implies, true_and, and_true, ob_sub1, Nat.add_sub_cancel, nI_1, ob_ix, ob_iy, ob_ix24, ob_iy24, ob_ix10, ob_iy10, ob_ix4, ob_iy4, ob_ix3, ob_iy3, ob_s1, ob_s2, ob_s3, ob_s4, ob_ltl, ob_lel, ob_eql, ob_ltr, ob_ler, ob_uN, Nat.add_one_ne_zero, ob_xs3, ob_lnn, ob_ltn, ob_eqn, Nat.not_lt_zero, Nat.zero_le, Nat.reduceEqDiff, Nat.reduceLeDiff, Nat.reduceLT, ob_eqll, Int32.reduceLT, Int32.reduceLE, eq_self_iff_true]
    exact ih
/-- the component begins anew -/
theorem ob_rsX (post : SX → Prop) (hp : post (nI 3, nI 0, nI 0, 0, 8589934592, 0, thn, (fun zz => nI (CL zz)), cStr, cOp, cA, cB, (fun zz => nI ((ob_um (ob_um (ob_um OK 0 0) 1 0) 2 0) zz)), (upd (upd (upd oKin 0 (-1)) 1 0) 2 0), (upd (upd (upd oOpen 0 1) 1 1) 2 1), xFc, xFs, (upd (upd (upd xPc 0 0) 1 0) 2 0), xKo, (ob_zk (ob_zk (ob_zk xPk 0 32) 1 32) 2 32), (fun zz => ob_xa (tw zz) (te zz) (tc zz)), pVal, xSet, (fun zz => nI ((ob_z1 S 24) zz)), aOut, aVar, (fun zz => nI (FC zz)), (fun zz => nI (FP zz)), (fun zz => nI (FA zz)), (fun zz => nI (FH zz)), (fun zz => nI (XH zz)), (fun zz => nI (FT zz)), fSelf, xHeld, stk, (fun zz => nI (TA zz)), (fun zz => nI (TH zz)), xArg)) : wpX_reset post (nI n, nI d, nI b, deep, res, thr, thn, (fun zz => nI (CL zz)), cStr, cOp, cA, cB, (fun zz => nI (OK zz)), oKin, oOpen, xFc, xFs, xPc, xKo, xPk, (fun zz => ob_xa (tw zz) (te zz) (tc zz)), pVal, xSet, (fun zz => nI (S zz)), aOut, aVar, (fun zz => nI (FC zz)), (fun zz => nI (FP zz)), (fun zz => nI (FA zz)), (fun zz => nI (FH zz)), (fun zz => nI (XH zz)), (fun zz => nI (FT zz)), fSelf, xHeld, stk, (fun zz => nI (TA zz)), (fun zz => nI (TH zz)), xArg) := by
  unfold wpX_reset
  refine ob_newX (n := 0) (kd := 0) (by decide) _ ?_
  refine ob_newX (n := 1) (kd := 0) (by decide) _ ?_
  refine ob_newX (n := 2) (kd := 0) (by decide) _ ⟨25, ?_⟩
  have hl := ob_rs28 (n := 3) (d := d) (b := b) (deep := deep) (res := res) (thr := thr) (thn := thn) (CL := CL) (cStr := cStr) (cOp := cOp) (cA := cA) (cB := cB) (OK := (ob_um (ob_um (ob_um OK 0 0) 1 0) 2 0)) (oKin := (upd (upd (upd oKin 0 (-1)) 1 0) 2 0)) (oOpen := (upd (upd (upd oOpen 0 1) 1 1) 2 1)) (pVal := pVal) (aOut := aOut) (aVar := aVar) (FC := FC) (FA := FA) (FP := FP) (FH := FH) (FT := FT) (fSelf := fSelf) (stk := stk) (TA := TA) (TH := TH) (xFc := xFc) (xFs := xFs) (xPc := (upd (upd (upd xPc 0 0) 1 0) 2 0)) (xKo := xKo) (xPk := (ob_zk (ob_zk (ob_zk xPk 0 32) 1 32) 2 32)) (tw := tw) (te := te) (tc := tc) (xSet := xSet) (S := S) (XH := XH) (xHeld := xHeld) (xArg := xArg) post hp 24 0 rfl
  rw [ob_z1_0] at hl
  exact hl
theorem ob_fr34 (post : SY → Prop) (hp : ∃ n55 : Nat, wY_fresh_55 post n55 0 (nI n) (nI m) yGiven (nI d) deep (nI b) thr thn res cStr (fun zz => nI (CL zz)) cOp cA cB (fun zz => nI (OK zz)) oKin yCo yAr oOpen (fun zz => nI (M zz)) (fun zz => ob_yf (tw zz) (te zz) (tc zz)) yPair ySeen pVal ySet (fun zz => ob_th ((ob_z1 S 24) zz)) yStay aOut aVar yArg (fun zz => nI (FC zz)) (fun zz => nI (FA zz)) (fun zz => nI (FP zz)) (fun zz => nI (FH zz)) yHan (fun zz => nI (FT zz)) (fun zz => nI (TA zz)) (fun zz => nI (TH zz)) fSelf yKept stk) : ∀ t j, t + j = 24 → wY_fresh_34 post (nI n) (nI m) yGiven (nI d) deep (nI b) thr thn res (t + 1) (nI j) cStr (fun zz => nI (CL zz)) cOp cA cB (fun zz => nI (OK zz)) oKin yCo yAr oOpen (fun zz => nI (M zz)) (fun zz => ob_yf (tw zz) (te zz) (tc zz)) yPair ySeen pVal ySet (fun zz => ob_th ((ob_z1 S j) zz)) yStay aOut aVar yArg (fun zz => nI (FC zz)) (fun zz => nI (FA zz)) (fun zz => nI (FP zz)) (fun zz => nI (FH zz)) yHan (fun zz => nI (FT zz)) (fun zz => nI (TA zz)) (fun zz => nI (TH zz)) fSelf yKept stk
  | 0, j, e => by
    have e' : j = 24 := by omega
    subst e'
    unfold wY_fresh_34
    exact br_t (by decide) hp
  | t + 1, j, e => by
    have ih := ob_fr34 post hp t (j + 1) (by omega)
    have hn : ¬ 24 ≤ j := by omega
    unfold wY_fresh_34
    simp (disch := first | omega | decide) only [hn, ob_nar0t, ob_uT, ob_z1_s, forall_eq, not_true, not_false_iff, false_implies, true_implies, true_and, and_true, ob_sub1, Nat.add_sub_cancel, nI_1, ob_ix, ob_iy, ob_ix24, ob_iy24, ob_ix10, ob_iy10, ob_ix4, ob_iy4, ob_ix3, ob_iy3, ob_s1, ob_s2, ob_s3, ob_s4, ob_ltl, ob_lel, ob_eql, ob_ltr, ob_ler, ob_uN, Nat.add_one_ne_zero, ob_xs3, ob_lnn, ob_ltn, ob_eqn, Nat.not_lt_zero, Nat.zero_le, Nat.reduceEqDiff, Nat.reduceLeDiff, Nat.reduceLT, ob_eqll, Int32.reduceLT, Int32.reduceLE, eq_self_iff_true]
    exact ih
theorem ob_fr12 (post : SY → Prop) (hp : ∃ n34 : Nat, wY_fresh_34 post (nI n) (nI m) yGiven (nI d) deep (nI b) thr thn res n34 0 cStr (fun zz => nI (CL zz)) cOp cA cB (fun zz => nI (OK zz)) oKin yCo yAr oOpen (fun zz => nI ((ob_z1 M 1024) zz)) (fun zz => ob_yf (tw zz) (te zz) (tc zz)) yPair ySeen pVal ySet (fun zz => ob_th (S zz)) yStay aOut aVar yArg (fun zz => nI (FC zz)) (fun zz => nI (FA zz)) (fun zz => nI (FP zz)) (fun zz => nI (FH zz)) yHan (fun zz => nI (FT zz)) (fun zz => nI (TA zz)) (fun zz => nI (TH zz)) fSelf yKept stk) : ∀ t j, t + j = 1024 → wY_fresh_12 post (nI n) (nI m) yGiven (nI d) deep (nI b) thr thn res (t + 1) (nI j) cStr (fun zz => nI (CL zz)) cOp cA cB (fun zz => nI (OK zz)) oKin yCo yAr oOpen (fun zz => nI ((ob_z1 M j) zz)) (fun zz => ob_yf (tw zz) (te zz) (tc zz)) yPair ySeen pVal ySet (fun zz => ob_th (S zz)) yStay aOut aVar yArg (fun zz => nI (FC zz)) (fun zz => nI (FA zz)) (fun zz => nI (FP zz)) (fun zz => nI (FH zz)) yHan (fun zz => nI (FT zz)) (fun zz => nI (TA zz)) (fun zz => nI (TH zz)) fSelf yKept stk
  | 0, j, e => by
    have e' : j = 1024 := by omega
    subst e'
    unfold wY_fresh_12
    exact br_t (by decide) hp
  | t + 1, j, e => by
    have ih := ob_fr12 post hp t (j + 1) (by omega)
    have hn : ¬ 1024 ≤ j := by omega
    unfold wY_fresh_12
    simp (disch := first | omega | decide) only [hn, ob_uN0, ob_z1_s, forall_eq, not_true, not_false_iff, false_implies, true_implies, true_and, and_true, ob_sub1, Nat.add_sub_cancel, nI_1, ob_ix, ob_iy, ob_ix24, ob_iy24, ob_ix10, ob_iy10, ob_ix4, ob_iy4, ob_ix3, ob_iy3, ob_s1, ob_s2, ob_s3, ob_s4, ob_ltl, ob_lel, ob_eql, ob_ltr, ob_ler, ob_uN, Nat.add_one_ne_zero, ob_xs3, ob_lnn, ob_ltn, ob_eqn, Nat.not_lt_zero, Nat.zero_le, Nat.reduceEqDiff, Nat.reduceLeDiff, Nat.reduceLT, ob_eqll, Int32.reduceLT, Int32.reduceLE, eq_self_iff_true]
    exact ih
/-- the reference begins anew -/
theorem ob_frY (post : SY → Prop) (hp : post (nI 3, nI 0, yGiven, nI 0, 0, nI 0, 0, thn, 8589934592, cStr, (fun zz => nI (CL zz)), cOp, cA, cB, (fun zz => nI ((ob_um (ob_um (ob_um OK 0 0) 1 0) 2 0) zz)), (upd (upd (upd oKin 0 (-1)) 1 0) 2 0), yCo, (upd (upd (upd yAr 0 (-1)) 1 (-1)) 2 (-1)), (upd (upd (upd oOpen 0 1) 1 1) 2 1), (fun zz => nI ((ob_z1 M 1024) zz)), (fun zz => ob_yf (tw zz) (te zz) (tc zz)), yPair, ySeen, pVal, ySet, (fun zz => ob_th ((ob_z1 S 24) zz)), yStay, aOut, aVar, yArg, (fun zz => nI (FC zz)), (fun zz => nI (FA zz)), (fun zz => nI (FP zz)), (fun zz => nI (FH zz)), yHan, (fun zz => nI (FT zz)), (fun zz => nI (TA zz)), (fun zz => nI (TH zz)), fSelf, yKept, stk)) : wpY_fresh post (nI n, nI m, yGiven, nI d, deep, nI b, thr, thn, res, cStr, (fun zz => nI (CL zz)), cOp, cA, cB, (fun zz => nI (OK zz)), oKin, yCo, yAr, oOpen, (fun zz => nI (M zz)), (fun zz => ob_yf (tw zz) (te zz) (tc zz)), yPair, ySeen, pVal, ySet, (fun zz => ob_th (S zz)), yStay, aOut, aVar, yArg, (fun zz => nI (FC zz)), (fun zz => nI (FA zz)), (fun zz => nI (FP zz)), (fun zz => nI (FH zz)), yHan, (fun zz => nI (FT zz)), (fun zz => nI (TA zz)), (fun zz => nI (TH zz)), fSelf, yKept, stk) := by
  have h55 : ∃ n55 : Nat, wY_fresh_55 post n55 0 (nI 0) (nI 0) yGiven (nI d) deep (nI b) thr thn res cStr (fun zz => nI (CL zz)) cOp cA cB (fun zz => nI (OK zz)) oKin yCo yAr oOpen (fun zz => nI ((ob_z1 M 1024) zz)) (fun zz => ob_yf (tw zz) (te zz) (tc zz)) yPair ySeen pVal ySet (fun zz => ob_th ((ob_z1 S 24) zz)) yStay aOut aVar yArg (fun zz => nI (FC zz)) (fun zz => nI (FA zz)) (fun zz => nI (FP zz)) (fun zz => nI (FH zz)) yHan (fun zz => nI (FT zz)) (fun zz => nI (TA zz)) (fun zz => nI (TH zz)) fSelf yKept stk := by
    refine ⟨4, ?_⟩
    unfold wY_fresh_55 wY_fresh_71
    refine br_f (by decide) (br_t rfl ?_)
    refine ob_newY (n := 0) (kd := 0) (by decide) (by decide) (by decide) _ (nm_e ?_)
    unfold wY_fresh_55 wY_fresh_71
    refine br_f (by decide) (br_f (by decide) ?_)
    refine ob_newY (n := 1) (kd := 0) (by decide) (by decide) (by decide) _ (nm_e ?_)
    unfold wY_fresh_55 wY_fresh_71
    refine br_f (by decide) (br_f (by decide) ?_)
    refine ob_newY (n := 2) (kd := 0) (by decide) (by decide) (by decide) _ (nm_e ?_)
    unfold wY_fresh_55
    exact br_t (by decide) hp
  have h34 := ob_fr34 (n := 0) (d := d) (b := b) (m := 0) (deep := deep) (res := res) (thr := thr) (thn := thn) (CL := CL) (cStr := cStr) (cOp := cOp) (cA := cA) (cB := cB) (OK := OK) (oKin := oKin) (oOpen := oOpen) (pVal := pVal) (aOut := aOut) (aVar := aVar) (FC := FC) (FA := FA) (FP := FP) (FH := FH) (FT := FT) (fSelf := fSelf) (stk := stk) (TA := TA) (TH := TH) (tw := tw) (te := te) (tc := tc) (S := S) (yCo := yCo) (yAr := yAr) (M := (ob_z1 M 1024)) (yPair := yPair) (ySeen := ySeen) (ySet := ySet) (yStay := yStay) (yArg := yArg) (yHan := yHan) (yKept := yKept) (yGiven := yGiven) post h55 24 0 rfl
  rw [ob_z1_0] at h34
  have h12 := ob_fr12 (n := 0) (d := d) (b := b) (m := 0) (deep := deep) (res := res) (thr := thr) (thn := thn) (CL := CL) (cStr := cStr) (cOp := cOp) (cA := cA) (cB := cB) (OK := OK) (oKin := oKin) (oOpen := oOpen) (pVal := pVal) (aOut := aOut) (aVar := aVar) (FC := FC) (FA := FA) (FP := FP) (FH := FH) (FT := FT) (fSelf := fSelf) (stk := stk) (TA := TA) (TH := TH) (tw := tw) (te := te) (tc := tc) (S := S) (yCo := yCo) (yAr := yAr) (M := M) (yPair := yPair) (ySeen := ySeen) (ySet := ySet) (yStay := yStay) (yArg := yArg) (yHan := yHan) (yKept := yKept) (yGiven := yGiven) post ⟨25, h34⟩ 1024 0 rfl
  rw [ob_z1_0] at h12
  unfold wpY_fresh
  exact ⟨1025, h12⟩
theorem ob_newE (hC : ob_gC CL cOp cA cB) (hM : ∀ i, 1024 ≤ i → M i = 0) : ob_R 3 0 0 0 8589934592 0 thn CL cOp cA cB (ob_um (ob_um (ob_um OK 0 0) 1 0) 2 0) (upd (upd (upd oKin 0 (-1)) 1 0) 2 0) pVal aOut aVar FC FA FP FH FT fSelf stk TA TH xFc xFs (upd (upd (upd xPc 0 0) 1 0) 2 0) xKo (ob_zk (ob_zk (ob_zk xPk 0 32) 1 32) 2 32) tw tc xSet (ob_z1 S 24) XH xHeld yCo (upd (upd (upd yAr 0 (-1)) 1 (-1)) 2 (-1)) (ob_z1 M 1024) yPair ySet yStay yHan yKept := by
  have hMz : ∀ i, ob_z1 M 1024 i = 0 := by
    intro i
    unfold ob_z1
    split
    · rfl
    · exact hM i (by omega)
  have hOKz : ∀ o, o < 3 → ob_um (ob_um (ob_um OK 0 0) 1 0) 2 0 o = 0 := by
    intro o ho
    have : o = 0 ∨ o = 1 ∨ o = 2 := by omega
    rcases this with rfl | rfl | rfl <;> rfl
  have hPc : ∀ o, o < 3 → upd (upd (upd xPc 0 0) 1 0) 2 0 o = 0 := by
    intro o ho
    have : o = 0 ∨ o = 1 ∨ o = 2 := by omega
    rcases this with rfl | rfl | rfl <;> rfl
  refine ⟨hC, ⟨⟨by decide, by decide⟩, fun o ho => ⟨by rw [hOKz o ho]; omega, ?_⟩⟩, ⟨fun i => by rw [hMz i]; omega, fun i _ => hMz i, fun i hi => Or.inl ⟨hMz i, ?_⟩⟩, fun o ho => ⟨[], by rw [hPc o ho]; rfl, fun p x hx => absurd hx (by simp), List.Pairwise.nil, fun q => ?_⟩, fun o ho h1 => ?_, ⟨fun o ho h2 => ?_, fun a ha => ⟨?_, fun hz => ?_⟩⟩, ⟨by decide, fun f hf => absurd hf (by omega), fun f g _ hg => absurd hg (by omega)⟩, ⟨by decide, Or.inl rfl, fun h => absurd rfl h⟩⟩
  · have : o = 0 ∨ o = 1 ∨ o = 2 := by omega
    rcases this with rfl | rfl | rfl
    · exact Or.inl rfl
    · exact Or.inr ⟨0, by decide, rfl⟩
    · exact Or.inr ⟨0, by decide, rfl⟩
  · unfold ob_zk
    by_cases h2 : 32 * 2 ≤ i ∧ i < 32 * 2 + 32
    · rw [if_pos h2]
    · rw [if_neg h2]
      by_cases h1 : 32 * 1 ≤ i ∧ i < 32 * 1 + 32
      · rw [if_pos h1]
      · rw [if_neg h1, if_pos (by omega)]
  · constructor
    · intro y; exact absurd y (by simp)
    · intro y; exact absurd (hMz _) y.2
  · rw [hOKz o ho] at h1
    exact absurd h1 (by decide)
  · rw [hOKz o ho] at h2
    exact absurd h2 (by decide)
  · unfold ob_z1
    rw [if_pos ha]
    omega
  · exfalso
    apply hz
    unfold ob_z1
    rw [if_pos ha]
end
section
variable {n : Nat} {d : Nat} {b : Nat} {m : Nat} {deep : Int32} {res : Int64} {thr : Int32} {thn : Int64} {CL : Nat → Nat} {cStr : Nat → Int32} {cOp : Nat → Int32} {cA : Nat → Int32} {cB : Nat → Int32} {OK : Nat → Nat} {oKin : Nat → Int32} {oOpen : Nat → Int32} {pVal : Nat → Int64} {aOut : Nat → Int32} {aVar : Nat → Int64} {FC : Nat → Nat} {FA : Nat → Nat} {FP : Nat → Nat} {FH : Nat → Nat} {FT : Nat → Nat} {fSelf : Nat → Int64} {stk : Nat → Int64} {TA : Nat → Nat} {TH : Nat → Nat} {xFc : Nat → Int32} {xFs : Nat → Int32} {xPc : Nat → Int32} {xKo : Nat → Int32} {xPk : Nat → Int32} {tw : Nat → Bool} {te : Nat → Bool} {tc : Nat → Bool} {xSet : Nat → Int64} {S : Nat → Nat} {XH : Nat → Nat} {xHeld : Nat → Int64} {xArg : Nat → Int64} {yCo : Nat → Int32} {yAr : Nat → Int32} {M : Nat → Nat} {yPair : Nat → Int32} {ySeen : Nat → Int32} {ySet : Nat → Int64} {yStay : Nat → Int32} {yArg : Nat → Int64} {yHan : Nat → Int32} {yKept : Nat → Int64} {yGiven : Int32}
theorem ob_newK {k : Nat} (hC : ob_gC CL cOp cA cB) (hM : ∀ i, 1024 ≤ i → M i = 0) : i_Rel k (nI 3, nI 0, nI 0, 0, 8589934592, 0, thn, (fun zz => nI (CL zz)), cStr, cOp, cA, cB, (fun zz => nI ((ob_um (ob_um (ob_um OK 0 0) 1 0) 2 0) zz)), (upd (upd (upd oKin 0 (-1)) 1 0) 2 0), (upd (upd (upd oOpen 0 1) 1 1) 2 1), xFc, xFs, (upd (upd (upd xPc 0 0) 1 0) 2 0), xKo, (ob_zk (ob_zk (ob_zk xPk 0 32) 1 32) 2 32), (fun zz => ob_xa (tw zz) (te zz) (tc zz)), pVal, xSet, (fun zz => nI ((ob_z1 S 24) zz)), aOut, aVar, (fun zz => nI (FC zz)), (fun zz => nI (FP zz)), (fun zz => nI (FA zz)), (fun zz => nI (FH zz)), (fun zz => nI (XH zz)), (fun zz => nI (FT zz)), fSelf, xHeld, stk, (fun zz => nI (TA zz)), (fun zz => nI (TH zz)), xArg) (nI 3, nI 0, yGiven, nI 0, 0, nI 0, 0, thn, 8589934592, cStr, (fun zz => nI (CL zz)), cOp, cA, cB, (fun zz => nI ((ob_um (ob_um (ob_um OK 0 0) 1 0) 2 0) zz)), (upd (upd (upd oKin 0 (-1)) 1 0) 2 0), yCo, (upd (upd (upd yAr 0 (-1)) 1 (-1)) 2 (-1)), (upd (upd (upd oOpen 0 1) 1 1) 2 1), (fun zz => nI ((ob_z1 M 1024) zz)), (fun zz => ob_yf (tw zz) (te zz) (tc zz)), yPair, ySeen, pVal, ySet, (fun zz => ob_th ((ob_z1 S 24) zz)), yStay, aOut, aVar, yArg, (fun zz => nI (FC zz)), (fun zz => nI (FA zz)), (fun zz => nI (FP zz)), (fun zz => nI (FH zz)), yHan, (fun zz => nI (FT zz)), (fun zz => nI (TA zz)), (fun zz => nI (TH zz)), fSelf, yKept, stk) :=
  ob_E_mk (B := 300 * k) (ob_newE hC hM) (Nat.zero_le _)
end
theorem i_vc_clear {k : Nat} {u : SX} {v : SY} (I : i_Rel k u v) (hk : k + 6 ≤ 3072) : wpX_clear (fun r u' => wpY_clear (fun r' v' => r' = r ∧ i_Rel (k + 6) u' v') v) u := by
  obtain ⟨n, b, m, deep, res, thr, thn, CL, cStr, cOp, cA, cB, OK, oKin, oOpen, pVal, aOut, aVar, FC, FA, FP, FH, FT, fSelf, stk, TA, TH, xFc, xFs, xPc, xKo, xPk, tw, te, tc, xSet, S, XH, xHeld, xArg, yCo, yAr, M, yPair, ySeen, ySet, yStay, yArg, yHan, yKept, yGiven, rfl, rfl, R, hm⟩ := I
  unfold wpX_clear wpY_clear
  refine ob_rsX _ ?_
  refine ob_frY _ ⟨rfl, ob_newK R.1 (fun i hi => R.2.2.1.2.1 i (by have := R.2.1.1.2; omega))⟩
theorem i_vc0 : wpX_init (fun u => wpY_init (fun v => i_Rel 0 u v)) := by
  unfold wpX_init wpY_init
  refine ob_rsX (n := 0) (d := 0) (b := 0) (deep := 0) (res := 0) (thr := 0) (thn := 0) (CL := (fun _ => 0)) (cStr := (fun _ => 0)) (cOp := (fun _ => 0)) (cA := (fun _ => 0)) (cB := (fun _ => 0)) (OK := (fun _ => 0)) (oKin := (fun _ => 0)) (oOpen := (fun _ => 0)) (pVal := (fun _ => 0)) (aOut := (fun _ => 0)) (aVar := (fun _ => 0)) (FC := (fun _ => 0)) (FA := (fun _ => 0)) (FP := (fun _ => 0)) (FH := (fun _ => 0)) (FT := (fun _ => 0)) (fSelf := (fun _ => 0)) (stk := (fun _ => 0)) (TA := (fun _ => 0)) (TH := (fun _ => 0)) (xFc := (fun _ => 0)) (xFs := (fun _ => 0)) (xPc := (fun _ => 0)) (xKo := (fun _ => 0)) (xPk := (fun _ => 0)) (tw := (fun _ => false)) (te := (fun _ => false)) (tc := (fun _ => false)) (xSet := (fun _ => 0)) (S := (fun _ => 0)) (XH := (fun _ => 0)) (xHeld := (fun _ => 0)) (xArg := (fun _ => 0)) _ ?_
  refine ob_frY (n := 0) (d := 0) (b := 0) (m := 0) (deep := 0) (res := 0) (thr := 0) (thn := 0) (CL := (fun _ => 0)) (cStr := (fun _ => 0)) (cOp := (fun _ => 0)) (cA := (fun _ => 0)) (cB := (fun _ => 0)) (OK := (fun _ => 0)) (oKin := (fun _ => 0)) (oOpen := (fun _ => 0)) (pVal := (fun _ => 0)) (aOut := (fun _ => 0)) (aVar := (fun _ => 0)) (FC := (fun _ => 0)) (FA := (fun _ => 0)) (FP := (fun _ => 0)) (FH := (fun _ => 0)) (FT := (fun _ => 0)) (fSelf := (fun _ => 0)) (stk := (fun _ => 0)) (TA := (fun _ => 0)) (TH := (fun _ => 0)) (tw := (fun _ => false)) (te := (fun _ => false)) (tc := (fun _ => false)) (S := (fun _ => 0)) (yCo := (fun _ => 0)) (yAr := (fun _ => 0)) (M := (fun _ => 0)) (yPair := (fun _ => 0)) (ySeen := (fun _ => 0)) (ySet := (fun _ => 0)) (yStay := (fun _ => 0)) (yArg := (fun _ => 0)) (yHan := (fun _ => 0)) (yKept := (fun _ => 0)) (yGiven := 0) _ ?_
  exact ob_newK (fun c hc => ⟨Nat.zero_le _, fun j hj => absurd hj (by omega)⟩) (fun i hi => rfl)
end
section
/-! rows of kit/rows (bits), and what comes after in the order -/
def bt (x : Int32) (i : Nat) : Bool := x.toBitVec.getLsbD i
theorem b_ext {x y : Int32} (h : ∀ i, i < 32 → bt x i = bt y i) : x = y := Int32.toBitVec_inj.mp (BitVec.eq_of_getLsbD_eq (fun i hi => h i hi))
theorem b_or (x y : Int32) (i : Nat) : bt (x ||| y) i = (bt x i || bt y i) := by unfold bt; rw [Int32.toBitVec_or, BitVec.getLsbD_or]
theorem b_and (x y : Int32) (i : Nat) : bt (x &&& y) i = (bt x i && bt y i) := by unfold bt; rw [Int32.toBitVec_and, BitVec.getLsbD_and]
theorem b_0 (i : Nat) : bt 0 i = false := BitVec.getLsbD_zero
theorem s_l : ∀ n, n < 32 → ((nI n &&& 31).toBitVec.smod 32).toNat = n := by decide +kernel
theorem s_u : ∀ n, n < 32 → (((nI n).toUInt32 &&& Int32.toUInt32 31).toBitVec % 32).toNat = n := by decide +kernel
theorem b_shl (n : Nat) (hn : n < 32) (x : Int32) {i : Nat} (hi : i < 32) : bt (x <<< (nI n &&& 31)) i = (decide (n ≤ i) && bt x (i - n)) := by
  unfold bt
  rw [Int32.toBitVec_shiftLeft]
  show (x.toBitVec <<< ((nI n &&& 31).toBitVec.smod 32).toNat).getLsbD i = _
  rw [s_l n hn, BitVec.getLsbD_shiftLeft]
  rcases Nat.lt_or_ge i n with h | h
  · simp [h, Nat.not_le.mpr h]
  · simp [hi, h, Nat.not_lt.mpr h]
theorem b_ushr (n : Nat) (hn : n < 32) (x : Int32) (i : Nat) : bt ((x.toUInt32 >>> ((nI n).toUInt32 &&& Int32.toUInt32 31)).toInt32) i = bt x (n + i) := by
  show (x.toUInt32 >>> ((nI n).toUInt32 &&& Int32.toUInt32 31)).toBitVec.getLsbD i = x.toUInt32.toBitVec.getLsbD (n + i)
  rw [UInt32.toBitVec_shiftRight]
  show (x.toUInt32.toBitVec >>> (((nI n).toUInt32 &&& Int32.toUInt32 31).toBitVec % 32).toNat).getLsbD i = _
  rw [s_u n hn, BitVec.getLsbD_ushiftRight]
theorem ob_bt1 : ∀ j, j < 32 → bt 1 j = decide (j = 0) := by decide +kernel
theorem ob_low (y : Int32) : (y &&& 1) = 0 ↔ bt y 0 = false := by
  constructor
  · intro h
    have h1 := b_and y 1 0
    rw [h, b_0, ob_bt1 0 (by decide)] at h1
    simpa using h1.symm
  · intro h
    apply b_ext
    intro i hi
    rw [b_and, b_0, ob_bt1 i hi]
    by_cases z : i = 0
    · subst z; rw [h]; rfl
    · simp [z]
theorem ob_hid (h : Int32) {k : Nat} (hk : k < 32) : ((h.toUInt32 >>> ((nI k).toUInt32 &&& Int32.toUInt32 31)).toInt32 &&& 1) = 0 ↔ bt h k = false := by
  rw [ob_low, b_ushr k hk, Nat.add_zero]
theorem ob_had (h : Int32) {k i : Nat} (hk : k < 32) (hi : i < 32) : bt (h ||| ((1 : Int32) <<< (nI k &&& 31))) i = (bt h i || decide (i = k)) := by
  rw [b_or, b_shl k hk 1 hi]
  congr 1
  by_cases z : k ≤ i
  · rw [ob_bt1 _ (by omega)]
    by_cases y : i = k
    · subst y; simp
    · have : ¬ i - k = 0 := by omega
      simp [this, y]
  · have : ¬ i = k := by omega
    simp [z, this]
def ob_best (M : Nat → Nat) (o mm j : Nat) (r : Int32) : Prop :=
  (r = -1 ∧ ∀ k, k < j → M (32 * o + k) ≤ mm) ∨ ∃ q, q < j ∧ r = nI (32 * o + q) ∧ mm < M (32 * o + q) ∧ ∀ k, k < j → mm < M (32 * o + k) → M (32 * o + q) ≤ M (32 * o + k)
theorem ob_best_L {M : Nat → Nat} {o mm p : Nat} {L : List Nat} {r : Int32} (h : ob_ord M o L) (hp : ∀ q (hq : q < L.length), M (32 * o + L[q]) ≤ mm ↔ q < p) (hb : ob_best M o mm 32 r) :
    (∀ x, L[p]? = some x → r = nI (32 * o + x)) ∧ (L.length ≤ p → r = -1) := by
  have hs := List.pairwise_iff_getElem.mp h.1
  rcases hb with ⟨rfl, hall⟩ | ⟨q, hq, rfl, hlt, hmin⟩
  · refine ⟨fun x hx => ?_, fun _ => rfl⟩
    obtain ⟨hpl, rfl⟩ := List.getElem?_eq_some_iff.mp hx
    have hm := ((h.2 L[p]).mp (List.getElem_mem hpl)).1
    have := (hp p hpl).mp (hall _ hm)
    omega
  · have hmem := (h.2 q).mpr ⟨hq, by omega⟩
    obtain ⟨s, hsl, rfl⟩ := List.getElem_of_mem hmem
    have hsp : ¬ s < p := fun z => by have := (hp s hsl).mpr z; omega
    refine ⟨fun x hx => ?_, fun hl => ?_⟩
    · obtain ⟨hpl, rfl⟩ := List.getElem?_eq_some_iff.mp hx
      have hm := ((h.2 L[p]).mp (List.getElem_mem hpl)).1
      have hgt : mm < M (32 * o + L[p]) := by
        have : ¬ M (32 * o + L[p]) ≤ mm := fun z => by have := (hp p hpl).mp z; omega
        omega
      have hle := hmin _ hm hgt
      by_cases e : s = p
      · subst e; rfl
      · have := hs p s hpl hsl (by omega)
        omega
    · omega
section
variable {n : Nat} {d : Nat} {b : Nat} {m : Nat} {deep : Int32} {res : Int64} {thr : Int32} {thn : Int64} {CL : Nat → Nat} {cStr : Nat → Int32} {cOp : Nat → Int32} {cA : Nat → Int32} {cB : Nat → Int32} {OK : Nat → Nat} {oKin : Nat → Int32} {oOpen : Nat → Int32} {pVal : Nat → Int64} {aOut : Nat → Int32} {aVar : Nat → Int64} {FC : Nat → Nat} {FA : Nat → Nat} {FP : Nat → Nat} {FH : Nat → Nat} {FT : Nat → Nat} {fSelf : Nat → Int64} {stk : Nat → Int64} {TA : Nat → Nat} {TH : Nat → Nat} {xFc : Nat → Int32} {xFs : Nat → Int32} {xPc : Nat → Int32} {xKo : Nat → Int32} {xPk : Nat → Int32} {tw : Nat → Bool} {te : Nat → Bool} {tc : Nat → Bool} {xSet : Nat → Int64} {S : Nat → Nat} {XH : Nat → Nat} {xHeld : Nat → Int64} {xArg : Nat → Int64} {yCo : Nat → Int32} {yAr : Nat → Int32} {M : Nat → Nat} {yPair : Nat → Int32} {ySeen : Nat → Int32} {ySet : Nat → Int64} {yStay : Nat → Int32} {yArg : Nat → Int64} {yHan : Nat → Int32} {yKept : Nat → Int64} {yGiven : Int32}
variable {o mm : Nat}
theorem ob_after1 (ho : o < 32) (hm : ∀ j, M j ≤ m) (hm2 : m < 2 ^ 31) (hmm : mm ≤ m) : ∀ t j best, t + j = 32 → ob_best M o mm j best → ∃ r, ob_best M o mm 32 r ∧ ∀ post : Int32 → Prop, post r → wY_after_8 post (nI o) (nI mm) (nI n) (nI m) yGiven (nI d) deep (nI b) thr thn res cStr (fun zz => nI (CL zz)) cOp cA cB (fun zz => nI (OK zz)) oKin yCo yAr oOpen (fun zz => nI (M zz)) (fun zz => ob_yf (tw zz) (te zz) (tc zz)) yPair ySeen pVal ySet (fun zz => ob_th (S zz)) yStay aOut aVar yArg (fun zz => nI (FC zz)) (fun zz => nI (FA zz)) (fun zz => nI (FP zz)) (fun zz => nI (FH zz)) yHan (fun zz => nI (FT zz)) (fun zz => nI (TA zz)) (fun zz => nI (TH zz)) fSelf yKept stk (t + 1) best (nI (32 * o + j))
  | 0, j, best, e, hb => by
    have e' : j = 32 := by omega
    subst e'
    refine ⟨best, hb, fun post hp => ?_⟩
    unfold wY_after_8
    rw [show 32 * nI o + 32 = nI (32 * o + 32) from ob_iy o 32]
    exact br_t (Int32.le_refl _) hp
  | t + 1, j, best, e, hb => by
    have e2 : 32 * nI o + 32 = nI (32 * o + 32) := ob_iy o 32
    have hMj := hm (32 * o + j)
    have hn : ¬ nI (32 * o + 32) ≤ nI (32 * o + j) := nI_ge (by omega) (by omega)
    have hin : vp_in (nI (32 * o + j)) 1024 := vp_in_nI (by omega) (by decide)
    have hcl : (nI (32 * o + j)).toNatClampNeg = 32 * o + j := ob_cl (by omega)
    by_cases hle : M (32 * o + j) ≤ mm
    · have hb' : ob_best M o mm (j + 1) best := by
        rcases hb with ⟨h1, h2⟩ | ⟨q, h1, h2, h3, h4⟩
        · refine Or.inl ⟨h1, fun k hk => ?_⟩
          by_cases z : k = j
          · rw [z]; exact hle
          · exact h2 k (by omega)
        · refine Or.inr ⟨q, by omega, h2, h3, fun k hk hk2 => ?_⟩
          by_cases z : k = j
          · rw [z] at hk2; omega
          · exact h4 k (by omega) hk2
      obtain ⟨r, hr, hY⟩ := ob_after1 ho hm hm2 hmm t (j + 1) best (by omega) hb'
      refine ⟨r, hr, fun post hp => ?_⟩
      unfold wY_after_8
      rw [e2]
      refine br_f hn ⟨hin, ?_⟩
      rw [hcl, nI_1]
      exact br_t (nI_le hle (by omega)) (nm_e (hY post hp))
    · have hnle : ¬ nI (M (32 * o + j)) ≤ nI mm := nI_ge (by omega) (by omega)
      have hnew : (∀ k, k < j → mm < M (32 * o + k) → M (32 * o + j) ≤ M (32 * o + k)) → ob_best M o mm (j + 1) (nI (32 * o + j)) := by
        intro h
        refine Or.inr ⟨j, by omega, rfl, by omega, fun k hk hk2 => ?_⟩
        by_cases z : k = j
        · rw [z]; exact Nat.le_refl _
        · exact h k (by omega) hk2
      rcases hb with ⟨rfl, h2⟩ | ⟨q, h1, rfl, h3, h4⟩
      · obtain ⟨r, hr, hY⟩ := ob_after1 ho hm hm2 hmm t (j + 1) _ (by omega) (hnew (fun k hk hk2 => by have := h2 k hk; omega))
        refine ⟨r, hr, fun post hp => ?_⟩
        unfold wY_after_8
        rw [e2]
        refine br_f hn ⟨hin, ?_⟩
        rw [hcl, nI_1]
        exact br_f hnle (br_t (by decide) (nm_e (hY post hp)))
      · have hMq := hm (32 * o + q)
        have hinq : vp_in (nI (32 * o + q)) 1024 := vp_in_nI (by omega) (by decide)
        have hclq : (nI (32 * o + q)).toNatClampNeg = 32 * o + q := ob_cl (by omega)
        by_cases hqj : M (32 * o + q) ≤ M (32 * o + j)
        · obtain ⟨r, hr, hY⟩ := ob_after1 ho hm hm2 hmm t (j + 1) (nI (32 * o + q)) (by omega) (Or.inr ⟨q, by omega, rfl, h3, fun k hk hk2 => by
            by_cases z : k = j
            · rw [z]; exact hqj
            · exact h4 k (by omega) hk2⟩)
          refine ⟨r, hr, fun post hp => ?_⟩
          unfold wY_after_8
          rw [e2]
          refine br_f hn ⟨hin, ?_⟩
          rw [hcl, nI_1]
          refine br_f hnle (br_f (nI_pos (by omega)) ⟨hin, hinq, ?_⟩)
          rw [hclq]
          exact br_t (nI_le hqj (by omega)) (nm_e (hY post hp))
        · obtain ⟨r, hr, hY⟩ := ob_after1 ho hm hm2 hmm t (j + 1) _ (by omega) (hnew (fun k hk hk2 => by have := h4 k hk hk2; omega))
          refine ⟨r, hr, fun post hp => ?_⟩
          unfold wY_after_8
          rw [e2]
          refine br_f hn ⟨hin, ?_⟩
          rw [hcl, nI_1]
          refine br_f hnle (br_f (nI_pos (by omega)) ⟨hin, hinq, ?_⟩)
          rw [hclq]
          exact br_f (nI_ge (by omega) (by omega)) (nm_e (hY post hp))
/-- the slot after a moment -/
theorem ob_after {L : List Nat} {p : Nat} (ho : o < 32) (hm : ∀ j, M j ≤ m) (hm2 : m < 2 ^ 31) (hmm : mm ≤ m) (hL : ob_ord M o L) (hp : ∀ q (hq : q < L.length), M (32 * o + L[q]) ≤ mm ↔ q < p) : ∃ r : Int32, ((∀ x, L[p]? = some x → r = nI (32 * o + x)) ∧ (L.length ≤ p → r = -1)) ∧ ∀ post : Int32 → Prop, post r → wpY_after post (nI n, nI m, yGiven, nI d, deep, nI b, thr, thn, res, cStr, (fun zz => nI (CL zz)), cOp, cA, cB, (fun zz => nI (OK zz)), oKin, yCo, yAr, oOpen, (fun zz => nI (M zz)), (fun zz => ob_yf (tw zz) (te zz) (tc zz)), yPair, ySeen, pVal, ySet, (fun zz => ob_th (S zz)), yStay, aOut, aVar, yArg, (fun zz => nI (FC zz)), (fun zz => nI (FA zz)), (fun zz => nI (FP zz)), (fun zz => nI (FH zz)), yHan, (fun zz => nI (FT zz)), (fun zz => nI (TA zz)), (fun zz => nI (TH zz)), fSelf, yKept, stk) (nI o) (nI mm) := by
  obtain ⟨r, hr, hY⟩ := ob_after1 (n := n) (d := d) (b := b) (m := m) (deep := deep) (res := res) (thr := thr) (thn := thn) (CL := CL) (cStr := cStr) (cOp := cOp) (cA := cA) (cB := cB) (OK := OK) (oKin := oKin) (oOpen := oOpen) (pVal := pVal) (aOut := aOut) (aVar := aVar) (FC := FC) (FA := FA) (FP := FP) (FH := FH) (FT := FT) (fSelf := fSelf) (stk := stk) (TA := TA) (TH := TH) (tw := tw) (te := te) (tc := tc) (S := S) (yCo := yCo) (yAr := yAr) (M := M) (yPair := yPair) (ySeen := ySeen) (ySet := ySet) (yStay := yStay) (yArg := yArg) (yHan := yHan) (yKept := yKept) (yGiven := yGiven) (o := o) (mm := mm) ho hm hm2 hmm 32 0 (-1) rfl (Or.inl ⟨rfl, fun k hk => absurd hk (by omega)⟩)
  refine ⟨r, ob_best_L hL hp hr, fun post hpost => ?_⟩
  unfold wpY_after
  exact nm_r (e' := nI (32 * o)) (pk_mul 32 o) ⟨33, hY post hpost⟩
end
end
section
/-! ===== each ===== -/
def ob_sr (had : Int32) (seen : Nat → Int32) : Prop := ∀ q, q < 32 → (bt had q = false ↔ seen q = 0)
theorem ob_sr_u {had : Int32} {seen : Nat → Int32} {q : Nat} (h : ob_sr had seen) (hq : q < 32) : ob_sr (had ||| ((1 : Int32) <<< (nI q &&& 31))) (upd seen q 1) := by
  intro i hi
  rw [ob_had had hq hi]
  by_cases z : i = q
  · subst z
    rw [pk_us]
    simp
  · rw [pk_un z]
    simp only [z, decide_false, Bool.or_false]
    exact h i hi
section
variable {n : Nat} {d : Nat} {b : Nat} {m : Nat} {deep : Int32} {res : Int64} {thr : Int32} {thn : Int64} {CL : Nat → Nat} {cStr : Nat → Int32} {cOp : Nat → Int32} {cA : Nat → Int32} {cB : Nat → Int32} {OK : Nat → Nat} {oKin : Nat → Int32} {oOpen : Nat → Int32} {pVal : Nat → Int64} {aOut : Nat → Int32} {aVar : Nat → Int64} {FC : Nat → Nat} {FA : Nat → Nat} {FP : Nat → Nat} {FH : Nat → Nat} {FT : Nat → Nat} {fSelf : Nat → Int64} {stk : Nat → Int64} {TA : Nat → Nat} {TH : Nat → Nat} {xFc : Nat → Int32} {xFs : Nat → Int32} {xPc : Nat → Int32} {xKo : Nat → Int32} {xPk : Nat → Int32} {tw : Nat → Bool} {te : Nat → Bool} {tc : Nat → Bool} {xSet : Nat → Int64} {S : Nat → Nat} {XH : Nat → Nat} {xHeld : Nat → Int64} {xArg : Nat → Int64} {yCo : Nat → Int32} {yAr : Nat → Int32} {M : Nat → Nat} {yPair : Nat → Int32} {ySeen : Nat → Int32} {ySet : Nat → Int64} {yStay : Nat → Int32} {yArg : Nat → Int64} {yHan : Nat → Int32} {yKept : Nat → Int64} {yGiven : Int32}
variable {o : Nat}
/-- along the keys of one object: both give one key, or go on to the prototype -/
theorem ob_each1 {L : List Nat} {ix : Int32} (ho : o < n) (hn : n ≤ 32) (hm : ∀ j, M j ≤ m) (hm2 : m < 2 ^ 31) (hL : ob_ord M o L) (hx : ∀ p x, L[p]? = some x → xKo (32 * o + p) = nI x) : ∀ t p (had left s : Int32) (seen : Nat → Int32), t + p = L.length → ob_sr had seen → ((∀ x, L[p]? = some x → s = nI (32 * o + x)) ∧ (L.length ≤ p → s = -1)) →
    (∃ (key : Int32) (seen' : Nat → Int32),
      (∀ (post : Int32 → Prop) (J : Int32 → Int32 → Int32 → Int32 → Prop), post key → wX_each_53 post J (nI o) ix (nI L.length) (nI n) (nI d) (nI b) deep res thr thn (fun zz => nI (CL zz)) cStr cOp cA cB (fun zz => nI (OK zz)) oKin oOpen xFc xFs xPc xKo xPk (fun zz => ob_xa (tw zz) (te zz) (tc zz)) pVal xSet (fun zz => nI (S zz)) aOut aVar (fun zz => nI (FC zz)) (fun zz => nI (FP zz)) (fun zz => nI (FA zz)) (fun zz => nI (FH zz)) (fun zz => nI (XH zz)) (fun zz => nI (FT zz)) fSelf xHeld stk (fun zz => nI (TA zz)) (fun zz => nI (TH zz)) xArg (t + 1) had left (nI p)) ∧
      (∀ (post : Int32 → SY → Prop) J, post key (nI n, nI m, yGiven, nI d, deep, nI b, thr, thn, res, cStr, (fun zz => nI (CL zz)), cOp, cA, cB, (fun zz => nI (OK zz)), oKin, yCo, yAr, oOpen, (fun zz => nI (M zz)), (fun zz => ob_yf (tw zz) (te zz) (tc zz)), yPair, seen', pVal, ySet, (fun zz => ob_th (S zz)), yStay, aOut, aVar, yArg, (fun zz => nI (FC zz)), (fun zz => nI (FA zz)), (fun zz => nI (FP zz)), (fun zz => nI (FH zz)), yHan, (fun zz => nI (FT zz)), (fun zz => nI (TA zz)), (fun zz => nI (TH zz)), fSelf, yKept, stk) → wY_each_65 post J (nI o) (nI n) (nI m) yGiven (nI d) deep (nI b) thr thn res (t + 1) left s cStr (fun zz => nI (CL zz)) cOp cA cB (fun zz => nI (OK zz)) oKin yCo yAr oOpen (fun zz => nI (M zz)) (fun zz => ob_yf (tw zz) (te zz) (tc zz)) yPair seen pVal ySet (fun zz => ob_th (S zz)) yStay aOut aVar yArg (fun zz => nI (FC zz)) (fun zz => nI (FA zz)) (fun zz => nI (FP zz)) (fun zz => nI (FH zz)) yHan (fun zz => nI (FT zz)) (fun zz => nI (TA zz)) (fun zz => nI (TH zz)) fSelf yKept stk)) ∨
    (∃ (had' left' : Int32) (seen' : Nat → Int32), ob_sr had' seen' ∧
      (∀ (post : Int32 → Prop) (J : Int32 → Int32 → Int32 → Int32 → Prop), J had' left' (oKin o) (ix + 1) → wX_each_53 post J (nI o) ix (nI L.length) (nI n) (nI d) (nI b) deep res thr thn (fun zz => nI (CL zz)) cStr cOp cA cB (fun zz => nI (OK zz)) oKin oOpen xFc xFs xPc xKo xPk (fun zz => ob_xa (tw zz) (te zz) (tc zz)) pVal xSet (fun zz => nI (S zz)) aOut aVar (fun zz => nI (FC zz)) (fun zz => nI (FP zz)) (fun zz => nI (FA zz)) (fun zz => nI (FH zz)) (fun zz => nI (XH zz)) (fun zz => nI (FT zz)) fSelf xHeld stk (fun zz => nI (TA zz)) (fun zz => nI (TH zz)) xArg (t + 1) had left (nI p)) ∧
      (∀ (post : Int32 → SY → Prop) J, J left' (oKin o) cStr (fun zz => nI (CL zz)) cOp cA cB (fun zz => nI (OK zz)) oKin yCo yAr oOpen (fun zz => nI (M zz)) (fun zz => ob_yf (tw zz) (te zz) (tc zz)) yPair seen' pVal ySet (fun zz => ob_th (S zz)) yStay aOut aVar yArg (fun zz => nI (FC zz)) (fun zz => nI (FA zz)) (fun zz => nI (FP zz)) (fun zz => nI (FH zz)) yHan (fun zz => nI (FT zz)) (fun zz => nI (TA zz)) (fun zz => nI (TH zz)) fSelf yKept stk → wY_each_65 post J (nI o) (nI n) (nI m) yGiven (nI d) deep (nI b) thr thn res (t + 1) left s cStr (fun zz => nI (CL zz)) cOp cA cB (fun zz => nI (OK zz)) oKin yCo yAr oOpen (fun zz => nI (M zz)) (fun zz => ob_yf (tw zz) (te zz) (tc zz)) yPair seen pVal ySet (fun zz => ob_th (S zz)) yStay aOut aVar yArg (fun zz => nI (FC zz)) (fun zz => nI (FA zz)) (fun zz => nI (FP zz)) (fun zz => nI (FH zz)) yHan (fun zz => nI (FT zz)) (fun zz => nI (TA zz)) (fun zz => nI (TH zz)) fSelf yKept stk)) := by
  have hino : vp_in (nI o) 32 := vp_in_nI (by omega) (by decide)
  have hclo : (nI o).toNatClampNeg = o := ob_cl (by omega)
  have hlen := ob_ord_len hL
  have hsrt := List.pairwise_iff_getElem.mp hL.1
  intro t
  induction t with
  | zero =>
    intro p had left s seen e hsr hs
    have e' : p = L.length := by omega
    subst e'
    have hs1 := hs.2 (Nat.le_refl _)
    subst hs1
    refine Or.inr ⟨had, left, seen, hsr, fun post J hp => ?_, fun post J hp => ?_⟩
    · unfold wX_each_53
      refine br_t (Int32.le_refl _) ⟨hino, ?_⟩
      rw [hclo]
      exact nm_e (nm_e hp)
    · unfold wY_each_65
      refine br_t (by decide) ⟨hino, ?_⟩
      rw [hclo]
      exact nm_e hp
  | succ t ih =>
    intro p had left s seen e hsr hs
    have hpl : p < L.length := by omega
    obtain ⟨key, hkey⟩ : ∃ key, L[p] = key := ⟨_, rfl⟩
    have hpk : L[p]? = some key := by rw [List.getElem?_eq_getElem hpl, hkey]
    have hsk := hs.1 key hpk
    subst hsk
    have hk1 := (hL.2 key).mp (List.mem_of_getElem? hpk)
    have hk32 : key < 32 := hk1.1
    have hxk := hx p key hpk
    have hi : 32 * o + key < 1024 := by omega
    have hin : vp_in (nI (32 * o + key)) 1024 := vp_in_nI hi (by decide)
    have hcl : (nI (32 * o + key)).toNatClampNeg = 32 * o + key := ob_cl hi
    have hinp : vp_in (nI (32 * o + p)) 1024 := vp_in_nI (by omega) (by decide)
    have hclp : (nI (32 * o + p)).toNatClampNeg = 32 * o + p := ob_cl (by omega)
    have hink : vp_in (nI key) 32 := vp_in_nI hk32 (by decide)
    have hclk : (nI key).toNatClampNeg = key := ob_cl (by omega)
    have h32 : ¬ (32 : Int32) = 0 := by decide
    have hrem : nI (32 * o + key) - nI (32 * o + key) / 32 * 32 = nI key := by
      have e := pk_rem (a := 32 * o + key) (d := 32) (by omega) (by decide) (by decide)
      rw [show (32 * o + key) % 32 = key from by omega] at e
      exact e
    have hnp : ¬ nI L.length ≤ nI p := nI_ge hpl (by omega)
    have hMk := hm (32 * o + key)
    obtain ⟨r, hr, hYa⟩ := ob_after (n := n) (d := d) (b := b) (m := m) (deep := deep) (res := res) (thr := thr) (thn := thn) (CL := CL) (cStr := cStr) (cOp := cOp) (cA := cA) (cB := cB) (OK := OK) (oKin := oKin) (oOpen := oOpen) (pVal := pVal) (aOut := aOut) (aVar := aVar) (FC := FC) (FA := FA) (FP := FP) (FH := FH) (FT := FT) (fSelf := fSelf) (stk := stk) (TA := TA) (TH := TH) (tw := tw) (te := te) (tc := tc) (S := S) (yCo := yCo) (yAr := yAr) (M := M) (yPair := yPair) (ySeen := (upd seen key 1)) (ySet := ySet) (yStay := yStay) (yArg := yArg) (yHan := yHan) (yKept := yKept) (yGiven := yGiven) (o := o) (mm := M (32 * o + key)) (L := L) (p := p + 1) (by omega) hm hm2 hMk hL (fun q hq => by
      constructor
      · intro h
        rcases Nat.lt_or_ge q (p + 1) with z | z
        · exact z
        · have := hsrt p q hpl hq (by omega)
          rw [hkey] at this
          omega
      · intro h
        by_cases z : q = p
        · subst z; rw [hkey]; exact Nat.le_refl _
        · have := hsrt q p hq hpl (by omega)
          rw [hkey] at this
          omega)
    /- what the two sides do with the key -/
    have hX0 : ∀ (post : Int32 → Prop) (J : Int32 → Int32 → Int32 → Int32 → Prop) (z0 : Int32), (bt had key = false ∧ z0 = 0 ∨ bt had key = true ∧ z0 = 1) → wX_each_89 post J (wX_each_53 post J (nI o) ix (nI L.length) (nI n) (nI d) (nI b) deep res thr thn (fun zz => nI (CL zz)) cStr cOp cA cB (fun zz => nI (OK zz)) oKin oOpen xFc xFs xPc xKo xPk (fun zz => ob_xa (tw zz) (te zz) (tc zz)) pVal xSet (fun zz => nI (S zz)) aOut aVar (fun zz => nI (FC zz)) (fun zz => nI (FP zz)) (fun zz => nI (FA zz)) (fun zz => nI (FH zz)) (fun zz => nI (XH zz)) (fun zz => nI (FT zz)) fSelf xHeld stk (fun zz => nI (TA zz)) (fun zz => nI (TH zz)) xArg (t + 1)) had left (nI o) ix (nI L.length) (nI p) (nI key) z0 (nI n) (nI d) (nI b) deep res thr thn (fun zz => nI (CL zz)) cStr cOp cA cB (fun zz => nI (OK zz)) oKin oOpen xFc xFs xPc xKo xPk (fun zz => ob_xa (tw zz) (te zz) (tc zz)) pVal xSet (fun zz => nI (S zz)) aOut aVar (fun zz => nI (FC zz)) (fun zz => nI (FP zz)) (fun zz => nI (FA zz)) (fun zz => nI (FH zz)) (fun zz => nI (XH zz)) (fun zz => nI (FT zz)) fSelf xHeld stk (fun zz => nI (TA zz)) (fun zz => nI (TH zz)) xArg → wX_each_53 post J (nI o) ix (nI L.length) (nI n) (nI d) (nI b) deep res thr thn (fun zz => nI (CL zz)) cStr cOp cA cB (fun zz => nI (OK zz)) oKin oOpen xFc xFs xPc xKo xPk (fun zz => ob_xa (tw zz) (te zz) (tc zz)) pVal xSet (fun zz => nI (S zz)) aOut aVar (fun zz => nI (FC zz)) (fun zz => nI (FP zz)) (fun zz => nI (FA zz)) (fun zz => nI (FH zz)) (fun zz => nI (XH zz)) (fun zz => nI (FT zz)) fSelf xHeld stk (fun zz => nI (TA zz)) (fun zz => nI (TH zz)) xArg (t + 1 + 1) had left (nI p) := by
      intro post J z0 hz h
      unfold wX_each_53
      refine br_f hnp ?_
      rw [ob_ix, hclp, hxk]
      refine ⟨hinp, nm_e ?_⟩
      rcases hz with ⟨hb, rfl⟩ | ⟨hb, rfl⟩
      · exact br_t ((ob_hid had hk32).mpr hb) h
      · exact br_f (fun y => absurd (hb.symm.trans ((ob_hid had hk32).mp y)) (by decide)) h
    have hY121 : ∀ (post : Int32 → SY → Prop) J (left' : Int32), wY_each_65 post J (nI o) (nI n) (nI m) yGiven (nI d) deep (nI b) thr thn res (t + 1) left' r cStr (fun zz => nI (CL zz)) cOp cA cB (fun zz => nI (OK zz)) oKin yCo yAr oOpen (fun zz => nI (M zz)) (fun zz => ob_yf (tw zz) (te zz) (tc zz)) yPair (upd seen key 1) pVal ySet (fun zz => ob_th (S zz)) yStay aOut aVar yArg (fun zz => nI (FC zz)) (fun zz => nI (FA zz)) (fun zz => nI (FP zz)) (fun zz => nI (FH zz)) yHan (fun zz => nI (FT zz)) (fun zz => nI (TA zz)) (fun zz => nI (TH zz)) fSelf yKept stk → wY_each_121 post J (wY_each_65 post J (nI o) (nI n) (nI m) yGiven (nI d) deep (nI b) thr thn res (t + 1)) left' (nI o) (nI (32 * o + key)) (nI n) (nI m) yGiven (nI d) deep (nI b) thr thn res cStr (fun zz => nI (CL zz)) cOp cA cB (fun zz => nI (OK zz)) oKin yCo yAr oOpen (fun zz => nI (M zz)) (fun zz => ob_yf (tw zz) (te zz) (tc zz)) yPair seen pVal ySet (fun zz => ob_th (S zz)) yStay aOut aVar yArg (fun zz => nI (FC zz)) (fun zz => nI (FA zz)) (fun zz => nI (FP zz)) (fun zz => nI (FH zz)) yHan (fun zz => nI (FT zz)) (fun zz => nI (TA zz)) (fun zz => nI (TH zz)) fSelf yKept stk := by
      intro post J left' h
      unfold wY_each_121
      rw [hrem, hclk, hcl]
      exact ⟨h32, hink, nm_r (e' := upd seen key 1) rfl ⟨hin, hYa _ h⟩⟩
    have hY0 : ∀ (post : Int32 → SY → Prop) J, ((((seen key) = 0 → (vp_in (nI (32 * o + key)) 1024 ∧ ((((ob_yf (tw (32 * o + key)) (te (32 * o + key)) (tc (32 * o + key)) &&& 16) = 0 → (wY_each_100 post J (wY_each_65 post J (nI o) (nI n) (nI m) yGiven (nI d) deep (nI b) thr thn res (t + 1)) left (nI o) (nI (32 * o + key)) (nI n) (nI m) yGiven (nI d) deep (nI b) thr thn res cStr (fun zz => nI (CL zz)) cOp cA cB (fun zz => nI (OK zz)) oKin yCo yAr oOpen (fun zz => nI (M zz)) (fun zz => ob_yf (tw zz) (te zz) (tc zz)) yPair seen pVal ySet (fun zz => ob_th (S zz)) yStay aOut aVar yArg (fun zz => nI (FC zz)) (fun zz => nI (FA zz)) (fun zz => nI (FP zz)) (fun zz => nI (FH zz)) yHan (fun zz => nI (FT zz)) (fun zz => nI (TA zz)) (fun zz => nI (TH zz)) fSelf yKept stk)) ∧ (¬ (ob_yf (tw (32 * o + key)) (te (32 * o + key)) (tc (32 * o + key)) &&& 16) = 0 → (wY_each_101 post J (wY_each_65 post J (nI o) (nI n) (nI m) yGiven (nI d) deep (nI b) thr thn res (t + 1)) left (nI o) (nI (32 * o + key)) 1 (nI n) (nI m) yGiven (nI d) deep (nI b) thr thn res cStr (fun zz => nI (CL zz)) cOp cA cB (fun zz => nI (OK zz)) oKin yCo yAr oOpen (fun zz => nI (M zz)) (fun zz => ob_yf (tw zz) (te zz) (tc zz)) yPair seen pVal ySet (fun zz => ob_th (S zz)) yStay aOut aVar yArg (fun zz => nI (FC zz)) (fun zz => nI (FA zz)) (fun zz => nI (FP zz)) (fun zz => nI (FH zz)) yHan (fun zz => nI (FT zz)) (fun zz => nI (TA zz)) (fun zz => nI (TH zz)) fSelf yKept stk)))))) ∧ (¬ (seen key) = 0 → (wY_each_100 post J (wY_each_65 post J (nI o) (nI n) (nI m) yGiven (nI d) deep (nI b) thr thn res (t + 1)) left (nI o) (nI (32 * o + key)) (nI n) (nI m) yGiven (nI d) deep (nI b) thr thn res cStr (fun zz => nI (CL zz)) cOp cA cB (fun zz => nI (OK zz)) oKin yCo yAr oOpen (fun zz => nI (M zz)) (fun zz => ob_yf (tw zz) (te zz) (tc zz)) yPair seen pVal ySet (fun zz => ob_th (S zz)) yStay aOut aVar yArg (fun zz => nI (FC zz)) (fun zz => nI (FA zz)) (fun zz => nI (FP zz)) (fun zz => nI (FH zz)) yHan (fun zz => nI (FT zz)) (fun zz => nI (TA zz)) (fun zz => nI (TH zz)) fSelf yKept stk)))) → wY_each_65 post J (nI o) (nI n) (nI m) yGiven (nI d) deep (nI b) thr thn res (t + 1 + 1) left (nI (32 * o + key)) cStr (fun zz => nI (CL zz)) cOp cA cB (fun zz => nI (OK zz)) oKin yCo yAr oOpen (fun zz => nI (M zz)) (fun zz => ob_yf (tw zz) (te zz) (tc zz)) yPair seen pVal ySet (fun zz => ob_th (S zz)) yStay aOut aVar yArg (fun zz => nI (FC zz)) (fun zz => nI (FA zz)) (fun zz => nI (FP zz)) (fun zz => nI (FH zz)) yHan (fun zz => nI (FT zz)) (fun zz => nI (TA zz)) (fun zz => nI (TH zz)) fSelf yKept stk := by
      intro post J h
      unfold wY_each_65
      rw [hrem, hclk, hcl]
      exact br_f (nI_pos (by omega)) ⟨h32, hink, h⟩
    have hgo : ∀ left' : Int32, (∀ (post : Int32 → Prop) (J : Int32 → Int32 → Int32 → Int32 → Prop), wX_each_53 post J (nI o) ix (nI L.length) (nI n) (nI d) (nI b) deep res thr thn (fun zz => nI (CL zz)) cStr cOp cA cB (fun zz => nI (OK zz)) oKin oOpen xFc xFs xPc xKo xPk (fun zz => ob_xa (tw zz) (te zz) (tc zz)) pVal xSet (fun zz => nI (S zz)) aOut aVar (fun zz => nI (FC zz)) (fun zz => nI (FP zz)) (fun zz => nI (FA zz)) (fun zz => nI (FH zz)) (fun zz => nI (XH zz)) (fun zz => nI (FT zz)) fSelf xHeld stk (fun zz => nI (TA zz)) (fun zz => nI (TH zz)) xArg (t + 1) (had ||| ((1 : Int32) <<< (nI key &&& 31))) left' (nI (p + 1)) → wX_each_53 post J (nI o) ix (nI L.length) (nI n) (nI d) (nI b) deep res thr thn (fun zz => nI (CL zz)) cStr cOp cA cB (fun zz => nI (OK zz)) oKin oOpen xFc xFs xPc xKo xPk (fun zz => ob_xa (tw zz) (te zz) (tc zz)) pVal xSet (fun zz => nI (S zz)) aOut aVar (fun zz => nI (FC zz)) (fun zz => nI (FP zz)) (fun zz => nI (FA zz)) (fun zz => nI (FH zz)) (fun zz => nI (XH zz)) (fun zz => nI (FT zz)) fSelf xHeld stk (fun zz => nI (TA zz)) (fun zz => nI (TH zz)) xArg (t + 1 + 1) had left (nI p)) →
        (∀ (post : Int32 → SY → Prop) J, wY_each_65 post J (nI o) (nI n) (nI m) yGiven (nI d) deep (nI b) thr thn res (t + 1) left' r cStr (fun zz => nI (CL zz)) cOp cA cB (fun zz => nI (OK zz)) oKin yCo yAr oOpen (fun zz => nI (M zz)) (fun zz => ob_yf (tw zz) (te zz) (tc zz)) yPair (upd seen key 1) pVal ySet (fun zz => ob_th (S zz)) yStay aOut aVar yArg (fun zz => nI (FC zz)) (fun zz => nI (FA zz)) (fun zz => nI (FP zz)) (fun zz => nI (FH zz)) yHan (fun zz => nI (FT zz)) (fun zz => nI (TA zz)) (fun zz => nI (TH zz)) fSelf yKept stk → wY_each_65 post J (nI o) (nI n) (nI m) yGiven (nI d) deep (nI b) thr thn res (t + 1 + 1) left (nI (32 * o + key)) cStr (fun zz => nI (CL zz)) cOp cA cB (fun zz => nI (OK zz)) oKin yCo yAr oOpen (fun zz => nI (M zz)) (fun zz => ob_yf (tw zz) (te zz) (tc zz)) yPair seen pVal ySet (fun zz => ob_th (S zz)) yStay aOut aVar yArg (fun zz => nI (FC zz)) (fun zz => nI (FA zz)) (fun zz => nI (FP zz)) (fun zz => nI (FH zz)) yHan (fun zz => nI (FT zz)) (fun zz => nI (TA zz)) (fun zz => nI (TH zz)) fSelf yKept stk) →
        (∃ (key' : Int32) (seen' : Nat → Int32),
          (∀ (post : Int32 → Prop) (J : Int32 → Int32 → Int32 → Int32 → Prop), post key' → wX_each_53 post J (nI o) ix (nI L.length) (nI n) (nI d) (nI b) deep res thr thn (fun zz => nI (CL zz)) cStr cOp cA cB (fun zz => nI (OK zz)) oKin oOpen xFc xFs xPc xKo xPk (fun zz => ob_xa (tw zz) (te zz) (tc zz)) pVal xSet (fun zz => nI (S zz)) aOut aVar (fun zz => nI (FC zz)) (fun zz => nI (FP zz)) (fun zz => nI (FA zz)) (fun zz => nI (FH zz)) (fun zz => nI (XH zz)) (fun zz => nI (FT zz)) fSelf xHeld stk (fun zz => nI (TA zz)) (fun zz => nI (TH zz)) xArg (t + 1 + 1) had left (nI p)) ∧
          (∀ (post : Int32 → SY → Prop) J, post key' (nI n, nI m, yGiven, nI d, deep, nI b, thr, thn, res, cStr, (fun zz => nI (CL zz)), cOp, cA, cB, (fun zz => nI (OK zz)), oKin, yCo, yAr, oOpen, (fun zz => nI (M zz)), (fun zz => ob_yf (tw zz) (te zz) (tc zz)), yPair, seen', pVal, ySet, (fun zz => ob_th (S zz)), yStay, aOut, aVar, yArg, (fun zz => nI (FC zz)), (fun zz => nI (FA zz)), (fun zz => nI (FP zz)), (fun zz => nI (FH zz)), yHan, (fun zz => nI (FT zz)), (fun zz => nI (TA zz)), (fun zz => nI (TH zz)), fSelf, yKept, stk) → wY_each_65 post J (nI o) (nI n) (nI m) yGiven (nI d) deep (nI b) thr thn res (t + 1 + 1) left (nI (32 * o + key)) cStr (fun zz => nI (CL zz)) cOp cA cB (fun zz => nI (OK zz)) oKin yCo yAr oOpen (fun zz => nI (M zz)) (fun zz => ob_yf (tw zz) (te zz) (tc zz)) yPair seen pVal ySet (fun zz => ob_th (S zz)) yStay aOut aVar yArg (fun zz => nI (FC zz)) (fun zz => nI (FA zz)) (fun zz => nI (FP zz)) (fun zz => nI (FH zz)) yHan (fun zz => nI (FT zz)) (fun zz => nI (TA zz)) (fun zz => nI (TH zz)) fSelf yKept stk)) ∨
        (∃ (had' left' : Int32) (seen' : Nat → Int32), ob_sr had' seen' ∧
          (∀ (post : Int32 → Prop) (J : Int32 → Int32 → Int32 → Int32 → Prop), J had' left' (oKin o) (ix + 1) → wX_each_53 post J (nI o) ix (nI L.length) (nI n) (nI d) (nI b) deep res thr thn (fun zz => nI (CL zz)) cStr cOp cA cB (fun zz => nI (OK zz)) oKin oOpen xFc xFs xPc xKo xPk (fun zz => ob_xa (tw zz) (te zz) (tc zz)) pVal xSet (fun zz => nI (S zz)) aOut aVar (fun zz => nI (FC zz)) (fun zz => nI (FP zz)) (fun zz => nI (FA zz)) (fun zz => nI (FH zz)) (fun zz => nI (XH zz)) (fun zz => nI (FT zz)) fSelf xHeld stk (fun zz => nI (TA zz)) (fun zz => nI (TH zz)) xArg (t + 1 + 1) had left (nI p)) ∧
          (∀ (post : Int32 → SY → Prop) J, J left' (oKin o) cStr (fun zz => nI (CL zz)) cOp cA cB (fun zz => nI (OK zz)) oKin yCo yAr oOpen (fun zz => nI (M zz)) (fun zz => ob_yf (tw zz) (te zz) (tc zz)) yPair seen' pVal ySet (fun zz => ob_th (S zz)) yStay aOut aVar yArg (fun zz => nI (FC zz)) (fun zz => nI (FA zz)) (fun zz => nI (FP zz)) (fun zz => nI (FH zz)) yHan (fun zz => nI (FT zz)) (fun zz => nI (TA zz)) (fun zz => nI (TH zz)) fSelf yKept stk → wY_each_65 post J (nI o) (nI n) (nI m) yGiven (nI d) deep (nI b) thr thn res (t + 1 + 1) left (nI (32 * o + key)) cStr (fun zz => nI (CL zz)) cOp cA cB (fun zz => nI (OK zz)) oKin yCo yAr oOpen (fun zz => nI (M zz)) (fun zz => ob_yf (tw zz) (te zz) (tc zz)) yPair seen pVal ySet (fun zz => ob_th (S zz)) yStay aOut aVar yArg (fun zz => nI (FC zz)) (fun zz => nI (FA zz)) (fun zz => nI (FP zz)) (fun zz => nI (FH zz)) yHan (fun zz => nI (FT zz)) (fun zz => nI (TA zz)) (fun zz => nI (TH zz)) fSelf yKept stk)) := by
      intro left' hXg hYg
      rcases ih (p + 1) (had ||| ((1 : Int32) <<< (nI key &&& 31))) left' r (upd seen key 1) (by omega) (ob_sr_u hsr hk32) hr with ⟨key', seen', h1, h2⟩ | ⟨had', left2, seen', h0, h1, h2⟩
      · exact Or.inl ⟨key', seen', fun post J hp => hXg post J (h1 post J hp), fun post J hp => hYg post J (h2 post J hp)⟩
      · exact Or.inr ⟨had', left2, seen', h0, fun post J hp => hXg post J (h1 post J hp), fun post J hp => hYg post J (h2 post J hp)⟩
    cases hb : bt had key
    · have hse : seen key = 0 := (hsr key hk32).mp hb
      cases hte : te (32 * o + key)
      · refine hgo left (fun post J h => hX0 post J 0 (Or.inl ⟨hb, rfl⟩) ?_) (fun post J h => hY0 post J (br_t hse ⟨hin, br_t ((ob_yfE _ _ _).mpr hte) ?_⟩))
        · unfold wX_each_89
          refine nm_e (br_t rfl ?_)
          rw [ob_ix, hcl]
          refine ⟨hin, br_t ((ob_xaE _ _ _).mpr hte) ?_⟩
          rw [nI_1]
          exact nm_e h
        · unfold wY_each_100 wY_each_101
          exact br_t rfl (hY121 post J left h)
      · by_cases hl0 : left = 0
        · refine Or.inl ⟨nI key, seen, fun post J h => hX0 post J 0 (Or.inl ⟨hb, rfl⟩) ?_, fun post J h => hY0 post J (br_t hse ⟨hin, br_f (fun y => absurd (hte.symm.trans ((ob_yfE _ _ _).mp y)) (by decide)) ?_⟩)⟩
          · unfold wX_each_89
            refine nm_e (br_t rfl ?_)
            rw [ob_ix, hcl]
            exact ⟨hin, br_f (fun y => absurd (hte.symm.trans ((ob_xaE _ _ _).mp y)) (by decide)) (br_t hl0 h)⟩
          · unfold wY_each_101
            rw [hrem]
            exact br_f (by decide) (nm_e (br_t hl0 ⟨h32, h⟩))
        · refine hgo (left + (-1)) (fun post J h => hX0 post J 0 (Or.inl ⟨hb, rfl⟩) ?_) (fun post J h => hY0 post J (br_t hse ⟨hin, br_f (fun y => absurd (hte.symm.trans ((ob_yfE _ _ _).mp y)) (by decide)) ?_⟩))
          · unfold wX_each_89
            refine nm_e (br_t rfl ?_)
            rw [ob_ix, hcl]
            refine ⟨hin, br_f (fun y => absurd (hte.symm.trans ((ob_xaE _ _ _).mp y)) (by decide)) (br_f hl0 ?_)⟩
            rw [nI_1]
            exact nm_e (nm_e h)
          · unfold wY_each_101
            exact br_f (by decide) (nm_e (br_f hl0 (hY121 post J _ h)))
    · have hse : ¬ seen key = 0 := fun z => absurd (hb.symm.trans ((hsr key hk32).mpr z)) (by decide)
      refine hgo left (fun post J h => hX0 post J 1 (Or.inr ⟨hb, rfl⟩) ?_) (fun post J h => hY0 post J (br_f hse ?_))
      · unfold wX_each_89
        refine nm_e (br_f (by decide) ?_)
        rw [nI_1]
        exact nm_e h
      · unfold wY_each_100 wY_each_101
        exact br_t rfl (hY121 post J left h)
end
end
section
/-! ===== each: along the prototypes ===== -/
def ob_zs (f : Nat → Int32) (j : Nat) : Nat → Int32 := fun i => if i < j then 0 else f i
theorem ob_zs_0 (f : Nat → Int32) : ob_zs f 0 = f := by
  funext i; unfold ob_zs; rw [if_neg (by omega)]
theorem ob_zs_s (f : Nat → Int32) (j : Nat) : upd (ob_zs f j) j 0 = ob_zs f (j + 1) := by
  funext i
  unfold upd ob_zs
  by_cases h : i = j
  · rw [if_pos h, if_pos (by omega)]
  · rw [if_neg h]
    by_cases h2 : i < j
    · rw [if_pos h2, if_pos (by omega)]
    · rw [if_neg h2, if_neg (by omega)]
section
variable {n : Nat} {d : Nat} {b : Nat} {m : Nat} {deep : Int32} {res : Int64} {thr : Int32} {thn : Int64} {CL : Nat → Nat} {cStr : Nat → Int32} {cOp : Nat → Int32} {cA : Nat → Int32} {cB : Nat → Int32} {OK : Nat → Nat} {oKin : Nat → Int32} {oOpen : Nat → Int32} {pVal : Nat → Int64} {aOut : Nat → Int32} {aVar : Nat → Int64} {FC : Nat → Nat} {FA : Nat → Nat} {FP : Nat → Nat} {FH : Nat → Nat} {FT : Nat → Nat} {fSelf : Nat → Int64} {stk : Nat → Int64} {TA : Nat → Nat} {TH : Nat → Nat} {xFc : Nat → Int32} {xFs : Nat → Int32} {xPc : Nat → Int32} {xKo : Nat → Int32} {xPk : Nat → Int32} {tw : Nat → Bool} {te : Nat → Bool} {tc : Nat → Bool} {xSet : Nat → Int64} {S : Nat → Nat} {XH : Nat → Nat} {xHeld : Nat → Int64} {xArg : Nat → Int64} {yCo : Nat → Int32} {yAr : Nat → Int32} {M : Nat → Nat} {yPair : Nat → Int32} {ySeen : Nat → Int32} {ySet : Nat → Int64} {yStay : Nat → Int32} {yArg : Nat → Int64} {yHan : Nat → Int32} {yKept : Nat → Int64} {yGiven : Int32}
theorem ob_each2 (hO : ob_gO n OK oKin) (hm : ∀ j, M j ≤ m) (hm2 : m < 2 ^ 31) (hGL : ob_gL n M xPc xKo) : ∀ o, o < n → ∀ (i : Nat) (had left : Int32) (seen : Nat → Int32), i + o ≤ 31 → ob_sr had seen → ∃ (r : Int32) (seen' : Nat → Int32),
    (∀ post : Int32 → Prop, post r → ∀ f, o + 2 ≤ f → wX_each_29 post (nI n) (nI d) (nI b) deep res thr thn (fun zz => nI (CL zz)) cStr cOp cA cB (fun zz => nI (OK zz)) oKin oOpen xFc xFs xPc xKo xPk (fun zz => ob_xa (tw zz) (te zz) (tc zz)) pVal xSet (fun zz => nI (S zz)) aOut aVar (fun zz => nI (FC zz)) (fun zz => nI (FP zz)) (fun zz => nI (FA zz)) (fun zz => nI (FH zz)) (fun zz => nI (XH zz)) (fun zz => nI (FT zz)) fSelf xHeld stk (fun zz => nI (TA zz)) (fun zz => nI (TH zz)) xArg f had left (nI o) (nI i)) ∧
    (∀ post : Int32 → SY → Prop, post r (nI n, nI m, yGiven, nI d, deep, nI b, thr, thn, res, cStr, (fun zz => nI (CL zz)), cOp, cA, cB, (fun zz => nI (OK zz)), oKin, yCo, yAr, oOpen, (fun zz => nI (M zz)), (fun zz => ob_yf (tw zz) (te zz) (tc zz)), yPair, seen', pVal, ySet, (fun zz => ob_th (S zz)), yStay, aOut, aVar, yArg, (fun zz => nI (FC zz)), (fun zz => nI (FA zz)), (fun zz => nI (FP zz)), (fun zz => nI (FH zz)), yHan, (fun zz => nI (FT zz)), (fun zz => nI (TA zz)), (fun zz => nI (TH zz)), fSelf, yKept, stk) → ∀ f, o + 2 ≤ f → wY_each_51 post (nI n) (nI m) yGiven (nI d) deep (nI b) thr thn res f left (nI o) cStr (fun zz => nI (CL zz)) cOp cA cB (fun zz => nI (OK zz)) oKin yCo yAr oOpen (fun zz => nI (M zz)) (fun zz => ob_yf (tw zz) (te zz) (tc zz)) yPair seen pVal ySet (fun zz => ob_th (S zz)) yStay aOut aVar yArg (fun zz => nI (FC zz)) (fun zz => nI (FA zz)) (fun zz => nI (FP zz)) (fun zz => nI (FH zz)) yHan (fun zz => nI (FT zz)) (fun zz => nI (TA zz)) (fun zz => nI (TH zz)) fSelf yKept stk) := by
  intro o
  induction o using Nat.strongRecOn with
  | ind o ih =>
    intro ho i had left seen hi hsr
    have hn := hO.1.2
    obtain ⟨L, hl1, hl2, hl3⟩ := hGL o ho
    have hino : vp_in (nI o) 32 := vp_in_nI (by omega) (by decide)
    have hclo : (nI o).toNatClampNeg = o := ob_cl (by omega)
    have hni : ¬ (32 : Int32) ≤ nI i := nI_ge (b := 32) (by omega) (by decide)
    obtain ⟨s, hs, hYa⟩ := ob_after (n := n) (d := d) (b := b) (m := m) (deep := deep) (res := res) (thr := thr) (thn := thn) (CL := CL) (cStr := cStr) (cOp := cOp) (cA := cA) (cB := cB) (OK := OK) (oKin := oKin) (oOpen := oOpen) (pVal := pVal) (aOut := aOut) (aVar := aVar) (FC := FC) (FA := FA) (FP := FP) (FH := FH) (FT := FT) (fSelf := fSelf) (stk := stk) (TA := TA) (TH := TH) (tw := tw) (te := te) (tc := tc) (S := S) (yCo := yCo) (yAr := yAr) (M := M) (yPair := yPair) (ySeen := seen) (ySet := ySet) (yStay := yStay) (yArg := yArg) (yHan := yHan) (yKept := yKept) (yGiven := yGiven) (o := o) (mm := 0) (L := L) (p := 0) (by omega) hm hm2 (by omega) hl3 (fun q hq => by
      have := ((hl3.2 L[q]).mp (List.getElem_mem hq)).2
      constructor
      · intro h; omega
      · intro h; omega)
    have hXs : ∀ (post : Int32 → Prop) (f : Nat), wX_each_53 post (wX_each_29 post (nI n) (nI d) (nI b) deep res thr thn (fun zz => nI (CL zz)) cStr cOp cA cB (fun zz => nI (OK zz)) oKin oOpen xFc xFs xPc xKo xPk (fun zz => ob_xa (tw zz) (te zz) (tc zz)) pVal xSet (fun zz => nI (S zz)) aOut aVar (fun zz => nI (FC zz)) (fun zz => nI (FP zz)) (fun zz => nI (FA zz)) (fun zz => nI (FH zz)) (fun zz => nI (XH zz)) (fun zz => nI (FT zz)) fSelf xHeld stk (fun zz => nI (TA zz)) (fun zz => nI (TH zz)) xArg f) (nI o) (nI i) (nI L.length) (nI n) (nI d) (nI b) deep res thr thn (fun zz => nI (CL zz)) cStr cOp cA cB (fun zz => nI (OK zz)) oKin oOpen xFc xFs xPc xKo xPk (fun zz => ob_xa (tw zz) (te zz) (tc zz)) pVal xSet (fun zz => nI (S zz)) aOut aVar (fun zz => nI (FC zz)) (fun zz => nI (FP zz)) (fun zz => nI (FA zz)) (fun zz => nI (FH zz)) (fun zz => nI (XH zz)) (fun zz => nI (FT zz)) fSelf xHeld stk (fun zz => nI (TA zz)) (fun zz => nI (TH zz)) xArg (L.length + 1) had left (nI 0) → wX_each_29 post (nI n) (nI d) (nI b) deep res thr thn (fun zz => nI (CL zz)) cStr cOp cA cB (fun zz => nI (OK zz)) oKin oOpen xFc xFs xPc xKo xPk (fun zz => ob_xa (tw zz) (te zz) (tc zz)) pVal xSet (fun zz => nI (S zz)) aOut aVar (fun zz => nI (FC zz)) (fun zz => nI (FP zz)) (fun zz => nI (FA zz)) (fun zz => nI (FH zz)) (fun zz => nI (XH zz)) (fun zz => nI (FT zz)) fSelf xHeld stk (fun zz => nI (TA zz)) (fun zz => nI (TH zz)) xArg (f + 1) had left (nI o) (nI i) := by
      intro post f h
      unfold wX_each_29
      refine br_f hni (br_f (nI_pos (by omega)) ⟨hino, ?_⟩)
      rw [hclo, hl1]
      exact nm_e ⟨L.length + 1, h⟩
    have hYs : ∀ (post : Int32 → SY → Prop) (f : Nat), wY_each_65 post (wY_each_51 post (nI n) (nI m) yGiven (nI d) deep (nI b) thr thn res f) (nI o) (nI n) (nI m) yGiven (nI d) deep (nI b) thr thn res (L.length + 1) left s cStr (fun zz => nI (CL zz)) cOp cA cB (fun zz => nI (OK zz)) oKin yCo yAr oOpen (fun zz => nI (M zz)) (fun zz => ob_yf (tw zz) (te zz) (tc zz)) yPair seen pVal ySet (fun zz => ob_th (S zz)) yStay aOut aVar yArg (fun zz => nI (FC zz)) (fun zz => nI (FA zz)) (fun zz => nI (FP zz)) (fun zz => nI (FH zz)) yHan (fun zz => nI (FT zz)) (fun zz => nI (TA zz)) (fun zz => nI (TH zz)) fSelf yKept stk → wY_each_51 post (nI n) (nI m) yGiven (nI d) deep (nI b) thr thn res (f + 1) left (nI o) cStr (fun zz => nI (CL zz)) cOp cA cB (fun zz => nI (OK zz)) oKin yCo yAr oOpen (fun zz => nI (M zz)) (fun zz => ob_yf (tw zz) (te zz) (tc zz)) yPair seen pVal ySet (fun zz => ob_th (S zz)) yStay aOut aVar yArg (fun zz => nI (FC zz)) (fun zz => nI (FA zz)) (fun zz => nI (FP zz)) (fun zz => nI (FH zz)) yHan (fun zz => nI (FT zz)) (fun zz => nI (TA zz)) (fun zz => nI (TH zz)) fSelf yKept stk := by
      intro post f h
      unfold wY_each_51
      exact br_f (nI_pos (by omega)) (hYa _ ⟨L.length + 1, h⟩)
    rcases ob_each1 (n := n) (d := d) (b := b) (m := m) (deep := deep) (res := res) (thr := thr) (thn := thn) (CL := CL) (cStr := cStr) (cOp := cOp) (cA := cA) (cB := cB) (OK := OK) (oKin := oKin) (oOpen := oOpen) (pVal := pVal) (aOut := aOut) (aVar := aVar) (FC := FC) (FA := FA) (FP := FP) (FH := FH) (FT := FT) (fSelf := fSelf) (stk := stk) (TA := TA) (TH := TH) (xFc := xFc) (xFs := xFs) (xPc := xPc) (xKo := xKo) (xPk := xPk) (tw := tw) (te := te) (tc := tc) (xSet := xSet) (S := S) (XH := XH) (xHeld := xHeld) (xArg := xArg) (yCo := yCo) (yAr := yAr) (M := M) (yPair := yPair) (ySet := ySet) (yStay := yStay) (yArg := yArg) (yHan := yHan) (yKept := yKept) (yGiven := yGiven) (o := o) (ix := nI i) ho hn hm hm2 hl3 hl2 L.length 0 had left s seen rfl hsr hs with ⟨key, seen', h1, h2⟩ | ⟨had', left', seen', h0, h1, h2⟩
    · refine ⟨key, seen', fun post hp f hf => ?_, fun post hp f hf => ?_⟩
      · obtain ⟨f, rfl⟩ : ∃ q, f = q + 1 := ⟨f - 1, by omega⟩
        exact hXs post f (h1 post _ hp)
      · obtain ⟨f, rfl⟩ : ∃ q, f = q + 1 := ⟨f - 1, by omega⟩
        exact hYs post f (h2 post _ hp)
    · rcases (hO.2 o ho).2 with ek | ⟨p, hp, ek⟩
      · rw [ek] at h1 h2
        refine ⟨-1, seen', fun post hp f hf => ?_, fun post hp f hf => ?_⟩
        · obtain ⟨f, rfl⟩ : ∃ q, f = q + 2 := ⟨f - 2, by omega⟩
          refine hXs post (f + 1) (h1 post _ ?_)
          unfold wX_each_29
          exact br_c (fun _ => hp) (fun _ => br_t (by decide) hp)
        · obtain ⟨f, rfl⟩ : ∃ q, f = q + 2 := ⟨f - 2, by omega⟩
          refine hYs post (f + 1) (h2 post _ ?_)
          unfold wY_each_51
          exact br_t (by decide) hp
      · rw [ek] at h1 h2
        obtain ⟨r, seen2, hX2, hY2⟩ := ih p hp (by omega) (i + 1) had' left' seen' (by omega) h0
        refine ⟨r, seen2, fun post hp f hf => ?_, fun post hp f hf => ?_⟩
        · obtain ⟨f, rfl⟩ : ∃ q, f = q + 1 := ⟨f - 1, by omega⟩
          refine hXs post f (h1 post _ ?_)
          rw [nI_1]
          exact hX2 post hp f (by omega)
        · obtain ⟨f, rfl⟩ : ∃ q, f = q + 1 := ⟨f - 1, by omega⟩
          exact hYs post f (h2 post _ (hY2 post hp f (by omega)))
theorem ob_each5 {x1 x2 x3 : Int32} (post : Int32 → SY → Prop) (hp : wY_each_5 post x1 x2 x3 (nI n) (nI m) yGiven (nI d) deep (nI b) thr thn res 1 (nI 32) cStr (fun zz => nI (CL zz)) cOp cA cB (fun zz => nI (OK zz)) oKin yCo yAr oOpen (fun zz => nI (M zz)) (fun zz => ob_yf (tw zz) (te zz) (tc zz)) yPair (ob_zs ySeen 32) pVal ySet (fun zz => ob_th (S zz)) yStay aOut aVar yArg (fun zz => nI (FC zz)) (fun zz => nI (FA zz)) (fun zz => nI (FP zz)) (fun zz => nI (FH zz)) yHan (fun zz => nI (FT zz)) (fun zz => nI (TA zz)) (fun zz => nI (TH zz)) fSelf yKept stk) : ∀ t j, t + j = 32 → wY_each_5 post x1 x2 x3 (nI n) (nI m) yGiven (nI d) deep (nI b) thr thn res (t + 1) (nI j) cStr (fun zz => nI (CL zz)) cOp cA cB (fun zz => nI (OK zz)) oKin yCo yAr oOpen (fun zz => nI (M zz)) (fun zz => ob_yf (tw zz) (te zz) (tc zz)) yPair (ob_zs ySeen j) pVal ySet (fun zz => ob_th (S zz)) yStay aOut aVar yArg (fun zz => nI (FC zz)) (fun zz => nI (FA zz)) (fun zz => nI (FP zz)) (fun zz => nI (FH zz)) yHan (fun zz => nI (FT zz)) (fun zz => nI (TA zz)) (fun zz => nI (TH zz)) fSelf yKept stk
  | 0, j, e => by
    have e' : j = 32 := by omega
    subst e'
    exact hp
  | t + 1, j, e => by
    have ih := ob_each5 post hp t (j + 1) (by omega)
    have hn : ¬ 32 ≤ j := by omega
    unfold wY_each_5
    simp (disch := first | omega | decide) only [hn, ob_nar0, ob_zs_s, forall_eq, not_true, not_false_iff, false_implies, true_implies, true_and, and_true, ob_sub1, Nat.add_sub_cancel, nI_1, ob_ix, ob_iy, ob_ix24, ob_iy24, ob_ix10, ob_iy10, ob_ix4, ob_iy4, ob_ix3, ob_iy3, ob_s1, ob_s2, ob_s3, ob_s4, ob_ltl, ob_lel, ob_eql, ob_ltr, ob_ler, ob_uN, Nat.add_one_ne_zero, ob_xs3, ob_lnn, ob_ltn, ob_eqn, Nat.not_lt_zero, Nat.zero_le, Nat.reduceEqDiff, Nat.reduceLeDiff, Nat.reduceLT, ob_eqll, Int32.reduceLT, Int32.reduceLE, eq_self_iff_true]
    exact ih
end
theorem i_vc_each {k : Nat} {u : SX} {v : SY} (I : i_Rel k u v) (hk : k + 6 ≤ 3072) (v1 : Int32) (v2 : Int32) : wpX_each (fun r => wpY_each (fun r' v' => r' = r ∧ i_Rel (k + 6) u v') v v1 v2) u v1 v2 := by
  obtain ⟨n, b, m, deep, res, thr, thn, CL, cStr, cOp, cA, cB, OK, oKin, oOpen, pVal, aOut, aVar, FC, FA, FP, FH, FT, fSelf, stk, TA, TH, xFc, xFs, xPc, xKo, xPk, tw, te, tc, xSet, S, XH, xHeld, xArg, yCo, yAr, M, yPair, ySeen, ySet, yStay, yArg, yHan, yKept, yGiven, rfl, rfl, R, hm⟩ := I
  have h3 := R.2.1.1
  have K : ∀ seen' : Nat → Int32, i_Rel (k + 6) (nI n, nI 0, nI b, deep, res, thr, thn, (fun zz => nI (CL zz)), cStr, cOp, cA, cB, (fun zz => nI (OK zz)), oKin, oOpen, xFc, xFs, xPc, xKo, xPk, (fun zz => ob_xa (tw zz) (te zz) (tc zz)), pVal, xSet, (fun zz => nI (S zz)), aOut, aVar, (fun zz => nI (FC zz)), (fun zz => nI (FP zz)), (fun zz => nI (FA zz)), (fun zz => nI (FH zz)), (fun zz => nI (XH zz)), (fun zz => nI (FT zz)), fSelf, xHeld, stk, (fun zz => nI (TA zz)), (fun zz => nI (TH zz)), xArg) (nI n, nI m, yGiven, nI 0, deep, nI b, thr, thn, res, cStr, (fun zz => nI (CL zz)), cOp, cA, cB, (fun zz => nI (OK zz)), oKin, yCo, yAr, oOpen, (fun zz => nI (M zz)), (fun zz => ob_yf (tw zz) (te zz) (tc zz)), yPair, seen', pVal, ySet, (fun zz => ob_th (S zz)), yStay, aOut, aVar, yArg, (fun zz => nI (FC zz)), (fun zz => nI (FA zz)), (fun zz => nI (FP zz)), (fun zz => nI (FH zz)), yHan, (fun zz => nI (FT zz)), (fun zz => nI (TA zz)), (fun zz => nI (TH zz)), fSelf, yKept, stk) := fun seen' => ob_E_mk (deep := deep) (cStr := cStr) (oOpen := oOpen) (te := te) (xArg := xArg) (ySeen := seen') (yArg := yArg) (yGiven := yGiven) R (by omega : m ≤ 300 * (k + 6))
  have hY0 : ∀ post : Int32 → SY → Prop, wpY_in (fun r_2 => (((r_2 = 0 → (∃ n51 : Nat, wY_each_51 post (nI n) (nI m) yGiven (nI 0) deep (nI b) thr thn res n51 v2 (-1) cStr (fun zz => nI (CL zz)) cOp cA cB (fun zz => nI (OK zz)) oKin yCo yAr oOpen (fun zz => nI (M zz)) (fun zz => ob_yf (tw zz) (te zz) (tc zz)) yPair (ob_zs ySeen 32) pVal ySet (fun zz => ob_th (S zz)) yStay aOut aVar yArg (fun zz => nI (FC zz)) (fun zz => nI (FA zz)) (fun zz => nI (FP zz)) (fun zz => nI (FH zz)) yHan (fun zz => nI (FT zz)) (fun zz => nI (TA zz)) (fun zz => nI (TH zz)) fSelf yKept stk)) ∧ (¬ r_2 = 0 → (((v2 < 0 → (∃ n51 : Nat, wY_each_51 post (nI n) (nI m) yGiven (nI 0) deep (nI b) thr thn res n51 v2 (-1) cStr (fun zz => nI (CL zz)) cOp cA cB (fun zz => nI (OK zz)) oKin yCo yAr oOpen (fun zz => nI (M zz)) (fun zz => ob_yf (tw zz) (te zz) (tc zz)) yPair (ob_zs ySeen 32) pVal ySet (fun zz => ob_th (S zz)) yStay aOut aVar yArg (fun zz => nI (FC zz)) (fun zz => nI (FA zz)) (fun zz => nI (FP zz)) (fun zz => nI (FH zz)) yHan (fun zz => nI (FT zz)) (fun zz => nI (TA zz)) (fun zz => nI (TH zz)) fSelf yKept stk)) ∧ (¬ v2 < 0 → (∃ n51 : Nat, wY_each_51 post (nI n) (nI m) yGiven (nI 0) deep (nI b) thr thn res n51 v2 v1 cStr (fun zz => nI (CL zz)) cOp cA cB (fun zz => nI (OK zz)) oKin yCo yAr oOpen (fun zz => nI (M zz)) (fun zz => ob_yf (tw zz) (te zz) (tc zz)) yPair (ob_zs ySeen 32) pVal ySet (fun zz => ob_th (S zz)) yStay aOut aVar yArg (fun zz => nI (FC zz)) (fun zz => nI (FA zz)) (fun zz => nI (FP zz)) (fun zz => nI (FH zz)) yHan (fun zz => nI (FT zz)) (fun zz => nI (TA zz)) (fun zz => nI (TH zz)) fSelf yKept stk)))))))) v1 0 (nI n - 1) → wpY_each post (nI n, nI m, yGiven, nI 0, deep, nI b, thr, thn, res, cStr, (fun zz => nI (CL zz)), cOp, cA, cB, (fun zz => nI (OK zz)), oKin, yCo, yAr, oOpen, (fun zz => nI (M zz)), (fun zz => ob_yf (tw zz) (te zz) (tc zz)), yPair, ySeen, pVal, ySet, (fun zz => ob_th (S zz)), yStay, aOut, aVar, yArg, (fun zz => nI (FC zz)), (fun zz => nI (FA zz)), (fun zz => nI (FP zz)), (fun zz => nI (FH zz)), yHan, (fun zz => nI (FT zz)), (fun zz => nI (TA zz)), (fun zz => nI (TH zz)), fSelf, yKept, stk) v1 v2 := by
    intro post hp
    have h5 := ob_each5 (n := n) (d := 0) (b := b) (m := m) (deep := deep) (res := res) (thr := thr) (thn := thn) (CL := CL) (cStr := cStr) (cOp := cOp) (cA := cA) (cB := cB) (OK := OK) (oKin := oKin) (oOpen := oOpen) (pVal := pVal) (aOut := aOut) (aVar := aVar) (FC := FC) (FA := FA) (FP := FP) (FH := FH) (FT := FT) (fSelf := fSelf) (stk := stk) (TA := TA) (TH := TH) (tw := tw) (te := te) (tc := tc) (S := S) (yCo := yCo) (yAr := yAr) (M := M) (yPair := yPair) (ySeen := ySeen) (ySet := ySet) (yStay := yStay) (yArg := yArg) (yHan := yHan) (yKept := yKept) (yGiven := yGiven) (x1 := v1) (x2 := v2) (x3 := v2) post (by unfold wY_each_5; exact br_t (by decide) hp) 32 0 rfl
    rw [ob_zs_0] at h5
    unfold wpY_each
    exact ⟨33, h5⟩
  have hYn : ∀ post : Int32 → SY → Prop, post (-1) (nI n, nI m, yGiven, nI 0, deep, nI b, thr, thn, res, cStr, (fun zz => nI (CL zz)), cOp, cA, cB, (fun zz => nI (OK zz)), oKin, yCo, yAr, oOpen, (fun zz => nI (M zz)), (fun zz => ob_yf (tw zz) (te zz) (tc zz)), yPair, (ob_zs ySeen 32), pVal, ySet, (fun zz => ob_th (S zz)), yStay, aOut, aVar, yArg, (fun zz => nI (FC zz)), (fun zz => nI (FA zz)), (fun zz => nI (FP zz)), (fun zz => nI (FH zz)), yHan, (fun zz => nI (FT zz)), (fun zz => nI (TA zz)), (fun zz => nI (TH zz)), fSelf, yKept, stk) → ∃ n51 : Nat, wY_each_51 post (nI n) (nI m) yGiven (nI 0) deep (nI b) thr thn res n51 v2 (-1) cStr (fun zz => nI (CL zz)) cOp cA cB (fun zz => nI (OK zz)) oKin yCo yAr oOpen (fun zz => nI (M zz)) (fun zz => ob_yf (tw zz) (te zz) (tc zz)) yPair (ob_zs ySeen 32) pVal ySet (fun zz => ob_th (S zz)) yStay aOut aVar yArg (fun zz => nI (FC zz)) (fun zz => nI (FA zz)) (fun zz => nI (FP zz)) (fun zz => nI (FH zz)) yHan (fun zz => nI (FT zz)) (fun zz => nI (TA zz)) (fun zz => nI (TH zz)) fSelf yKept stk := by
    intro post hp
    refine ⟨1, ?_⟩
    unfold wY_each_51
    exact br_t (by decide) hp
  unfold wpX_each
  rcases ob_isO R.2.1 v1 with ⟨o, ho, rfl⟩ | h
  · have hYin : ∀ P : Int32 → Prop, P 1 → wpY_in P (nI o) 0 (nI n - 1) := by
      intro P hP
      rw [ob_sub1 (by omega)]
      exact ob_inT (b := 0) (by omega) (by omega) (by omega) _ hP
    refine br_f (nI_pos (by omega)) (br_f (nI_ge ho (by omega)) ?_)
    by_cases h0 : 0 ≤ v2
    · have hn0 : ¬ v2 < 0 := Int32.not_lt.mpr h0
      obtain ⟨r, seen', hX2, hY2⟩ := ob_each2 (n := n) (b := b) (m := m) (deep := deep) (res := res) (thr := thr) (thn := thn) (CL := CL) (cStr := cStr) (cOp := cOp) (cA := cA) (cB := cB) (OK := OK) (oKin := oKin) (oOpen := oOpen) (pVal := pVal) (aOut := aOut) (aVar := aVar) (FC := FC) (FA := FA) (FP := FP) (FH := FH) (FT := FT) (fSelf := fSelf) (stk := stk) (TA := TA) (TH := TH) (xFc := xFc) (xFs := xFs) (xPc := xPc) (xKo := xKo) (xPk := xPk) (tw := tw) (te := te) (tc := tc) (xSet := xSet) (S := S) (XH := XH) (xHeld := xHeld) (xArg := xArg) (yCo := yCo) (yAr := yAr) (M := M) (yPair := yPair) (ySet := ySet) (yStay := yStay) (yArg := yArg) (yHan := yHan) (yKept := yKept) (yGiven := yGiven) (d := 0) R.2.1 R.2.2.1.1 (by omega) R.2.2.2.1 o ho 0 0 v2 (ob_zs ySeen 32) (by omega) (fun q hq => by
        unfold ob_zs
        rw [b_0, if_pos hq]
        exact ⟨fun _ => rfl, fun _ => rfl⟩)
      refine br_t h0 ⟨o + 2, hX2 _ ?_ _ (Nat.le_refl _)⟩
      exact hY0 _ (hYin _ (br_f (by decide) (br_f hn0 ⟨o + 2, hY2 _ ⟨rfl, K seen'⟩ _ (Nat.le_refl _)⟩)))
    · have hn0 : v2 < 0 := Int32.not_le.mp h0
      exact br_f h0 (hY0 _ (hYin _ (br_f (by decide) (br_t hn0 (hYn _ ⟨rfl, K _⟩)))))
  · have hYr := hY0 (fun r' v' => r' = -1 ∧ i_Rel (k + 6) (nI n, nI 0, nI b, deep, res, thr, thn, (fun zz => nI (CL zz)), cStr, cOp, cA, cB, (fun zz => nI (OK zz)), oKin, oOpen, xFc, xFs, xPc, xKo, xPk, (fun zz => ob_xa (tw zz) (te zz) (tc zz)), pVal, xSet, (fun zz => nI (S zz)), aOut, aVar, (fun zz => nI (FC zz)), (fun zz => nI (FP zz)), (fun zz => nI (FA zz)), (fun zz => nI (FH zz)), (fun zz => nI (XH zz)), (fun zz => nI (FT zz)), fSelf, xHeld, stk, (fun zz => nI (TA zz)), (fun zz => nI (TH zz)), xArg) v') (ob_inF (h.imp id (ob_nle1 (by omega) (by omega))) _ (br_t rfl (hYn _ ⟨rfl, K _⟩)))
    by_cases h0 : v1 < 0
    · exact br_t h0 hYr
    · exact br_f h0 (br_t (h.resolve_left h0) hYr)
end
