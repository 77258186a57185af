/-! ===== the order of an object's keys ===== -/
def ob_ord (M : Nat → Nat) (o : Nat) (L : List Nat) : Prop :=
  L.Pairwise (fun a b => M (32 * o + a) < M (32 * o + b)) ∧ ∀ k, k ∈ L ↔ k < 32 ∧ M (32 * o + k) ≠ 0
def ob_um (M : Nat → Nat) (i x : Nat) : Nat → Nat := fun j => if j = i then x else M j
theorem ob_um_s (M : Nat → Nat) (i x : Nat) : ob_um M i x i = x := if_pos rfl
theorem ob_um_n (M : Nat → Nat) {i j : Nat} (x : Nat) (h : j ≠ i) : ob_um M i x j = M j := if_neg h
theorem ob_ord_nd {M : Nat → Nat} {o : Nat} {L : List Nat} (h : ob_ord M o L) : L.Nodup :=
  h.1.imp (fun hab e => by subst e; exact Nat.lt_irrefl _ hab)
theorem ob_ord_sub {M : Nat → Nat} {o : Nat} {L : List Nat} (h : ob_ord M o L) : L ⊆ List.range 32 :=
  fun k hk => List.mem_range.mpr ((h.2 k).mp hk).1
theorem ob_ord_len {M : Nat → Nat} {o : Nat} {L : List Nat} (h : ob_ord M o L) : L.length ≤ 32 := by
  have := (ob_ord_nd h).length_le_of_subset (ob_ord_sub h)
  rwa [List.length_range] at this
theorem ob_ord_room {M : Nat → Nat} {o k : Nat} {L : List Nat} (h : ob_ord M o L) (hk : k < 32) (hz : M (32 * o + k) = 0) : L.length < 32 := by
  have hn : k ∉ L := fun hm => ((h.2 k).mp hm).2 hz
  have h1 : (k :: L).Nodup := List.nodup_cons.mpr ⟨hn, ob_ord_nd h⟩
  have h2 : (k :: L) ⊆ List.range 32 := by
    intro x hx
    rcases List.mem_cons.mp hx with rfl | hx
    · exact List.mem_range.mpr hk
    · exact ob_ord_sub h hx
  have h3 := h1.length_le_of_subset h2
  rw [List.length_range, List.length_cons] at h3
  omega
theorem ob_ord_add {M : Nat → Nat} {o k m : Nat} {L : List Nat} (h : ob_ord M o L) (hk : k < 32) (hz : M (32 * o + k) = 0) (hm : ∀ i, M i ≤ m) : ob_ord (ob_um M (32 * o + k) (m + 1)) o (L ++ [k]) := by
  have hn : k ∉ L := fun hm => ((h.2 k).mp hm).2 hz
  have hne : ∀ x, x ∈ L → 32 * o + x ≠ 32 * o + k := fun x hx e => hn (by have : x = k := by omega
                                                                          rwa [← this])
  constructor
  · rw [List.pairwise_append]
    refine ⟨?_, List.pairwise_singleton _ _, ?_⟩
    · refine h.1.imp_of_mem ?_
      intro a b ha hb hab
      rw [ob_um_n _ _ (hne a ha), ob_um_n _ _ (hne b hb)]
      exact hab
    · intro a ha b hb
      rw [List.mem_singleton] at hb
      subst hb
      rw [ob_um_n _ _ (hne a ha), ob_um_s]
      have := hm (32 * o + a)
      omega
  · intro x
    rw [List.mem_append, List.mem_singleton, h.2]
    by_cases e : x = k
    · subst e
      rw [ob_um_s]
      exact ⟨fun _ => ⟨hk, by omega⟩, fun _ => Or.inr rfl⟩
    · rw [ob_um_n _ _ (by omega)]
      exact ⟨fun z => z.elim id (fun y => absurd y e), Or.inl⟩
theorem ob_ord_del {M : Nat → Nat} {o k : Nat} {L : List Nat} (h : ob_ord M o L) : ob_ord (ob_um M (32 * o + k) 0) o (L.filter (fun x => x != k)) := by
  constructor
  · refine List.Pairwise.imp_of_mem ?_ (h.1.filter _)
    intro a b ha hb hab
    have ha' : a ≠ k := by simpa using (List.mem_filter.mp ha).2
    have hb' : b ≠ k := by simpa using (List.mem_filter.mp hb).2
    rw [ob_um_n _ _ (by omega), ob_um_n _ _ (by omega)]
    exact hab
  · intro x
    rw [List.mem_filter, h.2]
    by_cases e : x = k
    · subst e
      rw [ob_um_s]
      simp
    · rw [ob_um_n _ _ (by omega)]
      simp [e]
theorem ob_ord_oth {M : Nat → Nat} {o i x : Nat} {L : List Nat} (h : ob_ord M o L) (hi : ∀ k, k < 32 → 32 * o + k ≠ i) : ob_ord (ob_um M i x) o L := by
  constructor
  · refine h.1.imp_of_mem ?_
    intro a b ha hb hab
    rw [ob_um_n _ _ (hi a ((h.2 a).mp ha).1), ob_um_n _ _ (hi b ((h.2 b).mp hb).1)]
    exact hab
  · intro k
    rw [h.2]
    by_cases hk : k < 32
    · rw [ob_um_n _ _ (hi k hk)]
    · exact ⟨fun z => absurd z.1 hk, fun z => absurd z.1 hk⟩
/-- as many keys as there are places with a moment -/
theorem ob_ord_cnt {M : Nat → Nat} {o : Nat} {L : List Nat} (h : ob_ord M o L) : (List.range 32).countP (fun k => decide (M (32 * o + k) ≠ 0)) = L.length := by
  rw [List.countP_eq_length_filter]
  refine List.Perm.length_eq ((List.perm_ext_iff_of_nodup (List.Pairwise.filter _ List.nodup_range) (ob_ord_nd h)).mpr ?_)
  intro k
  rw [List.mem_filter, List.mem_range, h.2, decide_eq_true_iff]
/-- the place of a key is the number of the keys made before it -/
theorem ob_ord_pl {M : Nat → Nat} {o p : Nat} {L : List Nat} (h : ob_ord M o L) (hp : p < L.length) : (List.range 32).countP (fun k => decide (M (32 * o + k) ≠ 0 ∧ M (32 * o + k) < M (32 * o + L[p]))) = p := by
  rw [List.countP_eq_length_filter]
  have hs := List.pairwise_iff_getElem.mp h.1
  have e : (L.take p).length = p := by rw [List.length_take]; omega
  have hnd : (L.take p).Nodup := List.Sublist.nodup (List.take_sublist p L) (ob_ord_nd h)
  refine (List.Perm.length_eq ((List.perm_ext_iff_of_nodup (List.Pairwise.filter _ List.nodup_range) hnd).mpr ?_)).trans e
  intro k
  rw [List.mem_filter, List.mem_range, decide_eq_true_iff]
  constructor
  · intro ⟨h1, h2, h3⟩
    have hm := (h.2 k).mpr ⟨h1, h2⟩
    obtain ⟨q, hq, rfl⟩ := List.getElem_of_mem hm
    have hqp : q < p := by
      rcases Nat.lt_trichotomy q p with z | z | z
      · exact z
      · subst z; exact absurd h3 (Nat.lt_irrefl _)
      · have := hs p q hp hq z
        omega
    exact List.mem_take_iff_getElem.mpr ⟨q, by omega, rfl⟩
  · intro hm
    obtain ⟨q, hq, rfl⟩ := List.mem_take_iff_getElem.mp hm
    have hq' : q < L.length := by omega
    have h1 := (h.2 _).mp (List.getElem_mem hq')
    exact ⟨h1.1, h1.2, hs q p hq' hp (by omega)⟩
