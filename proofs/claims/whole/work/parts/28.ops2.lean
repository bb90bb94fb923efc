/-! More simple calls -/
theorem nI_inj31 {a b : Nat} (ha : a < 2 ^ 31) (hb : b < 2 ^ 31) (h : nI a = nI b) : a = b := (nI_eq ha hb).mp h
theorem nI_m1 {n : Nat} (h : n < 2 ^ 31) : ¬ nI n = -1 := by
  intro q
  have a := nI_toInt h
  rw [q, i_m1] at a
  omega
theorem s_door {k : Nat} {σ : gS} {ζ : gQ} (d : Int32) (hd : pZ d) (I : InvA k σ ζ) : Q_X9_door σ d ∧ Q_X10_door (F_X9_door σ d) d ∧ InvA k (F_X10_door (F_X9_door σ d) d) ζ := by
  refine ⟨⟨hd, trivial⟩, ⟨hd, trivial⟩, ?_⟩
  rw [F_X9_door_eq, F_X10_door_eq]
  unfold Fr_X9_door Fr_X10_door
  obtain ⟨n, so, si, c, m, i1, i2, i3, i4, i5, i6, i7, i8, i9, i10, i11⟩ := I
  exact ⟨n, so, si, c, m, i1, i2, ⟨i3.1, i3.2.1, i3.2.2.1, i3.2.2.2.1, ⟨rfl, hd⟩, i3.2.2.2.2.2⟩, i4, i5, i6, i7, i8, i9, i10, i11⟩
theorem s_key {k : Nat} {σ : gS} {ζ : gQ} (f : Int32) (I : InvA k σ ζ) : (F_X9_key σ f).1 = (F_X10_key (F_X9_key σ f).2 f).1 ∧ InvA k (F_X10_key (F_X9_key σ f).2 f).2 ζ := by
  rw [F_X9_key_eq, F_X10_key_eq]
  unfold Fr_X9_key Fr_X10_key
  by_cases h1 : f < 0
  · rw [if_pos h1]; simp only; rw [if_pos h1]; exact ⟨rfl, I⟩
  · rw [if_neg h1]
    by_cases h2 : f ≤ 4
    · rw [if_pos h2]; simp only; rw [if_neg h1, if_pos h2]
      obtain ⟨n, so, si, c, m, i1, i2, i3, i4, i5, i6, i7, i8, i9, i10, i11⟩ := I
      obtain ⟨v, hv, rfl⟩ := nI_of2 (M := 4) (n := 4) (by decide) h1 h2
      exact ⟨rfl, n, so, si, c, m, i1, i2, ⟨i3.1, i3.2.1, i3.2.2.1, i3.2.2.2.1, i3.2.2.2.2.1, ⟨v, hv, rfl, rfl⟩, i3.2.2.2.2.2.2⟩, i4, i5, i6, i7, i8, i9, i10, i11⟩
    · rw [if_neg h2]; simp only; rw [if_neg h1, if_neg h2]; exact ⟨rfl, I⟩
theorem s_cutAt {k : Nat} {σ : gS} {ζ : gQ} (f : Int32) (I : InvA k σ ζ) : (F_X9_cutAt σ f).1 = (F_X10_cutAt (F_X9_cutAt σ f).2 f).1 ∧ InvA k (F_X10_cutAt (F_X9_cutAt σ f).2 f).2 ζ := by
  rw [F_X9_cutAt_eq, F_X10_cutAt_eq]
  unfold Fr_X9_cutAt Fr_X10_cutAt
  by_cases h1 : f < 0
  · rw [if_pos h1]; simp only; rw [if_pos h1]; exact ⟨rfl, I⟩
  · rw [if_neg h1]
    by_cases h2 : f ≤ 10
    · rw [if_pos h2]; simp only; rw [if_neg h1, if_pos h2]
      obtain ⟨n, so, si, c, m, i1, i2, i3, i4, i5, i6, i7, i8, i9, i10, i11⟩ := I
      obtain ⟨v, hv, rfl⟩ := nI_of2 (M := 10) (n := 10) (by decide) h1 h2
      exact ⟨rfl, n, so, si, c, m, i1, i2, ⟨i3.1, i3.2.1, i3.2.2.1, i3.2.2.2.1, i3.2.2.2.2.1, i3.2.2.2.2.2.1, ⟨rfl, Or.inr ⟨v, hv, rfl⟩⟩⟩, i4, i5, i6, i7, i8, i9, i10, i11⟩
    · rw [if_neg h2]; simp only; rw [if_neg h1, if_neg h2]; exact ⟨rfl, I⟩
theorem s_noDisk {k : Nat} {σ : gS} {ζ : gQ} (I : InvA k σ ζ) : Q_X9_noDisk σ ∧ (F_X9_noDisk σ).1 = (F_X10_noDisk (F_X9_noDisk σ).2).1 ∧ InvA k (F_X10_noDisk (F_X9_noDisk σ).2).2 ζ := by
  obtain ⟨n, so, si, c, m, i1, i2, i3, i4, i5, i6, i7, i8, i9, i10, i11⟩ := I
  have hz : pZ (σ 0 2) := by
    rcases i2 with ⟨a, -⟩ | ⟨a, -⟩
    · exact Or.inl a
    · exact Or.inr a
  refine ⟨⟨hz, trivial⟩, ?_⟩
  rw [F_X9_noDisk_eq, F_X10_noDisk_eq]
  unfold Fr_X9_noDisk Fr_X10_noDisk
  have e : (pf (pf σ 0 2 0) 3 1 0) 199 25 = σ 199 25 := rfl
  have hd : pD 0 0 (-1) (σ 4) (σ 215) := Or.inl ⟨rfl, rfl, 0, Nat.zero_le _, rfl⟩
  simp only
  rw [e]
  by_cases h : σ 199 25 < 0
  · rw [if_pos h]
    refine ⟨?_, n, so, si, c, m, i1, hd, i3, i4, i5, i6, i7, i8, i9, i10, i11⟩
    rcases i2 with ⟨a, -⟩ | ⟨-, v, hv, -, b, -⟩
    · exact a
    · rw [b] at h; exact absurd h (nI_pos (by omega))
  · rw [if_neg h]
    refine ⟨?_, n, so, si, c, m, i1, hd, i3, i4, i5, i6, i7, i8, i9, i10, i11⟩
    rcases i2 with ⟨-, b, -⟩ | ⟨a, -⟩
    · rw [b] at h; exact absurd (by decide) h
    · exact a
theorem s_cut {k : Nat} {σ : gS} {ζ : gQ} (f : Int32) (I : InvA k σ ζ) : (F_X9_cut σ f).1 = (F_X10_cut (F_X9_cut σ f).2 f).1 ∧ InvA k (F_X10_cut (F_X9_cut σ f).2 f).2 ζ := by
  obtain ⟨n, so, si, c, m, ⟨t, ht, e1, e2, hb⟩, i2, i3, i4, i5, i6, i7, i8, i9, i10, i11⟩ := I
  have I : InvA k σ ζ := ⟨n, so, si, c, m, ⟨t, ht, e1, e2, hb⟩, i2, i3, i4, i5, i6, i7, i8, i9, i10, i11⟩
  rw [F_X9_cut_eq, F_X10_cut_eq]
  unfold Fr_X9_cut Fr_X10_cut
  by_cases h1 : f < 0
  · rw [if_pos h1]; simp only; rw [if_pos h1]; exact ⟨rfl, I⟩
  · rw [if_neg h1]
    by_cases h2 : f ≤ σ 1 1
    · have h3 : f ≤ σ 199 1 := by rw [e2, ← e1]; exact h2
      rw [if_pos h2]; simp only
      rw [show (pf σ 1 1 f) 199 1 = σ 199 1 from rfl, if_neg h1, if_pos h3]
      rw [e1] at h2
      obtain ⟨v, hv, rfl⟩ := nI_of2 (M := nI t) (n := t) (nI_toInt (by omega)) h1 h2
      refine ⟨by show σ 1 1 - nI v = σ 199 1 - nI v; rw [e1, e2], n, so, si, c, m, ⟨v, by omega, rfl, rfl, fun i hi => hb i (by omega)⟩, i2, i3, i4, i5, i6, i7, i8, i9, i10, i11⟩
    · have h3 : ¬ f ≤ σ 199 1 := by rw [e2, ← e1]; exact h2
      rw [if_neg h2]; simp only; rw [if_neg h1, if_neg h3]; exact ⟨rfl, I⟩
theorem lN_cmp_le {a b : Nat} (ha : a < 2 ^ 63) (hb : b < 2 ^ 63) : lg_cmp (lN a) (lN b) ≤ 0 ↔ a ≤ b := by
  unfold lg_cmp
  by_cases h : b < a
  · rw [if_pos ((pk_lLT hb ha).mpr h)]
    exact ⟨fun z => absurd z (by decide), fun z => by omega⟩
  · rw [if_neg (fun z => h ((pk_lLT hb ha).mp z))]
    by_cases h2 : a = b
    · subst h2
      rw [if_pos rfl]
      exact ⟨fun _ => Nat.le_refl _, fun _ => by decide⟩
    · rw [if_neg (fun z => h2 ((pk_lEQ ha hb).mp z))]
      exact ⟨fun _ => by omega, fun _ => by decide⟩
theorem s_tick {k : Nat} {σ : gS} {ζ : gQ} (f : Int32) (I : InvA k σ ζ) : (F_X9_tick σ f).1 = (F_X10_tick (F_X9_tick σ f).2 ζ f).1 ∧ InvA k (F_X9_tick σ f).2 (F_X10_tick (F_X9_tick σ f).2 ζ f).2 := by
  obtain ⟨n, so, si, c, m, i1, i2, i3, ⟨⟨t, ht, e1, e2⟩, j2⟩, i5, i6, i7, i8, i9, i10, i11⟩ := I
  have I : InvA k σ ζ := ⟨n, so, si, c, m, i1, i2, i3, ⟨⟨t, ht, e1, e2⟩, j2⟩, i5, i6, i7, i8, i9, i10, i11⟩
  rw [F_X9_tick_eq, F_X10_tick_eq]
  unfold Fr_X9_tick Fr_X10_tick
  by_cases h1 : f < 0
  · rw [if_pos h1, if_pos h1]; exact ⟨rfl, I⟩
  · rw [if_neg h1, if_neg h1]
    by_cases h2 : 100000 < f
    · rw [if_pos h2, if_pos h2]; exact ⟨rfl, I⟩
    · rw [if_neg h2, if_neg h2]
      obtain ⟨v, hv, rfl⟩ := nI_of2 (M := 100000) (n := 100000) (by decide) h1 (Int32.not_lt.mp h2)
      have q1 : (nI v ≤ 2000000000 - σ 0 10) ↔ t + v ≤ 2000000000 := by
        rw [e1, show (2000000000 : Int32) = nI 2000000000 from rfl, pk_sub ht, nI_leI (by omega) (by omega)]
        omega
      have q2 : (lg_cmp (ζ 19 + (nI v).toInt64) 2000000000 ≤ 0) ↔ t + v ≤ 2000000000 := by
        rw [e2, nI_l (by omega), lN_add, show (2000000000 : Int64) = lN 2000000000 from rfl, lN_cmp_le (by omega) (by omega)]
      by_cases h3 : t + v ≤ 2000000000
      · rw [if_pos (q1.mpr h3), if_pos (q2.mpr h3)]
        refine ⟨rfl, n, so, si, c, m, i1, i2, i3, ⟨⟨t + v, h3, ?_, ?_⟩, j2⟩, i5, i6, i7, i8, i9, i10, i11⟩
        · show σ 0 10 + nI v = _
          rw [e1, nI_add]
        · show ζ 19 + (nI v).toInt64 = _
          rw [e2, nI_l (by omega), lN_add]
      · rw [if_neg (fun z => h3 (q1.mp z)), if_neg (fun z => h3 (q2.mp z))]; exact ⟨rfl, I⟩
