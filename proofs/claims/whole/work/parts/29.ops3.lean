/-! put; records read; the disk read -/
theorem isCard9 (x : Int32) : (∃ c : Nat, c < 16 ∧ x = nI c ∧ F_X9_isCard x = 1 ∧ F_X10_isCard x = 1) ∨ (F_X9_isCard x = 0 ∧ F_X10_isCard x = 0 ∧ (x < 0 ∨ 16 ≤ x)) := by
  rw [F_X9_isCard_eq, F_X10_isCard_eq]
  unfold Fr_X9_isCard Fr_X10_isCard
  by_cases h1 : x < 0
  · right; rw [if_pos h1]; exact ⟨rfl, rfl, Or.inl h1⟩
  · by_cases h2 : 16 ≤ x
    · right; rw [if_neg h1, if_pos h2]; exact ⟨rfl, rfl, Or.inr h2⟩
    · left
      rw [if_neg h1, if_neg h2]
      obtain ⟨n, hn, rfl⟩ := nI_of h1
      exact ⟨n, Nat.lt_of_not_le (fun z => h2 ((nI_leI (a := 16) (by decide) hn).mpr z)), rfl, rfl, rfl⟩
theorem s_put {k : Nat} {σ : gS} {ζ : gQ} (r x : Int32) (I : InvA k σ ζ) : Q_X9_put σ r x ∧ Q_X10_put (F_X9_put σ r x).2 r x ∧ (F_X9_put σ r x).1 = (F_X10_put (F_X9_put σ r x).2 r x).1 ∧ InvA k (F_X10_put (F_X9_put σ r x).2 r x).2 ζ := by
  have hq9 : ∀ s : gS, Q_X9_put s r x := by
    intro s
    unfold Q_X9_put QJ_X9_put_14 QJ_X9_put_38
    simp
  have hq10 : ∀ s : gS, Q_X10_put s r x := by
    intro s
    unfold Q_X10_put QJ_X10_put_9 QJ_X10_put_21 QJ_X10_put_25 QJ_X10_put_26 QJ_X10_put_51 QJ_X10_put_57
    simp
  refine ⟨hq9 _, hq10 _, ?_⟩
  obtain ⟨n, so, si, c, m, i1, i2, ⟨⟨eo, ho⟩, ⟨ei, hi⟩, hne, i3⟩, i4, i5, i6, i7, i8, i9, i10, i11⟩ := I
  have I : InvA k σ ζ := ⟨n, so, si, c, m, i1, i2, ⟨⟨eo, ho⟩, ⟨ei, hi⟩, hne, i3⟩, i4, i5, i6, i7, i8, i9, i10, i11⟩
  have up0 : ∀ v : Int32, pN v → (v = -1 ∨ ¬ v = σ 0 5) → InvA k (pf (pf σ 0 4 v) 199 20 v) ζ := fun v hv hn => ⟨n, so, si, c, m, i1, i2, ⟨⟨rfl, hv⟩, ⟨ei, hi⟩, hn, i3⟩, i4, i5, i6, i7, i8, i9, i10, i11⟩
  have up1 : ∀ v : Int32, pN v → (σ 0 4 = -1 ∨ ¬ σ 0 4 = v) → InvA k (pf (pf σ 0 5 v) 199 21 v) ζ := fun v hv hn => ⟨n, so, si, c, m, i1, i2, ⟨⟨eo, ho⟩, ⟨rfl, hv⟩, hn, i3⟩, i4, i5, i6, i7, i8, i9, i10, i11⟩
  rw [F_X9_put_eq, F_X10_put_eq]
  unfold Fr_X9_put Fr_X10_put J_X9_put_14 J_X9_put_38 J_X10_put_9 J_X10_put_21 J_X10_put_25 J_X10_put_26 J_X10_put_51 J_X10_put_57
  have e5 : ∀ v : Int32, (pf σ 0 4 v) 199 21 = σ 0 5 := fun v => ei.symm
  have e4 : ∀ v : Int32, (pf σ 0 5 v) 199 20 = σ 0 4 := fun v => eo.symm
  have d10 : ¬ (1 : Int32) = 0 := by decide
  by_cases hr0 : r = 0
  · subst hr0
    have d01 : ¬ (0 : Int32) = 1 := by decide
    by_cases hx : x = -1
    · subst hx
      simp only [if_true, if_neg d10]
      exact ⟨trivial, up0 (-1) (Or.inl rfl) (Or.inl rfl)⟩
    · rcases isCard9 x with ⟨v, hv, rfl, a, b⟩ | ⟨a, b, -⟩
      · simp only [if_neg hx, a, b, if_neg d10, if_true, if_neg d01]
        by_cases hs : nI v = σ 0 5
        · simp only [if_pos hs]
          rw [show σ 199 21 = nI v by rw [← ei, hs]]
          simp only [if_true]
          exact ⟨trivial, I⟩
        · simp only [if_neg hs, e5]
          rw [if_neg (fun z : σ 0 5 = nI v => hs z.symm)]
          exact ⟨rfl, up0 _ (Or.inr ⟨v, hv, rfl⟩) (Or.inr hs)⟩
      · simp only [if_neg hx, a, b, if_true]
        exact ⟨trivial, I⟩
  · by_cases hr1 : r = 1
    · subst hr1
      by_cases hx : x = -1
      · subst hx
        simp only [if_true, if_neg d10]
        exact ⟨trivial, up1 (-1) (Or.inl rfl) (by
          rcases ho with h | ⟨v, hv, h⟩
          · exact Or.inl h
          · right; rw [h]; exact nI_m1 (by omega))⟩
      · rcases isCard9 x with ⟨v, hv, rfl, a, b⟩ | ⟨a, b, -⟩
        · simp only [if_neg hx, a, b, if_neg d10, if_true]
          by_cases hs : nI v = σ 0 4
          · simp only [if_pos hs]
            rw [show σ 199 20 = nI v by rw [← eo, hs]]
            simp only [if_true]
            exact ⟨trivial, I⟩
          · simp only [if_neg hs, e4]
            rw [if_neg (fun z : σ 0 4 = nI v => hs z.symm)]
            exact ⟨rfl, up1 _ (Or.inr ⟨v, hv, rfl⟩) (Or.inr (fun z => hs z.symm))⟩
        · simp only [if_neg hx, a, b, if_true, if_neg d10]
          exact ⟨trivial, I⟩
    · by_cases hx : x = -1
      · subst hx
        simp only [if_true, if_neg hr0, if_neg hr1]
        exact ⟨trivial, I⟩
      · rcases isCard9 x with ⟨v, hv, rfl, a, b⟩ | ⟨a, b, -⟩
        · simp only [if_neg hx, a, if_neg d10, if_neg hr0, if_neg hr1, if_true]
          exact ⟨trivial, I⟩
        · simp only [if_neg hx, a, if_true, if_neg hr0, if_neg hr1]
          exact ⟨trivial, I⟩
