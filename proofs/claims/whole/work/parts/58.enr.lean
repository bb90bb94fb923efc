/-! Enrolment -/
def kP (i : Nat) : Nat := if i = 0 then 1 else 20 + 18 * (i - 1)
theorem kP_s (i : Nat) : kP (i + 1) = 20 + 18 * i := by unfold kP; rw [if_neg (by omega), Nat.add_sub_cancel]
theorem kP_le {i k : Nat} (h : i ≤ k) : kP i + 18 ≤ 20 + 18 * k := by
  unfold kP
  split <;> omega
/-- the first issuers are different -/
def df (r : Nat → Int32) (n : Nat) : Prop := ∀ a, a < n → ∀ b, b < a → be2 r (kP a) ≠ be2 r (kP b)
def enrR (n k : Nat) (r : Nat → Int32) : Prop := k ≤ 6 ∧ n = 20 + 18 * k ∧ r 0 = 69 ∧ r 19 = nI k ∧ df r (k + 1)
theorem c_place (i : Nat) (hi : i < 100) : F_X4_issuerPlace (nI i) = nI (kP i) := by
  rw [F_X4_issuerPlace_eq]; unfold Fr_X4_issuerPlace kP
  by_cases h : i = 0
  · have c : nI i = 0 := by rw [h]; rfl
    rw [if_pos c, if_pos h]; rfl
  · have c : ¬ nI i = 0 := nI_ne0 (by omega) (by omega)
    rw [if_neg c, if_neg h, nIs (b := 1) (by omega) 1 rfl, show (18 : Int32) = nI 18 from rfl, show (20 : Int32) = nI 20 from rfl, pk_mul, nI_add, Nat.mul_comm]
theorem c_diff {σ : gS} {k l : Nat} (hk : k ≤ 6) (hl : l = 20 + 18 * k) (e : σ 3 1 = nI l) : Q_X4_areDifferent σ (nI (k + 1)) ∧ ((F_X4_areDifferent σ (nI (k + 1)) = 1 ∧ df (σ 4) (k + 1)) ∨ (F_X4_areDifferent σ (nI (k + 1)) = 0 ∧ ¬ df (σ 4) (k + 1))) := by
  rw [F_X4_areDifferent_eq]
  unfold Q_X4_areDifferent Fr_X4_areDifferent
  have tw : ∀ i, i ≤ k → F_X0_twoAt σ 3 400 (nI (kP i)) = nI (be2 (σ 4) (kP i)) := fun i hi => twoAt_u (n := l) (by omega) (by decide) e (by have := kP_le hi; omega)
  have qt := fun x => q_twoAt σ 3 (N := 400) (by decide) x
  exact lpF (fun f d (_ : Unit) => QG_X4_areDifferent_L2 (nI (k + 1)) σ f (nI d) ∧ ((G_X4_areDifferent_L2 (nI (k + 1)) σ f (nI d) = 1 ∧ df (σ 4) (k + 1)) ∨ (G_X4_areDifferent_L2 (nI (k + 1)) σ f (nI d) = 0 ∧ ¬ df (σ 4) (k + 1)))) (fun d _ => df (σ 4) d) (k + 1) (by
    intro f _ h
    unfold QG_X4_areDifferent_L2 G_X4_areDifferent_L2
    have c1 : nI (k + 1) ≤ nI (k + 1) := nI_le (Nat.le_refl _) (by omega)
    simp only [if_pos c1]
    exact ⟨trivial, Or.inl ⟨trivial, h⟩⟩) (by
    intro f d _ hd h kk
    unfold QG_X4_areDifferent_L2 G_X4_areDifferent_L2
    have c1 : ¬ nI (k + 1) ≤ nI d := nI_ge hd (by omega)
    simp only [if_neg c1]
    exact lpF (fun f' j (_ : Unit) => QG_X4_areDifferent_L9 (nI (k + 1)) σ (QG_X4_areDifferent_L2 (nI (k + 1)) σ f) f' (nI d) (nI j) ∧ ((G_X4_areDifferent_L9 (nI (k + 1)) σ (G_X4_areDifferent_L2 (nI (k + 1)) σ f) f' (nI d) (nI j) = 1 ∧ df (σ 4) (k + 1)) ∨ (G_X4_areDifferent_L9 (nI (k + 1)) σ (G_X4_areDifferent_L2 (nI (k + 1)) σ f) f' (nI d) (nI j) = 0 ∧ ¬ df (σ 4) (k + 1)))) (fun j _ => ∀ b, b < j → be2 (σ 4) (kP d) ≠ be2 (σ 4) (kP b)) d (by
      intro f' _ h'
      unfold QG_X4_areDifferent_L9 G_X4_areDifferent_L9
      have c2 : nI d ≤ nI d := nI_le (Nat.le_refl _) (by omega)
      simp only [if_pos c2, nI_i1]
      exact kk () (fun a ha => by
        by_cases ea : a = d
        · subst ea; exact h'
        · exact h a (by omega))) (by
      intro f' j _ hj h' k'
      unfold QG_X4_areDifferent_L9 G_X4_areDifferent_L9
      have c2 : ¬ nI d ≤ nI j := nI_ge hj (by omega)
      have b1 := be2_lt (σ 4) (kP d)
      have b2 := be2_lt (σ 4) (kP j)
      simp only [if_neg c2, c_place d (by omega), c_place j (by omega), tw d (by omega), tw j (by omega), nI_i1]
      by_cases hh : be2 (σ 4) (kP d) = be2 (σ 4) (kP j)
      · have c3 : nI (be2 (σ 4) (kP d)) = nI (be2 (σ 4) (kP j)) := by rw [hh]
        simp only [if_pos c3]
        exact ⟨⟨qt _, qt _, trivial⟩, Or.inr ⟨trivial, fun z => z d hd j hj hh⟩⟩
      · have c3 : ¬ nI (be2 (σ 4) (kP d)) = nI (be2 (σ 4) (kP j)) := fun z => hh (nI_inj31 (by omega) (by omega) z)
        simp only [if_neg c3]
        have g := k' () (fun b hb => by
          by_cases eb : b = j
          · subst eb; exact hh
          · exact h' b (by omega))
        exact ⟨⟨qt _, qt _, g.1⟩, g.2⟩) 4000 0 () (Nat.zero_le _) (by omega) (fun b hb => absurd hb (by omega))) 4000 0 () (Nat.zero_le _) (by omega) (fun a ha => absurd ha (by omega))
theorem c_areOn {σ : gS} {l : Nat} (hl : l ≤ 400) (e : σ 3 1 = nI l) (hb : ∀ i, i < l → isb (σ 4 i)) : Q_X4_areOn σ ∧ ((F_X4_areOn σ = 1 ∧ ∃ k, enrR l k (σ 4)) ∨ (F_X4_areOn σ = 0 ∧ ¬ ∃ k, enrR l k (σ 4))) := by
  rw [F_X4_areOn_eq]
  unfold Q_X4_areOn Fr_X4_areOn
  have q0 := q_byteOf σ 3 (N := 400) (by decide) 0
  have q19 := q_byteOf σ 3 (N := 400) (by decide) 19
  have b0 : F_X0_byteOf σ 3 400 0 = if 0 < l then σ 4 0 &&& 255 else -1 := byteOf_nat (i := 0) hl (by decide) e (by decide)
  have b19 : F_X0_byteOf σ 3 400 19 = if 19 < l then σ 4 19 &&& 255 else -1 := byteOf_nat (i := 19) hl (by decide) e (by decide)
  simp only [b0, b19]
  have i69 : isb 69 := isb_mk 69
  have m1 : (-1 : Int32) < 0 := by decide
  by_cases h19 : 19 < l
  rotate_left
  · have nk : ¬ ∃ k, enrR l k (σ 4) := fun ⟨k, z⟩ => by have := z.2.1; omega
    simp only [if_neg h19, if_pos m1]
    refine ⟨⟨q19, q0, if_tt _⟩, Or.inr ⟨?_, nk⟩⟩
    (repeat' split) <;> rfl
  have h0 : 0 < l := by omega
  simp only [if_pos h19, if_pos h0]
  by_cases h69 : σ 4 0 &&& 255 = 69
  rotate_left
  · simp only [if_neg h69]
    refine ⟨⟨q19, q0, trivial⟩, Or.inr ⟨trivial, fun ⟨k, z⟩ => h69 ?_⟩⟩
    rw [z.2.2.1]; decide
  have e69 : σ 4 0 = 69 := isb_eq (hb 0 h0) i69 (by rw [h69]; decide)
  have u := ub_lt (σ 4 19)
  have c1 : ¬ nI (ub (σ 4 19)) < 0 := nI_pos (by omega)
  simp only [if_pos h69]
  simp only [ub_eq, if_neg c1]
  have uk : ∀ k, k ≤ 6 → (ub (σ 4 19) = k ↔ σ 4 19 = nI k) := fun k hk => by
    have ik : isb (nI k) ∧ ub (nI k) = k := by
      rcases (show k = 0 ∨ k = 1 ∨ k = 2 ∨ k = 3 ∨ k = 4 ∨ k = 5 ∨ k = 6 by omega) with rfl | rfl | rfl | rfl | rfl | rfl | rfl <;> exact ⟨by unfold isb; decide, by unfold ub; decide⟩
    exact ⟨fun z => ub_inj (hb 19 h19) ik.1 (by rw [z, ik.2]), fun z => by rw [z, ik.2]⟩
  by_cases h7 : ub (σ 4 19) < 7
  rotate_left
  · have c2 : ¬ nI (ub (σ 4 19)) < 7 := nI_nlt (b := 7) (by omega) (by omega)
    simp only [if_neg c2]
    refine ⟨⟨q19, q0, trivial⟩, Or.inr ⟨trivial, fun ⟨k, z⟩ => ?_⟩⟩
    have := (uk k z.1).mpr z.2.2.2.1
    have := z.1; omega
  have c2 : nI (ub (σ 4 19)) < 7 := nI_lt (b := 7) h7 (by decide)
  generalize hkk : ub (σ 4 19) = k at *
  have e19 : σ 4 19 = nI k := (uk k (by omega)).mp rfl
  have el : (20 : Int32) + nI k * 18 = nI (20 + 18 * k) := by rw [show (18 : Int32) = nI 18 from rfl, pk_mul, show (20 : Int32) = nI 20 from rfl, nI_add, Nat.mul_comm]
  have uq : ∀ k', enrR l k' (σ 4) → k' = k := fun k' z => nI_inj31 (by have := z.1; omega) (by omega) (z.2.2.2.1.symm.trans e19)
  simp only [if_pos c2, e, el, nI_1]
  by_cases hl2 : l = 20 + 18 * k
  rotate_left
  · have c3 : ¬ nI l = nI (20 + 18 * k) := fun z => hl2 (nI_inj31 (by omega) (by omega) z)
    simp only [if_neg c3]
    refine ⟨⟨q19, q0, trivial⟩, Or.inr ⟨trivial, fun ⟨k', z⟩ => hl2 ?_⟩⟩
    have := uq k' z; rw [← this]; exact z.2.1
  have c3 : nI l = nI (20 + 18 * k) := by rw [hl2]
  simp only [if_pos c3]
  obtain ⟨qd, cd⟩ := c_diff (σ := σ) (k := k) (l := l) (by omega) hl2 e
  rcases cd with ⟨ed, dd⟩ | ⟨ed, dd⟩
  · have c4 : ¬ F_X4_areDifferent σ (nI (k + 1)) = 0 := by rw [ed]; decide
    simp only [if_neg c4]
    exact ⟨⟨q19, q0, qd, trivial⟩, Or.inl ⟨trivial, k, by omega, hl2, e69, e19, dd⟩⟩
  · simp only [if_pos ed]
    refine ⟨⟨q19, q0, qd, trivial⟩, Or.inr ⟨trivial, fun ⟨k', z⟩ => dd ?_⟩⟩
    have := uq k' z; rw [← this]; exact z.2.2.2.2
/-- keys taken -/
abbrev tkd (k : Nat) (r : Nat → Int32) (σ s : gS) : Prop := (∀ b, b ≠ 12 → b ≠ 13 → b ≠ 14 → s b = σ b) ∧ (s 12 2 = nI (k + 1)) ∧ (∀ i, i < k + 1 → s 13 i = nI (be2 r (kP i))) ∧ (∀ i, i < k + 1 → ∀ j, j < 4 → s 14 (4 * i + j) = nI (be4 r (kP i + 2 + 4 * j)))
theorem tkd.fr {k : Nat} {r : Nat → Int32} {σ s : gS} (h : tkd k r σ s) : ∀ b, b ≠ 12 → b ≠ 13 → b ≠ 14 → s b = σ b := h.1
theorem tkd.cnt {k : Nat} {r : Nat → Int32} {σ s : gS} (h : tkd k r σ s) : s 12 2 = nI (k + 1) := h.2.1
theorem tkd.iss {k : Nat} {r : Nat → Int32} {σ s : gS} (h : tkd k r σ s) : ∀ i, i < k + 1 → s 13 i = nI (be2 r (kP i)) := h.2.2.1
theorem tkd.wds {k : Nat} {r : Nat → Int32} {σ s : gS} (h : tkd k r σ s) : ∀ i, i < k + 1 → ∀ j, j < 4 → s 14 (4 * i + j) = nI (be4 r (kP i + 2 + 4 * j)) := h.2.2.2
theorem c_take {σ : gS} {k l : Nat} (hk : k ≤ 6) (hl : l = 20 + 18 * k) (e : σ 3 1 = nI l) (e19 : σ 4 19 = nI k) : Q_X4_takeFrom σ ∧ tkd k (σ 4) σ (F_X4_takeFrom σ) := by
  rw [F_X4_takeFrom_eq]
  unfold Q_X4_takeFrom Fr_X4_takeFrom
  have q19 := q_byteOf σ 3 (N := 400) (by decide) 19
  have b19 : F_X0_byteOf σ 3 400 19 = nI k := by
    have := byteOf_u (σ := σ) (j := 3) (N := 400) (n := l) (i := 19) (by omega) (by decide) e (by omega)
    rw [show (19 : Int32) = nI 19 from rfl, this]
    show nI (ub (σ 4 19)) = nI k
    rw [e19]
    rcases (show k = 0 ∨ k = 1 ∨ k = 2 ∨ k = 3 ∨ k = 4 ∨ k = 5 ∨ k = 6 by omega) with rfl | rfl | rfl | rfl | rfl | rfl | rfl <;> decide
  have c1 : ¬ (7 : Int32) < nI (k + 1) := nI_nlt (a := 7) (by omega) (by decide)
  have c2 : (0 : Int32) < nI (k + 1) := nI_lt (a := 0) (by omega) (by omega)
  simp only [b19, nI_1, if_neg c1, if_pos c2]
  have k12 : pf σ 12 2 (nI (k + 1)) 12 2 = nI (k + 1) := pf_s
  have kf : ∀ b, b ≠ 12 → pf σ 12 2 (nI (k + 1)) b = σ b := fun b h => pf_ne h
  generalize pf σ 12 2 (nI (k + 1)) = A at k12 kf ⊢
  have lp := lpF (fun f d s => QG_X4_takeFrom_L23 f (nI d) s ∧ tkd k (σ 4) σ (G_X4_takeFrom_L23 f (nI d) s)) (fun d s => (∀ b, b ≠ 13 → b ≠ 14 → s b = A b) ∧ (∀ i, i < d → s 13 i = nI (be2 (σ 4) (kP i))) ∧ ∀ i, i < d → ∀ j, j < 4 → s 14 (4 * i + j) = nI (be4 (σ 4) (kP i + 2 + 4 * j))) (k + 1) (by
    intro f s h
    unfold QG_X4_takeFrom_L23 G_X4_takeFrom_L23
    have s12 : s 12 2 = nI (k + 1) := by rw [h.1 12 (by decide) (by decide)]; exact k12
    have c3 : nI (k + 1) ≤ nI (k + 1) := nI_le (Nat.le_refl _) (by omega)
    simp only [s12, if_pos c3]
    exact ⟨trivial, fun b h1 h2 h3 => (h.1 b h2 h3).trans (kf b h1), s12, h.2.1, h.2.2⟩) (by
    intro f d s hd h kk
    unfold QG_X4_takeFrom_L23 G_X4_takeFrom_L23
    have s12 : s 12 2 = nI (k + 1) := by rw [h.1 12 (by decide) (by decide)]; exact k12
    have c3 : ¬ nI (k + 1) ≤ nI d := nI_ge hd (by omega)
    have kd := kP_le (show d ≤ k by omega)
    have s3 : s 3 1 = nI l := by rw [h.1 3 (by decide) (by decide), kf 3 (by decide)]; exact e
    have s4 : s 4 = σ 4 := by rw [h.1 4 (by decide) (by decide), kf 4 (by decide)]
    have tw : F_X0_twoAt s 3 400 (nI (kP d)) = nI (be2 (σ 4) (kP d)) := by
      have := twoAt_u (σ := s) (j := 3) (N := 400) (n := l) (i := kP d) (by omega) (by decide) s3 (by omega)
      rw [this]; show nI (be2 (s 4) _) = _; rw [s4]
    simp only [s12, if_neg c3, c_place d (by omega), tw, ix_n (show d < 2 ^ 31 by omega)]
    have B1 : ∀ b, b ≠ 13 → pf s 13 d (nI (be2 (σ 4) (kP d))) b = s b := fun b h => pf_ne h
    have B2 : ∀ i, i < d + 1 → pf s 13 d (nI (be2 (σ 4) (kP d))) 13 i = nI (be2 (σ 4) (kP i)) := fun i hi => by
      rw [pf_v]
      by_cases ei : i = d
      · subst ei; rw [if_pos rfl]
      · rw [if_neg ei]; exact h.2.1 i (by omega)
    generalize pf s 13 d (nI (be2 (σ 4) (kP d))) = B at B1 B2 ⊢
    have inner := lpF (fun f' j u => QG_X4_takeFrom_L50 (QG_X4_takeFrom_L23 f) f' (nI d) (nI (kP d)) (nI j) u ∧ tkd k (σ 4) σ (G_X4_takeFrom_L50 (G_X4_takeFrom_L23 f) f' (nI d) (nI (kP d)) (nI j) u)) (fun j u => (∀ b, b ≠ 14 → u b = B b) ∧ (∀ i, i < 4 * d → u 14 i = B 14 i) ∧ ∀ x, x < j → u 14 (4 * d + x) = nI (be4 (σ 4) (kP d + 2 + 4 * x))) 4 (by
      intro f' u h'
      unfold QG_X4_takeFrom_L50 G_X4_takeFrom_L50
      have c4 : (4 : Int32) ≤ nI 4 := nI_le (a := 4) (Nat.le_refl _) (by decide)
      simp only [if_pos c4, nI_i1]
      refine kk u ⟨fun b g1 g2 => by rw [h'.1 b g2, B1 b g1]; exact h.1 b g1 g2, fun i hi => by rw [h'.1 13 (by decide)]; exact B2 i hi, fun i hi j hj => ?_⟩
      by_cases ei : i = d
      · subst ei; exact h'.2.2 j hj
      · rw [h'.2.1 _ (by omega), B1 14 (by decide)]; exact h.2.2 i (by omega) j hj) (by
      intro f' j u hj h' k'
      unfold QG_X4_takeFrom_L50 G_X4_takeFrom_L50
      have c4 : ¬ (4 : Int32) ≤ nI j := nI_ge (b := 4) hj (by decide)
      have ea : nI (kP d) + (2 : Int32) + nI j * 4 = nI (kP d + 2 + 4 * j) := by rw [show (4 : Int32) = nI 4 from rfl, pk_mul, show (2 : Int32) = nI 2 from rfl, nI_add, nI_add, Nat.mul_comm j 4]
      have eb : nI d * (4 : Int32) + nI j = nI (4 * d + j) := by rw [show (4 : Int32) = nI 4 from rfl, pk_mul, nI_add, Nat.mul_comm d 4]
      have u3 : u 3 1 = nI l := by rw [h'.1 3 (by decide), B1 3 (by decide)]; exact s3
      have u4 : u 4 = σ 4 := by rw [h'.1 4 (by decide), B1 4 (by decide)]; exact s4
      have fo : F_X0_fourAt u 3 400 (nI (kP d + 2 + 4 * j)) = nI (be4 (σ 4) (kP d + 2 + 4 * j)) := by
        have := fourAt_u (σ := u) (j := 3) (N := 400) (n := l) (i := kP d + 2 + 4 * j) (by omega) (by decide) u3 (by omega)
        rw [this]; show nI (be4 (u 4) _) = _; rw [u4]
      simp only [if_neg c4, ea, eb, fo, nI_i1, ix_n (show 4 * d + j < 2 ^ 31 by omega)]
      have g := k' (pf u 14 (4 * d + j) (nI (be4 (σ 4) (kP d + 2 + 4 * j)))) ⟨fun b hb => (pf_ne hb).trans (h'.1 b hb), fun i hi => by rw [pf_i (by omega)]; exact h'.2.1 i hi, fun x hx => by
        rw [pf_v]
        by_cases ex : x = j
        · subst ex; rw [if_pos rfl]
        · rw [if_neg (by omega)]; exact h'.2.2 x (by omega)⟩
      exact ⟨⟨q_fourAt u 3 (by decide) _, vp_in_nI (by omega) (by decide), g.1⟩, g.2⟩) 4000 0 B (Nat.zero_le _) (by omega) ⟨fun _ _ => rfl, fun _ _ => rfl, fun x hx => absurd hx (by omega)⟩
    exact ⟨⟨q_twoAt s 3 (by decide) _, vp_in_nI (by omega) (by decide), inner.1⟩, inner.2⟩) 4000 0 A (Nat.zero_le _) (by omega) ⟨fun _ _ _ => rfl, fun i hi => absurd hi (by omega), fun i hi => absurd hi (by omega)⟩
  exact ⟨⟨q19, lp.1⟩, lp.2⟩
