/-! Enrolment: the reference; both -/
theorem r_fld {τ : gS} {i k : Nat} (hk : k ≤ 6) (hi : i ≤ k) : Q_X10_diskField τ (nI (kP i)) 2 ∧ F_X10_diskField τ (nI (kP i)) 2 = lN (be2 (τ 215) (kP i)) := by
  have := r_diskField (τ := τ) (i := kP i) (n := 2) (by have := kP_le hi; omega) (by omega)
  rw [beN_2] at this; exact this
theorem df_s (r : Nat → Int32) (d : Nat) : df r (d + 2) ↔ df r (d + 1) ∧ be2 r (kP (d + 1)) ≠ be2 r (kP 0) ∧ ∀ b, b < d → be2 r (kP (d + 1)) ≠ be2 r (kP (b + 1)) := by
  constructor
  · intro h
    exact ⟨fun a ha b hb => h a (by omega) b hb, h (d + 1) (by omega) 0 (by omega), fun b hb => h (d + 1) (by omega) (b + 1) (by omega)⟩
  · rintro ⟨h1, h2, h3⟩ a ha b hb
    by_cases e : a = d + 1
    · subst e
      cases b with
      | zero => exact h2
      | succ b => exact h3 b (by omega)
    · exact h1 a (by omega) b hb
theorem r_isEnr {τ : gS} {l : Nat} (hl : l ≤ 400) (e : τ 199 25 = nI l) : Q_X10_isEnrolment τ ∧ ((F_X10_isEnrolment τ = 1 ∧ ∃ k, enrR l k (τ 215)) ∨ (F_X10_isEnrolment τ = 0 ∧ ¬ ∃ k, enrR l k (τ 215))) := by
  rw [F_X10_isEnrolment_eq]
  unfold Q_X10_isEnrolment Fr_X10_isEnrolment
  have i19 : ix (19 : Int32) = 19 := ix_n (n := 19) (by decide)
  simp only [e, ix0, i19]
  by_cases h20 : l < 20
  · have c1 : nI l < 20 := nI_lt (b := 20) h20 (by decide)
    simp only [if_pos c1]
    exact ⟨trivial, Or.inr ⟨trivial, fun ⟨k, z⟩ => by have := z.2.1; omega⟩⟩
  have c1 : ¬ nI l < 20 := nI_nlt (b := 20) (by omega) (by omega)
  simp only [if_neg c1]
  by_cases h69 : τ 215 0 = 69
  rotate_left
  · simp only [if_neg h69]
    exact ⟨trivial, Or.inr ⟨trivial, fun ⟨k, z⟩ => h69 z.2.2.1⟩⟩
  simp only [if_pos h69]
  by_cases hn : τ 215 19 < 0
  · simp only [if_pos hn]
    refine ⟨trivial, Or.inr ⟨trivial, fun ⟨k, z⟩ => ?_⟩⟩
    rw [z.2.2.2.1] at hn
    exact absurd hn (nI_pos (by have := z.1; omega))
  simp only [if_neg hn]
  obtain ⟨k, hk31, ek⟩ := nI_of hn
  rw [ek]
  by_cases h6 : 6 < k
  · have c2 : (6 : Int32) < nI k := nI_lt (a := 6) h6 (by omega)
    simp only [if_pos c2]
    refine ⟨trivial, Or.inr ⟨trivial, fun ⟨k', z⟩ => ?_⟩⟩
    have := nI_inj31 (by have := z.1; omega) hk31 (z.2.2.2.1.symm.trans ek)
    have := z.1; omega
  have c2 : ¬ (6 : Int32) < nI k := nI_nlt (a := 6) (by omega) (by decide)
  simp only [if_neg c2]
  have el : (20 : Int32) + 18 * nI k = nI (20 + 18 * k) := by rw [show (18 : Int32) = nI 18 from rfl, pk_mul, show (20 : Int32) = nI 20 from rfl, nI_add]
  rw [el]
  have uq : ∀ k', enrR l k' (τ 215) → k' = k := fun k' z => nI_inj31 (by have := z.1; omega) (by omega) (z.2.2.2.1.symm.trans ek)
  by_cases hl2 : l = 20 + 18 * k
  rotate_left
  · have c3 : ¬ nI l = nI (20 + 18 * k) := fun z => hl2 (nI_inj31 (by omega) (by omega) z)
    simp only [if_neg c3]
    refine ⟨trivial, Or.inr ⟨trivial, fun ⟨k', z⟩ => hl2 ?_⟩⟩
    have := uq k' z; rw [← this]; exact z.2.1
  have c3 : nI l = nI (20 + 18 * k) := by rw [hl2]
  simp only [if_pos c3]
  have all : df (τ 215) (k + 1) ↔ ∃ k', enrR l k' (τ 215) := ⟨fun z => ⟨k, by omega, hl2, h69, ek, z⟩, fun ⟨k', z⟩ => by
    have := uq k' z; rw [← this]; exact z.2.2.2.2⟩
  rw [← all]
  have place : ∀ d, (20 : Int32) + 18 * nI d = nI (kP (d + 1)) := fun d => by rw [show (18 : Int32) = nI 18 from rfl, pk_mul, show (20 : Int32) = nI 20 from rfl, nI_add, kP_s]
  have f1 : Q_X10_diskField τ 1 2 ∧ F_X10_diskField τ 1 2 = lN (be2 (τ 215) (kP 0)) := r_fld (i := 0) (k := k) (by omega) (by omega)
  have b0 := be2_lt (τ 215) (kP 0)
  exact lpF (fun f d b => QG_X10_isEnrolment_L68 τ f (bI b) (nI d) ∧ ((G_X10_isEnrolment_L68 τ f (bI b) (nI d) = 1 ∧ df (τ 215) (k + 1)) ∨ (G_X10_isEnrolment_L68 τ f (bI b) (nI d) = 0 ∧ ¬ df (τ 215) (k + 1)))) (fun d b => b = true ↔ df (τ 215) (d + 1)) k (by
    intro f b h
    unfold QG_X10_isEnrolment_L68 G_X10_isEnrolment_L68
    have c4 : nI k ≤ nI k := nI_le (Nat.le_refl _) (by omega)
    simp only [i19, ek, if_pos c4]
    cases b with
    | true => exact ⟨⟨Or.inr rfl, trivial⟩, Or.inl ⟨rfl, h.mp rfl⟩⟩
    | false => exact ⟨⟨Or.inl rfl, trivial⟩, Or.inr ⟨rfl, fun z => absurd (h.mpr z) (by decide)⟩⟩) (by
    intro f d b hd h kk
    unfold QG_X10_isEnrolment_L68 G_X10_isEnrolment_L68
    have c4 : ¬ nI k ≤ nI d := nI_ge hd (by omega)
    obtain ⟨qf, ef⟩ := r_fld (τ := τ) (i := d + 1) (k := k) (by omega) (by omega)
    have bd := be2_lt (τ 215) (kP (d + 1))
    simp only [i19, ek, if_neg c4, place d, ef, f1.2]
    -- the inner loop
    have inner : ∀ b' : Bool, (b' = true ↔ df (τ 215) (d + 1) ∧ be2 (τ 215) (kP (d + 1)) ≠ be2 (τ 215) (kP 0)) → QG_X10_isEnrolment_L116 τ (QG_X10_isEnrolment_L68 τ f) 4000 (bI b') (nI d) (lN (be2 (τ 215) (kP (d + 1)))) 0 ∧ ((G_X10_isEnrolment_L116 τ (G_X10_isEnrolment_L68 τ f) 4000 (bI b') (nI d) (lN (be2 (τ 215) (kP (d + 1)))) 0 = 1 ∧ df (τ 215) (k + 1)) ∨ (G_X10_isEnrolment_L116 τ (G_X10_isEnrolment_L68 τ f) 4000 (bI b') (nI d) (lN (be2 (τ 215) (kP (d + 1)))) 0 = 0 ∧ ¬ df (τ 215) (k + 1))) := by
      intro b' hb'
      exact lpF (fun f' j b' => QG_X10_isEnrolment_L116 τ (QG_X10_isEnrolment_L68 τ f) f' (bI b') (nI d) (lN (be2 (τ 215) (kP (d + 1)))) (nI j) ∧ ((G_X10_isEnrolment_L116 τ (G_X10_isEnrolment_L68 τ f) f' (bI b') (nI d) (lN (be2 (τ 215) (kP (d + 1)))) (nI j) = 1 ∧ df (τ 215) (k + 1)) ∨ (G_X10_isEnrolment_L116 τ (G_X10_isEnrolment_L68 τ f) f' (bI b') (nI d) (lN (be2 (τ 215) (kP (d + 1)))) (nI j) = 0 ∧ ¬ df (τ 215) (k + 1)))) (fun j b' => b' = true ↔ df (τ 215) (d + 1) ∧ be2 (τ 215) (kP (d + 1)) ≠ be2 (τ 215) (kP 0) ∧ ∀ x, x < j → be2 (τ 215) (kP (d + 1)) ≠ be2 (τ 215) (kP (x + 1))) d (by
        intro f' b' h'
        unfold QG_X10_isEnrolment_L116 G_X10_isEnrolment_L116
        have c5 : nI d ≤ nI d := nI_le (Nat.le_refl _) (by omega)
        simp only [if_pos c5, nI_i1]
        exact kk b' (h'.trans (df_s _ _).symm)) (by
        intro f' j b' hj h' k'
        unfold QG_X10_isEnrolment_L116 G_X10_isEnrolment_L116
        have c5 : ¬ nI d ≤ nI j := nI_ge hj (by omega)
        obtain ⟨qj, ej⟩ := r_fld (τ := τ) (i := j + 1) (k := k) (by omega) (by omega)
        have bj := be2_lt (τ 215) (kP (j + 1))
        cases b' with
        | false =>
          have c6 : bI false = 0 := rfl
          simp only [if_neg c5, c6, if_true, nI_i1]
          exact k' false ⟨fun z => absurd z (by decide), fun z => h'.mpr ⟨z.1, z.2.1, fun x hx => z.2.2 x (by omega)⟩⟩
        | true =>
          have c6 : ¬ bI true = 0 := by decide
          simp only [if_neg c5, if_neg c6, place j, ej, nI_i1]
          by_cases hh : be2 (τ 215) (kP (d + 1)) = be2 (τ 215) (kP (j + 1))
          · have c7 := (lc_eq (a := be2 (τ 215) (kP (d + 1))) (b := be2 (τ 215) (kP (j + 1))) (by omega) (by omega)).mpr hh
            simp only [if_pos c7]
            have g := k' false ⟨fun z => absurd z (by decide), fun z => absurd hh (z.2.2 j (by omega))⟩
            exact ⟨⟨qj, g.1⟩, g.2⟩
          · have c7 : ¬ _ := fun z => hh ((lc_eq (a := be2 (τ 215) (kP (d + 1))) (b := be2 (τ 215) (kP (j + 1))) (by omega) (by omega)).mp z)
            simp only [if_neg c7]
            have g := k' true ⟨fun _ => ⟨(h'.mp rfl).1, (h'.mp rfl).2.1, fun x hx => by
              by_cases ex : x = j
              · subst ex; exact hh
              · exact (h'.mp rfl).2.2 x (by omega)⟩, fun _ => rfl⟩
            exact ⟨⟨qj, g.1⟩, g.2⟩) 4000 0 b' (Nat.zero_le _) (by omega) (hb'.trans ⟨fun z => ⟨z.1, z.2, fun x hx => absurd hx (by omega)⟩, fun z => ⟨z.1, z.2.1⟩⟩)
    cases b with
    | false =>
      have c6 : bI false = 0 := rfl
      simp only [c6, if_true]
      have g := inner false ⟨fun z => absurd z (by decide), fun z => h.mpr z.1⟩
      exact ⟨⟨qf, g.1⟩, g.2⟩
    | true =>
      have c6 : ¬ bI true = 0 := by decide
      simp only [if_neg c6]
      by_cases hh : be2 (τ 215) (kP (d + 1)) = be2 (τ 215) (kP 0)
      · have c7 := (lc_eq (a := be2 (τ 215) (kP (d + 1))) (b := be2 (τ 215) (kP 0)) (by omega) (by omega)).mpr hh
        simp only [if_pos c7]
        have g := inner false ⟨fun z => absurd z (by decide), fun z => absurd hh z.2⟩
        exact ⟨⟨qf, f1.1, g.1⟩, g.2⟩
      · have c7 : ¬ _ := fun z => hh ((lc_eq (a := be2 (τ 215) (kP (d + 1))) (b := be2 (τ 215) (kP 0)) (by omega) (by omega)).mp z)
        simp only [if_neg c7]
        have g := inner true ⟨fun _ => ⟨h.mp rfl, hh⟩, fun _ => rfl⟩
        exact ⟨⟨qf, f1.1, g.1⟩, g.2⟩) 4000 0 true (Nat.zero_le _) (by omega) ⟨fun _ a ha b hb => absurd hb (by omega), fun _ => rfl⟩
abbrev ekd (k : Nat) (V W : gS) : Prop := (∀ b, b ≠ 199 → b ≠ 213 → b ≠ 214 → W b = V b) ∧ (∀ j, j ≠ 17 → j ≠ 18 → j ≠ 46 → j ≠ 41 → j ≠ 40 → W 199 j = V 199 j) ∧ (W 199 17 = nI (k + 1)) ∧ (W 199 18 = nI (be2 (V 215) (kP 0))) ∧ (W 199 46 = 2 ∧ W 199 41 = 1 ∧ W 199 40 = 1) ∧ (∀ i, i < k + 1 → W 213 i = nI (be2 (V 215) (kP i))) ∧ (∀ i, i < k + 1 → ∀ x, x < 16 → W 214 (16 * i + x) = (V 215 (kP i + 2 + x)).toInt8.toInt32)
theorem ekd.fr {k : Nat} {V W : gS} (h : ekd k V W) : ∀ b, b ≠ 199 → b ≠ 213 → b ≠ 214 → W b = V b := h.1
theorem ekd.fk {k : Nat} {V W : gS} (h : ekd k V W) : ∀ j, j ≠ 17 → j ≠ 18 → j ≠ 46 → j ≠ 41 → j ≠ 40 → W 199 j = V 199 j := h.2.1
theorem ekd.cnt {k : Nat} {V W : gS} (h : ekd k V W) : W 199 17 = nI (k + 1) := h.2.2.1
theorem ekd.own {k : Nat} {V W : gS} (h : ekd k V W) : W 199 18 = nI (be2 (V 215) (kP 0)) := h.2.2.2.1
theorem ekd.st {k : Nat} {V W : gS} (h : ekd k V W) : W 199 46 = 2 ∧ W 199 41 = 1 ∧ W 199 40 = 1 := h.2.2.2.2.1
theorem ekd.iss {k : Nat} {V W : gS} (h : ekd k V W) : ∀ i, i < k + 1 → W 213 i = nI (be2 (V 215) (kP i)) := h.2.2.2.2.2.1
theorem ekd.kys {k : Nat} {V W : gS} (h : ekd k V W) : ∀ i, i < k + 1 → ∀ x, x < 16 → W 214 (16 * i + x) = (V 215 (kP i + 2 + x)).toInt8.toInt32 := h.2.2.2.2.2.2
theorem r_take {V : gS} {z : gQ} {k : Nat} (hk : k ≤ 6) (e19 : V 215 19 = nI k) (x : Int32) : (Q_X10_diskField (pf V 199 17 (nI (k + 1))) 1 2 ∧ F_X10_diskField (pf V 199 17 (nI (k + 1))) 1 2 = lN (be2 (V 215) (kP 0))) ∧ QG_X10_enrols_L64 x 4000 0 (pf (pf V 199 17 (nI (k + 1))) 199 18 (nI (be2 (V 215) (kP 0)))) z ∧ ekd k V (G_X10_enrols_L64 x 4000 0 (pf (pf V 199 17 (nI (k + 1))) 199 18 (nI (be2 (V 215) (kP 0)))) z).1 ∧ (G_X10_enrols_L64 x 4000 0 (pf (pf V 199 17 (nI (k + 1))) 199 18 (nI (be2 (V 215) (kP 0)))) z).2 = z := by
  refine ⟨?_, ?_⟩
  · have := r_fld (τ := pf V 199 17 (nI (k + 1))) (i := 0) (k := k) hk (by omega)
    rw [pf_ne (show 215 ≠ 199 by decide)] at this
    exact this
  have a17 : pf (pf V 199 17 (nI (k + 1))) 199 18 (nI (be2 (V 215) (kP 0))) 199 17 = nI (k + 1) := by rw [pf_i (by decide), pf_s]
  have a18 : pf (pf V 199 17 (nI (k + 1))) 199 18 (nI (be2 (V 215) (kP 0))) 199 18 = nI (be2 (V 215) (kP 0)) := pf_s
  have af : ∀ b, b ≠ 199 → pf (pf V 199 17 (nI (k + 1))) 199 18 (nI (be2 (V 215) (kP 0))) b = V b := fun b h => by rw [pf_ne h, pf_ne h]
  have ak : ∀ j, j ≠ 17 → j ≠ 18 → pf (pf V 199 17 (nI (k + 1))) 199 18 (nI (be2 (V 215) (kP 0))) 199 j = V 199 j := fun j h1 h2 => by rw [pf_i h2, pf_i h1]
  generalize pf (pf V 199 17 (nI (k + 1))) 199 18 (nI (be2 (V 215) (kP 0))) = A at a17 a18 af ak ⊢
  exact lpF (fun f d s => QG_X10_enrols_L64 x f (nI d) s z ∧ ekd k V (G_X10_enrols_L64 x f (nI d) s z).1 ∧ (G_X10_enrols_L64 x f (nI d) s z).2 = z) (fun d s => (∀ b, b ≠ 213 → b ≠ 214 → s b = A b) ∧ (∀ i, i < d → s 213 i = nI (be2 (V 215) (kP i))) ∧ ∀ i, i < d → ∀ y, y < 16 → s 214 (16 * i + y) = (V 215 (kP i + 2 + y)).toInt8.toInt32) (k + 1) (by
    intro f s h
    unfold QG_X10_enrols_L64 G_X10_enrols_L64
    have s17 : s 199 17 = nI (k + 1) := by rw [h.1 199 (by decide) (by decide)]; exact a17
    have s199 : s 199 = A 199 := h.1 199 (by decide) (by decide)
    have c3 : nI (k + 1) ≤ nI (k + 1) := nI_le (Nat.le_refl _) (by omega)
    simp only [s17, if_pos c3, iTo]
    refine ⟨trivial, ⟨fun b h1 h2 h3 => ?_, fun j h1 h2 h3 h4 h5 => ?_, ?_, ?_, ⟨?_, ?_, pf_s⟩, fun i hi => ?_, fun i hi y hy => ?_⟩, trivial⟩
    · rw [pf_ne h1, pf_ne h1, pf_ne h1, h.1 b h2 h3, af b h1]
    · rw [pf_i h5, pf_i h4, pf_i h3, s199, ak j h1 h2]
    · rw [pf_i (by decide), pf_i (by decide), pf_i (by decide), s17]
    · rw [pf_i (by decide), pf_i (by decide), pf_i (by decide), s199, a18]
    · rw [pf_i (by decide), pf_i (by decide), pf_s]
    · rw [pf_i (by decide), pf_s]
    · rw [pf_ne (by decide), pf_ne (by decide), pf_ne (by decide)]; exact h.2.1 i hi
    · rw [pf_ne (by decide), pf_ne (by decide), pf_ne (by decide)]; exact h.2.2 i hi y hy) (by
    intro f d s hd h kk
    unfold QG_X10_enrols_L64 G_X10_enrols_L64
    have s17 : s 199 17 = nI (k + 1) := by rw [h.1 199 (by decide) (by decide)]; exact a17
    have c3 : ¬ nI (k + 1) ≤ nI d := nI_ge hd (by omega)
    have kd := kP_le (show d ≤ k by omega)
    have s215 : s 215 = V 215 := by rw [h.1 215 (by decide) (by decide), af 215 (by decide)]
    have fl := r_fld (τ := s) (i := d) (k := k) hk (by omega)
    rw [s215] at fl
    have v7 : vp_in (nI d) 7 := vp_in_nI (by omega) (by decide)
    have B1 : ∀ b, b ≠ 213 → pf s 213 d (nI (be2 (V 215) (kP d))) b = s b := fun b h => pf_ne h
    have B2 : ∀ i, i < d + 1 → pf s 213 d (nI (be2 (V 215) (kP d))) 213 i = nI (be2 (V 215) (kP i)) := fun i hi => by
      rw [pf_v]
      by_cases ei : i = d
      · subst ei; rw [if_pos rfl]
      · rw [if_neg ei]; exact h.2.1 i (by omega)
    have inner : QG_X10_enrols_L106 x (QG_X10_enrols_L64 x f) 4000 (nI d) (nI (kP d)) 0 (pf s 213 d (nI (be2 (V 215) (kP d)))) z ∧ ekd k V (G_X10_enrols_L106 x (G_X10_enrols_L64 x f) 4000 (nI d) (nI (kP d)) 0 (pf s 213 d (nI (be2 (V 215) (kP d)))) z).1 ∧ (G_X10_enrols_L106 x (G_X10_enrols_L64 x f) 4000 (nI d) (nI (kP d)) 0 (pf s 213 d (nI (be2 (V 215) (kP d)))) z).2 = z := by
      generalize pf s 213 d (nI (be2 (V 215) (kP d))) = B at B1 B2 ⊢
      exact lpF (fun f' j u => QG_X10_enrols_L106 x (QG_X10_enrols_L64 x f) f' (nI d) (nI (kP d)) (nI j) u z ∧ ekd k V (G_X10_enrols_L106 x (G_X10_enrols_L64 x f) f' (nI d) (nI (kP d)) (nI j) u z).1 ∧ (G_X10_enrols_L106 x (G_X10_enrols_L64 x f) f' (nI d) (nI (kP d)) (nI j) u z).2 = z) (fun j u => (∀ b, b ≠ 214 → u b = B b) ∧ (∀ i, i < 16 * d → u 214 i = B 214 i) ∧ ∀ y, y < j → u 214 (16 * d + y) = (V 215 (kP d + 2 + y)).toInt8.toInt32) 16 (by
        intro f' u h'
        unfold QG_X10_enrols_L106 G_X10_enrols_L106
        have c4 : (16 : Int32) ≤ nI 16 := nI_le (a := 16) (Nat.le_refl _) (by decide)
        simp only [if_pos c4, nI_i1]
        refine kk u ⟨fun b g1 g2 => by rw [h'.1 b g2, B1 b g1]; exact h.1 b g1 g2, fun i hi => by rw [h'.1 213 (by decide)]; exact B2 i hi, fun i hi y hy => ?_⟩
        by_cases ei : i = d
        · subst ei; exact h'.2.2 y hy
        · rw [h'.2.1 _ (by omega), B1 214 (by decide)]; exact h.2.2 i (by omega) y hy) (by
        intro f' j u hj h' k'
        unfold QG_X10_enrols_L106 G_X10_enrols_L106
        have c4 : ¬ (16 : Int32) ≤ nI j := nI_ge (b := 16) hj (by decide)
        have ea : nI (kP d) + (2 : Int32) + nI j = nI (kP d + 2 + j) := by rw [show (2 : Int32) = nI 2 from rfl, nI_add, nI_add]
        have eb : (16 : Int32) * nI d + nI j = nI (16 * d + j) := by rw [show (16 : Int32) = nI 16 from rfl, pk_mul, nI_add]
        have u215 : u 215 = V 215 := by rw [h'.1 215 (by decide), B1 215 (by decide)]; exact s215
        simp only [if_neg c4, ea, eb, nI_i1, ix_n (show 16 * d + j < 2 ^ 31 by omega), ix_n (show kP d + 2 + j < 2 ^ 31 by omega), u215]
        have g := k' (pf u 214 (16 * d + j) (V 215 (kP d + 2 + j)).toInt8.toInt32) ⟨fun b hb => (pf_ne hb).trans (h'.1 b hb), fun i hi => by rw [pf_i (by omega)]; exact h'.2.1 i hi, fun y hy => by
          rw [pf_v]
          by_cases ey : y = j
          · subst ey; rw [if_pos rfl]
          · rw [if_neg (by omega)]; exact h'.2.2 y (by omega)⟩
        exact ⟨⟨vp_in_nI (by omega) (by decide), vp_in_nI (by omega) (by decide), g.1⟩, g.2⟩) 4000 0 B (Nat.zero_le _) (by omega) ⟨fun _ _ => rfl, fun _ _ => rfl, fun y hy => absurd hy (by omega)⟩
    simp only [s17, if_neg c3, ix_n (show d < 2 ^ 31 by omega)]
    by_cases h0 : d = 0
    · have c4 : nI d = 0 := by rw [h0]; rfl
      have k0 : kP d = 1 := by rw [h0]; rfl
      rw [k0] at fl inner
      have fl' : Q_X10_diskField s 1 2 ∧ F_X10_diskField s 1 2 = lN (be2 (V 215) 1) := fl
      have in' : QG_X10_enrols_L106 x (QG_X10_enrols_L64 x f) 4000 (nI d) 1 0 (pf s 213 d (nI (be2 (V 215) 1))) z ∧ ekd k V (G_X10_enrols_L106 x (G_X10_enrols_L64 x f) 4000 (nI d) 1 0 (pf s 213 d (nI (be2 (V 215) 1))) z).1 ∧ (G_X10_enrols_L106 x (G_X10_enrols_L64 x f) 4000 (nI d) 1 0 (pf s 213 d (nI (be2 (V 215) 1))) z).2 = z := inner
      simp only [if_pos c4, fl'.2, lN_i]
      exact ⟨⟨fl'.1, v7, in'.1⟩, in'.2⟩
    · have c4 : ¬ nI d = 0 := nI_ne0 (by omega) (by omega)
      have pl : (20 : Int32) + 18 * (nI d - 1) = nI (kP d) := by
        rw [nIs (b := 1) (by omega) 1 rfl, show (18 : Int32) = nI 18 from rfl, pk_mul, show (20 : Int32) = nI 20 from rfl, nI_add]
        unfold kP; rw [if_neg h0]
      simp only [if_neg c4, pl, fl.2, lN_i]
      exact ⟨⟨fl.1, v7, inner.1⟩, inner.2⟩) 4000 0 A (Nat.zero_le _) (by omega) ⟨fun _ _ _ => rfl, fun i hi => absurd hi (by omega), fun i hi => absurd hi (by omega)⟩
theorem enrR_iff {l : Nat} {r r' : Nat → Int32} (h : ∀ i, i < l → r i = r' i) (k : Nat) : enrR l k r ↔ enrR l k r' := by
  have main : ∀ {r r' : Nat → Int32}, (∀ i, i < l → r i = r' i) → enrR l k r → enrR l k r' := by
    intro r r' h z
    obtain ⟨z1, z2, z3, z4, z5⟩ := z
    refine ⟨z1, z2, by rw [← h 0 (by omega)]; exact z3, by rw [← h 19 (by omega)]; exact z4, fun a ha b hb => ?_⟩
    have ka := kP_le (show a ≤ k by omega)
    have kb := kP_le (show b ≤ k by omega)
    rw [← be2_congr (L := l) h (by omega), ← be2_congr (L := l) h (by omega)]
    exact z5 a ha b hb
  exact ⟨main h, main (fun i hi => (h i hi).symm)⟩
/-- state 0 with a disk -/
theorem a_enrol {M n so t d : Nat} {σ τ : gS} {ζ : gQ} (R : RLk M n so 0 t d σ τ ζ) (hp : σ 15 6 = 1) (hM : M < 2 ^ 20 - 2) (hd : σ 0 2 = 1) :
    ∃ u V z, F_X9_enrol σ = (1, u) ∧ Q_X9_enrol σ ∧ Q_X10_enrols τ ζ (-1) ∧ F_X10_enrols τ ζ (-1) = (V, z) ∧ actR M n so 0 t d σ τ 1 u V z := by
  rw [F_X9_enrol_eq, F_X10_enrols_eq]
  unfold Fr_X9_enrol Q_X9_enrol Fr_X10_enrols Q_X10_enrols
  have n0 : n = 0 := R.ins.2.2.2.2.2.2.2.2.mp (by decide)
  subst n0
  have rm1 : σ 21 4 = -1 := by
    by_cases h : σ 21 4 = -1
    · exact h
    · have := R.ins.2.2.2.2.2.1 h; omega
  obtain ⟨l, hl, l1, l2, lb⟩ : ∃ l : Nat, l ≤ 400 ∧ σ 3 1 = nI l ∧ τ 199 25 = nI l ∧ ∀ i, i < l → σ 4 i = τ 215 i ∧ isb (σ 4 i) := by
    rcases R.com.disk with ⟨z, _⟩ | ⟨_, l, h1, h2, h3, h4⟩
    · rw [hd] at z; exact absurd z (by decide)
    · exact ⟨l, h1, h2, h3, h4⟩
  obtain ⟨qs, cs⟩ := c_areOn (σ := σ) hl l1 (fun i hi => (lb i hi).2)
  obtain ⟨qr, cr⟩ := r_isEnr (τ := τ) hl l2
  have same : (∃ k, enrR l k (σ 4)) ↔ ∃ k, enrR l k (τ 215) := ⟨fun ⟨k, z⟩ => ⟨k, (enrR_iff (fun i hi => (lb i hi).1) k).mp z⟩, fun ⟨k, z⟩ => ⟨k, (enrR_iff (fun i hi => (lb i hi).1) k).mpr z⟩⟩
  rcases cs with ⟨es, k, ss⟩ | ⟨es, ss⟩
  rotate_left
  · have er : F_X10_isEnrolment τ = 0 := by
      rcases cr with ⟨_, z⟩ | ⟨z, _⟩
      · exact absurd (same.mpr z) ss
      · exact z
    obtain ⟨r, u, V, z, e1, e2, q1, q2, E⟩ := s_wri R hp hM (a := 41) (b := 1) (sm_n 41 (by decide)) (sm_n 1 (by decide))
    simp only [es, er, if_true, e1, e2, iTo]
    rcases E.1 with rfl | ⟨rfl, h6⟩
    · simp only [if_neg n10]
      refine ⟨_, _, _, rfl, ⟨qs, q1, trivial⟩, ⟨qr, q2, trivial⟩, rfl, actR_1 (M' := M + 2) (n' := 0) (so' := so) (si' := 1) ?_ (by omega)⟩
      have R' := E.2.1
      have I := R'.ins
      have er' : u 21 4 = -1 := by rw [E.2.2.1 21 (by decide) (by decide) (by decide)]; exact rm1
      exact ⟨R'.com, R'.lat, R'.out, ⟨by decide, rfl, rfl, ⟨9, by decide, rfl, rfl⟩, I.2.2.2.2.1, fun h => absurd er' h, fun h => absurd h (by decide), fun h => absurd (h.elim (fun z => absurd z (by decide)) (fun h => h.elim (fun z => absurd z (by decide)) id)) (fun z => z er'), ⟨fun _ => rfl, fun _ => by decide⟩⟩, jr_n R'.jr (by decide)⟩
    · simp only [if_true]
      exact ⟨_, _, _, rfl, ⟨qs, q1, trivial⟩, ⟨qr, q2, trivial⟩, rfl, actR_1 E.2.1 (by omega)⟩
  have er : F_X10_isEnrolment τ = 1 := by
    rcases cr with ⟨z, _⟩ | ⟨_, z⟩
    · exact z
    · exact absurd (same.mp ⟨k, ss⟩) z
  obtain ⟨r, u, V, z, e1, e2, q1, q2, E⟩ := s_wri R hp hM (a := 40) (b := 0) (sm_n 40 (by decide)) (sm_n 0 (by decide))
  simp only [es, er, if_neg n10, e1, e2]
  rcases E.1 with rfl | ⟨rfl, h6⟩
  rotate_left
  · simp only [if_true]
    exact ⟨_, _, _, rfl, ⟨qs, q1, trivial⟩, ⟨qr, q2, trivial⟩, rfl, actR_1 E.2.1 (by omega)⟩
  simp only [if_neg n10]
  have R' := E.2.1
  have C := R'.com
  have I := R'.ins
  have hk := ss.1
  have hlk := ss.2.1
  have u3 : u 3 = σ 3 := E.2.2.1 3 (by decide) (by decide) (by decide)
  have u4 : u 4 = σ 4 := E.2.2.1 4 (by decide) (by decide) (by decide)
  have V215 : V 215 = τ 215 := E.2.2.2.1 215 (by decide) (by decide) (by decide)
  have e19 : σ 4 19 = nI k := ss.2.2.2.1
  have e19' : V 215 19 = nI k := by rw [V215, ← (lb 19 (by omega)).1]; exact e19
  obtain ⟨t1, T⟩ := c_take (σ := u) (k := k) (l := l) hk hlk (by rw [u3]; exact l1) (by rw [u4]; exact e19)
  rw [u4] at T
  obtain ⟨⟨f1, f2⟩, g1, g2, g3⟩ := r_take (V := V) (z := z) hk e19' (-1)
  have i19 : ix (19 : Int32) = 19 := ix_n (n := 19) (by decide)
  have ek1 : (1 : Int32) + nI k = nI (k + 1) := by rw [show (1 : Int32) = nI 1 from rfl, nI_add, Nat.add_comm]
  simp only [i19, e19', ek1, f2, lN_i]
  generalize F_X4_takeFrom u = W at T ⊢
  generalize G_X10_enrols_L64 (-1) 4000 0 (pf (pf V 199 17 (nI (k + 1))) 199 18 (nI (be2 (V 215) (kP 0)))) z = G at g2 g3 ⊢
  refine ⟨_, G.1, G.2, rfl, ⟨qs, q1, t1, trivial⟩, ⟨qr, q2, f1, g1⟩, rfl, actR_1 (M' := M + 2) (n' := k + 1) (so' := so) (si' := 2) ?_ (by omega)⟩
  rw [g3]
  have own' := g2.own
  have iss' := g2.iss
  have kys' := g2.kys
  rw [V215] at own' iss' kys'
  have F := T.fr
  have g := g2.fr
  have fk := g2.fk
  have bR : ∀ i, i < k + 1 → be2 (τ 215) (kP i) = be2 (σ 4) (kP i) := fun i hi => (be2_congr (L := l) (fun j hj => (lb j hj).1) (by have := kP_le (show i ≤ k by omega); omega)).symm
  have er' : u 21 4 = -1 := by rw [E.2.2.1 21 (by decide) (by decide) (by decide)]; exact rm1
  have kys : ∀ i, i < k + 1 → ∀ j, j < 4 → be4 (G.1 214) (16 * i + 4 * j) = be4 (σ 4) (kP i + 2 + 4 * j) := by
    intro i hi j hj
    have kl := kP_le (show i ≤ k by omega)
    have one : ∀ y, y < 16 → G.1 214 (16 * i + y) = σ 4 (kP i + 2 + y) := fun y hy => by
      have b := lb (kP i + 2 + y) (by omega)
      rw [kys' i hi y hy, ← b.1]; exact b.2
    unfold be4
    rw [show 16 * i + 4 * j + 1 = 16 * i + (4 * j + 1) by omega, show 16 * i + 4 * j + 2 = 16 * i + (4 * j + 2) by omega, show 16 * i + 4 * j + 3 = 16 * i + (4 * j + 3) by omega, one _ (by omega), one _ (by omega), one _ (by omega), one _ (by omega)]
    rfl
  refine ⟨⟨?_, ?_, ?_, ?_, ?_, ?_, ?_, ?_, ?_⟩, ?_, ?_, ?_, ?_⟩
  · show pB 400 (W 1 1) (G.1 199 1) (W 2) (G.1 200)
    rw [F 1 (by decide) (by decide) (by decide), F 2 (by decide) (by decide) (by decide), fk 1 (by decide) (by decide) (by decide) (by decide) (by decide), g 200 (by decide) (by decide) (by decide)]; exact C.tape
  · show pD (W 0 2) (W 3 1) (G.1 199 25) (W 4) (G.1 215)
    rw [F 0 (by decide) (by decide) (by decide), F 3 (by decide) (by decide) (by decide), F 4 (by decide) (by decide) (by decide), fk 25 (by decide) (by decide) (by decide) (by decide) (by decide), g 215 (by decide) (by decide) (by decide)]; exact C.disk
  · show pSee (W 0 4) (G.1 199 20) (W 0 5) (G.1 199 21) (W 0 6) (G.1 199 22) (W 0 7) (G.1 199 23) (W 0 9) (G.1 199 26) (W 15 4) (G.1 199 27)
    rw [F 0 (by decide) (by decide) (by decide), F 15 (by decide) (by decide) (by decide), fk 20 (by decide) (by decide) (by decide) (by decide) (by decide), fk 21 (by decide) (by decide) (by decide) (by decide) (by decide), fk 22 (by decide) (by decide) (by decide) (by decide) (by decide), fk 23 (by decide) (by decide) (by decide) (by decide) (by decide), fk 26 (by decide) (by decide) (by decide) (by decide) (by decide), fk 27 (by decide) (by decide) (by decide) (by decide) (by decide)]; exact C.see
  · show t ≤ 2000000000 ∧ W 0 10 = nI t ∧ z 19 = lN t
    rw [F 0 (by decide) (by decide) (by decide)]; exact C.now
  · show ∃ s : Nat, s ≤ M + 2 ∧ W 0 11 = nI (s + 1) ∧ z 53 = lN (s + 1)
    rw [F 0 (by decide) (by decide) (by decide)]; exact C.ser
  · show pSet (W 6) (G.1 217)
    rw [F 6 (by decide) (by decide) (by decide), g 217 (by decide) (by decide) (by decide)]; exact C.set
  · show pKey (k + 1) (W 12 2) (G.1 199 17) (G.1 199 18) (W 13) (G.1 213) (W 14) (G.1 214)
    refine ⟨by omega, T.cnt, g2.cnt, fun h => absurd h (by omega), fun _ => ?_, fun i hi => ⟨⟨?_, be2 (σ 4) (kP i), be2_lt _ _, T.iss i hi⟩, fun j hj => ?_⟩⟩
    · rw [own', T.iss 0 (by omega), bR 0 (by omega)]
    · rw [T.iss i hi, iss' i hi, bR i hi]
    · rw [T.wds i hi j hj, pk_tn (be4_lt _ _), kys i hi j hj]
  · show pTab (G.1 199 10) (G.1 202) (G.1 203)
    rw [fk 10 (by decide) (by decide) (by decide) (by decide) (by decide), g 202 (by decide) (by decide) (by decide), g 203 (by decide) (by decide) (by decide)]; exact C.tab
  · have c0 := crdS_to C.crd
    have c1 : crd W G.1 (k + 1) := by
      intro c hc
      obtain ⟨h1, h2⟩ := c0 c hc
      rw [F (23 + 11 * c) (by omega) (by omega) (by omega), g 212 (by decide) (by decide) (by decide)]
      refine ⟨h1, fun p hp => ?_⟩
      obtain ⟨L, hL, x1, x2, xb, xs⟩ := h2 p hp
      have rw1 : rwR G.1 c p = rwR V c p := by unfold rwR; rw [g 210 (by decide) (by decide) (by decide)]
      refine ⟨L, hL, ?_, ?_, ?_, Or.inl ?_⟩
      · rw [F (rwC c p) (by unfold rwC; omega) (by unfold rwC; omega) (by unfold rwC; omega)]; exact x1
      · rw [g 211 (by decide) (by decide) (by decide)]; exact x2
      · rw [F (rwC c p + 1) (by unfold rwC; omega) (by unfold rwC; omega) (by unfold rwC; omega), rw1]; exact xb
      · rw [F (23 + 11 * c + 2) (by omega) (by omega) (by omega)]
        rcases xs with z | ⟨_, i, _, _, _, ka, _⟩
        · exact z
        · exact absurd ka.1 (by omega)
    have c2 := crdS_of c1
    exact c2
  · show pLat (W 18 0) (G.1 199 35) (W 18 3) (G.1 199 38) (W 18 1) (z 36) (W 18 2) (z 37) (W 0 8) (G.1 199 39)
    rw [F 18 (by decide) (by decide) (by decide), F 0 (by decide) (by decide) (by decide), fk 35 (by decide) (by decide) (by decide) (by decide) (by decide), fk 38 (by decide) (by decide) (by decide) (by decide) (by decide), fk 39 (by decide) (by decide) (by decide) (by decide) (by decide)]; exact R'.lat
  · show pOut so (W 19 1) (G.1 199 42) 1 (G.1 199 40) (W 19 3) (G.1 199 43) (W 19 4) (G.1 199 45) (W 19 5) (z 44)
    have o := R'.out
    rw [F 19 (by decide) (by decide) (by decide), fk 42 (by decide) (by decide) (by decide) (by decide) (by decide), g2.st.2.2, fk 43 (by decide) (by decide) (by decide) (by decide) (by decide), fk 45 (by decide) (by decide) (by decide) (by decide) (by decide)]
    exact ⟨o.1, o.2.1, o.2.2.1, ⟨1, by decide, rfl, rfl⟩, o.2.2.2.2.1, o.2.2.2.2.2.1, o.2.2.2.2.2.2⟩
  · show pIn 2 (k + 1) 2 (G.1 199 46) 1 (G.1 199 41) (W 21 3) (G.1 199 47) (W 21 4) (G.1 199 48) (W 21 5) (G.1 199 49)
    rw [F 21 (by decide) (by decide) (by decide), g2.st.1, g2.st.2.1, fk 47 (by decide) (by decide) (by decide) (by decide) (by decide), fk 48 (by decide) (by decide) (by decide) (by decide) (by decide), fk 49 (by decide) (by decide) (by decide) (by decide) (by decide)]
    exact ⟨by decide, rfl, rfl, ⟨1, by decide, rfl, rfl⟩, I.2.2.2.2.1, fun h => absurd er' h, fun h => absurd h (by decide), fun h => absurd (h.elim (fun z => absurd z (by decide)) (fun h => h.elim (fun z => absurd z (by decide)) id)) (fun z => z er'), ins_lo 2 (by decide) (by omega)⟩
  · obtain ⟨k', m, w, J⟩ := R'.jr
    refine ⟨k', m, w, ?_, ?_, pArc_n (by decide)⟩
    · show pJ (M + 2) k' m (W 15 1) (G.1 199 29) (W 16 1) (W 15 2) (z 30) (W 15 3) (G.1 199 31) (W 17) (G.1 216)
      rw [F 15 (by decide) (by decide) (by decide), F 16 (by decide) (by decide) (by decide), F 17 (by decide) (by decide) (by decide), fk 29 (by decide) (by decide) (by decide) (by decide) (by decide), fk 31 (by decide) (by decide) (by decide) (by decide) (by decide), g 216 (by decide) (by decide) (by decide)]; exact J.1
    · show pPow (M + 2) w d (W 15 5) (G.1 199 32) (W 15 6) (G.1 199 33) (W 15 4) (G.1 199 27)
      rw [F 15 (by decide) (by decide) (by decide), fk 32 (by decide) (by decide) (by decide) (by decide) (by decide), fk 33 (by decide) (by decide) (by decide) (by decide) (by decide), fk 27 (by decide) (by decide) (by decide) (by decide) (by decide)]; exact J.2.1
