/-! A certificate that counts: the class's isGood and the reference's -/
theorem lc_le {a b : Nat} (ha : a < 2 ^ 63) (hb : b < 2 ^ 63) : lg_cmp (lN a) (lN b) ≤ 0 ↔ a ≤ b := by
  rw [← Int32.not_lt, lc_gt ha hb, Nat.not_lt]
theorem c_choose {σ : gS} {n i : Nat} {iss kb : Nat → Int32} (K : pKw n (σ 12 2) (σ 13) (σ 14) iss kb) (hi : i < n) : Q_X4_choose σ (nI i) ∧ (∀ b, b ≠ 8 → F_X4_choose σ (nI i) b = σ b) ∧ ∀ k, k < 16 → bW (F_X4_choose σ (nI i) 8 (k / 4)) (k % 4) = kb (16 * i + k) &&& 255 := by
  rw [F_X4_choose_eq]
  unfold Q_X4_choose Fr_X4_choose
  have h7 := K.1
  have c0 : ¬ nI i < 0 := nI_pos (by omega)
  have c7 : ¬ (7 : Int32) ≤ nI i := nI_ge (b := 7) (by omega) (by decide)
  have e0 : nI i * (4 : Int32) = nI (i * 4) := pk_mul i 4
  have e1 : nI (i * 4) + (1 : Int32) = nI (i * 4 + 1) := nI_add _ 1
  have e2 : nI (i * 4) + (2 : Int32) = nI (i * 4 + 2) := nI_add _ 2
  have e3 : nI (i * 4) + (3 : Int32) = nI (i * 4 + 3) := nI_add _ 3
  simp only [if_neg c0, if_neg c7, e0, e1, e2, e3, ix_n (show i * 4 < 2 ^ 31 by omega), ix_n (show i * 4 + 1 < 2 ^ 31 by omega), ix_n (show i * 4 + 2 < 2 ^ 31 by omega), ix_n (show i * 4 + 3 < 2 ^ 31 by omega)]
  refine ⟨⟨vp_in_nI (by omega) (by decide), vp_in_nI (by omega) (by decide), vp_in_nI (by omega) (by decide), vp_in_nI (by omega) (by decide), trivial⟩, ?_, ?_⟩
  · intro b hb
    rw [F_X7_useKey_eq]
    unfold Fr_X7_useKey
    rw [pf_ne hb, pf_ne hb, pf_ne hb, pf_ne hb]
  · intro k hk
    have key : ∀ j, j < 4 → F_X7_useKey σ (σ 14 (i * 4)) (σ 14 (i * 4 + 1)) (σ 14 (i * 4 + 2)) (σ 14 (i * 4 + 3)) 8 j = σ 14 (4 * i + j) := by
      intro j hj
      rw [F_X7_useKey_eq]
      unfold Fr_X7_useKey
      have i0 : ix (0 : Int32) = 0 := ix_n (n := 0) (by decide)
      have i1 : ix (1 : Int32) = 1 := ix_n (n := 1) (by decide)
      have i2 : ix (2 : Int32) = 2 := ix_n (n := 2) (by decide)
      have i3 : ix (3 : Int32) = 3 := ix_n (n := 3) (by decide)
      rw [i0, i1, i2, i3, Nat.mul_comm 4 i]
      rcases (show j = 0 ∨ j = 1 ∨ j = 2 ∨ j = 3 by omega) with rfl | rfl | rfl | rfl
      · rw [pf_i (by decide), pf_i (by decide), pf_i (by decide), pf_s]; rfl
      · rw [pf_i (by decide), pf_i (by decide), pf_s]
      · rw [pf_i (by decide), pf_s]
      · rw [pf_s]
    rw [key (k / 4) (by omega), nI_of_word (σ 14 (4 * i + k / 4)), K.2.2.2 i hi (k / 4) (by omega), bW_be4 _ _ (by omega)]
    congr 2
    omega
theorem c_sealed {σ : gS} {j L : Nat} {kb : Nat → Int32} (hj : 16 ≤ j) (hL : L ≤ 48) (h16 : 16 ≤ L) (e : σ j 1 = nI L) (hk : ∀ k, k < 16 → bW (σ 8 (k / 4)) (k % 4) = kb k &&& 255) : Q_X8_isSealed σ j 48 ∧ (((F_X8_isSealed σ j 48).1 = 1 ∧ sealR (σ (j + 1)) L kb) ∨ ((F_X8_isSealed σ j 48).1 = 0 ∧ ¬ sealR (σ (j + 1)) L kb)) ∧ ∀ b, b ≠ 9 → b ≠ 10 → b ≠ 11 → (F_X8_isSealed σ j 48).2 b = σ b := by
  rw [F_X8_isSealed_eq]
  unfold Q_X8_isSealed Fr_X8_isSealed
  have e1 : nI L - (16 : Int32) = nI (L - 16) := nIs (a := L) (b := 16) h16 16 rfl
  rw [e, e1]
  obtain ⟨q1, w1, w2⟩ := c_work (σ := σ) (j := j) (N := 48) (n := L - 16) (by omega) (by omega) (by decide) (by omega)
  generalize hs : F_X7_work σ j 48 (nI (L - 16)) = s at w1 w2 ⊢
  have ej : s j 1 = nI L := by rw [w1 j (by omega) (by omega) (by omega)]; exact e
  have ej1 : s (j + 1) = σ (j + 1) := w1 _ (by omega) (by omega) (by omega)
  have hm : ∀ i, i < 16 → bW (s 11 (i / 4)) (i % 4) = macB kb (σ (j + 1)) (L - 16) i := by
    intro i hi
    rw [w2 (i / 4) (by omega)]
    exact macB_congr (kb := fun k => bW (σ 8 (k / 4)) (k % 4)) (kb' := kb) (r := σ (j + 1)) (r' := σ (j + 1)) (n := L - 16) (fun k z => by show bW _ _ &&& 255 = _; rw [bW_255]; exact hk k z) (fun _ _ => rfl) (by omega)
  have lp := lpF (fun f d (_ : Unit) => QG_X8_isSealed_L16 j 48 f (nI (L - 16)) (nI d) s ∧ (((G_X8_isSealed_L16 j 48 f (nI (L - 16)) (nI d) s).1 = 1 ∧ sealR (σ (j + 1)) L kb) ∨ ((G_X8_isSealed_L16 j 48 f (nI (L - 16)) (nI d) s).1 = 0 ∧ ¬ sealR (σ (j + 1)) L kb)) ∧ (G_X8_isSealed_L16 j 48 f (nI (L - 16)) (nI d) s).2 = s) (fun d _ => ∀ i, i < d → (σ (j + 1)) (L - 16 + i) &&& 255 = macB kb (σ (j + 1)) (L - 16) i) 16 (by
    intro f _ h
    unfold QG_X8_isSealed_L16 G_X8_isSealed_L16
    have c : (16 : Int32) ≤ nI 16 := nI_le (a := 16) (Nat.le_refl _) (by decide)
    simp only [if_pos c]
    exact ⟨trivial, Or.inl ⟨trivial, h⟩, trivial⟩) (by
    intro f d _ hd h k
    unfold QG_X8_isSealed_L16 G_X8_isSealed_L16
    have c : ¬ (16 : Int32) ≤ nI d := nI_ge (b := 16) hd (by decide)
    have ea : nI (L - 16) + nI d = nI (L - 16 + d) := nI_add _ d
    have sb := c_sealByte (σ := s) hd
    have u1 := ub_lt (s (j + 1) (L - 16 + d))
    simp only [if_neg c, ea, nI_i1, sb.2, byteOf_u (n := L) hL (by decide) ej (show L - 16 + d < L by omega)]
    rw [hm d hd, ← ub_eq, ej1]
    by_cases hh : σ (j + 1) (L - 16 + d) &&& 255 = macB kb (σ (j + 1)) (L - 16) d
    · simp only [if_pos hh]
      have q := k () (fun i hi => by
        by_cases ek : i = d
        · subst ek; exact hh
        · exact h i (by omega))
      exact ⟨⟨q_byteOf s j (by decide) _, sb.1, q.1⟩, q.2⟩
    · simp only [if_neg hh]
      exact ⟨⟨q_byteOf s j (by decide) _, sb.1, trivial⟩, Or.inr ⟨trivial, fun z => hh (z d hd)⟩, trivial⟩) 4000 0 () (Nat.zero_le _) (by omega) (fun i hi => absurd hi (by omega))
  have lp' : QG_X8_isSealed_L16 j 48 4000 (nI (L - 16)) 0 s ∧ (((G_X8_isSealed_L16 j 48 4000 (nI (L - 16)) 0 s).1 = 1 ∧ sealR (σ (j + 1)) L kb) ∨ ((G_X8_isSealed_L16 j 48 4000 (nI (L - 16)) 0 s).1 = 0 ∧ ¬ sealR (σ (j + 1)) L kb)) ∧ (G_X8_isSealed_L16 j 48 4000 (nI (L - 16)) 0 s).2 = s := lp
  refine ⟨⟨q1, lp'.1⟩, lp'.2.1, fun b h1 h2 h3 => ?_⟩
  show (G_X8_isSealed_L16 j 48 4000 (nI (L - 16)) 0 s).2 b = σ b
  rw [lp'.2.2]
  exact w1 b h1 h2 h3
theorem c_isPlace {p : Nat} (hp : p < 4) : F_X9_isPlace (nI p) = 1 := by
  rw [F_X9_isPlace_eq]
  unfold Fr_X9_isPlace
  rw [if_neg (nI_pos (by omega)), if_neg (show ¬ (4 : Int32) ≤ nI p from nI_ge (b := 4) hp (by decide))]
/-- the row of a card of the class -/
def rwC (c p : Nat) : Nat := 23 + 11 * c + 1 + 2 + 2 * p
theorem c_isGood {σ : gS} {n c p t L : Nat} {iss kb : Nat → Int32} (K : pKw n (σ 12 2) (σ 13) (σ 14) iss kb) (hp : p < 4) (ht : t < 2 ^ 31) (hL : L ≤ 48) (e : σ (rwC c p) 1 = nI L) (S : pSl n iss kb (σ (23 + 11 * c + 2) p) (nI L) (σ (rwC c p + 1))) :
    Q_X8_isGood σ c (nI p) (nI t) ∧ (((F_X8_isGood σ c (nI p) (nI t)).1 = 1 ∧ goodR n iss kb t p L (σ (rwC c p + 1))) ∨ ((F_X8_isGood σ c (nI p) (nI t)).1 = 0 ∧ ¬ goodR n iss kb t p L (σ (rwC c p + 1)))) ∧ (∀ b, (b < 8 ∨ 11 < b) → b ≠ 23 + 11 * c + 2 → (F_X8_isGood σ c (nI p) (nI t)).2 b = σ b) ∧ (∀ k, k ≠ p → (F_X8_isGood σ c (nI p) (nI t)).2 (23 + 11 * c + 2) k = σ (23 + 11 * c + 2) k) ∧ pSl n iss kb ((F_X8_isGood σ c (nI p) (nI t)).2 (23 + 11 * c + 2) p) (nI L) (σ (rwC c p + 1)) := by
  rw [F_X8_isGood_eq]
  unfold Q_X8_isGood Fr_X8_isGood
  have pl : ¬ F_X9_isPlace (nI p) = 0 := by rw [c_isPlace hp]; decide
  rw [ix_n (show p < 2 ^ 31 by omega)]
  have vp4 : vp_in (nI p) 4 := vp_in_nI hp (by decide)
  unfold rwC at e S ⊢
  have rj : 16 ≤ 23 + 11 * c + 1 + 2 + 2 * p := by omega
  have rj2 : 23 + 11 * c + 1 + 2 + 2 * p ≠ 23 + 11 * c + 2 := by omega
  have rj3 : 23 + 11 * c + 1 + 2 + 2 * p + 1 ≠ 23 + 11 * c + 2 := by omega
  generalize 23 + 11 * c + 1 + 2 + 2 * p = j at e S rj rj2 rj3 ⊢
  generalize hS : 23 + 11 * c + 2 = sl at S rj2 rj3 ⊢
  have hsl : 25 ≤ sl := by omega
  obtain ⟨qf, cf⟩ := c_formed (σ := σ) (j := j) hp hL e
  rcases cf with ⟨f1, fR⟩ | ⟨f1, fR⟩
  rotate_left
  · simp only [f1, if_true]
    exact ⟨⟨pl, vp4, qf, trivial⟩, Or.inr ⟨trivial, fun z => fR z.1⟩, fun _ _ _ => trivial, fun _ _ => trivial, S⟩
  have f1n : ¬ F_X8_isFormed σ j 48 (nI p) = 0 := by rw [f1]; decide
  have hLL := formR_L fR
  obtain ⟨qt, ct⟩ := c_inTime (σ := σ) (j := j) hL hLL.1 e ht
  rcases ct with ⟨t1, tR⟩ | ⟨t1, tR⟩
  rotate_left
  · simp only [if_neg f1n, t1, if_true]
    exact ⟨⟨pl, vp4, qf, qt, trivial⟩, Or.inr ⟨trivial, fun z => tR z.2.1⟩, fun _ _ _ => trivial, fun _ _ => trivial, S⟩
  have t1n : ¬ F_X8_isInTime σ j 48 (nI t) = 0 := by rw [t1]; decide
  have etw : F_X0_twoAt σ j 48 1 = nI (be2 (σ (j + 1)) 1) := twoAt_u (i := 1) hL (by decide) e (by omega)
  obtain ⟨qk, ck⟩ := c_find (σ := σ) K.1 K.2.1 K.2.2.1 (be2 (σ (j + 1)) 1)
  simp only [if_neg f1n, if_neg t1n, etw]
  rcases ck with ⟨i, kA, k1⟩ | ⟨kA, k1⟩
  rotate_left
  · simp only [k1, if_true]
    exact ⟨⟨pl, vp4, qf, qt, q_twoAt σ j (by decide) _, qk, trivial⟩, Or.inr ⟨trivial, fun z => z.2.2.elim (fun i y => kA i y.1)⟩, fun _ _ _ => trivial, fun _ _ => trivial, S⟩
  have hin := kA.1
  have h7 := K.1
  have nm1 : ¬ nI i = -1 := nI_m1 (by omega)
  simp only [k1, if_neg nm1]
  have gR : sealR (σ (j + 1)) L (fun x => kb (16 * i + x)) ↔ goodR n iss kb t p L (σ (j + 1)) := ⟨fun z => ⟨fR, tR, i, kA, z⟩, fun z => by
    obtain ⟨_, _, i', kA', z'⟩ := z
    rw [keyAt_u kA kA']; exact z'⟩
  by_cases hv : σ sl p = 0
  · obtain ⟨qc, c1, c2⟩ := c_choose K hin
    simp only [if_pos hv]
    generalize F_X4_choose σ (nI i) = s at c1 c2 ⊢
    have ej : s j 1 = nI L := by rw [c1 j (by omega)]; exact e
    have ej1 : s (j + 1) = σ (j + 1) := c1 _ (by omega)
    obtain ⟨qs, cs, cfr⟩ := c_sealed (σ := s) (j := j) (kb := fun x => kb (16 * i + x)) rj hL (by omega) ej c2
    rw [ej1] at cs
    generalize F_X8_isSealed s j 48 = fs at cs cfr ⊢
    have fr : ∀ b, (b < 8 ∨ 11 < b) → fs.2 b = σ b := fun b hb => (cfr b (by omega) (by omega) (by omega)).trans (c1 b (by omega))
    rcases cs with ⟨s1, sR⟩ | ⟨s1, sR⟩
    · have s1n : ¬ fs.1 = 0 := by rw [s1]; decide
      simp only [if_neg s1n, pf_s, if_true]
      exact ⟨⟨pl, vp4, qf, qt, q_twoAt σ j (by decide) _, qk, vp4, qc, qs, vp4, vp4, trivial⟩, Or.inl ⟨trivial, gR.mp sR⟩, fun b hb hb2 => (pf_ne hb2).trans (fr b hb), fun k hk => (pf_i hk).trans (by rw [fr sl (by omega)]), Or.inr ⟨L, i, by omega, hL, rfl, kA, Or.inl ⟨rfl, sR⟩⟩⟩
    · have n21 : ¬ (2 : Int32) = 1 := by decide
      simp only [s1, pf_s, if_true, if_neg n21]
      exact ⟨⟨pl, vp4, qf, qt, q_twoAt σ j (by decide) _, qk, vp4, qc, qs, vp4, vp4, trivial⟩, Or.inr ⟨trivial, fun z => sR (gR.mpr z)⟩, fun b hb hb2 => (pf_ne hb2).trans (fr b hb), fun k hk => (pf_i hk).trans (by rw [fr sl (by omega)]), Or.inr ⟨L, i, by omega, hL, rfl, kA, Or.inr ⟨rfl, sR⟩⟩⟩
  · rw [if_neg hv, if_neg hv]
    rcases S with z | ⟨L', i', l1, l2, l3, kA', v⟩
    · exact absurd z hv
    have S2 : pSl n iss kb (σ sl p) (nI L) (σ (j + 1)) := Or.inr ⟨L', i', l1, l2, l3, kA', v⟩
    have el : L' = L := (nI_inj31 (by omega) (by omega) l3).symm
    have ei : i' = i := keyAt_u kA' kA
    subst el ei
    rcases v with ⟨v1, v2⟩ | ⟨v1, v2⟩
    · rw [if_pos v1, if_pos v1]
      exact ⟨⟨pl, vp4, qf, qt, q_twoAt σ j (by decide) _, qk, vp4, vp4, trivial⟩, Or.inl ⟨rfl, gR.mp v2⟩, fun _ _ _ => rfl, fun _ _ => rfl, S2⟩
    · have v1n : ¬ σ sl p = 1 := by rw [v1]; decide
      rw [if_neg v1n, if_neg v1n]
      exact ⟨⟨pl, vp4, qf, qt, q_twoAt σ j (by decide) _, qk, vp4, vp4, trivial⟩, Or.inr ⟨rfl, fun z => v2 (gR.mpr z)⟩, fun _ _ _ => rfl, fun _ _ => rfl, S2⟩
/-- only the hash's own places of the reference have changed -/
def scr (τ s : gS) : Prop := (∀ b, b ≠ 199 → (b < 201 ∨ 208 < b) → s b = τ b) ∧ (∀ k, k ≠ 10 → s 199 k = τ 199 k) ∧ pTab (s 199 10) (s 202) (s 203)
theorem scr_r {τ : gS} (h : pTab (τ 199 10) (τ 202) (τ 203)) : scr τ τ := ⟨fun _ _ _ => rfl, fun _ _ => rfl, h⟩
theorem scr_t {τ s u : gS} (h : scr τ s) (g : scr s u) : scr τ u := ⟨fun b h1 h2 => (g.1 b h1 h2).trans (h.1 b h1 h2), fun k hk => (g.2.1 k hk).trans (h.2.1 k hk), g.2.2⟩
/-- a row of the reference -/
def rwR (τ : gS) (c p : Nat) : Nat → Int32 := fun k => τ 210 (48 * (4 * c + p) + k)
/-- the reference's side of keys and of one row -/
abbrev rOk (τ : gS) (n c p L : Nat) : Prop := (pTab (τ 199 10) (τ 202) (τ 203)) ∧ (n ≤ 7) ∧ (τ 199 17 = nI n) ∧ (∀ i, i < n → ∃ v : Nat, v < 65536 ∧ τ 213 i = nI v) ∧ (c < 16) ∧ (p < 4) ∧ (L ≤ 48) ∧ (τ 211 (4 * c + p) = nI L) ∧ (∀ i, i < L → isb (rwR τ c p i))
theorem rOk.tab {τ : gS} {n c p L : Nat} (h : rOk τ n c p L) : pTab (τ 199 10) (τ 202) (τ 203) := h.1
theorem rOk.n7 {τ : gS} {n c p L : Nat} (h : rOk τ n c p L) : n ≤ 7 := h.2.1
theorem rOk.cnt {τ : gS} {n c p L : Nat} (h : rOk τ n c p L) : τ 199 17 = nI n := h.2.2.1
theorem rOk.iss {τ : gS} {n c p L : Nat} (h : rOk τ n c p L) : ∀ i, i < n → ∃ v : Nat, v < 65536 ∧ τ 213 i = nI v := h.2.2.2.1
theorem rOk.hc {τ : gS} {n c p L : Nat} (h : rOk τ n c p L) : c < 16 := h.2.2.2.2.1
theorem rOk.hp {τ : gS} {n c p L : Nat} (h : rOk τ n c p L) : p < 4 := h.2.2.2.2.2.1
theorem rOk.hL {τ : gS} {n c p L : Nat} (h : rOk τ n c p L) : L ≤ 48 := h.2.2.2.2.2.2.1
theorem rOk.size {τ : gS} {n c p L : Nat} (h : rOk τ n c p L) : τ 211 (4 * c + p) = nI L := h.2.2.2.2.2.2.2.1
theorem rOk.byt {τ : gS} {n c p L : Nat} (h : rOk τ n c p L) : ∀ i, i < L → isb (rwR τ c p i) := h.2.2.2.2.2.2.2.2
theorem rOk_scr {τ s : gS} {n c p L : Nat} (R : rOk τ n c p L) (h : scr τ s) : rOk s n c p L := by
  have e : rwR s c p = rwR τ c p := by unfold rwR; rw [h.1 210 (by omega) (by omega)]
  exact ⟨h.2.2, R.n7, by rw [h.2.1 17 (by omega)]; exact R.cnt, by rw [h.1 213 (by omega) (by omega)]; exact R.iss, R.hc, R.hp, R.hL, by rw [h.1 211 (by omega) (by omega)]; exact R.size, by rw [e]; exact R.byt⟩
theorem r_isGood {τ : gS} {ζ : gQ} {n c p t L : Nat} (R : rOk τ n c p L) (ht : t < 2 ^ 31) (hz : ζ 19 = lN t) :
    Q_X10_isGood τ ζ (nI c) (nI p) ∧ (((F_X10_isGood τ ζ (nI c) (nI p)).1 = 1 ∧ goodR n (τ 213) (τ 214) t p L (rwR τ c p)) ∨ ((F_X10_isGood τ ζ (nI c) (nI p)).1 = 0 ∧ ¬ goodR n (τ 213) (τ 214) t p L (rwR τ c p))) ∧ scr τ (F_X10_isGood τ ζ (nI c) (nI p)).2 := by
  have hc := R.hc
  have hp := R.hp
  have hL := R.hL
  have h7 := R.n7
  have fl : ∀ {s : gS} {i m : Nat}, i + m ≤ 48 → m ≤ 4 → Q_X10_field s (nI c) (nI p) (nI i) (nI m) ∧ F_X10_field s (nI c) (nI p) (nI i) (nI m) = lN (beN (rwR s c p) i m) := fun h1 h2 => r_field hc hp h1 h2
  have ub0 := fun i => ub_lt (rwR τ c p i)
  have sz : F_X10_sizeOf (nI p) = nI (if p = 0 then 41 else 39) := by
    rw [F_X10_sizeOf_eq]; unfold Fr_X10_sizeOf
    by_cases z : p = 0
    · have c1 : nI p = 0 := by rw [z]; rfl
      rw [if_pos c1, if_pos z]; rfl
    · have c1 : ¬ nI p = 0 := nI_ne0 (by omega) (by omega)
      rw [if_neg c1, if_neg z]; rfl
  -- the seal and the time
  have core : L = (if p = 0 then 41 else 39) → formR p L (rwR τ c p) → QJ_X10_isGood_119 (nI c) (nI p) ζ (nI L) τ ∧ (((J_X10_isGood_119 (nI c) (nI p) ζ (nI L) τ).1 = 1 ∧ goodR n (τ 213) (τ 214) t p L (rwR τ c p)) ∨ ((J_X10_isGood_119 (nI c) (nI p) ζ (nI L) τ).1 = 0 ∧ ¬ goodR n (τ 213) (τ 214) t p L (rwR τ c p))) ∧ scr τ (J_X10_isGood_119 (nI c) (nI p) ζ (nI L) τ).2 := by
    intro hl fR
    have hLL := formR_L fR
    unfold QJ_X10_isGood_119 J_X10_isGood_119
    have f12 : Q_X10_field τ (nI c) (nI p) 1 2 ∧ F_X10_field τ (nI c) (nI p) 1 2 = lN (be2 (rwR τ c p) 1) := by
      have := fl (s := τ) (i := 1) (m := 2) (by omega) (by omega)
      rw [beN_2] at this; exact this
    have b2 := be2_lt (rwR τ c p) 1
    obtain ⟨qk, ck⟩ := r_keyOf (τ := τ) h7 R.cnt R.iss (x := be2 (rwR τ c p) 1) b2
    simp only [f12.2]
    rcases ck with ⟨i, kA, k1⟩ | ⟨kA, k1⟩
    rotate_left
    · have cn : ¬ (0 : Int32) ≤ -1 := by decide
      simp only [k1, if_neg cn]
      exact ⟨⟨f12.1, qk, trivial⟩, Or.inr ⟨trivial, fun z => z.2.2.elim (fun i y => kA i y.1)⟩, scr_r R.tab⟩
    have hin := kA.1
    have c0 : (0 : Int32) ≤ nI i := nI_le (a := 0) (by omega) (by omega)
    have e1 : (48 : Int32) * (4 * nI c + nI p) = nI (48 * (4 * c + p)) := by
      rw [show (4 : Int32) = nI 4 from rfl, show (48 : Int32) = nI 48 from rfl, pk_mul, nI_add, pk_mul]
    have e2 : (16 : Int32) * nI i = nI (16 * i) := pk_mul 16 i
    have e3 : nI L - (16 : Int32) = nI (L - 16) := nIs (a := L) (b := 16) (by omega) 16 rfl
    simp only [k1, if_pos c0, e1, e2, e3]
    obtain ⟨qs, w1, w2, w3, w4⟩ := r_sealOf (τ := τ) (ak := 214) (Nk := 112) (ar := 210) (Nr := 3072) (a := 16 * i) (o := 48 * (4 * c + p)) (n := L - 16) R.tab (by omega) (by omega) (by omega) (by decide) (by omega) (by decide) (by omega)
    generalize F_X10_sealOf τ 214 112 210 3072 (nI (16 * i)) (nI (48 * (4 * c + p))) (nI (L - 16)) = s at w1 w2 w3 w4 ⊢
    have sc : scr τ s := ⟨w1, w2, w3⟩
    have er : rwR s c p = rwR τ c p := by unfold rwR; rw [w1 210 (by omega) (by omega)]
    have gR : sealR (rwR τ c p) L (fun x => τ 214 (16 * i + x)) ∧ timeR t (rwR τ c p) ↔ goodR n (τ 213) (τ 214) t p L (rwR τ c p) := ⟨fun z => ⟨fR, z.2, i, kA, z.1⟩, fun z => by
      obtain ⟨_, z2, i', kA', z'⟩ := z
      rw [keyAt_u kA kA']; exact ⟨z', z2⟩⟩
    have eb : ∀ d, d < 16 → (s 207 d = s 210 (48 * (4 * c + p) + L - 16 + d) ↔ rwR τ c p (L - 16 + d) &&& 255 = macB (fun x => τ 214 (16 * i + x)) (rwR τ c p) (L - 16) d) := by
      intro d hd
      have e4 : s 210 (48 * (4 * c + p) + L - 16 + d) = rwR τ c p (L - 16 + d) := by
        rw [w1 210 (by omega) (by omega)]; unfold rwR; congr 1; omega
      rw [e4, w4 d (by omega)]
      have ib := R.byt (L - 16 + d) (by omega)
      have em : macB (fun k => τ 214 (16 * i + k)) (fun k => τ 210 (48 * (4 * c + p) + k)) (L - 16) d &&& 255 = macB (fun x => τ 214 (16 * i + x)) (rwR τ c p) (L - 16) d := bW_255 _ _
      constructor
      · intro z
        rw [← z, b8_and]; exact em
      · intro z
        refine isb_eq (isb_mk _) ib ?_
        rw [b8_and, z]; exact em
    have b4a := be4_lt (rwR τ c p) 13
    have b4b := be4_lt (rwR τ c p) 17
    have lp := lpF (fun f d (b : Bool) => QG_X10_isGood_L179 (nI c) (nI p) ζ f (nI L) (nI i) (nI (48 * (4 * c + p))) (bI b) (nI d) s ∧ (((G_X10_isGood_L179 (nI c) (nI p) ζ f (nI L) (nI i) (nI (48 * (4 * c + p))) (bI b) (nI d) s).1 = 1 ∧ goodR n (τ 213) (τ 214) t p L (rwR τ c p)) ∨ ((G_X10_isGood_L179 (nI c) (nI p) ζ f (nI L) (nI i) (nI (48 * (4 * c + p))) (bI b) (nI d) s).1 = 0 ∧ ¬ goodR n (τ 213) (τ 214) t p L (rwR τ c p))) ∧ (G_X10_isGood_L179 (nI c) (nI p) ζ f (nI L) (nI i) (nI (48 * (4 * c + p))) (bI b) (nI d) s).2 = s) (fun d b => b = true ↔ ∀ x, x < d → rwR τ c p (L - 16 + x) &&& 255 = macB (fun x => τ 214 (16 * i + x)) (rwR τ c p) (L - 16) x) 16 (by
      intro f b h
      unfold QG_X10_isGood_L179 G_X10_isGood_L179
      have c1 : (16 : Int32) ≤ nI 16 := nI_le (a := 16) (Nat.le_refl _) (by decide)
      cases b with
      | false =>
        have c2 : bI false = 0 := rfl
        simp only [if_pos c1, c2, if_true]
        exact ⟨trivial, Or.inr ⟨trivial, fun z => absurd (h.mpr (gR.mpr z).1) (by decide)⟩, trivial⟩
      | true =>
        have c2 : ¬ bI true = 0 := by decide
        have sR : sealR (rwR τ c p) L (fun x => τ 214 (16 * i + x)) := h.mp rfl
        have g1 : Q_X10_field s (nI c) (nI p) 13 4 ∧ F_X10_field s (nI c) (nI p) 13 4 = lN (be4 (rwR τ c p) 13) := by
          have := fl (s := s) (i := 13) (m := 4) (by omega) (by omega)
          rw [beN_4, er] at this; exact this
        have g2 : Q_X10_field s (nI c) (nI p) 17 4 ∧ F_X10_field s (nI c) (nI p) 17 4 = lN (be4 (rwR τ c p) 17) := by
          have := fl (s := s) (i := 17) (m := 4) (by omega) (by omega)
          rw [beN_4, er] at this; exact this
        simp only [if_pos c1, if_neg c2, g1.2, g2.2, hz]
        by_cases h1 : t < be4 (rwR τ c p) 13
        · have d1 := (lc_lt (a := t) (by omega) (by omega)).mpr h1
          simp only [if_pos d1]
          exact ⟨⟨g1.1, trivial⟩, Or.inr ⟨trivial, fun z => by have := (gR.mpr z).2.1; omega⟩, trivial⟩
        · have d1 : ¬ _ := fun z => h1 ((lc_lt (a := t) (b := be4 (rwR τ c p) 13) (by omega) (by omega)).mp z)
          simp only [if_neg d1]
          by_cases h2 : be4 (rwR τ c p) 17 < t
          · have d2 := (lc_gt (a := t) (by omega) (by omega)).mpr h2
            simp only [if_pos d2]
            exact ⟨⟨g1.1, g2.1, trivial⟩, Or.inr ⟨trivial, fun z => by have := (gR.mpr z).2.2; omega⟩, trivial⟩
          · have d2 : ¬ _ := fun z => h2 ((lc_gt (a := t) (b := be4 (rwR τ c p) 17) (by omega) (by omega)).mp z)
            simp only [if_neg d2]
            exact ⟨⟨g1.1, g2.1, trivial⟩, Or.inl ⟨trivial, gR.mp ⟨sR, by omega, by omega⟩⟩, trivial⟩) (by
      intro f d b hd h k
      unfold QG_X10_isGood_L179 G_X10_isGood_L179
      have c1 : ¬ (16 : Int32) ≤ nI d := nI_ge (b := 16) hd (by decide)
      have ea : nI (48 * (4 * c + p)) + nI L = nI (48 * (4 * c + p) + L) := nI_add _ _
      have eb1 : nI (48 * (4 * c + p) + L) - (16 : Int32) = nI (48 * (4 * c + p) + L - 16) := nIs (b := 16) (by omega) 16 rfl
      have ec : nI (48 * (4 * c + p) + L - 16) + nI d = nI (48 * (4 * c + p) + L - 16 + d) := nI_add _ _
      cases b with
      | false =>
        have c2 : bI false = 0 := rfl
        simp only [if_neg c1, c2, if_true, nI_i1]
        exact k false ⟨fun z => absurd z (by decide), fun z => h.mpr (fun x hx => z x (by omega))⟩
      | true =>
        have c2 : ¬ bI true = 0 := by decide
        simp only [if_neg c1, if_neg c2, nI_i1, ea, eb1, ec, ix_n (show d < 2 ^ 31 by omega), ix_n (show 48 * (4 * c + p) + L - 16 + d < 2 ^ 31 by omega)]
        by_cases hh : s 207 d = s 210 (48 * (4 * c + p) + L - 16 + d)
        · simp only [if_pos hh]
          have q := k true ⟨fun _ x hx => by
            by_cases ek : x = d
            · subst ek; exact (eb x hd).mp hh
            · exact h.mp rfl x (by omega), fun _ => rfl⟩
          exact ⟨⟨vp_in_nI (by omega) (by decide), vp_in_nI (by omega) (by decide), q.1⟩, q.2⟩
        · simp only [if_neg hh]
          have q := k false ⟨fun z => absurd z (by decide), fun z => absurd ((eb d hd).mpr (z d (by omega))) hh⟩
          exact ⟨⟨vp_in_nI (by omega) (by decide), vp_in_nI (by omega) (by decide), q.1⟩, q.2⟩) 4000 0 true (Nat.zero_le _) (by omega) ⟨fun _ x hx => absurd hx (by omega), fun _ => rfl⟩
    refine ⟨⟨f12.1, qk, qs, lp.1⟩, lp.2.1, ?_⟩
    have e9 := lp.2.2
    show scr τ (G_X10_isGood_L179 (nI c) (nI p) ζ 4000 (nI L) (nI i) (nI (48 * (4 * c + p))) (bI true) (nI 0) s).2
    rw [e9]; exact sc
  rw [F_X10_isGood_eq]
  unfold Q_X10_isGood Fr_X10_isGood
  have c0 : ¬ nI c < 0 := nI_pos (by omega)
  have e0 : (4 : Int32) * nI c + nI p = nI (4 * c + p) := by rw [show (4 : Int32) = nI 4 from rfl, pk_mul, nI_add]
  have vi : vp_in (nI (4 * c + p)) 64 := vp_in_nI (by omega) (by decide)
  have rf : scr τ τ := scr_r R.tab
  simp only [if_neg c0, e0, ix_n (show 4 * c + p < 2 ^ 31 by omega), sz, R.size]
  by_cases hl : L = (if p = 0 then 41 else 39)
  rotate_left
  · have cl : ¬ nI L = nI (if p = 0 then 41 else 39) := fun z => hl (nI_inj31 (by omega) (by split <;> decide) z)
    simp only [if_neg cl]
    exact ⟨⟨vi, trivial⟩, Or.inr ⟨trivial, fun z => hl z.1.1⟩, rf⟩
  have h39 : 39 ≤ L := by rw [hl]; split <;> decide
  rw [← hl]
  have f0 : Q_X10_field τ (nI c) (nI p) 0 1 ∧ F_X10_field τ (nI c) (nI p) 0 1 = lN (ub (rwR τ c p 0)) := by
    have := fl (s := τ) (i := 0) (m := 1) (by omega) (by omega)
    rw [beN_1] at this; exact this
  have ep : (nI p + (1 : Int32)).toInt64 = lN (p + 1) := by rw [show nI p + (1 : Int32) = nI (p + 1) from nI_1 p, nI_l (by omega)]
  have u0 := ub0 0
  simp only [if_true, f0.2, ep]
  by_cases h0 : ub (rwR τ c p 0) = p + 1
  rotate_left
  · have c1 : ¬ _ := fun z => h0 ((lc_eq (a := ub (rwR τ c p 0)) (b := p + 1) (by omega) (by omega)).mp z)
    simp only [if_neg c1]
    exact ⟨⟨vi, f0.1, trivial⟩, Or.inr ⟨trivial, fun z => h0 z.1.2.1⟩, rf⟩
  have c1 := (lc_eq (a := ub (rwR τ c p 0)) (b := p + 1) (by omega) (by omega)).mpr h0
  simp only [if_pos c1]
  -- roles and classes
  have mid : p ≠ 0 → p ≠ 2 → QJ_X10_isGood_51 (nI c) (nI p) ζ (nI L) τ ∧ (((J_X10_isGood_51 (nI c) (nI p) ζ (nI L) τ).1 = 1 ∧ goodR n (τ 213) (τ 214) t p L (rwR τ c p)) ∨ ((J_X10_isGood_51 (nI c) (nI p) ζ (nI L) τ).1 = 0 ∧ ¬ goodR n (τ 213) (τ 214) t p L (rwR τ c p))) ∧ scr τ (J_X10_isGood_51 (nI c) (nI p) ζ (nI L) τ).2 := by
    intro p0 p2
    unfold QJ_X10_isGood_51 J_X10_isGood_51
    have g1 : Q_X10_field τ (nI c) (nI p) 21 1 ∧ F_X10_field τ (nI c) (nI p) 21 1 = lN (ub (rwR τ c p 21)) := by
      have := fl (s := τ) (i := 21) (m := 1) (by omega) (by omega)
      rw [beN_1] at this; exact this
    have g2 : Q_X10_field τ (nI c) (nI p) 22 1 ∧ F_X10_field τ (nI c) (nI p) 22 1 = lN (ub (rwR τ c p 22)) := by
      have := fl (s := τ) (i := 22) (m := 1) (by omega) (by omega)
      rw [beN_1] at this; exact this
    have u1 := ub0 21
    have u2 := ub0 22
    rw [g1.2, g2.2, show (3 : Int64) = lN 3 from rfl, show (5 : Int64) = lN 5 from rfl]
    by_cases h1 : ub (rwR τ c p 21) ≤ 3
    rotate_left
    · have d1 := (lc_gt (a := ub (rwR τ c p 21)) (b := 3) (by omega) (by omega)).mpr (by omega)
      simp only [if_pos d1]
      refine ⟨⟨g1.1, trivial⟩, Or.inr ⟨trivial, fun z => ?_⟩, rf⟩
      have := z.1.2.2
      rw [if_neg p0, if_neg p2] at this
      exact h1 this.1
    have d1 : ¬ _ := fun z => absurd ((lc_gt (a := ub (rwR τ c p 21)) (b := 3) (by omega) (by omega)).mp z) (by omega)
    simp only [if_neg d1]
    by_cases h2 : ub (rwR τ c p 22) ≤ 5
    rotate_left
    · have d2 : ¬ lg_cmp (lN (ub (rwR τ c p 22))) (lN 5) ≤ 0 := fun z => absurd ((lc_le (a := ub (rwR τ c p 22)) (b := 5) (by omega) (by omega)).mp z) (by omega)
      simp only [if_neg d2]
      refine ⟨⟨g1.1, g2.1, trivial⟩, Or.inr ⟨trivial, fun z => ?_⟩, rf⟩
      have := z.1.2.2
      rw [if_neg p0, if_neg p2] at this
      exact h2 this.2
    have d2 : lg_cmp (lN (ub (rwR τ c p 22))) (lN 5) ≤ 0 := (lc_le (a := ub (rwR τ c p 22)) (b := 5) (by omega) (by omega)).mpr h2
    simp only [if_pos d2]
    unfold QJ_X10_isGood_85 J_X10_isGood_85
    have c3 : ¬ nI p = 0 := nI_ne0 (by omega) (by omega)
    simp only [if_neg c3]
    have q := core hl ⟨hl, h0, by rw [if_neg p0, if_neg p2]; exact ⟨h1, h2⟩⟩
    exact ⟨⟨g1.1, g2.1, q.1⟩, q.2⟩
  by_cases p1 : p = 1
  · have d1 : nI p = 1 := by rw [p1]; rfl
    have q := mid (by omega) (by omega)
    simp only [if_pos d1]
    exact ⟨⟨vi, f0.1, q.1⟩, q.2⟩
  have d1 : ¬ nI p = 1 := fun z => p1 ((nI_eq (b := 1) (by omega) (by decide)).mp z)
  simp only [if_neg d1]
  by_cases p3 : p = 3
  · have d3 : nI p = 3 := by rw [p3]; rfl
    have q := mid (by omega) (by omega)
    simp only [if_pos d3]
    exact ⟨⟨vi, f0.1, q.1⟩, q.2⟩
  have d3 : ¬ nI p = 3 := fun z => p3 ((nI_eq (b := 3) (by omega) (by decide)).mp z)
  simp only [if_neg d3]
  unfold QJ_X10_isGood_85 J_X10_isGood_85
  by_cases p0 : p = 0
  rotate_left
  · have d0 : ¬ nI p = 0 := nI_ne0 (by omega) (by omega)
    simp only [if_neg d0]
    have q := core hl ⟨hl, h0, by rw [if_neg p0, if_pos (by omega : p = 2)]; trivial⟩
    exact ⟨⟨vi, f0.1, q.1⟩, q.2⟩
  have d0 : nI p = 0 := by rw [p0]; rfl
  have g1 : Q_X10_field τ (nI c) 0 7 2 ∧ F_X10_field τ (nI c) 0 7 2 = lN (be2 (rwR τ c p) 7) := by
    have := fl (s := τ) (i := 7) (m := 2) (by omega) (by omega)
    rw [beN_2, d0] at this; exact this
  have g2 : Q_X10_field τ (nI c) 0 9 4 ∧ F_X10_field τ (nI c) 0 9 4 = lN (be4 (rwR τ c p) 9) := by
    have := fl (s := τ) (i := 9) (m := 4) (by omega) (by omega)
    rw [beN_4, d0] at this; exact this
  have b2 := be2_lt (rwR τ c p) 7
  have b4 := be4_lt (rwR τ c p) 9
  simp only [if_pos d0, g1.2, g2.2, show (0 : Int64) = lN 0 from rfl]
  by_cases h7' : be2 (rwR τ c p) 7 = 0
  rotate_left
  · have e1 : ¬ _ := fun z => h7' ((lc_eq (a := be2 (rwR τ c p) 7) (b := 0) (by omega) (by omega)).mp z)
    simp only [if_neg e1]
    refine ⟨⟨vi, f0.1, g1.1, trivial⟩, Or.inr ⟨trivial, fun z => ?_⟩, rf⟩
    have := z.1.2.2
    rw [if_pos p0] at this
    exact h7' this.1
  have e1 := (lc_eq (a := be2 (rwR τ c p) 7) (b := 0) (by omega) (by omega)).mpr h7'
  simp only [if_pos e1]
  by_cases h9 : be4 (rwR τ c p) 9 = 0
  rotate_left
  · have e2 : ¬ _ := fun z => h9 ((lc_eq (a := be4 (rwR τ c p) 9) (b := 0) (by omega) (by omega)).mp z)
    simp only [if_neg e2]
    refine ⟨⟨vi, f0.1, g1.1, g2.1, trivial⟩, Or.inr ⟨trivial, fun z => ?_⟩, rf⟩
    have := z.1.2.2
    rw [if_pos p0] at this
    exact h9 this.2
  have e2 := (lc_eq (a := be4 (rwR τ c p) 9) (b := 0) (by omega) (by omega)).mpr h9
  simp only [if_pos e2]
  have q := core hl ⟨hl, h0, by rw [if_pos p0]; exact ⟨h7', h9⟩⟩
  exact ⟨⟨vi, f0.1, g1.1, g2.1, q.1⟩, q.2⟩
