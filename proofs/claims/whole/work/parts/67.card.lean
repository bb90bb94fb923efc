/-! card -/
theorem crd_row {σ s τ V : gS} {n c p L : Nat} (h : crd σ τ n) (hc : c < 16) (hp : p < 4) (hL : L ≤ 48) (F : ∀ b, 23 ≤ b → b < 199 → b ≠ 23 + 11 * c + 2 → b ≠ rwC c p → b ≠ rwC c p + 1 → s b = σ b) (sl : ∀ k, s (23 + 11 * c + 2) k = if k = p then 0 else σ (23 + 11 * c + 2) k) (ln : s (rwC c p) 1 = nI L) (by_ : ∀ i, i < L → s (rwC c p + 1) i = rwR V c p i ∧ isb (rwR V c p i)) (sz : ∀ k, V 211 k = if k = 4 * c + p then nI L else τ 211 k) (ou : ∀ i, (i < 48 * (4 * c + p) ∨ 48 * (4 * c + p) + 48 ≤ i) → V 210 i = τ 210 i) (v2 : V 212 = τ 212) (v3 : V 213 = τ 213) (v4 : V 214 = τ 214) : crd s V n := by
  have j3 : rwC c p = 26 + 11 * c + 2 * p := by unfold rwC; omega
  intro c' hc'
  obtain ⟨h1, h2⟩ := h c' hc'
  rw [F (23 + 11 * c') (by omega) (by omega) (by omega) (by omega) (by omega), v2]
  refine ⟨h1, fun p' hp' => ?_⟩
  have jp : rwC c' p' = 26 + 11 * c' + 2 * p' := by unfold rwC; omega
  by_cases hx : 4 * c' + p' = 4 * c + p
  · have ec : c' = c := by omega
    have ep : p' = p := by omega
    subst ec ep
    exact ⟨L, hL, ln, by rw [sz, if_pos rfl], by_, Or.inl (by rw [sl, if_pos rfl])⟩
  · obtain ⟨L', hL', e1, e2, hb, S⟩ := h2 p' hp'
    have er : ∀ i, i < 48 → rwR V c' p' i = rwR τ c' p' i := fun i hi => ou _ (by omega)
    refine ⟨L', hL', ?_, ?_, fun i hi => ?_, ?_⟩
    · rw [F (rwC c' p') (by omega) (by omega) (by omega) (by omega) (by omega)]; exact e1
    · rw [sz, if_neg hx]; exact e2
    · rw [F (rwC c' p' + 1) (by omega) (by omega) (by omega) (by omega) (by omega), er i (by omega)]; exact hb i hi
    · have es : s (23 + 11 * c' + 2) p' = σ (23 + 11 * c' + 2) p' := by
        by_cases ec : c' = c
        · subst ec; rw [sl, if_neg (by omega)]
        · rw [F (23 + 11 * c' + 2) (by omega) (by omega) (by omega) (by omega) (by omega)]
      rw [es, v3, v4]
      exact pSl_congr hL' (fun i hi => (er i (by omega)).symm) S
theorem v_card {K n so si t : Nat} {σ τ : gS} {ζ : gQ} (I : IVk K n so si t σ τ ζ) (x y : Int32) : Q_X9_card σ x y ∧ Q_X10_card τ x y ∧ (F_X9_card σ x y).1 = (F_X10_card τ x y).1 ∧ IVk K n so si t (F_X9_card σ x y).2 (F_X10_card τ x y).2 ζ := by
  rw [F_X9_card_eq, F_X10_card_eq]
  unfold Q_X9_card Fr_X9_card Q_X10_card Fr_X10_card QJ_X9_card_30 J_X9_card_30 QJ_X9_card_31 J_X9_card_31
  rw [isCardR]
  have C := I.com
  obtain ⟨L, hL, l1, l2, lb⟩ := C.tape
  have no : IVk K n so si t (pf σ 1 1 0) (pf τ 199 1 0) ζ := ⟨⟨⟨0, by omega, rfl, rfl, fun i hi => absurd hi (by omega)⟩, C.disk, C.see, C.now, C.ser, C.set, C.key, C.tab, C.crd⟩, I.lat, I.out, I.ins, I.jj⟩
  rcases isCard_or x with ⟨e, _⟩ | ⟨e, c, hc, rfl⟩
  · simp only [e, if_true]; exact ⟨⟨Or.inl trivial, trivial⟩, trivial, trivial, no⟩
  rcases isPlace_or y with ⟨e2, h | ⟨h1, h2⟩⟩ | ⟨e2, h1, h2, p, hp, rfl⟩
  · simp only [e, e2, if_neg n10, if_true, if_pos h]; exact ⟨⟨Or.inl trivial, trivial⟩, trivial, trivial, no⟩
  · simp only [e, e2, if_neg n10, if_true, if_neg h1, if_pos h2]; exact ⟨⟨Or.inl trivial, trivial⟩, trivial, trivial, no⟩
  by_cases h48 : L ≤ 48
  rotate_left
  · have c1 : (48 : Int32) < σ 1 1 := by rw [l1]; exact nI_lt (a := 48) (by omega) (by omega)
    have c2 : ¬ τ 199 1 ≤ 48 := by rw [l2]; exact nI_ge (a := 48) (by omega) (by omega)
    simp only [e, e2, if_neg n10, if_true, if_neg h1, if_neg h2, if_pos c1, if_neg c2]; exact ⟨⟨Or.inl trivial, trivial⟩, trivial, trivial, no⟩
  have c1 : ¬ (48 : Int32) < σ 1 1 := by rw [l1]; exact nI_nlt (a := 48) h48 (by decide)
  have c2 : τ 199 1 ≤ 48 := by rw [l2]; exact nI_le (b := 48) h48 (by decide)
  simp only [e, e2, if_neg n10, if_neg h1, if_neg h2, if_neg c1, if_pos c2, ix_n (show c < 2 ^ 31 by omega)]
  have jr : rwC c p = 26 + 11 * c + 2 * p := by unfold rwC; omega
  -- the class
  have e0 : F_X1_emptyRow σ c (nI p) = pf (pf σ (23 + 11 * c + 2) p 0) (rwC c p) 1 0 := by
    rw [F_X1_emptyRow_eq]; unfold Fr_X1_emptyRow; rw [ix_n (by omega)]; rfl
  have v4 : vp_in (nI p) 4 := vp_in_nI hp (by decide)
  have q0 : Q_X1_emptyRow σ c (nI p) := by
    unfold Q_X1_emptyRow
    have pl : ¬ F_X9_isPlace (nI p) = 0 := by rw [e2]; decide
    exact ⟨pl, v4, v4, v4, trivial⟩
  have f0 : ∀ b, b ≠ 23 + 11 * c + 2 → b ≠ rwC c p → pf (pf σ (23 + 11 * c + 2) p 0) (rwC c p) 1 0 b = σ b := fun b g1 g2 => by rw [pf_ne g2, pf_ne g1]
  have k0 : ∀ k, pf (pf σ (23 + 11 * c + 2) p 0) (rwC c p) 1 0 (23 + 11 * c + 2) k = if k = p then 0 else σ (23 + 11 * c + 2) k := fun k => by rw [pf_ne (by omega), pf_v]
  have rr : F_X1_replaceRow σ c (nI p) = F_X0_copyFrom (pf (pf σ (23 + 11 * c + 2) p 0) (rwC c p) 1 0) (rwC c p) 48 1 400 := by
    rw [F_X1_replaceRow_eq]; unfold Fr_X1_replaceRow; rw [e0, ix_n (by omega)]; rfl
  have qq : Q_X0_copyFrom (pf (pf σ (23 + 11 * c + 2) p 0) (rwC c p) 1 0) (rwC c p) 48 1 400 → Q_X1_replaceRow σ c (nI p) := by
    intro q
    unfold Q_X1_replaceRow
    rw [e0, ix_n (show p < 2 ^ 31 by omega)]
    exact ⟨v4, q0, q, trivial⟩
  rw [rr]
  generalize pf (pf σ (23 + 11 * c + 2) p 0) (rwC c p) 1 0 = s0 at f0 k0 qq ⊢
  obtain ⟨qc, g1, g2, g3⟩ := c_copyF (σ := s0) (j := rwC c p) (N := 48) (j2 := 1) (N2 := 400) (L := L) h48 hL (by decide) (by omega) (by rw [f0 1 (by omega) (by omega)]; exact l1)
  replace g2 := g2 (by omega)
  generalize F_X0_copyFrom s0 (rwC c p) 48 1 400 = s1 at g1 g2 g3 ⊢
  have F : ∀ b, b ≠ 1 → b ≠ 23 + 11 * c + 2 → b ≠ rwC c p → b ≠ rwC c p + 1 → pf s1 1 1 0 b = σ b := fun b a1 a2 a3 a4 => by rw [pf_ne a1, g1 b a3 a4, f0 b a2 a3]
  -- the reference
  have e48 : (48 : Int32) * nI (4 * c + p) = nI (48 * (4 * c + p)) := by rw [show (48 : Int32) = nI 48 from rfl, pk_mul]
  have lp := lpF (fun f d s => QG_X10_card_L37 (nI c) (nI p) f (nI L) (nI d) s ∧ (G_X10_card_L37 (nI c) (nI p) f (nI L) (nI d) s).1 = 1 ∧ (∀ b, b ≠ 210 → b ≠ 211 → (G_X10_card_L37 (nI c) (nI p) f (nI L) (nI d) s).2 b = pf τ 199 1 0 b) ∧ (∀ k, (G_X10_card_L37 (nI c) (nI p) f (nI L) (nI d) s).2 211 k = if k = 4 * c + p then nI L else τ 211 k) ∧ ∀ i, (G_X10_card_L37 (nI c) (nI p) f (nI L) (nI d) s).2 210 i = if 48 * (4 * c + p) ≤ i ∧ i < 48 * (4 * c + p) + L then (τ 200 (i - 48 * (4 * c + p))).toInt8.toInt32 else τ 210 i) (fun d s => (∀ b, b ≠ 210 → s b = pf τ 199 1 0 b) ∧ ∀ i, s 210 i = if 48 * (4 * c + p) ≤ i ∧ i < 48 * (4 * c + p) + d then (τ 200 (i - 48 * (4 * c + p))).toInt8.toInt32 else τ 210 i) L (by
    intro f s hh
    unfold QG_X10_card_L37 G_X10_card_L37
    have d1 : nI L ≤ nI L := nI_le (Nat.le_refl _) (by omega)
    simp only [if_pos d1, e4cp, ix_n (show 4 * c + p < 2 ^ 31 by omega)]
    refine ⟨⟨vp_in_nI (by omega) (by decide), trivial⟩, trivial, fun b a1 a2 => by rw [pf_ne a2]; exact hh.1 b a1, fun k => ?_, fun i => by rw [pf_ne (by decide)]; exact hh.2 i⟩
    rw [pf_v, hh.1 211 (by decide), pf_ne (by decide)]) (by
    intro f d s hd hh k
    unfold QG_X10_card_L37 G_X10_card_L37
    have d1 : ¬ nI L ≤ nI d := nI_ge hd (by omega)
    have e3 : nI (48 * (4 * c + p)) + nI d = nI (48 * (4 * c + p) + d) := nI_add _ _
    have s200 : s 200 = τ 200 := by rw [hh.1 200 (by decide), pf_ne (by decide)]
    simp only [if_neg d1, e4cp, e48, e3, nI_i1, ix_n (show 48 * (4 * c + p) + d < 2 ^ 31 by omega), ix_n (show d < 2 ^ 31 by omega), s200]
    have g := k (pf s 210 (48 * (4 * c + p) + d) (τ 200 d).toInt8.toInt32) ⟨fun b hb => (pf_ne hb).trans (hh.1 b hb), fun i => by
      rw [pf_v]
      by_cases ei : i = 48 * (4 * c + p) + d
      · subst ei; rw [if_pos rfl, if_pos (by omega), Nat.add_sub_cancel_left]
      · rw [if_neg ei, hh.2 i]
        by_cases hi : 48 * (4 * c + p) ≤ i ∧ i < 48 * (4 * c + p) + d
        · rw [if_pos hi, if_pos (by omega)]
        · rw [if_neg hi, if_neg (by omega)]⟩
    exact ⟨⟨vp_in_nI (by omega) (by decide), vp_in_nI (by omega) (by decide), g.1⟩, g.2⟩) 4000 0 (pf τ 199 1 0) (Nat.zero_le _) (by omega) ⟨fun _ _ => rfl, fun i => by rw [if_neg (by omega), pf_ne (by decide)]⟩
  rw [nI_0] at lp
  obtain ⟨z1, z2, z3, z4, z5⟩ := lp
  rw [l2]
  generalize G_X10_card_L37 (nI c) (nI p) 4000 (nI L) 0 (pf τ 199 1 0) = G at z2 z3 z4 z5 ⊢
  refine ⟨⟨vp_in_nI hc (by decide), qq qc, Or.inr trivial, trivial⟩, z1, z2.symm, ?_⟩
  have G9 : ∀ k, k ≠ 1 → G.2 199 k = τ 199 k := fun k hk => by rw [z3 199 (by decide) (by decide), pf_i hk]
  have Gb : ∀ b, b ≠ 199 → b ≠ 210 → b ≠ 211 → G.2 b = τ b := fun b a1 a2 a3 => by rw [z3 b a2 a3, pf_ne a1]
  have cr : crd (pf s1 1 1 0) G.2 n := by
    refine crd_row (crdS_to C.crd) hc hp h48 (fun b a0 _ a1 a2 a3 => F b (by omega) a1 a2 a3) (fun k => ?_) ?_ (fun i hi => ?_) z4 (fun i hi => ?_) (Gb 212 (by decide) (by decide) (by decide)) (Gb 213 (by decide) (by decide) (by decide)) (Gb 214 (by decide) (by decide) (by decide))
    · rw [pf_ne (by omega), g1 _ (by omega) (by omega)]; exact k0 k
    · rw [pf_ne (by omega)]; exact g2
    · have b := lb i (by omega)
      have e5 : pf s1 1 1 0 (rwC c p + 1) i = σ 2 i := by rw [pf_ne (by omega), g3 i hi, f0 (1 + 1) (by omega) (by omega)]
      have e6 : rwR G.2 c p i = (τ 200 i).toInt8.toInt32 := by
        show G.2 210 (48 * (4 * c + p) + i) = _
        rw [z5, if_pos (by omega), Nat.add_sub_cancel_left]
      rw [e5, e6, ← b.1]; exact ⟨b.2.symm, isb_mk _⟩
    · rw [z5, if_neg (by omega)]
  have F' : ∀ b, b < 23 → b ≠ 1 → pf s1 1 1 0 b = σ b := fun b a0 a1 => F b a1 (by omega) (by omega) (by omega)
  refine ⟨⟨⟨0, by omega, pf_s, ?_, fun i hi => absurd hi (by omega)⟩, ?_, ?_, ?_, ?_, ?_, ?_, ?_, crdS_of cr⟩, ?_, ?_, ?_, ?_⟩
  · rw [z3 199 (by decide) (by decide), pf_s]; rfl
  · rw [F' 0 (by decide) (by decide), F' 3 (by decide) (by decide), F' 4 (by decide) (by decide), G9 25 (by decide), Gb 215 (by decide) (by decide) (by decide)]; exact C.disk
  · rw [F' 0 (by decide) (by decide), F' 15 (by decide) (by decide), G9 20 (by decide), G9 21 (by decide), G9 22 (by decide), G9 23 (by decide), G9 26 (by decide), G9 27 (by decide)]; exact C.see
  · rw [F' 0 (by decide) (by decide)]; exact C.now
  · rw [F' 0 (by decide) (by decide)]; exact C.ser
  · rw [F' 6 (by decide) (by decide), Gb 217 (by decide) (by decide) (by decide)]; exact C.set
  · rw [F' 12 (by decide) (by decide), F' 13 (by decide) (by decide), F' 14 (by decide) (by decide), G9 17 (by decide), G9 18 (by decide), Gb 213 (by decide) (by decide) (by decide), Gb 214 (by decide) (by decide) (by decide)]; exact C.key
  · rw [G9 10 (by decide), Gb 202 (by decide) (by decide) (by decide), Gb 203 (by decide) (by decide) (by decide)]; exact C.tab
  · rw [F' 18 (by decide) (by decide), F' 0 (by decide) (by decide), G9 35 (by decide), G9 38 (by decide), G9 39 (by decide)]; exact I.lat
  · rw [F' 19 (by decide) (by decide), G9 42 (by decide), G9 40 (by decide), G9 43 (by decide), G9 45 (by decide)]; exact I.out
  · rw [F' 21 (by decide) (by decide), G9 46 (by decide), G9 41 (by decide), G9 47 (by decide), G9 48 (by decide), G9 49 (by decide)]; exact I.ins
  · rw [F' 15 (by decide) (by decide), F' 16 (by decide) (by decide), F' 17 (by decide) (by decide), F' 21 (by decide) (by decide), G9 29 (by decide), G9 31 (by decide), G9 50 (by decide), G9 52 (by decide), Gb 216 (by decide) (by decide) (by decide), Gb 218 (by decide) (by decide) (by decide)]; exact I.jj
