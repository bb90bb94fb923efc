/-! A certificate that counts: the class's word and the reference's -/
def keyAt (n : Nat) (iss : Nat → Int32) (x i : Nat) : Prop := i < n ∧ iss i = nI x ∧ ∀ j, j < i → ¬ iss j = nI x
theorem keyAt_u {n : Nat} {iss : Nat → Int32} {x i j : Nat} (h : keyAt n iss x i) (g : keyAt n iss x j) : i = j := by
  rcases Nat.lt_trichotomy i j with z | z | z
  · exact absurd h.2.1 (g.2.2 i z)
  · exact z
  · exact absurd g.2.1 (h.2.2 j z)
def sealR (r : Nat → Int32) (L : Nat) (kb : Nat → Int32) : Prop := ∀ i, i < 16 → r (L - 16 + i) &&& 255 = macB kb r (L - 16) i
def formR (p L : Nat) (r : Nat → Int32) : Prop := L = (if p = 0 then 41 else 39) ∧ ub (r 0) = p + 1 ∧ (if p = 0 then be2 r 7 = 0 ∧ be4 r 9 = 0 else if p = 2 then True else ub (r 21) ≤ 3 ∧ ub (r 22) ≤ 5)
def timeR (t : Nat) (r : Nat → Int32) : Prop := be4 r 13 ≤ t ∧ t ≤ be4 r 17
def goodR (n : Nat) (iss kb : Nat → Int32) (t p L : Nat) (r : Nat → Int32) : Prop := formR p L r ∧ timeR t r ∧ ∃ i, keyAt n iss (be2 r 1) i ∧ sealR r L (fun x => kb (16 * i + x))
theorem formR_L {p L : Nat} {r : Nat → Int32} (h : formR p L r) : 39 ≤ L ∧ L ≤ 41 := by
  have := h.1
  by_cases hp : p = 0
  · rw [if_pos hp] at this; omega
  · rw [if_neg hp] at this; omega
theorem be2_congr {r r' : Nat → Int32} {i L : Nat} (h : ∀ i, i < L → r i = r' i) (hi : i + 1 < L) : be2 r i = be2 r' i := by unfold be2; rw [h i (by omega), h (i + 1) hi]
theorem be4_congr {r r' : Nat → Int32} {i L : Nat} (h : ∀ i, i < L → r i = r' i) (hi : i + 3 < L) : be4 r i = be4 r' i := by unfold be4; rw [h i (by omega), h (i + 1) (by omega), h (i + 2) (by omega), h (i + 3) hi]
theorem sealR_congr {r r' kb kb' : Nat → Int32} {L : Nat} (hL : 16 ≤ L) (h : ∀ i, i < L → r i = r' i) (g : ∀ k, k < 16 → kb k &&& 255 = kb' k &&& 255) (s : sealR r L kb) : sealR r' L kb' := by
  intro i hi
  rw [← h (L - 16 + i) (by omega), s i hi]
  exact macB_congr g (fun k hk => by rw [h k (by omega)]) (by omega)
theorem goodR_imp {n : Nat} {iss iss' kb kb' : Nat → Int32} {t p L : Nat} {r r' : Nat → Int32} (hi : ∀ i, i < n → iss i = iss' i) (hk : ∀ i, i < 16 * n → kb i &&& 255 = kb' i &&& 255) (h : ∀ i, i < L → r i = r' i) (g : goodR n iss kb t p L r) : goodR n iss' kb' t p L r' := by
  obtain ⟨f, tt, i, k, s⟩ := g
  have hL := formR_L f
  have e2 : ∀ i, i + 1 < L → be2 r' i = be2 r i := fun i hi => (be2_congr h hi).symm
  have e4 : ∀ i, i + 3 < L → be4 r' i = be4 r i := fun i hi => (be4_congr h hi).symm
  refine ⟨⟨f.1, ?_, ?_⟩, ⟨?_, ?_⟩, i, ⟨k.1, ?_, fun j hj => ?_⟩, sealR_congr (by omega) h (fun x hx => hk _ (by have := k.1; omega)) s⟩
  · rw [← h 0 (by omega)]; exact f.2.1
  · rw [e2 7 (by omega), e4 9 (by omega), ← h 21 (by omega), ← h 22 (by omega)]; exact f.2.2
  · rw [e4 13 (by omega)]; exact tt.1
  · rw [e4 17 (by omega)]; exact tt.2
  · rw [← hi i k.1, e2 1 (by omega)]; exact k.2.1
  · rw [← hi j (by have := k.1; omega), e2 1 (by omega)]; exact k.2.2 j hj
theorem goodR_iff {n : Nat} {iss iss' kb kb' : Nat → Int32} {t p L : Nat} {r r' : Nat → Int32} (hi : ∀ i, i < n → iss i = iss' i) (hk : ∀ i, i < 16 * n → kb i &&& 255 = kb' i &&& 255) (h : ∀ i, i < L → r i = r' i) : goodR n iss kb t p L r ↔ goodR n iss' kb' t p L r' := ⟨goodR_imp hi hk h, goodR_imp (fun i z => (hi i z).symm) (fun i z => (hk i z).symm) (fun i z => (h i z).symm)⟩
theorem bW_be4 (f : Nat → Int32) (x : Nat) {j : Nat} (hj : j < 4) : bW (nI (be4 f x)) j = f (x + j) &&& 255 := by
  rw [bW_nI (be4_lt f x) hj, ub_eq]
  congr 1
  have a := ub_lt (f x); have b := ub_lt (f (x + 1)); have c := ub_lt (f (x + 2)); have d := ub_lt (f (x + 3))
  unfold be4
  rcases (show j = 0 ∨ j = 1 ∨ j = 2 ∨ j = 3 by omega) with rfl | rfl | rfl | rfl
  · rw [show 2 ^ (24 - 8 * 0) = 16777216 from rfl, show x + 0 = x from rfl]; omega
  · rw [show 2 ^ (24 - 8 * 1) = 65536 from rfl]; omega
  · rw [show 2 ^ (24 - 8 * 2) = 256 from rfl]; omega
  · rw [show 2 ^ (24 - 8 * 3) = 1 from rfl]; omega
/-- the keys of the class and of the reference -/
def pKw (n : Nat) (x : Int32) (ia w iss kb : Nat → Int32) : Prop := n ≤ 7 ∧ x = nI n ∧ (∀ i, i < n → ia i = iss i) ∧ ∀ i, i < n → ∀ j, j < 4 → (w (4 * i + j)).toBitVec.toNat = be4 kb (16 * i + 4 * j)
theorem c_find {σ : gS} {n : Nat} {iss : Nat → Int32} (hn : n ≤ 7) (e : σ 12 2 = nI n) (hi : ∀ i, i < n → σ 13 i = iss i) (x : Nat) : Q_X4_find σ (nI x) ∧ ((∃ i, keyAt n iss x i ∧ F_X4_find σ (nI x) = nI i) ∨ ((∀ i, ¬ keyAt n iss x i) ∧ F_X4_find σ (nI x) = -1)) := by
  rw [F_X4_find_eq]
  unfold Q_X4_find Fr_X4_find
  exact lpF (fun f d (_ : Unit) => QG_X4_find_L2 (nI x) σ f (nI d) ∧ ((∃ i, keyAt n iss x i ∧ G_X4_find_L2 (nI x) σ f (nI d) = nI i) ∨ ((∀ i, ¬ keyAt n iss x i) ∧ G_X4_find_L2 (nI x) σ f (nI d) = -1))) (fun d _ => ∀ j, j < d → ¬ iss j = nI x) n (by
    intro f s h
    unfold QG_X4_find_L2 G_X4_find_L2
    have c : σ 12 2 ≤ nI n := by rw [e]; exact nI_le (Nat.le_refl _) (by omega)
    simp only [if_pos c]
    exact ⟨trivial, Or.inr ⟨fun i z => h i z.1 z.2.1, trivial⟩⟩) (by
    intro f d s hd h k
    unfold QG_X4_find_L2 G_X4_find_L2
    have c : ¬ σ 12 2 ≤ nI d := by rw [e]; exact nI_ge hd (by omega)
    have c7 : ¬ (7 : Int32) ≤ nI d := nI_ge (b := 7) (by omega) (by decide)
    simp only [if_neg c, if_neg c7, nI_i1, ix_n (show d < 2 ^ 31 by omega)]
    by_cases hh : σ 13 d = nI x
    · simp only [if_pos hh]
      exact ⟨⟨vp_in_nI (by omega) (by decide), trivial⟩, Or.inl ⟨d, ⟨hd, by rw [← hi d hd]; exact hh, h⟩, rfl⟩⟩
    · simp only [if_neg hh]
      have q := k () (fun j hj => by
        by_cases ek : j = d
        · subst ek; rw [← hi j hd]; exact hh
        · exact h j (by omega))
      exact ⟨⟨vp_in_nI (by omega) (by decide), q.1⟩, q.2⟩) 4000 0 () (Nat.zero_le _) (by omega) (fun k hk => absurd hk (by omega))
theorem r_keyOf {τ : gS} {n : Nat} (hn : n ≤ 7) (e : τ 199 17 = nI n) (hv : ∀ i, i < n → ∃ v : Nat, v < 65536 ∧ τ 213 i = nI v) {x : Nat} (hx : x < 65536) : Q_X10_keyOf τ (lN x) ∧ ((∃ i, keyAt n (τ 213) x i ∧ F_X10_keyOf τ (lN x) = nI i) ∨ ((∀ i, ¬ keyAt n (τ 213) x i) ∧ F_X10_keyOf τ (lN x) = -1)) := by
  rw [F_X10_keyOf_eq]
  unfold Q_X10_keyOf Fr_X10_keyOf
  exact lpF (fun f d (_ : Unit) => QG_X10_keyOf_L2 (lN x) τ f (nI d) ∧ ((∃ i, keyAt n (τ 213) x i ∧ G_X10_keyOf_L2 (lN x) τ f (nI d) = nI i) ∨ ((∀ i, ¬ keyAt n (τ 213) x i) ∧ G_X10_keyOf_L2 (lN x) τ f (nI d) = -1))) (fun d _ => ∀ j, j < d → ¬ τ 213 j = nI x) n (by
    intro f s h
    unfold QG_X10_keyOf_L2 G_X10_keyOf_L2
    have c : τ 199 17 ≤ nI n := by rw [e]; exact nI_le (Nat.le_refl _) (by omega)
    simp only [if_pos c]
    exact ⟨trivial, Or.inr ⟨fun i z => h i z.1 z.2.1, trivial⟩⟩) (by
    intro f d s hd h k
    unfold QG_X10_keyOf_L2 G_X10_keyOf_L2
    have c : ¬ τ 199 17 ≤ nI d := by rw [e]; exact nI_ge hd (by omega)
    obtain ⟨v, hv1, hv2⟩ := hv d hd
    simp only [if_neg c, nI_i1, ix_n (show d < 2 ^ 31 by omega)]
    rw [hv2, nI_l (by omega)]
    by_cases hh : v = x
    · have c2 : lg_cmp (lN v) (lN x) = 0 := (lc_eq (by omega) (by omega)).mpr hh
      simp only [if_pos c2]
      exact ⟨⟨vp_in_nI (by omega) (by decide), trivial⟩, Or.inl ⟨d, ⟨hd, by rw [hv2, hh], h⟩, rfl⟩⟩
    · have c2 : ¬ lg_cmp (lN v) (lN x) = 0 := fun z => hh ((lc_eq (by omega) (by omega)).mp z)
      simp only [if_neg c2]
      have q := k () (fun j hj => by
        by_cases ek : j = d
        · subst ek; rw [hv2]; exact fun z => hh ((nI_eq (by omega) (by omega)).mp z)
        · exact h j (by omega))
      exact ⟨⟨vp_in_nI (by omega) (by decide), q.1⟩, q.2⟩) 4000 0 () (Nat.zero_le _) (by omega) (fun k hk => absurd hk (by omega))
/-- what is kept of a row's seal -/
def pSl (n : Nat) (iss kb : Nat → Int32) (v sz : Int32) (r : Nat → Int32) : Prop := v = 0 ∨ ∃ L i : Nat, 16 ≤ L ∧ L ≤ 48 ∧ sz = nI L ∧ keyAt n iss (be2 r 1) i ∧ ((v = 1 ∧ sealR r L (fun x => kb (16 * i + x))) ∨ (v = 2 ∧ ¬ sealR r L (fun x => kb (16 * i + x))))
theorem c_formed {σ : gS} {j p L : Nat} (hp : p < 4) (hL : L ≤ 48) (e : σ j 1 = nI L) : Q_X8_isFormed σ j 48 (nI p) ∧ ((F_X8_isFormed σ j 48 (nI p) = 1 ∧ formR p L (σ (j + 1))) ∨ (F_X8_isFormed σ j 48 (nI p) = 0 ∧ ¬ formR p L (σ (j + 1)))) := by
  rw [F_X8_isFormed_eq]
  unfold Q_X8_isFormed Fr_X8_isFormed
  have N48 : 48 < 2 ^ 31 := by decide
  have core : ∀ u : Nat, (u = if p = 0 then 4 else 2) → QJ_X8_isFormed_9 j 48 (nI p) σ (nI u) ∧ ((J_X8_isFormed_9 j 48 (nI p) σ (nI u) = 1 ∧ formR p L (σ (j + 1))) ∨ (J_X8_isFormed_9 j 48 (nI p) σ (nI u) = 0 ∧ ¬ formR p L (σ (j + 1)))) := by
    intro u hu
    have hu4 : u ≤ 4 := by
      by_cases z : p = 0
      · rw [if_pos z] at hu; omega
      · rw [if_neg z] at hu; omega
    have hf1 : formR p L (σ (j + 1)) ↔ L = 37 + u ∧ ub (σ (j + 1) 0) = p + 1 ∧ (if p = 0 then be2 (σ (j + 1)) 7 = 0 ∧ be4 (σ (j + 1)) 9 = 0 else if p = 2 then True else ub (σ (j + 1) 21) ≤ 3 ∧ ub (σ (j + 1) 22) ≤ 5) := by
      unfold formR
      rw [hu]
      by_cases z : p = 0
      · rw [if_pos z, if_pos z, if_pos z]
      · rw [if_neg z, if_neg z, if_neg z]
    rw [hf1]
    unfold QJ_X8_isFormed_9 J_X8_isFormed_9
    have e1 : (21 : Int32) + nI u + 16 = nI (37 + u) := by
      rw [show (21 : Int32) = nI 21 from rfl, show (16 : Int32) = nI 16 from rfl, nI_add, nI_add]; congr 1; omega
    rw [e1, e]
    by_cases hLu : L = 37 + u
    · have c1 : nI L = nI (37 + u) := by rw [hLu]
      rw [if_pos c1, if_pos c1]
      rw [show (0 : Int32) = nI 0 from rfl, byteOf_u (n := L) hL N48 e (by omega), show nI p + 1 = nI (p + 1) from nI_1 p]
      have u0 := ub_lt (σ (j + 1) 0)
      by_cases h0 : ub (σ (j + 1) 0) = p + 1
      · have c2 : nI (ub (σ (j + 1) 0)) = nI (p + 1) := by rw [h0]
        rw [if_pos c2, if_pos c2]
        by_cases hp0 : p = 0
        · have c3 : nI p = nI 0 := by rw [hp0]
          rw [if_pos c3, if_pos c3, if_pos hp0]
          rw [show (7 : Int32) = nI 7 from rfl, show (9 : Int32) = nI 9 from rfl, twoAt_u (n := L) hL N48 e (by omega), fourAt_u (n := L) hL N48 e (by omega)]
          have b2 := be2_lt (σ (j + 1)) 7
          have b4 := be4_lt (σ (j + 1)) 9
          have nz : ∀ m : Nat, m < 2 ^ 32 → (nI m = nI 0 ↔ m = 0) := fun m hm => ⟨fun z => by
            have := congrArg (fun q : Int32 => q.toBitVec.toNat) z
            have w : (nI m).toBitVec.toNat = (nI 0).toBitVec.toNat := this
            rw [pk_tn hm, pk_tn (by decide)] at w; exact w, fun z => by rw [z]⟩
          by_cases h7 : be2 (σ (j + 1)) 7 = 0
          · have c7 := (nz _ (by omega)).mpr h7
            rw [if_pos c7, if_pos c7]
            by_cases h9 : be4 (σ (j + 1)) 9 = 0
            · have c9 := (nz _ b4).mpr h9
              rw [if_pos c9, if_pos c9]
              exact ⟨⟨q_byteOf σ j N48 _, q_twoAt σ j N48 _, q_fourAt σ j N48 _, trivial⟩, Or.inl ⟨rfl, hLu, h0, h7, h9⟩⟩
            · have c9 : ¬ _ := fun z => h9 ((nz _ b4).mp z)
              rw [if_neg c9, if_neg c9]
              exact ⟨⟨q_byteOf σ j N48 _, q_twoAt σ j N48 _, q_fourAt σ j N48 _, trivial⟩, Or.inr ⟨rfl, fun z => h9 z.2.2.2⟩⟩
          · have c7 : ¬ _ := fun z => h7 ((nz _ (by omega)).mp z)
            rw [if_neg c7, if_neg c7]
            exact ⟨⟨q_byteOf σ j N48 _, q_twoAt σ j N48 _, trivial⟩, Or.inr ⟨rfl, fun z => h7 z.2.2.1⟩⟩
        · have c3 : ¬ nI p = nI 0 := fun z => hp0 ((nI_eq (by omega) (by omega)).mp z)
          rw [if_neg c3, if_neg c3, if_neg hp0]
          by_cases hp2 : p = 2
          · have c4 : nI p = 2 := by rw [hp2]; rfl
            rw [if_pos c4, if_pos c4, if_pos hp2]
            exact ⟨⟨q_byteOf σ j N48 _, trivial⟩, Or.inl ⟨rfl, hLu, h0, trivial⟩⟩
          · have c4 : ¬ nI p = 2 := fun z => hp2 ((nI_eq (b := 2) (by omega) (by decide)).mp z)
            rw [if_neg c4, if_neg c4, if_neg hp2]
            rw [show (21 : Int32) = nI 21 from rfl, show (22 : Int32) = nI 22 from rfl, byteOf_u (n := L) hL N48 e (by omega), byteOf_u (n := L) hL N48 e (by omega)]
            have u1 := ub_lt (σ (j + 1) 21)
            have u2 := ub_lt (σ (j + 1) 22)
            by_cases h21 : ub (σ (j + 1) 21) ≤ 3
            · have c5 : ¬ (3 : Int32) < nI (ub (σ (j + 1) 21)) := nI_nlt (a := 3) h21 (by decide)
              rw [if_neg c5, if_neg c5]
              by_cases h22 : ub (σ (j + 1) 22) ≤ 5
              · have c6 : ¬ (5 : Int32) < nI (ub (σ (j + 1) 22)) := nI_nlt (a := 5) h22 (by decide)
                rw [if_neg c6, if_neg c6]
                exact ⟨⟨q_byteOf σ j N48 _, q_byteOf σ j N48 _, q_byteOf σ j N48 _, trivial⟩, Or.inl ⟨rfl, hLu, h0, h21, h22⟩⟩
              · have c6 : (5 : Int32) < nI (ub (σ (j + 1) 22)) := nI_lt (a := 5) (by omega) (by omega)
                rw [if_pos c6, if_pos c6]
                exact ⟨⟨q_byteOf σ j N48 _, q_byteOf σ j N48 _, q_byteOf σ j N48 _, trivial⟩, Or.inr ⟨rfl, fun z => h22 z.2.2.2⟩⟩
            · have c5 : (3 : Int32) < nI (ub (σ (j + 1) 21)) := nI_lt (a := 3) (by omega) (by omega)
              rw [if_pos c5, if_pos c5]
              exact ⟨⟨q_byteOf σ j N48 _, q_byteOf σ j N48 _, trivial⟩, Or.inr ⟨rfl, fun z => h21 z.2.2.1⟩⟩
      · have c2 : ¬ nI (ub (σ (j + 1) 0)) = nI (p + 1) := fun z => h0 ((nI_eq (by omega) (by omega)).mp z)
        rw [if_neg c2, if_neg c2]
        exact ⟨⟨q_byteOf σ j N48 _, trivial⟩, Or.inr ⟨rfl, fun z => h0 z.2.1⟩⟩
    · have c1 : ¬ nI L = nI (37 + u) := fun z => hLu ((nI_eq (by omega) (by omega)).mp z)
      rw [if_neg c1, if_neg c1]
      exact ⟨trivial, Or.inr ⟨rfl, fun z => hLu z.1⟩⟩
  by_cases z : p = 0
  · have c : nI p = 0 := by rw [z]; rfl
    rw [if_pos c, if_pos c]
    exact core 4 (by rw [if_pos z])
  · have c : ¬ nI p = 0 := nI_ne0 (by omega) (by omega)
    rw [if_neg c, if_neg c]
    exact core 2 (by rw [if_neg z])
theorem c_inTime {σ : gS} {j L t : Nat} (hL : L ≤ 48) (h39 : 39 ≤ L) (e : σ j 1 = nI L) (ht : t < 2 ^ 31) : Q_X8_isInTime σ j 48 (nI t) ∧ ((F_X8_isInTime σ j 48 (nI t) = 1 ∧ timeR t (σ (j + 1))) ∨ (F_X8_isInTime σ j 48 (nI t) = 0 ∧ ¬ timeR t (σ (j + 1)))) := by
  rw [F_X8_isInTime_eq]
  unfold Q_X8_isInTime Fr_X8_isInTime
  have N48 : 48 < 2 ^ 31 := by decide
  have b1 := be4_lt (σ (j + 1)) 13
  have b2 := be4_lt (σ (j + 1)) 17
  rw [show (13 : Int32) = nI 13 from rfl, show (17 : Int32) = nI 17 from rfl, fourAt_u (n := L) hL N48 e (by omega), fourAt_u (n := L) hL N48 e (by omega), wSign b1, wSign b2, nI_l ht]
  unfold timeR
  by_cases h1 : t < be4 (σ (j + 1)) 13
  · have c1 := (lc_lt (a := t) (by omega) (by omega)).mpr h1
    rw [if_pos c1, if_pos c1]
    exact ⟨⟨q_fourAt σ j N48 _, trivial⟩, Or.inr ⟨rfl, fun z => by omega⟩⟩
  · have c1 : ¬ _ := fun z => h1 ((lc_lt (a := t) (b := be4 (σ (j + 1)) 13) (by omega) (by omega)).mp z)
    rw [if_neg c1, if_neg c1]
    by_cases h2 : be4 (σ (j + 1)) 17 < t
    · have c2 := (lc_gt (a := t) (by omega) (by omega)).mpr h2
      rw [if_pos c2, if_pos c2]
      exact ⟨⟨q_fourAt σ j N48 _, q_fourAt σ j N48 _, trivial⟩, Or.inr ⟨rfl, fun z => by omega⟩⟩
    · have c2 : ¬ _ := fun z => h2 ((lc_gt (a := t) (b := be4 (σ (j + 1)) 17) (by omega) (by omega)).mp z)
      rw [if_neg c2, if_neg c2]
      exact ⟨⟨q_fourAt σ j N48 _, q_fourAt σ j N48 _, trivial⟩, Or.inl ⟨rfl, by omega, by omega⟩⟩
