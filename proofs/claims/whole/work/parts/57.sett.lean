/-! Settings from a disk -/
def sW (i : Nat) : Nat := if i = 5 then 1 else if i = 6 then 1 else 2
def sP (i : Nat) : Nat := if i ≤ 5 then 1 + 2 * i else if i = 6 then 12 else 2 * i - 1
def sV (r : Nat → Int32) (i : Nat) : Nat := beN r (sP i) (sW i)
def setR (n : Nat) (r : Nat → Int32) : Prop := n = 17 ∧ r 0 = 83 ∧ ∀ i, i < 9 → sLo i ≤ sV r i ∧ sV r i ≤ sHi i
theorem tab_s : ∀ i, i < 9 → tab 1 i = nI (sLo i) ∧ tab 2 i = nI (sHi i) ∧ tab 3 i = nI (sP i) ∧ sP i + sW i ≤ 17 ∧ 1 ≤ sW i ∧ sW i ≤ 2 ∧ sP (i + 1) = sP i + sW i ∧ F_X10_widthOf (nI i) = nI (sW i) := by
  intro i hi
  have w : ∀ x : Int32, F_X10_widthOf x = if x = 5 then 1 else if x = 6 then 1 else 2 := fun x => by rw [F_X10_widthOf_eq]; rfl
  rw [w]
  rcases (show i = 0 ∨ i = 1 ∨ i = 2 ∨ i = 3 ∨ i = 4 ∨ i = 5 ∨ i = 6 ∨ i = 7 ∨ i = 8 by omega) with rfl | rfl | rfl | rfl | rfl | rfl | rfl | rfl | rfl <;> decide
theorem sV_lt (r : Nat → Int32) {i : Nat} (hi : i < 9) : sV r i < 65536 := by
  have := beN_lt r (sP i) (sW i)
  have h2 := (tab_s i hi).2.2.2.2.2.1
  have hp : 256 ^ sW i ≤ 256 ^ 2 := Nat.pow_le_pow_right (by decide) h2
  unfold sV; omega
theorem beN_congr {r r' : Nat → Int32} {a : Nat} : ∀ n, (∀ i, i < n → r (a + i) = r' (a + i)) → beN r a n = beN r' a n := by
  intro n
  induction n with
  | zero => intro _; rfl
  | succ n ih => intro h; simp only [beN]; rw [ih (fun i hi => h i (by omega)), h n (by omega)]
theorem sV_congr {r r' : Nat → Int32} (h : ∀ i, i < 17 → r i = r' i) {i : Nat} (hi : i < 9) : sV r i = sV r' i := beN_congr _ (fun k hk => h _ (by have := (tab_s i hi).2.2.2.1; omega))
theorem c_set1 {σ : gS} {i : Nat} (hi : i < 9) (e : σ 3 1 = nI 17) : Q_X9_settingOnDisk σ (nI i) ∧ F_X9_settingOnDisk σ (nI i) = nI (sV (σ 4) i) := by
  rw [F_X9_settingOnDisk_eq]
  unfold Q_X9_settingOnDisk Fr_X9_settingOnDisk QJ_X9_settingOnDisk_11 J_X9_settingOnDisk_11 QJ_X9_settingOnDisk_16 J_X9_settingOnDisk_16
  have T := tab_s i hi
  have v9 : vp_in (nI i) 9 := vp_in_nI hi (by decide)
  rw [ix_n (by omega), T.2.2.1]
  have qb := q_byteOf σ 3 (N := 400) (by decide) (nI (sP i))
  have qt := q_twoAt σ 3 (N := 400) (by decide) (nI (sP i))
  by_cases h5 : i = 5
  · have c : nI i = 5 := by rw [h5]; rfl
    rw [if_pos c, if_pos c, if_neg n10, if_neg n10]
    refine ⟨⟨v9, qb, trivial⟩, ?_⟩
    subst h5
    rw [byteOf_u (n := 17) (by decide) (by decide) e (by decide)]
    unfold sV; rw [show sW 5 = 1 from rfl, beN_1]
  have c5 : ¬ nI i = 5 := fun z => h5 ((nI_eq (b := 5) (by omega) (by decide)).mp z)
  by_cases h6 : i = 6
  · have c : nI i = 6 := by rw [h6]; rfl
    rw [if_neg c5, if_neg c5, if_pos c, if_pos c, if_neg n10, if_neg n10]
    refine ⟨⟨v9, qb, trivial⟩, ?_⟩
    subst h6
    rw [byteOf_u (n := 17) (by decide) (by decide) e (by decide)]
    unfold sV; rw [show sW 6 = 1 from rfl, beN_1]
  have c6 : ¬ nI i = 6 := fun z => h6 ((nI_eq (b := 6) (by omega) (by decide)).mp z)
  rw [if_neg c5, if_neg c5, if_neg c6, if_neg c6, if_pos rfl, if_pos rfl]
  have w2 : sW i = 2 := by unfold sW; rw [if_neg h5, if_neg h6]
  refine ⟨⟨v9, qt, trivial⟩, ?_⟩
  rw [twoAt_u (n := 17) (by decide) (by decide) e (by have := T.2.2.2.1; omega)]
  unfold sV; rw [w2, beN_2]
theorem c_areSet {σ : gS} {n : Nat} (hn : n ≤ 400) (e : σ 3 1 = nI n) (hb : ∀ i, i < n → isb (σ 4 i)) : Q_X9_areSettingsOnDisk σ ∧ ((F_X9_areSettingsOnDisk σ = 1 ∧ setR n (σ 4)) ∨ (F_X9_areSettingsOnDisk σ = 0 ∧ ¬ setR n (σ 4))) := by
  rw [F_X9_areSettingsOnDisk_eq]
  unfold Q_X9_areSettingsOnDisk Fr_X9_areSettingsOnDisk
  rw [e]
  by_cases h17 : n = 17
  rotate_left
  · have c : ¬ nI n = 17 := fun z => h17 ((nI_eq (b := 17) (by omega) (by decide)).mp z)
    rw [if_neg c, if_neg c]
    exact ⟨trivial, Or.inr ⟨rfl, fun z => h17 z.1⟩⟩
  have c : nI n = 17 := by rw [h17]; rfl
  have e17 : σ 3 1 = nI 17 := e.trans c
  rw [if_pos c, if_pos c]
  have q0 := q_byteOf σ 3 (N := 400) (by decide) 0
  have b0 : F_X0_byteOf σ 3 400 0 = nI (ub (σ 4 0)) := byteOf_u (i := 0) (n := 17) (by decide) (by decide) e17 (by decide)
  rw [b0]
  have u0 := ub_lt (σ 4 0)
  have i83 : isb 83 := isb_mk 83
  have e83 : nI (ub (σ 4 0)) = 83 ↔ σ 4 0 = 83 := ⟨fun z => ub_inj (hb 0 (by omega)) i83 (by
    have := (nI_eq (b := 83) (by omega) (by decide)).mp z
    rw [this]; rfl), fun z => by rw [z]; rfl⟩
  by_cases h83 : σ 4 0 = 83
  rotate_left
  · have c2 : ¬ nI (ub (σ 4 0)) = 83 := fun z => h83 (e83.mp z)
    rw [if_neg c2, if_neg c2]
    exact ⟨⟨q0, trivial⟩, Or.inr ⟨rfl, fun z => h83 z.2.1⟩⟩
  have c2 := e83.mpr h83
  rw [if_pos c2, if_pos c2]
  have lp := lpF (fun f d (_ : Unit) => QG_X9_areSettingsOnDisk_L29 σ f (nI d) ∧ ((G_X9_areSettingsOnDisk_L29 σ f (nI d) = 1 ∧ setR n (σ 4)) ∨ (G_X9_areSettingsOnDisk_L29 σ f (nI d) = 0 ∧ ¬ setR n (σ 4)))) (fun d _ => ∀ i, i < d → sLo i ≤ sV (σ 4) i ∧ sV (σ 4) i ≤ sHi i) 9 (by
    intro f _ h
    unfold QG_X9_areSettingsOnDisk_L29 G_X9_areSettingsOnDisk_L29
    have c1 : (9 : Int32) ≤ nI 9 := nI_le (a := 9) (Nat.le_refl _) (by decide)
    simp only [if_pos c1]
    exact ⟨trivial, Or.inl ⟨trivial, h17, h83, h⟩⟩) (by
    intro f d _ hd h k
    unfold QG_X9_areSettingsOnDisk_L29 G_X9_areSettingsOnDisk_L29
    have c1 : ¬ (9 : Int32) ≤ nI d := nI_ge (b := 9) hd (by decide)
    obtain ⟨qs, es⟩ := c_set1 (σ := σ) hd e17
    have T := tab_s d hd
    have l := sV_lt (σ 4) hd
    have hi : sHi d ≤ 10000 := by unfold sHi; split; exact Nat.le_refl _; split; decide; split <;> decide
    have lo : sLo d ≤ 1 := by unfold sLo; split <;> decide
    have v9 : vp_in (nI d) 9 := vp_in_nI hd (by decide)
    simp only [if_neg c1, es, ix_n (show d < 2 ^ 31 by omega), T.1, T.2.1, nI_i1]
    by_cases h1 : sLo d ≤ sV (σ 4) d
    rotate_left
    · have d1 : nI (sV (σ 4) d) < nI (sLo d) := nI_lt (by omega) (by omega)
      simp only [if_pos d1]
      exact ⟨⟨qs, v9, trivial⟩, Or.inr ⟨trivial, fun z => h1 (z.2.2 d hd).1⟩⟩
    have d1 : ¬ nI (sV (σ 4) d) < nI (sLo d) := nI_nlt h1 (by omega)
    simp only [if_neg d1]
    by_cases h2 : sV (σ 4) d ≤ sHi d
    rotate_left
    · have d2 : ¬ nI (sV (σ 4) d) ≤ nI (sHi d) := nI_ge (by omega) (by omega)
      simp only [if_neg d2]
      exact ⟨⟨qs, v9, v9, trivial⟩, Or.inr ⟨trivial, fun z => h2 (z.2.2 d hd).2⟩⟩
    have d2 : nI (sV (σ 4) d) ≤ nI (sHi d) := nI_le h2 (by omega)
    simp only [if_pos d2]
    have g := k () (fun i hi => by
      by_cases ei : i = d
      · subst ei; exact ⟨h1, h2⟩
      · exact h i (by omega))
    exact ⟨⟨qs, v9, v9, g.1⟩, g.2⟩) 4000 0 () (Nat.zero_le _) (by omega) (fun i hi => absurd hi (by omega))
  exact ⟨⟨q0, lp.1⟩, lp.2⟩
theorem c_takeSet {σ : gS} (e : σ 3 1 = nI 17) : QG_X9_changeSettings_L35 4000 0 σ ∧ (G_X9_changeSettings_L35 4000 0 σ).1 = 1 ∧ (∀ b, b ≠ 6 → (G_X9_changeSettings_L35 4000 0 σ).2 b = σ b) ∧ ∀ i, i < 9 → (G_X9_changeSettings_L35 4000 0 σ).2 6 i = nI (sV (σ 4) i) := by
  exact lpF (fun f d s => QG_X9_changeSettings_L35 f (nI d) s ∧ (G_X9_changeSettings_L35 f (nI d) s).1 = 1 ∧ (∀ b, b ≠ 6 → (G_X9_changeSettings_L35 f (nI d) s).2 b = σ b) ∧ ∀ i, i < 9 → (G_X9_changeSettings_L35 f (nI d) s).2 6 i = nI (sV (σ 4) i)) (fun d s => (∀ b, b ≠ 6 → s b = σ b) ∧ ∀ i, i < d → s 6 i = nI (sV (σ 4) i)) 9 (by
    intro f s h
    unfold QG_X9_changeSettings_L35 G_X9_changeSettings_L35
    have c1 : (9 : Int32) ≤ nI 9 := nI_le (a := 9) (Nat.le_refl _) (by decide)
    simp only [if_pos c1]
    exact ⟨trivial, trivial, h.1, h.2⟩) (by
    intro f d s hd h k
    unfold QG_X9_changeSettings_L35 G_X9_changeSettings_L35
    have c1 : ¬ (9 : Int32) ≤ nI d := nI_ge (b := 9) hd (by decide)
    obtain ⟨qs, es⟩ := c_set1 (σ := s) hd (by rw [h.1 3 (by decide)]; exact e)
    rw [h.1 4 (by decide)] at es
    simp only [if_neg c1, es, ix_n (show d < 2 ^ 31 by omega), nI_i1]
    have g := k (pf s 6 d (nI (sV (σ 4) d))) ⟨fun b hb => (pf_ne hb).trans (h.1 b hb), fun i hi => by
      rw [pf_v]
      by_cases ei : i = d
      · subst ei; rw [if_pos rfl]
      · rw [if_neg ei]; exact h.2 i (by omega)⟩
    exact ⟨⟨qs, vp_in_nI hd (by decide), g.1⟩, g.2⟩) 4000 0 σ (Nat.zero_le _) (by omega) ⟨fun _ _ => rfl, fun i hi => absurd hi (by omega)⟩
/-! The reference -/
theorem r_set1 {τ : gS} {i : Nat} (hi : i < 9) : Q_X10_diskField τ (nI (sP i)) (nI (sW i)) ∧ F_X10_diskField τ (nI (sP i)) (nI (sW i)) = lN (sV (τ 215) i) := r_diskField (by have := (tab_s i hi).2.2.2.1; omega) (by have := (tab_s i hi).2.2.2.2.2.1; omega)
theorem r_isSet {τ : gS} {n : Nat} (hn : n ≤ 400) (e : τ 199 25 = nI n) : Q_X10_isSettings τ ∧ ((F_X10_isSettings τ = 1 ∧ setR n (τ 215)) ∨ (F_X10_isSettings τ = 0 ∧ ¬ setR n (τ 215))) := by
  rw [F_X10_isSettings_eq]
  unfold Q_X10_isSettings Fr_X10_isSettings
  rw [e, ix0]
  by_cases h17 : n = 17
  rotate_left
  · have c : ¬ nI n = 17 := fun z => h17 ((nI_eq (b := 17) (by omega) (by decide)).mp z)
    rw [if_neg c, if_neg c]
    exact ⟨trivial, Or.inr ⟨rfl, fun z => h17 z.1⟩⟩
  have c : nI n = 17 := by rw [h17]; rfl
  rw [if_pos c, if_pos c]
  by_cases h83 : τ 215 0 = 83
  rotate_left
  · rw [if_neg h83, if_neg h83]
    exact ⟨trivial, Or.inr ⟨rfl, fun z => h83 z.2.1⟩⟩
  rw [if_pos h83, if_pos h83]
  have lp := lpF (fun f d b => QG_X10_isSettings_L28 τ f (bI b) (nI (sP d)) (nI d) ∧ ((G_X10_isSettings_L28 τ f (bI b) (nI (sP d)) (nI d) = 1 ∧ setR n (τ 215)) ∨ (G_X10_isSettings_L28 τ f (bI b) (nI (sP d)) (nI d) = 0 ∧ ¬ setR n (τ 215)))) (fun d b => b = true ↔ ∀ i, i < d → sLo i ≤ sV (τ 215) i ∧ sV (τ 215) i ≤ sHi i) 9 (by
    intro f b h
    unfold QG_X10_isSettings_L28 G_X10_isSettings_L28
    have c1 : (9 : Int32) ≤ nI 9 := nI_le (a := 9) (Nat.le_refl _) (by decide)
    simp only [if_pos c1]
    cases b with
    | true => exact ⟨⟨Or.inr rfl, trivial⟩, Or.inl ⟨rfl, h17, h83, h.mp rfl⟩⟩
    | false => exact ⟨⟨Or.inl rfl, trivial⟩, Or.inr ⟨rfl, fun z => absurd (h.mpr z.2.2) (by decide)⟩⟩) (by
    intro f d b hd h k
    unfold QG_X10_isSettings_L28 G_X10_isSettings_L28
    have c1 : ¬ (9 : Int32) ≤ nI d := nI_ge (b := 9) hd (by decide)
    have T := tab_s d hd
    obtain ⟨qs, es⟩ := r_set1 (τ := τ) hd
    have l := sV_lt (τ 215) hd
    have ea : nI (sP d) + nI (sW d) = nI (sP (d + 1)) := by rw [nI_add, T.2.2.2.2.2.2.1]
    simp only [if_neg c1, T.2.2.2.2.2.2.2, es, ea, nI_i1]
    have no : ¬ (sLo d ≤ sV (τ 215) d ∧ sV (τ 215) d ≤ sHi d) → QG_X10_isSettings_L28 τ f 0 (nI (sP (d + 1))) (nI (d + 1)) ∧ ((G_X10_isSettings_L28 τ f 0 (nI (sP (d + 1))) (nI (d + 1)) = 1 ∧ setR n (τ 215)) ∨ (G_X10_isSettings_L28 τ f 0 (nI (sP (d + 1))) (nI (d + 1)) = 0 ∧ ¬ setR n (τ 215))) := fun hh => k false ⟨fun z => absurd z (by decide), fun z => absurd (z d (by omega)) hh⟩
    cases b with
    | false =>
      have c2 : bI false = 0 := rfl
      simp only [c2, if_true]
      have g := k false ⟨fun z => absurd z (by decide), fun z => h.mpr (fun i hi => z i (by omega))⟩
      exact ⟨⟨qs, g.1⟩, g.2⟩
    | true =>
      have c2 : ¬ bI true = 0 := by decide
      have yes : sLo d ≤ sV (τ 215) d → sV (τ 215) d ≤ sHi d → QG_X10_isSettings_L28 τ f 1 (nI (sP (d + 1))) (nI (d + 1)) ∧ ((G_X10_isSettings_L28 τ f 1 (nI (sP (d + 1))) (nI (d + 1)) = 1 ∧ setR n (τ 215)) ∨ (G_X10_isSettings_L28 τ f 1 (nI (sP (d + 1))) (nI (d + 1)) = 0 ∧ ¬ setR n (τ 215))) := fun h1 h2 => k true ⟨fun _ i hi => by
        by_cases ei : i = d
        · subst ei; exact ⟨h1, h2⟩
        · exact h.mp rfl i (by omega), fun _ => rfl⟩
      simp only [if_neg c2]
      -- a bound from above
      have up : ∀ H : Nat, H < 2 ^ 63 → sHi d = H → sLo d = 0 → (if 0 < lg_cmp (lN (sV (τ 215) d)) (lN H) then QG_X10_isSettings_L28 τ f 0 (nI (sP (d + 1))) (nI (d + 1)) else QG_X10_isSettings_L28 τ f 1 (nI (sP (d + 1))) (nI (d + 1))) ∧ (((if 0 < lg_cmp (lN (sV (τ 215) d)) (lN H) then G_X10_isSettings_L28 τ f 0 (nI (sP (d + 1))) (nI (d + 1)) else G_X10_isSettings_L28 τ f 1 (nI (sP (d + 1))) (nI (d + 1))) = 1 ∧ setR n (τ 215)) ∨ ((if 0 < lg_cmp (lN (sV (τ 215) d)) (lN H) then G_X10_isSettings_L28 τ f 0 (nI (sP (d + 1))) (nI (d + 1)) else G_X10_isSettings_L28 τ f 1 (nI (sP (d + 1))) (nI (d + 1))) = 0 ∧ ¬ setR n (τ 215))) := by
        intro H hH e1 e2
        by_cases hh : H < sV (τ 215) d
        · have d1 := (lc_gt (a := sV (τ 215) d) (b := H) (by omega) hH).mpr hh
          simp only [if_pos d1]; exact no (by omega)
        · have d1 : ¬ _ := fun z => hh ((lc_gt (a := sV (τ 215) d) (b := H) (by omega) hH).mp z)
          simp only [if_neg d1]; exact yes (by omega) (by omega)
      by_cases h4 : 4 < d
      · have d4 : (4 : Int32) < nI d := nI_lt (a := 4) h4 (by omega)
        simp only [if_pos d4]
        have lo : sLo d = 0 := by unfold sLo; rw [if_neg (by omega)]
        by_cases h5 : d = 5
        · have d5 : nI d = 5 := by rw [h5]; rfl
          simp only [if_pos d5]
          have g := up 5 (by decide) (by rw [h5]; rfl) lo
          exact ⟨⟨qs, g.1⟩, g.2⟩
        have d5 : ¬ nI d = 5 := fun z => h5 ((nI_eq (b := 5) (by omega) (by decide)).mp z)
        simp only [if_neg d5]
        by_cases h6 : d = 6
        · have d6 : nI d = 6 := by rw [h6]; rfl
          simp only [if_pos d6]
          have g := up 16 (by decide) (by rw [h6]; rfl) lo
          exact ⟨⟨qs, g.1⟩, g.2⟩
        have d6 : ¬ nI d = 6 := fun z => h6 ((nI_eq (b := 6) (by omega) (by decide)).mp z)
        simp only [if_neg d6]
        have g := up 999 (by decide) (by unfold sHi; rw [if_neg (by omega), if_neg h5, if_neg h6]) lo
        exact ⟨⟨qs, g.1⟩, g.2⟩
      · have d4 : ¬ (4 : Int32) < nI d := nI_nlt (a := 4) (by omega) (by decide)
        have lo : sLo d = 1 := by unfold sLo; rw [if_pos (by omega)]
        have hi : sHi d = 10000 := by unfold sHi; rw [if_pos (by omega)]
        simp only [if_neg d4, show (1 : Int64) = lN 1 from rfl, show (10000 : Int64) = lN 10000 from rfl]
        by_cases h1 : sV (τ 215) d < 1
        · have d1 := (lc_lt (a := sV (τ 215) d) (b := 1) (by omega) (by omega)).mpr h1
          simp only [if_pos d1]
          have g := no (by omega)
          exact ⟨⟨qs, g.1⟩, g.2⟩
        have d1 : ¬ _ := fun z => h1 ((lc_lt (a := sV (τ 215) d) (b := 1) (by omega) (by omega)).mp z)
        simp only [if_neg d1]
        by_cases h2 : 10000 < sV (τ 215) d
        · have d2 := (lc_gt (a := sV (τ 215) d) (b := 10000) (by omega) (by omega)).mpr h2
          simp only [if_pos d2]
          have g := no (by omega)
          exact ⟨⟨qs, g.1⟩, g.2⟩
        have d2 : ¬ _ := fun z => h2 ((lc_gt (a := sV (τ 215) d) (b := 10000) (by omega) (by omega)).mp z)
        simp only [if_neg d2]
        have g := yes (by omega) (by omega)
        exact ⟨⟨qs, g.1⟩, g.2⟩) 4000 0 true (Nat.zero_le _) (by omega) ⟨fun _ i hi => absurd hi (by omega), fun _ => rfl⟩
  exact lp
theorem r_takeSet {τ : gS} : Q_X10_takeSettings τ ∧ (∀ b, b ≠ 217 → F_X10_takeSettings τ b = τ b) ∧ ∀ i, i < 9 → F_X10_takeSettings τ 217 i = nI (sV (τ 215) i) := by
  rw [F_X10_takeSettings_eq]
  unfold Q_X10_takeSettings Fr_X10_takeSettings
  exact lpF (fun f d s => QG_X10_takeSettings_L4 f (nI (sP d)) (nI d) s ∧ (∀ b, b ≠ 217 → G_X10_takeSettings_L4 f (nI (sP d)) (nI d) s b = τ b) ∧ ∀ i, i < 9 → G_X10_takeSettings_L4 f (nI (sP d)) (nI d) s 217 i = nI (sV (τ 215) i)) (fun d s => (∀ b, b ≠ 217 → s b = τ b) ∧ ∀ i, i < d → s 217 i = nI (sV (τ 215) i)) 9 (by
    intro f s h
    unfold QG_X10_takeSettings_L4 G_X10_takeSettings_L4
    have c1 : (9 : Int32) ≤ nI 9 := nI_le (a := 9) (Nat.le_refl _) (by decide)
    simp only [if_pos c1]
    exact ⟨trivial, h.1, h.2⟩) (by
    intro f d s hd h k
    unfold QG_X10_takeSettings_L4 G_X10_takeSettings_L4
    have c1 : ¬ (9 : Int32) ≤ nI d := nI_ge (b := 9) hd (by decide)
    have T := tab_s d hd
    obtain ⟨qs, es⟩ := r_set1 (τ := s) hd
    rw [h.1 215 (by decide)] at es
    have ea : nI (sP d) + nI (sW d) = nI (sP (d + 1)) := by rw [nI_add, T.2.2.2.2.2.2.1]
    simp only [if_neg c1, T.2.2.2.2.2.2.2, es, ea, nI_i1, lN_i, ix_n (show d < 2 ^ 31 by omega)]
    have g := k (pf s 217 d (nI (sV (τ 215) d))) ⟨fun b hb => (pf_ne hb).trans (h.1 b hb), fun i hi => by
      rw [pf_v]
      by_cases ei : i = d
      · subst ei; rw [if_pos rfl]
      · rw [if_neg ei]; exact h.2 i (by omega)⟩
    exact ⟨⟨qs, vp_in_nI hd (by decide), g.1⟩, g.2⟩) 4000 0 τ (Nat.zero_le _) (by omega) ⟨fun _ _ => rfl, fun i hi => absurd hi (by omega)⟩
theorem a_sett {M n so t d : Nat} {σ τ : gS} {ζ : gQ} {c : Nat} (R : RLk M n so 5 t d σ τ ζ) (hp : σ 15 6 = 1) (hM : M < 2 ^ 20 - 2) (hr : ¬ σ 21 4 = -1) (hd : σ 0 2 = 1) (S : sgt σ τ n t 22 (nI c)) :
    ∃ u V z, F_X9_changeSettings σ = (1, u) ∧ Q_X9_changeSettings σ ∧ (Q_X10_isSettings τ ∧ (if F_X10_isSettings τ = 0 then QJ_X10_works_117 (nI c) (F_X10_isSettings τ) 60 τ ζ else QJ_X10_works_117 (nI c) (F_X10_isSettings τ) 59 τ ζ)) ∧ (if F_X10_isSettings τ = 0 then J_X10_works_117 (nI c) (F_X10_isSettings τ) 60 τ ζ else J_X10_works_117 (nI c) (F_X10_isSettings τ) 59 τ ζ) = (1, V, z) ∧ actR M n so 5 t d σ τ 1 u V z := by
  rw [F_X9_changeSettings_eq]
  unfold Fr_X9_changeSettings Q_X9_changeSettings QJ_X10_works_117 J_X10_works_117 QJ_X10_works_126 J_X10_works_126 QJ_X10_works_141 J_X10_works_141
  have hn := ins_n R (by decide)
  obtain ⟨l, hl, l1, l2, lb⟩ : ∃ l : Nat, l ≤ 400 ∧ σ 3 1 = nI l ∧ τ 199 25 = nI l ∧ ∀ i, i < l → σ 4 i = τ 215 i ∧ isb (σ 4 i) := by
    rcases R.com.disk with ⟨z, _⟩ | ⟨_, l, h1, h2, h3, h4⟩
    · rw [hd] at z; exact absurd z (by decide)
    · exact ⟨l, h1, h2, h3, h4⟩
  obtain ⟨qs, cs⟩ := c_areSet (σ := σ) hl l1 (fun i hi => (lb i hi).2)
  obtain ⟨qr, cr⟩ := r_isSet (τ := τ) hl l2
  have same : setR l (σ 4) ↔ setR l (τ 215) := by
    unfold setR
    constructor
    · rintro ⟨h1, h2, h3⟩
      have lb' : ∀ i, i < 17 → σ 4 i = τ 215 i := fun i hi => (lb i (by omega)).1
      exact ⟨h1, by rw [← lb' 0 (by decide)]; exact h2, fun i hi => by rw [← sV_congr lb' hi]; exact h3 i hi⟩
    · rintro ⟨h1, h2, h3⟩
      have lb' : ∀ i, i < 17 → σ 4 i = τ 215 i := fun i hi => (lb i (by omega)).1
      exact ⟨h1, by rw [lb' 0 (by decide)]; exact h2, fun i hi => by rw [sV_congr lb' hi]; exact h3 i hi⟩
  rcases cs with ⟨es, ss⟩ | ⟨es, ss⟩
  rotate_left
  · have er : F_X10_isSettings τ = 0 := by
      rcases cr with ⟨_, z⟩ | ⟨z, _⟩
      · exact absurd (same.mpr z) ss
      · exact z
    obtain ⟨r, u, V, z, e1, e2, q1, q2, E⟩ := s_stepI R hp hM S (a := 60) (b := 1) (sm_n 60 (by decide)) (sm_n 1 (by decide)) 2 10
    simp only [es, er, if_true, e1, e2, iTo]
    rcases E.1 with rfl | ⟨rfl, h6⟩
    · simp only [if_neg n10]
      refine ⟨_, _, _, rfl, ⟨qs, q1, trivial⟩, ⟨qr, q2, trivial⟩, rfl, actR_1 (M' := M + 2) (n' := n) (so' := so) (si' := 2) ?_ (by omega)⟩
      have R' := E.2.1
      have I := R'.ins
      have er : ¬ u 21 4 = -1 := by rw [E.2.2.1 21 (by decide) (by decide) (by decide)]; exact hr
      exact ⟨R'.com, R'.lat, R'.out, ⟨by decide, rfl, rfl, ⟨10, by decide, rfl, rfl⟩, I.2.2.2.2.1, fun _ => Or.inl rfl, fun h => absurd h (by decide), fun _ => I.2.2.2.2.2.2.2.1 (Or.inr (Or.inr er)), ins_lo 2 (by decide) hn⟩, jr_n R'.jr (by decide)⟩
    · simp only [if_true]
      exact ⟨_, _, _, rfl, ⟨qs, q1, trivial⟩, ⟨qr, q2, trivial⟩, rfl, actR_1 E.2.1 (by omega)⟩
  have er : F_X10_isSettings τ = 1 := by
    rcases cr with ⟨z, _⟩ | ⟨_, z⟩
    · exact z
    · exact absurd (same.mp ss) z
  obtain ⟨r, u, V, z, e1, e2, q1, q2, E⟩ := s_stepI R hp hM S (a := 59) (b := 0) (sm_n 59 (by decide)) (sm_n 0 (by decide)) 2 5
  simp only [es, er, if_neg n10, e1, e2, iTo]
  rcases E.1 with rfl | ⟨rfl, h6⟩
  rotate_left
  · simp only [if_true]
    exact ⟨_, _, _, rfl, ⟨qs, q1, trivial⟩, ⟨qr, q2, trivial⟩, rfl, actR_1 E.2.1 (by omega)⟩
  simp only [if_neg n10]
  have R' := E.2.1
  have C := R'.com
  have I := R'.ins
  have hl17 : l = 17 := ss.1
  have x3 : pf (pf u 21 1 2) 21 2 5 3 1 = nI 17 := by
    rw [pf_ne (by decide), pf_ne (by decide), E.2.2.1 3 (by decide) (by decide) (by decide), l1, hl17]
  have x4 : pf (pf u 21 1 2) 21 2 5 4 = σ 4 := by
    rw [pf_ne (by decide), pf_ne (by decide), E.2.2.1 4 (by decide) (by decide) (by decide)]
  obtain ⟨t1, t2, t3, t4⟩ := c_takeSet x3
  rw [x4] at t4
  obtain ⟨v1, v2, v3⟩ := r_takeSet (τ := V)
  rw [E.2.2.2.1 215 (by decide) (by decide) (by decide)] at v3
  generalize G_X9_changeSettings_L35 4000 0 (pf (pf u 21 1 2) 21 2 5) = G at t2 t3 t4 ⊢
  generalize F_X10_takeSettings V = W at v2 v3 ⊢
  refine ⟨G.2, _, _, by rw [← t2], ⟨qs, q1, t1⟩, ⟨qr, q2, v1, trivial⟩, rfl, actR_1 (M' := M + 2) (n' := n) (so' := so) (si' := 2) ?_ (by omega)⟩
  have er' : ¬ u 21 4 = -1 := by rw [E.2.2.1 21 (by decide) (by decide) (by decide)]; exact hr
  have W9 : ∀ k, k ≠ 46 → k ≠ 41 → pf (pf W 199 46 2) 199 41 5 199 k = V 199 k := fun k h1 h2 => by rw [pf_i h2, pf_i h1, v2 199 (by decide)]
  have Wb : ∀ b, b ≠ 199 → b ≠ 217 → pf (pf W 199 46 2) 199 41 5 b = V b := fun b h1 h2 => by rw [pf_ne h1, pf_ne h1, v2 b h2]
  refine ⟨⟨?_, ?_, ?_, ?_, ?_, ?_, ?_, ?_, ?_⟩, ?_, ?_, ?_, ?_⟩
  · rw [t3 1 (by decide), t3 2 (by decide), W9 1 (by decide) (by decide), Wb 200 (by decide) (by decide)]; exact C.tape
  · rw [t3 0 (by decide), t3 3 (by decide), t3 4 (by decide), W9 25 (by decide) (by decide), Wb 215 (by decide) (by decide)]; exact C.disk
  · rw [t3 0 (by decide), t3 15 (by decide), W9 20 (by decide) (by decide), W9 21 (by decide) (by decide), W9 22 (by decide) (by decide), W9 23 (by decide) (by decide), W9 26 (by decide) (by decide), W9 27 (by decide) (by decide)]; exact C.see
  · rw [t3 0 (by decide)]; exact C.now
  · rw [t3 0 (by decide)]; exact C.ser
  · intro i hi
    refine ⟨sV (σ 4) i, (ss.2.2 i hi).1, (ss.2.2 i hi).2, t4 i hi, ?_⟩
    rw [pf_ne (by decide), pf_ne (by decide), v3 i hi, sV_congr (r := σ 4) (r' := τ 215) (fun j hj => (lb j (by omega)).1) hi]
  · rw [t3 12 (by decide), t3 13 (by decide), t3 14 (by decide), W9 17 (by decide) (by decide), W9 18 (by decide) (by decide), Wb 213 (by decide) (by decide), Wb 214 (by decide) (by decide)]; exact C.key
  · rw [W9 10 (by decide) (by decide), Wb 202 (by decide) (by decide), Wb 203 (by decide) (by decide)]; exact C.tab
  · have ec : (fun b => G.2 (b + 23)) = fun b => u (b + 23) := funext (fun b => by rw [t3 (b + 23) (by omega), pf_ne (by omega), pf_ne (by omega)])
    rw [ec, Wb 210 (by decide) (by decide), Wb 211 (by decide) (by decide), Wb 212 (by decide) (by decide), Wb 213 (by decide) (by decide), Wb 214 (by decide) (by decide)]; exact C.crd
  · rw [t3 18 (by decide), t3 0 (by decide), W9 35 (by decide) (by decide), W9 38 (by decide) (by decide), W9 39 (by decide) (by decide)]; exact R'.lat
  · rw [t3 19 (by decide), W9 42 (by decide) (by decide), W9 40 (by decide) (by decide), W9 43 (by decide) (by decide), W9 45 (by decide) (by decide)]; exact R'.out
  · rw [t3 21 (by decide), W9 47 (by decide) (by decide), W9 48 (by decide) (by decide), W9 49 (by decide) (by decide)]
    exact ⟨by decide, rfl, rfl, ⟨5, by decide, rfl, rfl⟩, I.2.2.2.2.1, fun _ => Or.inl rfl, fun h => absurd h (by decide), fun _ => I.2.2.2.2.2.2.2.1 (Or.inr (Or.inr er')), ins_lo 2 (by decide) hn⟩
  · obtain ⟨k, m, w, J⟩ := R'.jr
    refine ⟨k, m, w, ?_, ?_, pArc_n (by decide)⟩
    · rw [t3 15 (by decide), t3 16 (by decide), t3 17 (by decide), W9 29 (by decide) (by decide), W9 31 (by decide) (by decide), Wb 216 (by decide) (by decide)]; exact J.1
    · rw [t3 15 (by decide), W9 32 (by decide) (by decide), W9 33 (by decide) (by decide), W9 27 (by decide) (by decide)]; exact J.2.1
