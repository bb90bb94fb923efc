/-! The hash's inner function: one text, two programs -/
abbrev P8 : Type := Int32 × Int32 × Int32 × Int32 × Int32 × Int32 × Int32 × Int32
def sg0 (v : Int32) : Int32 := ((((ush v (7 : Int32)) ||| (v <<< ((25 : Int32) &&& 31))) ^^^ ((ush v (18 : Int32)) ||| (v <<< ((14 : Int32) &&& 31)))) ^^^ (ush v (3 : Int32)))
def sg1 (v : Int32) : Int32 := ((((ush v (17 : Int32)) ||| (v <<< ((15 : Int32) &&& 31))) ^^^ ((ush v (19 : Int32)) ||| (v <<< ((13 : Int32) &&& 31)))) ^^^ (ush v (10 : Int32)))
def sgE (v : Int32) : Int32 := ((((ush v (6 : Int32)) ||| (v <<< ((26 : Int32) &&& 31))) ^^^ ((ush v (11 : Int32)) ||| (v <<< ((21 : Int32) &&& 31)))) ^^^ ((ush v (25 : Int32)) ||| (v <<< ((7 : Int32) &&& 31))))
def sgA (v : Int32) : Int32 := ((((ush v (2 : Int32)) ||| (v <<< ((30 : Int32) &&& 31))) ^^^ ((ush v (13 : Int32)) ||| (v <<< ((19 : Int32) &&& 31)))) ^^^ ((ush v (22 : Int32)) ||| (v <<< ((10 : Int32) &&& 31))))
theorem tn0 (v : Int32) : ((F_X10_turn v (7 : Int32)) ^^^ (F_X10_turn v (18 : Int32))) ^^^ (ush v (3 : Int32)) = sg0 v := by rw [F_X10_turn_eq]; rfl
theorem tn1 (v : Int32) : ((F_X10_turn v (17 : Int32)) ^^^ (F_X10_turn v (19 : Int32))) ^^^ (ush v (10 : Int32)) = sg1 v := by rw [F_X10_turn_eq]; rfl
theorem tnE (v : Int32) : ((F_X10_turn v (6 : Int32)) ^^^ (F_X10_turn v (11 : Int32))) ^^^ (F_X10_turn v (25 : Int32)) = sgE v := by rw [F_X10_turn_eq]; rfl
theorem tnA (v : Int32) : ((F_X10_turn v (2 : Int32)) ^^^ (F_X10_turn v (13 : Int32))) ^^^ (F_X10_turn v (22 : Int32)) = sgA v := by rw [F_X10_turn_eq]; rfl
/-- the words of a block, spread -/
def shW (w : Nat → Int32) (t : Nat) : Int32 := if h : t < 16 then w t else (((shW w (t - 16) + sg0 (shW w (t - 15))) + shW w (t - 7)) + sg1 (shW w (t - 2)))
termination_by t
decreasing_by all_goals omega
theorem shW_lo {w : Nat → Int32} {t : Nat} (h : t < 16) : shW w t = w t := by rw [shW, dif_pos h]
theorem shW_hi {w : Nat → Int32} {t : Nat} (h : 16 ≤ t) : shW w t = (((shW w (t - 16) + sg0 (shW w (t - 15))) + shW w (t - 7)) + sg1 (shW w (t - 2))) := by rw [shW, dif_neg (by omega)]
theorem shW_congr {w v : Nat → Int32} (h : ∀ t, t < 16 → w t = v t) : ∀ t, shW w t = shW v t := by
  intro t
  induction t using Nat.strongRecOn with
  | ind t ih =>
    by_cases h1 : t < 16
    · rw [shW_lo h1, shW_lo h1, h t h1]
    · rw [shW_hi (w := w) (t := t) (by omega), shW_hi (w := v) (t := t) (by omega), ih (t - 16) (by omega), ih (t - 15) (by omega), ih (t - 7) (by omega), ih (t - 2) (by omega)]
def rdF (k w : Int32) (p : P8) : Int32 := ((((p.2.2.2.2.2.2.2 + sgE p.2.2.2.2.1) + ((p.2.2.2.2.1 &&& p.2.2.2.2.2.1) ^^^ ((p.2.2.2.2.1 ^^^ (-1 : Int32)) &&& p.2.2.2.2.2.2.1))) + k) + w)
def rdS (p : P8) : Int32 := (sgA p.1 + (((p.1 &&& p.2.1) ^^^ (p.1 &&& p.2.2.1)) ^^^ (p.2.1 &&& p.2.2.1)))
def rd1 (k w : Int32) (p : P8) : P8 := (rdF k w p + rdS p, p.1, p.2.1, p.2.2.1, p.2.2.2.1 + rdF k w p, p.2.2.2.2.1, p.2.2.2.2.2.1, p.2.2.2.2.2.2.1)
def rds (K W : Nat → Int32) (p : P8) : Nat → P8
  | 0 => p
  | n + 1 => rd1 (K n) (W n) (rds K W p n)
theorem rds_congr {K W K' W' : Nat → Int32} {p : P8} : ∀ n, (∀ i, i < n → K i = K' i ∧ W i = W' i) → rds K W p n = rds K' W' p n := by
  intro n
  induction n with
  | zero => intro _; rfl
  | succ n ih =>
    intro h
    show rd1 (K n) (W n) (rds K W p n) = rd1 (K' n) (W' n) (rds K' W' p n)
    rw [ih (fun i hi => h i (by omega)), (h n (by omega)).1, (h n (by omega)).2]
def p8 (h : Nat → Int32) : P8 := (h 0, h 1, h 2, h 3, h 4, h 5, h 6, h 7)
def ad8 (h : Nat → Int32) (p : P8) (i : Nat) : Int32 := match i with
  | 0 => h 0 + p.1
  | 1 => h 1 + p.2.1
  | 2 => h 2 + p.2.2.1
  | 3 => h 3 + p.2.2.2.1
  | 4 => h 4 + p.2.2.2.2.1
  | 5 => h 5 + p.2.2.2.2.2.1
  | 6 => h 6 + p.2.2.2.2.2.2.1
  | 7 => h 7 + p.2.2.2.2.2.2.2
  | n + 8 => h (n + 8)
/-- one block eaten -/
def cmp8 (h w : Nat → Int32) : Nat → Int32 := ad8 h (rds (tab 5) (shW w) (p8 h) 64)
theorem cmp8_congr {h h' w w' : Nat → Int32} (e : ∀ i, i < 8 → h i = h' i) (f : ∀ t, t < 16 → w t = w' t) : ∀ i, i < 8 → cmp8 h w i = cmp8 h' w' i := by
  intro i hi
  have a : p8 h = p8 h' := by unfold p8; rw [e 0 (by omega), e 1 (by omega), e 2 (by omega), e 3 (by omega), e 4 (by omega), e 5 (by omega), e 6 (by omega), e 7 (by omega)]
  unfold cmp8
  rw [a, rds_congr (K' := tab 5) (W' := shW w') 64 (fun i _ => ⟨rfl, shW_congr f i⟩)]
  generalize rds (tab 5) (shW w') (p8 h') 64 = q
  rcases (show i = 0 ∨ i = 1 ∨ i = 2 ∨ i = 3 ∨ i = 4 ∨ i = 5 ∨ i = 6 ∨ i = 7 by omega) with rfl | rfl | rfl | rfl | rfl | rfl | rfl | rfl <;> (unfold ad8; simp only; rw [e _ (by omega)])
def wdO (T : Nat → Int32) (f t : Nat) : Int32 := (((((T (f + 4 * t)) &&& (255 : Int32)) <<< ((24 : Int32) &&& 31)) ||| (((T (f + 4 * t + 1)) &&& (255 : Int32)) <<< ((16 : Int32) &&& 31))) ||| (((T (f + 4 * t + 2)) &&& (255 : Int32)) <<< ((8 : Int32) &&& 31))) ||| ((T (f + 4 * t + 3)) &&& (255 : Int32))
theorem wdO_congr {T T' : Nat → Int32} {f f' : Nat} (h : ∀ k, k < 64 → T (f + k) &&& 255 = T' (f' + k) &&& 255) : ∀ t, t < 16 → wdO T f t = wdO T' f' t := by
  intro t ht
  unfold wdO
  have a := h (4 * t) (by omega)
  have b := h (4 * t + 1) (by omega)
  have c := h (4 * t + 2) (by omega)
  have d := h (4 * t + 3) (by omega)
  simp only [← Nat.add_assoc] at a b c d
  rw [a, b, c, d]
/-- all blocks of a text eaten -/
def shaB (T : Nat → Int32) (h : Nat → Int32) : Nat → Nat → Int32
  | 0 => h
  | b + 1 => cmp8 (shaB T h b) (wdO T (64 * b))
theorem shaB_congr {T T' h h' : Nat → Int32} (e : ∀ i, i < 8 → h i = h' i) : ∀ b, (∀ k, k < 64 * b → T k &&& 255 = T' k &&& 255) → ∀ i, i < 8 → shaB T h b i = shaB T' h' b i := by
  intro b
  induction b with
  | zero => exact fun _ => e
  | succ b ih =>
    intro f
    exact cmp8_congr (ih (fun k hk => f k (by omega))) (wdO_congr (fun k hk => f _ (by omega)))
/-! The class's side -/
theorem nIs {a b : Nat} (h : b ≤ a) (y : Int32) (e : y = nI b) : nI a - y = nI (a - b) := by rw [e, pk_sub h]
theorem c_spread2 {σ : gS} {w : Nat → Int32} {p0 : Int32} : ∀ (f i : Nat) (s : gS), i ≤ 64 → 64 - i < f → (16 ≤ i ∧ (∀ b, b ≠ 10 → s b = σ b) ∧ ∀ t, t < i → s 10 t = shW w t) → QG_X7_spreadWords_L87 p0 f (nI i) s ∧ (∀ b, b ≠ 10 → G_X7_spreadWords_L87 p0 f (nI i) s b = σ b) ∧ ∀ t, t < 64 → G_X7_spreadWords_L87 p0 f (nI i) s 10 t = shW w t := by
  refine lpF (fun f i s => QG_X7_spreadWords_L87 p0 f (nI i) s ∧ (∀ b, b ≠ 10 → G_X7_spreadWords_L87 p0 f (nI i) s b = σ b) ∧ ∀ t, t < 64 → G_X7_spreadWords_L87 p0 f (nI i) s 10 t = shW w t) (fun i s => 16 ≤ i ∧ (∀ b, b ≠ 10 → s b = σ b) ∧ ∀ t, t < i → s 10 t = shW w t) 64 ?_ ?_
  · intro n s h
    unfold QG_X7_spreadWords_L87 G_X7_spreadWords_L87
    have c : (64 : Int32) ≤ nI 64 := by decide
    simp only [if_pos c]
    exact ⟨trivial, h.2⟩
  · intro n i s hi h k
    unfold QG_X7_spreadWords_L87 G_X7_spreadWords_L87
    have c : ¬ (64 : Int32) ≤ nI i := nI_ge (b := 64) hi (by decide)
    have e15 : nI i - 15 = nI (i - 15) := nIs (by omega) _ rfl
    have e2 : nI i - 2 = nI (i - 2) := nIs (by omega) _ rfl
    have e16 : nI i - 16 = nI (i - 16) := nIs (by omega) _ rfl
    have e7 : nI i - 7 = nI (i - 7) := nIs (by omega) _ rfl
    simp only [if_neg c, e15, e2, e16, e7, nI_i1, ix_n (show i < 2 ^ 31 by omega), ix_n (show i - 15 < 2 ^ 31 by omega), ix_n (show i - 2 < 2 ^ 31 by omega), ix_n (show i - 16 < 2 ^ 31 by omega), ix_n (show i - 7 < 2 ^ 31 by omega)]
    rw [h.2.2 (i - 15) (by omega), h.2.2 (i - 2) (by omega), h.2.2 (i - 16) (by omega), h.2.2 (i - 7) (by omega)]
    have q := k (pf s 10 i (shW w i)) ⟨by omega, fun b hb => (pf_ne hb).trans (h.2.1 b hb), fun t ht => by
      by_cases e : t = i
      · subst e; exact pf_s
      · rw [pf_i e]; exact h.2.2 t (by omega)⟩
    rw [shW_hi h.1] at q
    unfold sg0 sg1 at q
    exact ⟨⟨vp_in_nI (by omega) (by decide), vp_in_nI (by omega) (by decide), vp_in_nI (by omega) (by decide), vp_in_nI (by omega) (by decide), vp_in_nI (by omega) (by decide), q.1⟩, q.2⟩
theorem c_spread {σ : gS} {g : Nat} (hg : g + 64 ≤ 512) : Q_X7_spreadWords σ (nI g) ∧ (∀ b, b ≠ 10 → F_X7_spreadWords σ (nI g) b = σ b) ∧ ∀ t, t < 64 → F_X7_spreadWords σ (nI g) 10 t = shW (wdO (σ 9) g) t := by
  rw [F_X7_spreadWords_eq]
  unfold Q_X7_spreadWords Fr_X7_spreadWords
  refine lpF (fun f i s => QG_X7_spreadWords_L2 (nI g) f (nI i) s ∧ (∀ b, b ≠ 10 → G_X7_spreadWords_L2 (nI g) f (nI i) s b = σ b) ∧ ∀ t, t < 64 → G_X7_spreadWords_L2 (nI g) f (nI i) s 10 t = shW (wdO (σ 9) g) t) (fun i s => (∀ b, b ≠ 10 → s b = σ b) ∧ ∀ t, t < i → s 10 t = wdO (σ 9) g t) 16 ?_ ?_ 4000 0 σ (by decide) (by decide) ⟨fun _ _ => rfl, fun t ht => absurd ht (by omega)⟩
  · intro n s h
    unfold QG_X7_spreadWords_L2 G_X7_spreadWords_L2
    have c : (16 : Int32) ≤ nI 16 := by decide
    simp only [if_pos c]
    exact c_spread2 4000 16 s (by decide) (by decide) ⟨by decide, h.1, fun t ht => by rw [shW_lo ht, h.2 t ht]⟩
  · intro n i s hi h k
    unfold QG_X7_spreadWords_L2 G_X7_spreadWords_L2
    have c : ¬ (16 : Int32) ≤ nI i := nI_ge (b := 16) hi (by decide)
    have e0 : nI g + 4 * nI i = nI (g + 4 * i) := by rw [show (4 : Int32) = nI 4 from rfl, pk_mul, nI_add]
    have e1 : nI (g + 4 * i) + 1 = nI (g + 4 * i + 1) := nI_1 _
    have e2 : nI (g + 4 * i) + 2 = nI (g + 4 * i + 2) := nI_add _ 2
    have e3 : nI (g + 4 * i) + 3 = nI (g + 4 * i + 3) := nI_add _ 3
    simp only [if_neg c, e0, e1, e2, e3, nI_i1, ix_n (show i < 2 ^ 31 by omega), ix_n (show g + 4 * i < 2 ^ 31 by omega), ix_n (show g + 4 * i + 1 < 2 ^ 31 by omega), ix_n (show g + 4 * i + 2 < 2 ^ 31 by omega), ix_n (show g + 4 * i + 3 < 2 ^ 31 by omega)]
    rw [h.1 9 (by decide)]
    have q := k (pf s 10 i (wdO (σ 9) g i)) ⟨fun b hb => (pf_ne hb).trans (h.1 b hb), fun t ht => by
      by_cases e : t = i
      · subst e; exact pf_s
      · rw [pf_i e]; exact h.2 t (by omega)⟩
    exact ⟨⟨vp_in_nI (by omega) (by decide), vp_in_nI (by omega) (by decide), vp_in_nI (by omega) (by decide), vp_in_nI (by omega) (by decide), vp_in_nI (by omega) (by decide), q.1⟩, q.2⟩
/-- eight sums -/
def adS (σ : gS) (j : Nat) (p : P8) : gS := pf (pf (pf (pf (pf (pf (pf (pf σ j 0 (σ j 0 + p.1)) j 1 (σ j 1 + p.2.1)) j 2 (σ j 2 + p.2.2.1)) j 3 (σ j 3 + p.2.2.2.1)) j 4 (σ j 4 + p.2.2.2.2.1)) j 5 (σ j 5 + p.2.2.2.2.2.1)) j 6 (σ j 6 + p.2.2.2.2.2.2.1)) j 7 (σ j 7 + p.2.2.2.2.2.2.2)
theorem adS_n {σ : gS} {j b : Nat} {p : P8} (h : b ≠ j) : adS σ j p b = σ b := by unfold adS; rw [pf_ne h, pf_ne h, pf_ne h, pf_ne h, pf_ne h, pf_ne h, pf_ne h, pf_ne h]
theorem adS_s (σ : gS) (j : Nat) (p : P8) : adS σ j p j = ad8 (σ j) p := by
  funext i
  unfold adS
  match i with
  | 0 => rw [pf_i (by decide), pf_i (by decide), pf_i (by decide), pf_i (by decide), pf_i (by decide), pf_i (by decide), pf_i (by decide), pf_s]; rfl
  | 1 => rw [pf_i (by decide), pf_i (by decide), pf_i (by decide), pf_i (by decide), pf_i (by decide), pf_i (by decide), pf_s]; rfl
  | 2 => rw [pf_i (by decide), pf_i (by decide), pf_i (by decide), pf_i (by decide), pf_i (by decide), pf_s]; rfl
  | 3 => rw [pf_i (by decide), pf_i (by decide), pf_i (by decide), pf_i (by decide), pf_s]; rfl
  | 4 => rw [pf_i (by decide), pf_i (by decide), pf_i (by decide), pf_s]; rfl
  | 5 => rw [pf_i (by decide), pf_i (by decide), pf_s]; rfl
  | 6 => rw [pf_i (by decide), pf_s]; rfl
  | 7 => rw [pf_s]; rfl
  | n + 8 => rw [pf_i (by omega), pf_i (by omega), pf_i (by omega), pf_i (by omega), pf_i (by omega), pf_i (by omega), pf_i (by omega), pf_i (by omega)]; rfl
theorem adS_11 (σ : gS) (p : P8) : (let s2 := (pf σ 11 0 ((σ 11 0) + p.1) : gS)
      let s3 := (pf s2 11 1 ((s2 11 1) + p.2.1) : gS)
      let s4 := (pf s3 11 2 ((s3 11 2) + p.2.2.1) : gS)
      let s5 := (pf s4 11 3 ((s4 11 3) + p.2.2.2.1) : gS)
      let s6 := (pf s5 11 4 ((s5 11 4) + p.2.2.2.2.1) : gS)
      let s7 := (pf s6 11 5 ((s6 11 5) + p.2.2.2.2.2.1) : gS)
      let s8 := (pf s7 11 6 ((s7 11 6) + p.2.2.2.2.2.2.1) : gS)
      (pf s8 11 7 ((s8 11 7) + p.2.2.2.2.2.2.2) : gS)) = adS σ 11 p := rfl
theorem adS_204 (σ : gS) (p : P8) : (let s2 := (pf σ 204 0 ((σ 204 0) + p.1) : gS)
      let s3 := (pf s2 204 1 ((s2 204 1) + p.2.1) : gS)
      let s4 := (pf s3 204 2 ((s3 204 2) + p.2.2.1) : gS)
      let s5 := (pf s4 204 3 ((s4 204 3) + p.2.2.2.1) : gS)
      let s6 := (pf s5 204 4 ((s5 204 4) + p.2.2.2.2.1) : gS)
      let s7 := (pf s6 204 5 ((s6 204 5) + p.2.2.2.2.2.1) : gS)
      let s8 := (pf s7 204 6 ((s7 204 6) + p.2.2.2.2.2.2.1) : gS)
      (pf s8 204 7 ((s8 204 7) + p.2.2.2.2.2.2.2) : gS)) = adS σ 204 p := rfl
theorem c_mixL {σ : gS} {p0 : P8} : ∀ (f i : Nat) (p : P8), i ≤ 64 → 64 - i < f → p = rds (tab 5) (σ 10) p0 i → QG_X7_mixWords_L66 f p.1 p.2.1 p.2.2.1 p.2.2.2.1 p.2.2.2.2.1 p.2.2.2.2.2.1 p.2.2.2.2.2.2.1 p.2.2.2.2.2.2.2 (nI i) σ ∧ G_X7_mixWords_L66 f p.1 p.2.1 p.2.2.1 p.2.2.2.1 p.2.2.2.2.1 p.2.2.2.2.2.1 p.2.2.2.2.2.2.1 p.2.2.2.2.2.2.2 (nI i) σ = adS σ 11 (rds (tab 5) (σ 10) p0 64) := by
  refine lpF (fun f i p => QG_X7_mixWords_L66 f p.1 p.2.1 p.2.2.1 p.2.2.2.1 p.2.2.2.2.1 p.2.2.2.2.2.1 p.2.2.2.2.2.2.1 p.2.2.2.2.2.2.2 (nI i) σ ∧ G_X7_mixWords_L66 f p.1 p.2.1 p.2.2.1 p.2.2.2.1 p.2.2.2.2.1 p.2.2.2.2.2.1 p.2.2.2.2.2.2.1 p.2.2.2.2.2.2.2 (nI i) σ = adS σ 11 (rds (tab 5) (σ 10) p0 64)) (fun i p => p = rds (tab 5) (σ 10) p0 i) 64 ?_ ?_
  · intro n p h
    unfold QG_X7_mixWords_L66 G_X7_mixWords_L66
    have c : (64 : Int32) ≤ nI 64 := by decide
    rw [if_pos c, if_pos c, ← h]
    exact ⟨trivial, adS_11 σ p⟩
  · intro n i p hi h k
    unfold QG_X7_mixWords_L66 G_X7_mixWords_L66
    have c : ¬ (64 : Int32) ≤ nI i := nI_ge (b := 64) hi (by decide)
    simp only [if_neg c, nI_i1, ix_n (show i < 2 ^ 31 by omega)]
    have q := k (rd1 (tab 5 i) (σ 10 i) p) (by subst h; rfl)
    exact ⟨⟨vp_in_nI hi (by decide), vp_in_nI hi (by decide), q.1⟩, q.2⟩
theorem c_mix (σ : gS) : Q_X7_mixWords σ ∧ F_X7_mixWords σ = adS σ 11 (rds (tab 5) (σ 10) (p8 (σ 11)) 64) := by
  rw [F_X7_mixWords_eq]
  exact c_mixL 4000 0 (p8 (σ 11)) (by decide) (by decide) rfl
/-! The reference's side -/
theorem r_mixL {σ : gS} {p0 : P8} : ∀ (f i : Nat) (p : P8), i ≤ 64 → 64 - i < f → p = rds (σ 202) (σ 205) p0 i → QG_X10_eat_L248 f p.1 p.2.1 p.2.2.1 p.2.2.2.1 p.2.2.2.2.1 p.2.2.2.2.2.1 p.2.2.2.2.2.2.1 p.2.2.2.2.2.2.2 (nI i) σ ∧ G_X10_eat_L248 f p.1 p.2.1 p.2.2.1 p.2.2.2.1 p.2.2.2.2.1 p.2.2.2.2.2.1 p.2.2.2.2.2.2.1 p.2.2.2.2.2.2.2 (nI i) σ = adS σ 204 (rds (σ 202) (σ 205) p0 64) := by
  refine lpF (fun f i p => QG_X10_eat_L248 f p.1 p.2.1 p.2.2.1 p.2.2.2.1 p.2.2.2.2.1 p.2.2.2.2.2.1 p.2.2.2.2.2.2.1 p.2.2.2.2.2.2.2 (nI i) σ ∧ G_X10_eat_L248 f p.1 p.2.1 p.2.2.1 p.2.2.2.1 p.2.2.2.2.1 p.2.2.2.2.2.1 p.2.2.2.2.2.2.1 p.2.2.2.2.2.2.2 (nI i) σ = adS σ 204 (rds (σ 202) (σ 205) p0 64)) (fun i p => p = rds (σ 202) (σ 205) p0 i) 64 ?_ ?_
  · intro n p h
    unfold QG_X10_eat_L248 G_X10_eat_L248
    have c : (64 : Int32) ≤ nI 64 := by decide
    rw [if_pos c, if_pos c, ← h]
    exact ⟨trivial, adS_204 σ p⟩
  · intro n i p hi h k
    unfold QG_X10_eat_L248 G_X10_eat_L248
    have c : ¬ (64 : Int32) ≤ nI i := nI_ge (b := 64) hi (by decide)
    simp only [if_neg c, nI_i1, ix_n (show i < 2 ^ 31 by omega), tnE, tnA]
    have q := k (rd1 (σ 202 i) (σ 205 i) p) (by subst h; rfl)
    exact ⟨⟨vp_in_nI hi (by decide), vp_in_nI hi (by decide), q.1⟩, q.2⟩
theorem r_eat2 {σ : gS} {w : Nat → Int32} (ht : ∀ i, i < 64 → σ 202 i = tab 5 i) : ∀ (f i : Nat) (s : gS), i ≤ 64 → 64 - i < f → (16 ≤ i ∧ (∀ b, b ≠ 205 → s b = σ b) ∧ ∀ t, t < i → s 205 t = shW w t) → QG_X10_eat_L89 f (nI i) s ∧ (∀ b, b ≠ 205 → b ≠ 204 → G_X10_eat_L89 f (nI i) s b = σ b) ∧ G_X10_eat_L89 f (nI i) s 204 = ad8 (σ 204) (rds (tab 5) (shW w) (p8 (σ 204)) 64) := by
  refine lpF (fun f i s => QG_X10_eat_L89 f (nI i) s ∧ (∀ b, b ≠ 205 → b ≠ 204 → G_X10_eat_L89 f (nI i) s b = σ b) ∧ G_X10_eat_L89 f (nI i) s 204 = ad8 (σ 204) (rds (tab 5) (shW w) (p8 (σ 204)) 64)) (fun i s => 16 ≤ i ∧ (∀ b, b ≠ 205 → s b = σ b) ∧ ∀ t, t < i → s 205 t = shW w t) 64 ?_ ?_
  · intro n s h
    unfold QG_X10_eat_L89 G_X10_eat_L89
    have c : (64 : Int32) ≤ nI 64 := by decide
    rw [if_pos c, if_pos c]
    have m := r_mixL (σ := s) (p0 := p8 (s 204)) 4000 0 (p8 (s 204)) (by decide) (by decide) rfl
    rw [rds_congr (K' := tab 5) (W' := shW w) 64 (fun i hi => ⟨by rw [h.2.1 202 (by decide)]; exact ht i hi, h.2.2 i hi⟩)] at m
    refine ⟨m.1, ?_, ?_⟩
    · intro b h1 h2
      exact (congrFun m.2 b).trans ((adS_n h2).trans (h.2.1 b h1))
    · rw [← h.2.1 204 (by decide)]
      exact (congrFun m.2 204).trans (adS_s s 204 _)
  · intro n i s hi h k
    unfold QG_X10_eat_L89 G_X10_eat_L89
    have c : ¬ (64 : Int32) ≤ nI i := nI_ge (b := 64) hi (by decide)
    have e15 : nI i - 15 = nI (i - 15) := nIs (by omega) _ rfl
    have e2 : nI i - 2 = nI (i - 2) := nIs (by omega) _ rfl
    have e16 : nI i - 16 = nI (i - 16) := nIs (by omega) _ rfl
    have e7 : nI i - 7 = nI (i - 7) := nIs (by omega) _ rfl
    simp only [if_neg c, e15, e2, e16, e7, nI_i1, ix_n (show i < 2 ^ 31 by omega), ix_n (show i - 15 < 2 ^ 31 by omega), ix_n (show i - 2 < 2 ^ 31 by omega), ix_n (show i - 16 < 2 ^ 31 by omega), ix_n (show i - 7 < 2 ^ 31 by omega), tn0, tn1]
    rw [h.2.2 (i - 15) (by omega), h.2.2 (i - 2) (by omega), h.2.2 (i - 16) (by omega), h.2.2 (i - 7) (by omega)]
    have q := k (pf s 205 i (shW w i)) ⟨by omega, fun b hb => (pf_ne hb).trans (h.2.1 b hb), fun t ht => by
      by_cases e : t = i
      · subst e; exact pf_s
      · rw [pf_i e]; exact h.2.2 t (by omega)⟩
    rw [shW_hi h.1] at q
    exact ⟨⟨vp_in_nI (by omega) (by decide), vp_in_nI (by omega) (by decide), vp_in_nI (by omega) (by decide), vp_in_nI (by omega) (by decide), vp_in_nI (by omega) (by decide), q.1⟩, q.2⟩
theorem r_eat {σ : gS} (ht : ∀ i, i < 64 → σ 202 i = tab 5 i) : Q_X10_eat σ ∧ (∀ b, b ≠ 205 → b ≠ 204 → F_X10_eat σ b = σ b) ∧ F_X10_eat σ 204 = cmp8 (σ 204) (wdO (σ 206) 0) := by
  rw [F_X10_eat_eq]
  unfold Q_X10_eat Fr_X10_eat
  refine lpF (fun f i s => QG_X10_eat_L2 f (nI i) s ∧ (∀ b, b ≠ 205 → b ≠ 204 → G_X10_eat_L2 f (nI i) s b = σ b) ∧ G_X10_eat_L2 f (nI i) s 204 = cmp8 (σ 204) (wdO (σ 206) 0)) (fun i s => (∀ b, b ≠ 205 → s b = σ b) ∧ ∀ t, t < i → s 205 t = wdO (σ 206) 0 t) 16 ?_ ?_ 4000 0 σ (by decide) (by decide) ⟨fun _ _ => rfl, fun t ht => absurd ht (by omega)⟩
  · intro n s h
    unfold QG_X10_eat_L2 G_X10_eat_L2
    have c : (16 : Int32) ≤ nI 16 := by decide
    rw [if_pos c, if_pos c]
    exact r_eat2 ht 4000 16 s (by decide) (by decide) ⟨by decide, h.1, fun t ht => by rw [shW_lo ht, h.2 t ht]⟩
  · intro n i s hi h k
    unfold QG_X10_eat_L2 G_X10_eat_L2
    have c : ¬ (16 : Int32) ≤ nI i := nI_ge (b := 16) hi (by decide)
    have e0 : 4 * nI i = nI (0 + 4 * i) := by rw [show (4 : Int32) = nI 4 from rfl, pk_mul, Nat.zero_add]
    have e1 : nI (0 + 4 * i) + 1 = nI (0 + 4 * i + 1) := nI_1 _
    have e2 : nI (0 + 4 * i) + 2 = nI (0 + 4 * i + 2) := nI_add _ 2
    have e3 : nI (0 + 4 * i) + 3 = nI (0 + 4 * i + 3) := nI_add _ 3
    simp only [if_neg c, e0, e1, e2, e3, nI_i1, ix_n (show i < 2 ^ 31 by omega), ix_n (show 0 + 4 * i < 2 ^ 31 by omega), ix_n (show 0 + 4 * i + 1 < 2 ^ 31 by omega), ix_n (show 0 + 4 * i + 2 < 2 ^ 31 by omega), ix_n (show 0 + 4 * i + 3 < 2 ^ 31 by omega)]
    rw [h.1 206 (by decide)]
    have q := k (pf s 205 i (wdO (σ 206) 0 i)) ⟨fun b hb => (pf_ne hb).trans (h.1 b hb), fun t ht => by
      by_cases e : t = i
      · subst e; exact pf_s
      · rw [pf_i e]; exact h.2 t (by omega)⟩
    exact ⟨⟨vp_in_nI (by omega) (by decide), vp_in_nI (by omega) (by decide), vp_in_nI (by omega) (by decide), vp_in_nI (by omega) (by decide), vp_in_nI (by omega) (by decide), q.1⟩, q.2⟩
