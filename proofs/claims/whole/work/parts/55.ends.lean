/-! The archive's end -/
theorem lor_add {a b k : Nat} (hb : b < 2 ^ k) (h : a * 2 ^ k + b < 2 ^ 63) : lN (a * 2 ^ k) ||| lN b = lN (a * 2 ^ k + b) := by
  apply i64e
  rw [Int64.toBitVec_or, BitVec.toNat_or, lN_nt (by omega), lN_nt (by omega), lN_nt (by omega), Nat.mul_comm, ← Nat.two_pow_add_eq_or_of_lt hb]
theorem and_l255 (x : Int32) : x.toInt64 &&& 255 = lN (ub x) := by
  have h := or_lN (a := 0) x (by decide)
  have e : lN 0 <<< ((8 : Int32).toInt64 &&& 63) = 0 := by decide
  rw [e, Nat.zero_mul, Nat.zero_add] at h
  rw [← h]
  apply Int64.toBitVec_inj.mp
  rw [Int64.toBitVec_or, show (0 : Int64).toBitVec = 0#64 from rfl, BitVec.zero_or]
theorem r_number {τ : gS} {i : Nat} (hi : i < 97) : Q_X10_numberOf τ (nI i) ∧ F_X10_numberOf τ (nI i) = lN (be4 (τ 216) (16 * i)) := by
  rw [F_X10_numberOf_eq]
  unfold Q_X10_numberOf Fr_X10_numberOf
  have e0 : (16 : Int32) * nI i = nI (16 * i) := pk_mul 16 i
  have e1 : nI (16 * i) + (1 : Int32) = nI (16 * i + 1) := nI_add _ 1
  have e2 : nI (16 * i) + (2 : Int32) = nI (16 * i + 2) := nI_add _ 2
  have e3 : nI (16 * i) + (3 : Int32) = nI (16 * i + 3) := nI_add _ 3
  rw [e0, e1, e2, e3, ix_n (by omega), ix_n (by omega), ix_n (by omega), ix_n (by omega)]
  refine ⟨⟨vp_in_nI (by omega) (by decide), vp_in_nI (by omega) (by decide), vp_in_nI (by omega) (by decide), vp_in_nI (by omega) (by decide), trivial⟩, ?_⟩
  have a0 := ub_lt (τ 216 (16 * i)); have a1 := ub_lt (τ 216 (16 * i + 1)); have a2 := ub_lt (τ 216 (16 * i + 2)); have a3 := ub_lt (τ 216 (16 * i + 3))
  unfold be4
  rw [and_l255, ub_eq, ub_eq, ub_eq]
  generalize ub (τ 216 (16 * i)) = x0 at *
  generalize ub (τ 216 (16 * i + 1)) = x1 at *
  generalize ub (τ 216 (16 * i + 2)) = x2 at *
  generalize ub (τ 216 (16 * i + 3)) = x3 at *
  have s0 : lN x0 <<< ((24 : Int32).toInt64 &&& 63) = lN (x0 * 2 ^ 24) := by
    apply i64e
    show ((lN x0).toBitVec <<< 24).toNat = _
    rw [BitVec.toNat_shiftLeft, lN_nt (by omega), lN_nt (by omega), Nat.shiftLeft_eq, Nat.mod_eq_of_lt (by omega)]
  have s1 : (nI x1 <<< ((16 : Int32) &&& 31)).toInt64 = lN (x1 * 2 ^ 16) := by
    rw [pk_shlN ((16 : Int32) &&& 31) 16 rfl (by omega), nI_l (by omega)]
  have s2 : (nI x2 <<< ((8 : Int32) &&& 31)).toInt64 = lN (x2 * 2 ^ 8) := by
    rw [pk_shlN ((8 : Int32) &&& 31) 8 rfl (by omega), nI_l (by omega)]
  rw [s0, s1, s2, nI_l (by omega), lor_add (by omega) (by omega)]
  rw [show x0 * 2 ^ 24 + x1 * 2 ^ 16 = (x0 * 256 + x1) * 2 ^ 16 by omega, lor_add (by omega) (by omega)]
  rw [show (x0 * 256 + x1) * 2 ^ 16 + x2 * 2 ^ 8 = ((x0 * 256 + x1) * 256 + x2) * 2 ^ 8 by omega, lor_add (by omega) (by omega)]
/-- the ends of the comparison -/
noncomputable def E58 (x : Int32) (τ : gS) (ζ : gQ) : gS × gQ := if (F_X10_put_ τ ζ 58 1 x).1 = 0 then ((F_X10_put_ τ ζ 58 1 x).2.1, (F_X10_put_ τ ζ 58 1 x).2.2) else (F_X10_insideTo (F_X10_put_ τ ζ 58 1 x).2.1 2 11, (F_X10_put_ τ ζ 58 1 x).2.2)
noncomputable def E57 (x : Int32) (τ : gS) (ζ : gQ) : gS × gQ := if (F_X10_put_ τ ζ 57 0 x).1 = 0 then ((F_X10_put_ τ ζ 57 0 x).2.1, (F_X10_put_ τ ζ 57 0 x).2.2) else G_X10_ends_L163 x 4000 1 (F_X10_numberOf τ (τ 199 50 - 1)) 0 (F_X10_put_ τ ζ 57 0 x).2.1 (F_X10_put_ τ ζ 57 0 x).2.2
def Q57 (x : Int32) (τ : gS) (ζ : gQ) : Prop := Q_X10_numberOf τ (τ 199 50 - 1) ∧ Q_X10_put_ τ ζ 57 0 x ∧ if (F_X10_put_ τ ζ 57 0 x).1 = 0 then True else QG_X10_ends_L163 x 4000 1 (F_X10_numberOf τ (τ 199 50 - 1)) 0 (F_X10_put_ τ ζ 57 0 x).2.1 (F_X10_put_ τ ζ 57 0 x).2.2
theorem if_tt (c : Prop) [Decidable c] : (if c then True else True) := by split <;> trivial
theorem e_no71 {τ : gS} {ζ : gQ} {q : Nat} (hq : q ≤ 24) (e50 : τ 199 50 = nI q) (x : Int32) (hQ : Q_X10_put_ τ ζ 58 1 x) (b : Bool) (hb : b = true → ¬ ∀ i, i < 16 * q → τ 216 i = τ 218 (1 + i)) : QG_X10_ends_L71 x 4000 (bI b) 0 τ ζ ∧ G_X10_ends_L71 x 4000 (bI b) 0 τ ζ = E58 x τ ζ := by
  have e16 : (16 : Int32) * τ 199 50 = nI (16 * q) := by rw [e50]; exact pk_mul 16 q
  exact lpF (fun f d b => QG_X10_ends_L71 x f (bI b) (nI d) τ ζ ∧ G_X10_ends_L71 x f (bI b) (nI d) τ ζ = E58 x τ ζ) (fun d b => b = true → (∀ i, i < d → τ 216 i = τ 218 (1 + i)) ∧ ¬ ∀ i, i < 16 * q → τ 216 i = τ 218 (1 + i)) (16 * q) (by
    intro f b h
    cases b with
    | true => exact absurd (h rfl).1 (h rfl).2
    | false =>
      unfold QG_X10_ends_L71 G_X10_ends_L71 E58
      have c1 : nI (16 * q) ≤ nI (16 * q) := nI_le (Nat.le_refl _) (by omega)
      have c2 : bI false = 0 := rfl
      simp only [e16, if_pos c1, c2, if_true]
      exact ⟨⟨hQ, if_tt _⟩, trivial⟩) (by
    intro f d b hd h k
    unfold QG_X10_ends_L71 G_X10_ends_L71
    have c1 : ¬ nI (16 * q) ≤ nI d := nI_ge hd (by omega)
    cases b with
    | false =>
      have c2 : bI false = 0 := rfl
      unfold E58
      simp only [e16, if_neg c1, c2, if_true]
      exact ⟨⟨hQ, if_tt _⟩, trivial⟩
    | true =>
      have c2 : ¬ bI true = 0 := by decide
      have e1 : (1 : Int32) + nI d = nI (1 + d) := nI_add 1 d
      simp only [e16, if_neg c1, if_neg c2, e1, nI_i1, ix_n (show d < 2 ^ 31 by omega), ix_n (show 1 + d < 2 ^ 31 by omega)]
      have v1 : vp_in (nI d) 1552 := vp_in_nI (by omega) (by decide)
      have v2 : vp_in (nI (1 + d)) 385 := vp_in_nI (by omega) (by decide)
      by_cases hh : τ 216 d = τ 218 (1 + d)
      · simp only [if_pos hh]
        have g := k true (fun _ => ⟨fun i hi => by
          by_cases e : i = d
          · subst e; exact hh
          · exact (h rfl).1 i (by omega), (h rfl).2⟩)
        exact ⟨⟨v1, v2, g.1⟩, g.2⟩
      · simp only [if_neg hh]
        have g := k false (fun z => absurd z (by decide))
        exact ⟨⟨v1, v2, g.1⟩, g.2⟩) 4000 0 b (Nat.zero_le _) (by omega) (fun z => ⟨fun i hi => absurd hi (by omega), hb z⟩)
theorem e_no30 {τ : gS} {ζ : gQ} {q : Nat} (hq : q ≤ 24) (e50 : τ 199 50 = nI q) (e52 : τ 199 52 = nI (1 + 16 * q)) (x : Int32) (hQ : Q_X10_put_ τ ζ 58 1 x) (b : Bool) (hb : b = true → (∀ i, i < 1 + 16 * q → τ 215 i = τ 218 i) → ¬ ∀ i, i < 16 * q → τ 216 i = τ 218 (1 + i)) : QG_X10_ends_L30 x 4000 (bI b) 0 τ ζ ∧ G_X10_ends_L30 x 4000 (bI b) 0 τ ζ = E58 x τ ζ := by
  exact lpF (fun f d b => QG_X10_ends_L30 x f (bI b) (nI d) τ ζ ∧ G_X10_ends_L30 x f (bI b) (nI d) τ ζ = E58 x τ ζ) (fun d b => b = true → (∀ i, i < d → τ 215 i = τ 218 i) ∧ ((∀ i, i < 1 + 16 * q → τ 215 i = τ 218 i) → ¬ ∀ i, i < 16 * q → τ 216 i = τ 218 (1 + i))) (1 + 16 * q) (by
    intro f b h
    unfold QG_X10_ends_L30 G_X10_ends_L30
    have c1 : nI (1 + 16 * q) ≤ nI (1 + 16 * q) := nI_le (Nat.le_refl _) (by omega)
    simp only [e52, if_pos c1]
    exact e_no71 hq e50 x hQ b (fun z => (h z).2 (h z).1)) (by
    intro f d b hd h k
    unfold QG_X10_ends_L30 G_X10_ends_L30
    have c1 : ¬ nI (1 + 16 * q) ≤ nI d := nI_ge hd (by omega)
    cases b with
    | false =>
      have c2 : bI false = 0 := rfl
      simp only [e52, if_neg c1, c2, if_true]
      exact e_no71 hq e50 x hQ false (fun z => absurd z (by decide))
    | true =>
      have c2 : ¬ bI true = 0 := by decide
      simp only [e52, if_neg c1, if_neg c2, nI_i1, ix_n (show d < 2 ^ 31 by omega)]
      have v1 : vp_in (nI d) 400 := vp_in_nI (by omega) (by decide)
      have v2 : vp_in (nI d) 385 := vp_in_nI (by omega) (by decide)
      by_cases hh : τ 215 d = τ 218 d
      · simp only [if_pos hh]
        have g := k true (fun _ => ⟨fun i hi => by
          by_cases e : i = d
          · subst e; exact hh
          · exact (h rfl).1 i (by omega), (h rfl).2⟩)
        exact ⟨⟨v1, v2, g.1⟩, g.2⟩
      · simp only [if_neg hh]
        have g := k false (fun z => absurd z (by decide))
        exact ⟨⟨v1, v2, g.1⟩, g.2⟩) 4000 0 b (Nat.zero_le _) (by omega) (fun z => ⟨fun i hi => absurd hi (by omega), hb z⟩)
theorem e_yes71 {τ : gS} {ζ : gQ} {q : Nat} (hq : q ≤ 24) (e50 : τ 199 50 = nI q) (x : Int32) (hQ : Q57 x τ ζ) (hP : ∀ i, i < 16 * q → τ 216 i = τ 218 (1 + i)) : QG_X10_ends_L71 x 4000 1 0 τ ζ ∧ G_X10_ends_L71 x 4000 1 0 τ ζ = E57 x τ ζ := by
  have e16 : (16 : Int32) * τ 199 50 = nI (16 * q) := by rw [e50]; exact pk_mul 16 q
  exact lpF (fun f d (_ : Unit) => QG_X10_ends_L71 x f 1 (nI d) τ ζ ∧ G_X10_ends_L71 x f 1 (nI d) τ ζ = E57 x τ ζ) (fun _ _ => True) (16 * q) (by
    intro f _ _
    unfold QG_X10_ends_L71 G_X10_ends_L71 E57
    have c1 : nI (16 * q) ≤ nI (16 * q) := nI_le (Nat.le_refl _) (by omega)
    simp only [e16, if_pos c1, if_neg n10]
    exact ⟨hQ, trivial⟩) (by
    intro f d _ hd _ k
    unfold QG_X10_ends_L71 G_X10_ends_L71
    have c1 : ¬ nI (16 * q) ≤ nI d := nI_ge hd (by omega)
    have e1 : (1 : Int32) + nI d = nI (1 + d) := nI_add 1 d
    simp only [e16, if_neg c1, if_neg n10, e1, nI_i1, ix_n (show d < 2 ^ 31 by omega), ix_n (show 1 + d < 2 ^ 31 by omega), if_pos (hP d hd)]
    have g := k () trivial
    exact ⟨⟨vp_in_nI (by omega) (by decide), vp_in_nI (by omega) (by decide), g.1⟩, g.2⟩) 4000 0 () (Nat.zero_le _) (by omega) trivial
theorem e_yes30 {τ : gS} {ζ : gQ} {q : Nat} (hq : q ≤ 24) (e50 : τ 199 50 = nI q) (e52 : τ 199 52 = nI (1 + 16 * q)) (x : Int32) (hQ : Q57 x τ ζ) (hD : ∀ i, i < 1 + 16 * q → τ 215 i = τ 218 i) (hP : ∀ i, i < 16 * q → τ 216 i = τ 218 (1 + i)) : QG_X10_ends_L30 x 4000 1 0 τ ζ ∧ G_X10_ends_L30 x 4000 1 0 τ ζ = E57 x τ ζ := by
  exact lpF (fun f d (_ : Unit) => QG_X10_ends_L30 x f 1 (nI d) τ ζ ∧ G_X10_ends_L30 x f 1 (nI d) τ ζ = E57 x τ ζ) (fun _ _ => True) (1 + 16 * q) (by
    intro f _ _
    unfold QG_X10_ends_L30 G_X10_ends_L30
    have c1 : nI (1 + 16 * q) ≤ nI (1 + 16 * q) := nI_le (Nat.le_refl _) (by omega)
    simp only [e52, if_pos c1]
    exact e_yes71 hq e50 x hQ hP) (by
    intro f d _ hd _ k
    unfold QG_X10_ends_L30 G_X10_ends_L30
    have c1 : ¬ nI (1 + 16 * q) ≤ nI d := nI_ge hd (by omega)
    simp only [e52, if_neg c1, if_neg n10, nI_i1, ix_n (show d < 2 ^ 31 by omega), if_pos (hD d hd)]
    have g := k () trivial
    exact ⟨⟨vp_in_nI (by omega) (by decide), vp_in_nI (by omega) (by decide), g.1⟩, g.2⟩) 4000 0 () (Nat.zero_le _) (by omega) trivial
/-- the last loop: records up to the last of the archive go -/
abbrev edd (c g : Nat) (V W : gS) : Prop := (∀ b, b ≠ 199 → b ≠ 216 → W b = V b) ∧ (∀ k, k ≠ 29 → k ≠ 31 → k ≠ 46 → k ≠ 41 → W 199 k = V 199 k) ∧ (W 199 29 = nI (c - g)) ∧ (W 199 31 = if V 199 31 = 0 then 0 else if c - g < 64 then 0 else 1) ∧ (W 199 46 = 2 ∧ W 199 41 = 5) ∧ (∀ i, i < 16 * (c - g) → W 216 i = (V 216 (i + 16 * g)).toInt8.toInt32)
theorem edd.fr {c g : Nat} {V W : gS} (h : edd c g V W) : ∀ b, b ≠ 199 → b ≠ 216 → W b = V b := h.1
theorem edd.fk {c g : Nat} {V W : gS} (h : edd c g V W) : ∀ k, k ≠ 29 → k ≠ 31 → k ≠ 46 → k ≠ 41 → W 199 k = V 199 k := h.2.1
theorem edd.cnt {c g : Nat} {V W : gS} (h : edd c g V W) : W 199 29 = nI (c - g) := h.2.2.1
theorem edd.al {c g : Nat} {V W : gS} (h : edd c g V W) : W 199 31 = if V 199 31 = 0 then 0 else if c - g < 64 then 0 else 1 := h.2.2.2.1
theorem edd.st {c g : Nat} {V W : gS} (h : edd c g V W) : W 199 46 = 2 ∧ W 199 41 = 5 := h.2.2.2.2.1
theorem edd.by_ {c g : Nat} {V W : gS} (h : edd c g V W) : ∀ i, i < 16 * (c - g) → W 216 i = (V 216 (i + 16 * g)).toInt8.toInt32 := h.2.2.2.2.2
theorem r_clear {V : gS} {z : gQ} {c g o l : Nat} {x : Int32} (hc : c ≤ 96) (hg : g ≤ c) (ho : o + c < 2 ^ 20) (hl : l < 2 ^ 20) (e : V 199 29 = nI c) (hn : ∀ r, r < c → be4 (V 216) (16 * r) = o + r) (h1 : ∀ r, r < g → o + r ≤ l) (h2 : g < c → l < o + g) : QG_X10_ends_L163 x 4000 1 (lN l) 0 V z ∧ edd c g V (G_X10_ends_L163 x 4000 1 (lN l) 0 V z).1 ∧ (G_X10_ends_L163 x 4000 1 (lN l) 0 V z).2 = z := by
  obtain ⟨qd, D⟩ := r_drop (τ := V) (c := c) (g := g) (by omega) hg e
  have fin : ((if F_X10_drop V (nI g) 199 31 = 0 then (F_X10_insideTo (pf (F_X10_drop V (nI g)) 199 31 0) 2 5, z) else if F_X10_drop V (nI g) 199 29 < 64 then (F_X10_insideTo (pf (F_X10_drop V (nI g)) 199 31 0) 2 5, z) else (F_X10_insideTo (pf (F_X10_drop V (nI g)) 199 31 1) 2 5, z)).1 = pf (pf (pf (F_X10_drop V (nI g)) 199 31 (if V 199 31 = 0 then 0 else if c - g < 64 then 0 else 1)) 199 46 2) 199 41 5) ∧ ((if F_X10_drop V (nI g) 199 31 = 0 then (F_X10_insideTo (pf (F_X10_drop V (nI g)) 199 31 0) 2 5, z) else if F_X10_drop V (nI g) 199 29 < 64 then (F_X10_insideTo (pf (F_X10_drop V (nI g)) 199 31 0) 2 5, z) else (F_X10_insideTo (pf (F_X10_drop V (nI g)) 199 31 1) 2 5, z)).2 = z) := by
    rw [D.fk 31 (by decide), D.cnt]
    simp only [iTo]
    by_cases a : V 199 31 = 0
    · simp only [if_pos a]; exact ⟨trivial, trivial⟩
    · by_cases b : c - g < 64
      · have d : nI (c - g) < 64 := nI_lt (b := 64) b (by decide)
        simp only [if_neg a, if_pos b, if_pos d]; exact ⟨trivial, trivial⟩
      · have d : ¬ nI (c - g) < 64 := nI_nlt (b := 64) (by omega) (by omega)
        simp only [if_neg a, if_neg b, if_neg d]; exact ⟨trivial, trivial⟩
  have ed : edd c g V (pf (pf (pf (F_X10_drop V (nI g)) 199 31 (if V 199 31 = 0 then 0 else if c - g < 64 then 0 else 1)) 199 46 2) 199 41 5) := by
    refine ⟨fun b g1 g2 => ?_, fun k g1 g2 g3 g4 => ?_, ?_, ?_, ⟨?_, pf_s⟩, fun i hi => ?_⟩
    · rw [pf_ne g1, pf_ne g1, pf_ne g1, D.fr b g1 g2]
    · rw [pf_i g4, pf_i g3, pf_i g2, D.fk k g1]
    · rw [pf_i (by decide), pf_i (by decide), pf_i (by decide), D.cnt]
    · rw [pf_i (by decide), pf_i (by decide), pf_s]
    · rw [pf_i (by decide), pf_s]
    · rw [pf_ne (by decide), pf_ne (by decide), pf_ne (by decide), D.by_ i hi]
  have qq : (if F_X10_drop V (nI g) 199 31 = 0 then True else if F_X10_drop V (nI g) 199 29 < 64 then True else True) := by split; trivial; exact if_tt _
  exact lpF (fun f d (_ : Unit) => QG_X10_ends_L163 x f 1 (lN l) (nI d) V z ∧ edd c g V (G_X10_ends_L163 x f 1 (lN l) (nI d) V z).1 ∧ (G_X10_ends_L163 x f 1 (lN l) (nI d) V z).2 = z) (fun _ _ => True) g (by
    intro f _ _
    unfold QG_X10_ends_L163 G_X10_ends_L163
    rw [e]
    by_cases hgc : c ≤ g
    · have c1 : nI c ≤ nI g := nI_le hgc (by omega)
      simp only [if_pos c1]
      exact ⟨⟨qd, qq⟩, by rw [fin.1]; exact ed, fin.2⟩
    · have c1 : ¬ nI c ≤ nI g := nI_ge (by omega) (by omega)
      obtain ⟨qn, en⟩ := r_number (τ := V) (i := g) (by omega)
      rw [hn g (by omega)] at en
      have c2 := (lc_gt (a := o + g) (b := l) (by omega) (by omega)).mpr (h2 (by omega))
      simp only [if_neg c1, en, if_pos c2]
      exact ⟨⟨qn, qd, qq⟩, by rw [fin.1]; exact ed, fin.2⟩) (by
    intro f d _ hd _ k
    unfold QG_X10_ends_L163 G_X10_ends_L163
    have c1 : ¬ nI c ≤ nI d := nI_ge (by omega) (by omega)
    obtain ⟨qn, en⟩ := r_number (τ := V) (i := d) (by omega)
    rw [hn d (by omega)] at en
    have c2 : ¬ _ := fun y => absurd ((lc_gt (a := o + d) (b := l) (by omega) (by omega)).mp y) (by have := h1 d hd; omega)
    simp only [e, if_neg c1, en, if_neg c2, nI_i1]
    have g := k () trivial
    exact ⟨⟨qn, g.1⟩, g.2⟩) 4000 0 () (Nat.zero_le _) (by omega) trivial
