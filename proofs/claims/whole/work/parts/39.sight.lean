/-! A card's sight -/
theorem ix0 : ix (0 : Int32) = 0 := ix_n (n := 0) (by decide)
theorem ix1 : ix (1 : Int32) = 1 := ix_n (n := 1) (by decide)
theorem ix2 : ix (2 : Int32) = 2 := ix_n (n := 2) (by decide)
theorem ix3 : ix (3 : Int32) = 3 := ix_n (n := 3) (by decide)
theorem pf_v {σ : gS} {a k i : Nat} {v : Int32} : pf σ a k v a i = if i = k then v else σ a i := by
  by_cases h : i = k
  · subst h; rw [pf_s, if_pos rfl]
  · rw [pf_i h, if_neg h]
/-- a certificate of the reference that counts -/
def goodC (τ : gS) (n t c p : Nat) : Prop := ∃ L, L ≤ 48 ∧ τ 211 (4 * c + p) = nI L ∧ goodR n (τ 213) (τ 214) t p L (rwR τ c p)
def heldR (r w : Nat → Int32) : Prop := be2 r 7 = be2 w 1 ∧ be4 r 9 = be4 w 3
def soundC (τ : gS) (n t c : Nat) : Prop := goodC τ n t c 0 ∧ goodC τ n t c 1 ∧ goodC τ n t c 2 ∧ heldR (rwR τ c 1) (rwR τ c 0) ∧ heldR (rwR τ c 2) (rwR τ c 0)
def passC (τ : gS) (n t c : Nat) : Prop := goodC τ n t c 0 ∧ goodC τ n t c 3 ∧ heldR (rwR τ c 3) (rwR τ c 0) ∧ nI (be2 (rwR τ c 3) 1) = τ 199 18
/-- what these words read of the reference -/
def sameR (τ s : gS) : Prop := s 210 = τ 210 ∧ s 211 = τ 211 ∧ s 213 = τ 213 ∧ s 214 = τ 214 ∧ s 199 18 = τ 199 18
theorem sameR_scr {τ s : gS} (h : scr τ s) : sameR τ s := ⟨h.1 210 (by omega) (by omega), h.1 211 (by omega) (by omega), h.1 213 (by omega) (by omega), h.1 214 (by omega) (by omega), h.2.1 18 (by omega)⟩
theorem rwR_same {τ s : gS} (h : sameR τ s) (c p : Nat) : rwR s c p = rwR τ c p := by unfold rwR; rw [h.1]
theorem goodC_same {τ s : gS} (h : sameR τ s) (n t c p : Nat) : goodC s n t c p ↔ goodC τ n t c p := by unfold goodC; rw [rwR_same h, h.2.1, h.2.2.1, h.2.2.2.1]
theorem soundC_same {τ s : gS} (h : sameR τ s) (n t c : Nat) : soundC s n t c ↔ soundC τ n t c := by unfold soundC; rw [goodC_same h, goodC_same h, goodC_same h, rwR_same h, rwR_same h, rwR_same h]
theorem passC_same {τ s : gS} (h : sameR τ s) (n t c : Nat) : passC s n t c ↔ passC τ n t c := by unfold passC; rw [goodC_same h, goodC_same h, rwR_same h, rwR_same h, h.2.2.2.2]
/-- the reference's side of keys and rows -/
abbrev refOk (τ : gS) (n : Nat) : Prop := (pTab (τ 199 10) (τ 202) (τ 203)) ∧ (n ≤ 7) ∧ (τ 199 17 = nI n) ∧ (∀ i, i < n → ∃ v : Nat, v < 65536 ∧ τ 213 i = nI v) ∧ ((n = 0 → τ 199 18 = -1) ∧ (0 < n → τ 199 18 = τ 213 0)) ∧ (∀ c p, c < 16 → p < 4 → ∃ L, L ≤ 48 ∧ τ 211 (4 * c + p) = nI L ∧ ∀ i, i < L → isb (rwR τ c p i))
theorem refOk.tab {τ : gS} {n : Nat} (h : refOk τ n) : pTab (τ 199 10) (τ 202) (τ 203) := h.1
theorem refOk.n7 {τ : gS} {n : Nat} (h : refOk τ n) : n ≤ 7 := h.2.1
theorem refOk.cnt {τ : gS} {n : Nat} (h : refOk τ n) : τ 199 17 = nI n := h.2.2.1
theorem refOk.iss {τ : gS} {n : Nat} (h : refOk τ n) : ∀ i, i < n → ∃ v : Nat, v < 65536 ∧ τ 213 i = nI v := h.2.2.2.1
theorem refOk.own {τ : gS} {n : Nat} (h : refOk τ n) : (n = 0 → τ 199 18 = -1) ∧ (0 < n → τ 199 18 = τ 213 0) := h.2.2.2.2.1
theorem refOk.rows {τ : gS} {n : Nat} (h : refOk τ n) : ∀ c p, c < 16 → p < 4 → ∃ L, L ≤ 48 ∧ τ 211 (4 * c + p) = nI L ∧ ∀ i, i < L → isb (rwR τ c p i) := h.2.2.2.2.2
theorem refOk_scr {τ s : gS} {n : Nat} (R : refOk τ n) (h : scr τ s) : refOk s n := by
  have e := sameR_scr h
  refine ⟨h.2.2, R.n7, by rw [h.2.1 17 (by omega)]; exact R.cnt, by rw [e.2.2.1]; exact R.iss, by rw [e.2.2.2.2, e.2.2.1]; exact R.own, fun c p hc hp => ?_⟩
  rw [e.2.1, rwR_same e]; exact R.rows c p hc hp
theorem r_good {τ : gS} {ζ : gQ} {n c p t : Nat} (R : refOk τ n) (hc : c < 16) (hp : p < 4) (ht : t < 2 ^ 31) (hz : ζ 19 = lN t) :
    Q_X10_isGood τ ζ (nI c) (nI p) ∧ (((F_X10_isGood τ ζ (nI c) (nI p)).1 = 1 ∧ goodC τ n t c p) ∨ ((F_X10_isGood τ ζ (nI c) (nI p)).1 = 0 ∧ ¬ goodC τ n t c p)) ∧ scr τ (F_X10_isGood τ ζ (nI c) (nI p)).2 := by
  obtain ⟨L, hL, e, hb⟩ := R.rows c p hc hp
  have g := r_isGood (ζ := ζ) (t := t) (⟨R.tab, R.n7, R.cnt, R.iss, hc, hp, hL, e, hb⟩ : rOk τ n c p L) ht hz
  have i : goodC τ n t c p ↔ goodR n (τ 213) (τ 214) t p L (rwR τ c p) := ⟨fun ⟨L', h1, h2, h3⟩ => by
    have : L' = L := nI_inj31 (by omega) (by omega) (h2.symm.trans e)
    rw [← this]; exact h3, fun h => ⟨L, hL, e, h⟩⟩
  rw [i]; exact g
theorem r_held {τ : gS} {c p : Nat} (hc : c < 16) (hp : p < 4) : Q_X10_isHeld τ (nI c) (nI p) ∧ ((F_X10_isHeld τ (nI c) (nI p) = 1 ∧ heldR (rwR τ c p) (rwR τ c 0)) ∨ (F_X10_isHeld τ (nI c) (nI p) = 0 ∧ ¬ heldR (rwR τ c p) (rwR τ c 0))) := by
  rw [F_X10_isHeld_eq]
  unfold Q_X10_isHeld Fr_X10_isHeld
  have g1 : Q_X10_field τ (nI c) (nI p) 7 2 ∧ F_X10_field τ (nI c) (nI p) 7 2 = lN (be2 (rwR τ c p) 7) := by
    have := r_field (τ := τ) (i := 7) (n := 2) hc hp (by omega) (by omega); rw [beN_2] at this; exact this
  have g2 : Q_X10_field τ (nI c) 0 1 2 ∧ F_X10_field τ (nI c) 0 1 2 = lN (be2 (rwR τ c 0) 1) := by
    have := r_field (τ := τ) (p := 0) (i := 1) (n := 2) hc (by omega) (by omega) (by omega); rw [beN_2] at this; exact this
  have g3 : Q_X10_field τ (nI c) (nI p) 9 4 ∧ F_X10_field τ (nI c) (nI p) 9 4 = lN (be4 (rwR τ c p) 9) := by
    have := r_field (τ := τ) (i := 9) (n := 4) hc hp (by omega) (by omega); rw [beN_4] at this; exact this
  have g4 : Q_X10_field τ (nI c) 0 3 4 ∧ F_X10_field τ (nI c) 0 3 4 = lN (be4 (rwR τ c 0) 3) := by
    have := r_field (τ := τ) (p := 0) (i := 3) (n := 4) hc (by omega) (by omega) (by omega); rw [beN_4] at this; exact this
  rw [g1.2, g2.2, g3.2, g4.2]
  have b1 := be2_lt (rwR τ c p) 7
  have b2 := be2_lt (rwR τ c 0) 1
  have b3 := be4_lt (rwR τ c p) 9
  have b4 := be4_lt (rwR τ c 0) 3
  unfold heldR
  by_cases h1 : be2 (rwR τ c p) 7 = be2 (rwR τ c 0) 1
  rotate_left
  · have d1 : ¬ _ := fun z => h1 ((lc_eq (a := be2 (rwR τ c p) 7) (b := be2 (rwR τ c 0) 1) (by omega) (by omega)).mp z)
    rw [if_neg d1, if_neg d1]
    exact ⟨⟨g1.1, g2.1, trivial⟩, Or.inr ⟨rfl, fun z => h1 z.1⟩⟩
  have d1 := (lc_eq (a := be2 (rwR τ c p) 7) (b := be2 (rwR τ c 0) 1) (by omega) (by omega)).mpr h1
  rw [if_pos d1, if_pos d1]
  by_cases h2 : be4 (rwR τ c p) 9 = be4 (rwR τ c 0) 3
  rotate_left
  · have d2 : ¬ _ := fun z => h2 ((lc_eq (a := be4 (rwR τ c p) 9) (b := be4 (rwR τ c 0) 3) (by omega) (by omega)).mp z)
    rw [if_neg d2, if_neg d2]
    exact ⟨⟨g1.1, g2.1, g3.1, g4.1, trivial⟩, Or.inr ⟨rfl, fun z => h2 z.2⟩⟩
  have d2 := (lc_eq (a := be4 (rwR τ c p) 9) (b := be4 (rwR τ c 0) 3) (by omega) (by omega)).mpr h2
  rw [if_pos d2, if_pos d2]
  exact ⟨⟨g1.1, g2.1, g3.1, g4.1, trivial⟩, Or.inl ⟨rfl, h1, h2⟩⟩
theorem r_sound {τ : gS} {ζ : gQ} {n c t : Nat} (R : refOk τ n) (hc : c < 16) (ht : t < 2 ^ 31) (hz : ζ 19 = lN t) :
    Q_X10_isSound τ ζ (nI c) ∧ (((F_X10_isSound τ ζ (nI c)).1 = 1 ∧ soundC τ n t c) ∨ ((F_X10_isSound τ ζ (nI c)).1 = 0 ∧ ¬ soundC τ n t c)) ∧ scr τ (F_X10_isSound τ ζ (nI c)).2 := by
  rw [F_X10_isSound_eq]
  unfold Q_X10_isSound Fr_X10_isSound
  obtain ⟨q0, c0, s0⟩ : Q_X10_isGood τ ζ (nI c) 0 ∧ (((F_X10_isGood τ ζ (nI c) 0).1 = 1 ∧ goodC τ n t c 0) ∨ ((F_X10_isGood τ ζ (nI c) 0).1 = 0 ∧ ¬ goodC τ n t c 0)) ∧ scr τ (F_X10_isGood τ ζ (nI c) 0).2 := r_good (p := 0) R hc (by omega) ht hz
  generalize F_X10_isGood τ ζ (nI c) 0 = f0 at c0 s0 ⊢
  rcases c0 with ⟨e0, c0⟩ | ⟨e0, c0⟩
  rotate_left
  · simp only [e0, if_true]
    exact ⟨⟨q0, trivial⟩, Or.inr ⟨trivial, fun z => c0 z.1⟩, s0⟩
  have e0n : ¬ f0.1 = 0 := by rw [e0]; decide
  simp only [if_neg e0n]
  obtain ⟨q1, c1, s1⟩ : Q_X10_isGood f0.2 ζ (nI c) 1 ∧ (((F_X10_isGood f0.2 ζ (nI c) 1).1 = 1 ∧ goodC f0.2 n t c 1) ∨ ((F_X10_isGood f0.2 ζ (nI c) 1).1 = 0 ∧ ¬ goodC f0.2 n t c 1)) ∧ scr f0.2 (F_X10_isGood f0.2 ζ (nI c) 1).2 := r_good (p := 1) (refOk_scr R s0) hc (by omega) ht hz
  rw [goodC_same (sameR_scr s0)] at c1
  generalize F_X10_isGood f0.2 ζ (nI c) 1 = f1 at c1 s1 ⊢
  replace s1 := scr_t s0 s1
  rcases c1 with ⟨e1, c1⟩ | ⟨e1, c1⟩
  rotate_left
  · simp only [e1, if_true]
    exact ⟨⟨q0, q1, trivial⟩, Or.inr ⟨trivial, fun z => c1 z.2.1⟩, s1⟩
  have e1n : ¬ f1.1 = 0 := by rw [e1]; decide
  simp only [if_neg e1n]
  obtain ⟨q2, c2, s2⟩ : Q_X10_isGood f1.2 ζ (nI c) 2 ∧ (((F_X10_isGood f1.2 ζ (nI c) 2).1 = 1 ∧ goodC f1.2 n t c 2) ∨ ((F_X10_isGood f1.2 ζ (nI c) 2).1 = 0 ∧ ¬ goodC f1.2 n t c 2)) ∧ scr f1.2 (F_X10_isGood f1.2 ζ (nI c) 2).2 := r_good (p := 2) (refOk_scr R s1) hc (by omega) ht hz
  rw [goodC_same (sameR_scr s1)] at c2
  generalize F_X10_isGood f1.2 ζ (nI c) 2 = f2 at c2 s2 ⊢
  replace s2 := scr_t s1 s2
  rcases c2 with ⟨e2, c2⟩ | ⟨e2, c2⟩
  rotate_left
  · simp only [e2, if_true]
    exact ⟨⟨q0, q1, q2, trivial⟩, Or.inr ⟨trivial, fun z => c2 z.2.2.1⟩, s2⟩
  have e2n : ¬ f2.1 = 0 := by rw [e2]; decide
  simp only [if_neg e2n]
  obtain ⟨qa, ca⟩ : Q_X10_isHeld f2.2 (nI c) 1 ∧ ((F_X10_isHeld f2.2 (nI c) 1 = 1 ∧ heldR (rwR f2.2 c 1) (rwR f2.2 c 0)) ∨ (F_X10_isHeld f2.2 (nI c) 1 = 0 ∧ ¬ heldR (rwR f2.2 c 1) (rwR f2.2 c 0))) := r_held (p := 1) hc (by omega)
  obtain ⟨qb, cb⟩ : Q_X10_isHeld f2.2 (nI c) 2 ∧ ((F_X10_isHeld f2.2 (nI c) 2 = 1 ∧ heldR (rwR f2.2 c 2) (rwR f2.2 c 0)) ∨ (F_X10_isHeld f2.2 (nI c) 2 = 0 ∧ ¬ heldR (rwR f2.2 c 2) (rwR f2.2 c 0))) := r_held (p := 2) hc (by omega)
  rw [rwR_same (sameR_scr s2), rwR_same (sameR_scr s2)] at ca cb
  rcases ca with ⟨ea, ca⟩ | ⟨ea, ca⟩
  rotate_left
  · simp only [ea, if_true]
    exact ⟨⟨q0, q1, q2, qa, trivial⟩, Or.inr ⟨trivial, fun z => ca z.2.2.2.1⟩, s2⟩
  have ean : ¬ F_X10_isHeld f2.2 (nI c) 1 = 0 := by rw [ea]; decide
  simp only [if_neg ean]
  rcases cb with ⟨eb, cb⟩ | ⟨eb, cb⟩
  rotate_left
  · simp only [eb, if_true]
    exact ⟨⟨q0, q1, q2, qa, qb, trivial⟩, Or.inr ⟨trivial, fun z => cb z.2.2.2.2⟩, s2⟩
  have ebn : ¬ F_X10_isHeld f2.2 (nI c) 2 = 0 := by rw [eb]; decide
  simp only [if_neg ebn]
  exact ⟨⟨q0, q1, q2, qa, qb, trivial⟩, Or.inl ⟨trivial, c0, c1, c2, ca, cb⟩, s2⟩
theorem goodC_key {τ : gS} {n t c p : Nat} (h : goodC τ n t c p) : 0 < n := by
  obtain ⟨_, _, _, _, _, i, k, _⟩ := h
  have := k.1; omega
theorem r_pass {τ : gS} {ζ : gQ} {n c t : Nat} (R : refOk τ n) (hc : c < 16) (ht : t < 2 ^ 31) (hz : ζ 19 = lN t) :
    Q_X10_hasPass τ ζ (nI c) ∧ (((F_X10_hasPass τ ζ (nI c)).1 = 1 ∧ passC τ n t c) ∨ ((F_X10_hasPass τ ζ (nI c)).1 = 0 ∧ ¬ passC τ n t c)) ∧ scr τ (F_X10_hasPass τ ζ (nI c)).2 := by
  rw [F_X10_hasPass_eq]
  unfold Q_X10_hasPass Fr_X10_hasPass
  obtain ⟨q0, c0, s0⟩ : Q_X10_isGood τ ζ (nI c) 3 ∧ (((F_X10_isGood τ ζ (nI c) 3).1 = 1 ∧ goodC τ n t c 3) ∨ ((F_X10_isGood τ ζ (nI c) 3).1 = 0 ∧ ¬ goodC τ n t c 3)) ∧ scr τ (F_X10_isGood τ ζ (nI c) 3).2 := r_good (p := 3) R hc (by omega) ht hz
  generalize F_X10_isGood τ ζ (nI c) 3 = f0 at c0 s0 ⊢
  rcases c0 with ⟨e0, c0⟩ | ⟨e0, c0⟩
  rotate_left
  · simp only [e0, if_true]
    exact ⟨⟨q0, trivial⟩, Or.inr ⟨trivial, fun z => c0 z.2.1⟩, s0⟩
  have e0n : ¬ f0.1 = 0 := by rw [e0]; decide
  simp only [if_neg e0n]
  have sm := sameR_scr s0
  have g1 : Q_X10_field f0.2 (nI c) 3 1 2 ∧ F_X10_field f0.2 (nI c) 3 1 2 = lN (be2 (rwR τ c 3) 1) := by
    have := r_field (τ := f0.2) (p := 3) (i := 1) (n := 2) hc (by omega) (by omega) (by omega)
    rw [beN_2] at this
    have e := rwR_same sm c 3
    unfold rwR at e
    rw [e] at this; exact this
  have hn := goodC_key c0
  obtain ⟨v, hv, ev⟩ := R.iss 0 hn
  have own : τ 199 18 = nI v := (R.own.2 hn).trans ev
  have b1 := be2_lt (rwR τ c 3) 1
  rw [g1.2, sm.2.2.2.2, own, nI_l (by omega)]
  by_cases h1 : be2 (rwR τ c 3) 1 = v
  rotate_left
  · have d1 : ¬ _ := fun z => h1 ((lc_eq (a := be2 (rwR τ c 3) 1) (b := v) (by omega) (by omega)).mp z)
    simp only [if_neg d1]
    exact ⟨⟨q0, g1.1, trivial⟩, Or.inr ⟨trivial, fun z => h1 (nI_inj31 (by omega) (by omega) (z.2.2.2.trans own))⟩, s0⟩
  have d1 := (lc_eq (a := be2 (rwR τ c 3) 1) (b := v) (by omega) (by omega)).mpr h1
  simp only [if_pos d1]
  obtain ⟨q1, c1, s1⟩ : Q_X10_isGood f0.2 ζ (nI c) 0 ∧ (((F_X10_isGood f0.2 ζ (nI c) 0).1 = 1 ∧ goodC f0.2 n t c 0) ∨ ((F_X10_isGood f0.2 ζ (nI c) 0).1 = 0 ∧ ¬ goodC f0.2 n t c 0)) ∧ scr f0.2 (F_X10_isGood f0.2 ζ (nI c) 0).2 := r_good (p := 0) (refOk_scr R s0) hc (by omega) ht hz
  rw [goodC_same (sameR_scr s0)] at c1
  generalize F_X10_isGood f0.2 ζ (nI c) 0 = f1 at c1 s1 ⊢
  replace s1 := scr_t s0 s1
  rcases c1 with ⟨e1, c1⟩ | ⟨e1, c1⟩
  rotate_left
  · simp only [e1, if_true]
    exact ⟨⟨q0, g1.1, q1, trivial⟩, Or.inr ⟨trivial, fun z => c1 z.1⟩, s1⟩
  have e1n : ¬ f1.1 = 0 := by rw [e1]; decide
  simp only [if_neg e1n]
  obtain ⟨qa, ca⟩ : Q_X10_isHeld f1.2 (nI c) 3 ∧ ((F_X10_isHeld f1.2 (nI c) 3 = 1 ∧ heldR (rwR f1.2 c 3) (rwR f1.2 c 0)) ∨ (F_X10_isHeld f1.2 (nI c) 3 = 0 ∧ ¬ heldR (rwR f1.2 c 3) (rwR f1.2 c 0))) := r_held (p := 3) hc (by omega)
  rw [rwR_same (sameR_scr s1), rwR_same (sameR_scr s1)] at ca
  rcases ca with ⟨ea, ca⟩ | ⟨ea, ca⟩
  rotate_left
  · simp only [ea, if_true]
    exact ⟨⟨q0, g1.1, q1, qa, trivial⟩, Or.inr ⟨trivial, fun z => ca z.2.2.1⟩, s1⟩
  have ean : ¬ F_X10_isHeld f1.2 (nI c) 3 = 0 := by rw [ea]; decide
  simp only [if_neg ean]
  exact ⟨⟨q0, g1.1, q1, qa, trivial⟩, Or.inl ⟨trivial, c1, c0, ca, by rw [h1]; exact own.symm⟩, s1⟩
/-! The class's side -/
def rowE (σ τ : gS) (n c p : Nat) : Prop := ∃ L, L ≤ 48 ∧ σ (rwC c p) 1 = nI L ∧ τ 211 (4 * c + p) = nI L ∧ (∀ i, i < L → σ (rwC c p + 1) i = rwR τ c p i ∧ isb (rwR τ c p i)) ∧ pSl n (τ 213) (τ 214) (σ (23 + 11 * c + 2) p) (nI L) (rwR τ c p)
def crd (σ τ : gS) (n : Nat) : Prop := ∀ c, c < 16 → (σ (23 + 11 * c) 2 = τ 212 c ∧ pZ (σ (23 + 11 * c) 2)) ∧ ∀ p, p < 4 → rowE σ τ n c p
abbrev cOk (σ τ : gS) (n : Nat) : Prop := (pKw n (σ 12 2) (σ 13) (σ 14) (τ 213) (τ 214)) ∧ ((n = 0 → τ 199 18 = -1) ∧ (0 < n → τ 199 18 = σ 13 0)) ∧ (crd σ τ n)
theorem cOk.kw {σ τ : gS} {n : Nat} (h : cOk σ τ n) : pKw n (σ 12 2) (σ 13) (σ 14) (τ 213) (τ 214) := h.1
theorem cOk.own {σ τ : gS} {n : Nat} (h : cOk σ τ n) : (n = 0 → τ 199 18 = -1) ∧ (0 < n → τ 199 18 = σ 13 0) := h.2.1
theorem cOk.crd {σ τ : gS} {n : Nat} (h : cOk σ τ n) : crd σ τ n := h.2.2
theorem crd_fr {σ s τ : gS} {n : Nat} (h : crd σ τ n) (e : ∀ b, 23 ≤ b → b < 199 → s b = σ b) : crd s τ n := by
  intro c hc
  obtain ⟨h1, h2⟩ := h c hc
  rw [e (23 + 11 * c) (by omega) (by omega)]
  refine ⟨h1, fun p hp => ?_⟩
  have h3 := h2 p hp
  unfold rowE rwC at h3 ⊢
  rw [e _ (by omega) (by omega), e _ (by omega) (by omega), e _ (by omega) (by omega)]; exact h3
theorem cOk_fr {σ s τ : gS} {n : Nat} (h : cOk σ τ n) (e : ∀ b, (b = 12 ∨ b = 13 ∨ b = 14 ∨ 23 ≤ b) → b < 199 → s b = σ b) : cOk s τ n := ⟨by rw [e 12 (by omega) (by omega), e 13 (by omega) (by omega), e 14 (by omega) (by omega)]; exact h.kw, by rw [e 13 (by omega) (by omega)]; exact h.own, crd_fr h.crd (fun b h1 h2 => e b (by omega) h2)⟩
theorem pSl_congr {n : Nat} {iss kb : Nat → Int32} {v : Int32} {L : Nat} {r r' : Nat → Int32} (hL : L ≤ 48) (h : ∀ i, i < L → r i = r' i) (S : pSl n iss kb v (nI L) r) : pSl n iss kb v (nI L) r' := by
  rcases S with z | ⟨L', i, h1, h2, h3, k, v⟩
  · exact Or.inl z
  have el : L = L' := nI_inj31 (by omega) (by omega) h3
  subst el
  have e2 : be2 r' 1 = be2 r 1 := (be2_congr h (by omega)).symm
  have sr : sealR r L (fun x => kb (16 * i + x)) ↔ sealR r' L (fun x => kb (16 * i + x)) := ⟨sealR_congr h1 h (fun _ _ => rfl), sealR_congr h1 (fun i hi => (h i hi).symm) (fun _ _ => rfl)⟩
  refine Or.inr ⟨L, i, h1, h2, rfl, by rw [e2]; exact k, ?_⟩
  rw [← sr]; exact v
theorem c_good {σ τ : gS} {n c p t : Nat} (O : cOk σ τ n) (hc : c < 16) (hp : p < 4) (ht : t < 2 ^ 31) :
    Q_X8_isGood σ c (nI p) (nI t) ∧ (((F_X8_isGood σ c (nI p) (nI t)).1 = 1 ∧ goodC τ n t c p) ∨ ((F_X8_isGood σ c (nI p) (nI t)).1 = 0 ∧ ¬ goodC τ n t c p)) ∧ (∀ b, (b < 8 ∨ 11 < b) → b ≠ 23 + 11 * c + 2 → (F_X8_isGood σ c (nI p) (nI t)).2 b = σ b) ∧ cOk (F_X8_isGood σ c (nI p) (nI t)).2 τ n := by
  obtain ⟨L, hL, e1, e2, hb, S⟩ := (O.crd c hc).2 p hp
  have hr : ∀ i, i < L → rwR τ c p i = σ (rwC c p + 1) i := fun i hi => (hb i hi).1.symm
  obtain ⟨q, g, f1, f2, S'⟩ := c_isGood (t := t) O.kw hp ht hL e1 (pSl_congr hL hr S)
  have i : goodC τ n t c p ↔ goodR n (τ 213) (τ 214) t p L (σ (rwC c p + 1)) := ⟨fun ⟨L', h1, h2, h3⟩ => by
    have : L' = L := nI_inj31 (by omega) (by omega) (h2.symm.trans e2)
    rw [← this]
    exact goodR_imp (fun _ _ => rfl) (fun _ _ => rfl) (fun i hi => hr i (by omega)) h3, fun h => ⟨L, hL, e2, goodR_imp (fun _ _ => rfl) (fun _ _ => rfl) (fun i hi => (hr i hi).symm) h⟩⟩
  rw [i]
  refine ⟨q, g, f1, ?_, ?_, ?_⟩
  · rw [f1 12 (by omega) (by omega), f1 13 (by omega) (by omega), f1 14 (by omega) (by omega)]; exact O.kw
  · rw [f1 13 (by omega) (by omega)]; exact O.own
  · intro c' hc'
    obtain ⟨h1, h2⟩ := O.crd c' hc'
    rw [f1 (23 + 11 * c') (by omega) (by omega)]
    refine ⟨h1, fun p' hp' => ?_⟩
    have h3 := h2 p' hp'
    unfold rowE
    rw [f1 (rwC c' p') (by unfold rwC; omega) (by unfold rwC; omega), f1 (rwC c' p' + 1) (by unfold rwC; omega) (by unfold rwC; omega)]
    by_cases hcc : c' = c
    · subst hcc
      by_cases hpp : p' = p
      · subst hpp
        exact ⟨L, hL, e1, e2, hb, pSl_congr hL (fun i hi => (hr i hi).symm) S'⟩
      · rw [f2 p' hpp]; exact h3
    · rw [f1 (23 + 11 * c' + 2) (by omega) (by omega)]; exact h3
theorem held6 {r w : Nat → Int32} : heldR r w ↔ ∀ k, k < 6 → ub (r (7 + k)) = ub (w (1 + k)) := by
  have a := fun i => ub_lt (r i)
  have b := fun i => ub_lt (w i)
  have a7 := a 7; have a8 := a 8; have a9 := a 9; have a10 := a 10; have a11 := a 11; have a12 := a 12
  have b1 := b 1; have b2 := b 2; have b3 := b 3; have b4 := b 4; have b5 := b 5; have b6 := b 6
  unfold heldR be2 be4
  constructor
  · rintro ⟨h1, h2⟩ k hk
    rcases (show k = 0 ∨ k = 1 ∨ k = 2 ∨ k = 3 ∨ k = 4 ∨ k = 5 by omega) with rfl | rfl | rfl | rfl | rfl | rfl <;> simp only [Nat.reduceAdd] at h1 h2 ⊢ <;> omega
  · intro h
    have h0 := h 0 (by omega); have h1 := h 1 (by omega); have h2 := h 2 (by omega); have h3 := h 3 (by omega); have h4 := h 4 (by omega); have h5 := h 5 (by omega)
    simp only [Nat.reduceAdd] at h0 h1 h2 h3 h4 h5 ⊢
    rw [show r 7 = r (7 + 0) from rfl] at *
    omega
theorem goodC_L {τ : gS} {n t c p L : Nat} (hL : L ≤ 48) (e : τ 211 (4 * c + p) = nI L) (h : goodC τ n t c p) : 39 ≤ L := by
  obtain ⟨L', h1, h2, h3⟩ := h
  have : L' = L := nI_inj31 (by omega) (by omega) (h2.symm.trans e)
  have := formR_L h3.1
  omega
theorem c_held {σ τ : gS} {n c p t : Nat} (O : cOk σ τ n) (hc : c < 16) (hp : p < 4) (g0 : goodC τ n t c 0) (gp : goodC τ n t c p) : Q_X8_isHeldBy σ (rwC c p) 48 (rwC c 0) 48 ∧ ((F_X8_isHeldBy σ (rwC c p) 48 (rwC c 0) 48 = 1 ∧ heldR (rwR τ c p) (rwR τ c 0)) ∨ (F_X8_isHeldBy σ (rwC c p) 48 (rwC c 0) 48 = 0 ∧ ¬ heldR (rwR τ c p) (rwR τ c 0))) := by
  obtain ⟨L, hL, e1, e2, hb, _⟩ := (O.crd c hc).2 p hp
  obtain ⟨L0, hL0, e10, e20, hb0, _⟩ := (O.crd c hc).2 0 (by omega)
  have l1 := goodC_L hL e2 gp
  have l2 := goodC_L hL0 e20 g0
  rw [F_X8_isHeldBy_eq]
  unfold Q_X8_isHeldBy Fr_X8_isHeldBy
  obtain ⟨q, a⟩ := isAlike_u (σ := σ) (j := rwC c p) (N := 48) (n := L) (j2 := rwC c 0) (N2 := 48) (n2 := L0) (a := 7) (b := 1) (m := 6) hL (by decide) e1 hL0 (by decide) e10 (by omega) (by omega) (by omega)
  have q' : Q_X0_isAlike σ (rwC c p) 48 (rwC c 0) 48 7 1 6 := q
  have a' : (F_X0_isAlike σ (rwC c p) 48 (rwC c 0) 48 7 1 6 = 1 ∧ ∀ k, k < 6 → ub (σ (rwC c p + 1) (7 + k)) = ub (σ (rwC c 0 + 1) (1 + k))) ∨ (F_X0_isAlike σ (rwC c p) 48 (rwC c 0) 48 7 1 6 = 0 ∧ ∃ k, k < 6 ∧ ub (σ (rwC c p + 1) (7 + k)) ≠ ub (σ (rwC c 0 + 1) (1 + k))) := a
  rw [held6]
  rcases a' with ⟨e, a⟩ | ⟨e, k, hk, a⟩
  · refine ⟨⟨q', Or.inr e, trivial⟩, Or.inl ⟨e, fun k hk => ?_⟩⟩
    rw [← (hb (7 + k) (by omega)).1, ← (hb0 (1 + k) (by omega)).1]; exact a k hk
  · refine ⟨⟨q', Or.inl e, trivial⟩, Or.inr ⟨e, fun z => a ?_⟩⟩
    rw [(hb (7 + k) (by omega)).1, (hb0 (1 + k) (by omega)).1]; exact z k hk
