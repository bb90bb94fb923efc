/-! One record put, both sides -/
/-- the power, and how many records this look has put: the class's count is d ahead of the reference's -/
def pPow (M w d : Nat) (x y h o q q' : Int32) : Prop := w + d ≤ M ∧ x = nI (w + d) ∧ y = nI w ∧ q = q' ∧ ((q = -1 ∧ h = 1 ∧ o = 0) ∨ ∃ z : Nat, z ≤ 10 ∧ q = nI z ∧ d = 0 ∧ ((w < z ∧ h = 1 ∧ o = 0) ∨ (z ≤ w ∧ h = 0 ∧ o = 1)))
def jrn (M si d : Nat) (σ τ : gS) (ζ : gQ) (c m w : Nat) : Prop := pJ M c m (σ 15 1) (τ 199 29) (σ 16 1) (σ 15 2) (ζ 30) (σ 15 3) (τ 199 31) (σ 17) (τ 216) ∧ pPow M w d (σ 15 5) (τ 199 32) (σ 15 6) (τ 199 33) (σ 15 4) (τ 199 27) ∧ pArc si c m (σ 21 6) (σ 21 7) (τ 199 50) (τ 199 52) (σ 17) (τ 218)
theorem pJ_mono {M M' c m : Nat} {xc xm len nc : Int32} {nm : Int64} {ac am : Int32} {a b : Nat → Int32} (h : pJ M c m xc xm len nc nm ac am a b) (hM : M ≤ M') : pJ M' c m xc xm len nc nm ac am a b := ⟨h.1, h.2.1, Nat.le_trans h.2.2.1 hM, h.2.2.2⟩
theorem pPow_mono {M M' w d : Nat} {x y h o q q' : Int32} (p : pPow M w d x y h o q q') (hM : M ≤ M') : pPow M' w d x y h o q q' := ⟨Nat.le_trans p.1 hM, p.2⟩
theorem jrn_mono {M M' si d : Nat} {σ τ : gS} {ζ : gQ} {c m w : Nat} (h : jrn M si d σ τ ζ c m w) (hM : M ≤ M') : jrn M' si d σ τ ζ c m w := ⟨pJ_mono h.1 hM, pPow_mono h.2.1 hM, h.2.2⟩
theorem be4_ext {f g : Nat → Int32} {i : Nat} (h : ∀ k, k < 4 → f (i + k) = g (i + k)) : be4 f i = be4 g i := by
  unfold be4
  rw [show f i = g i from h 0 (by omega), h 1 (by omega), h 2 (by omega), h 3 (by omega)]
theorem arc_app {s c m : Nat} {fc mc mm wm : Int32} {a a' w : Nat → Int32} (h : pArc s c m fc mc mm wm a w) (e : ∀ i, i < 16 * c → a' i = a i) : pArc s (c + 1) (m + 1) fc mc mm wm a' w := by
  intro hs
  obtain ⟨f, q, h1, h2, h3, h4, h5, h6, h7, h8, h9, h10, h11⟩ := h hs
  refine ⟨f, q, h1, h2, h3, h4, h5, h6, h7, h8, by omega, fun z => ?_, fun z => h11 (by omega)⟩
  obtain ⟨g1, g2⟩ := h10 (by omega)
  exact ⟨by omega, fun i hi => by rw [g2 i hi, e i (by omega)]⟩
theorem arc_drop {s c m g : Nat} {fc mc mm wm : Int32} {a a' w : Nat → Int32} (h : pArc s c m fc mc mm wm a w) (hn : ∀ r, r < c → be4 a (16 * r) = m - c + r) (hg : 0 < g) (hgc : g ≤ c) (hc : c < m) : pArc s (c - g) m fc mc mm wm a' w := by
  intro hs
  obtain ⟨f, q, h1, h2, h3, h4, h5, h6, h7, h8, h9, h10, h11⟩ := h hs
  refine ⟨f, q, h1, h2, h3, h4, h5, h6, h7, h8, by omega, fun z => by omega, fun _ => ?_⟩
  by_cases z : f + c = m
  · obtain ⟨g1, g2⟩ := h10 z
    have e : be4 w 1 = be4 a 0 := by
      unfold be4
      rw [g2 0 (by omega), g2 1 (by omega), g2 2 (by omega), g2 3 (by omega)]
    have := hn 0 (by omega)
    rw [e]; rw [Nat.mul_zero] at this; omega
  · exact h11 z
theorem jrn_app {M si d c m w t s : Nat} {σ τ u V : gS} {ζ z : gQ} {aw ab x : Int32} (J : jrn M si d σ τ ζ c m w) (hp : σ 15 6 = 1) (hc : c < 96) (hM : M < 2 ^ 20)
    (u1 : u 15 1 = nI (c + 1)) (u2 : u 15 2 = nI (m + 1)) (u3 : u 15 3 = V 199 31 ∧ pZ (u 15 3)) (u4 : u 15 4 = σ 15 4) (u5 : u 15 5 = nI (w + d + 1)) (u6 : u 15 6 = if nI (w + d + 1) = σ 15 4 then 0 else 1) (ul : u 16 1 = nI (16 * (c + 1))) (ub_ : ∀ i, u 17 i = if 16 * c ≤ i ∧ i < 16 * c + 16 then rcB m t aw ab x s (i - 16 * c) else σ 17 i) (u21 : u 21 = σ 21)
    (v1 : V 199 29 = nI (c + 1)) (v2 : V 199 27 = τ 199 27) (v3 : V 199 32 = nI (w + 1)) (v4 : V 199 33 = if τ 199 27 < 0 then τ 199 33 else if nI (w + 1) < τ 199 27 then τ 199 33 else 1) (vb : ∀ i, V 216 i = if 16 * c ≤ i ∧ i < 16 * c + 16 then rcB m t aw ab x s (i - 16 * c) else τ 216 i) (v5 : V 199 50 = τ 199 50) (v6 : V 199 52 = τ 199 52) (v7 : V 218 = τ 218) (z1 : z 30 = lN (m + 1)) : jrn (M + 1) si d u V z (c + 1) (m + 1) (w + 1) := by
  obtain ⟨⟨j1, j2, j3, j4, j5, j6, j7, j8, j9, j10, j11⟩, ⟨p1, p2, p3, p4, p5⟩, A⟩ := J
  refine ⟨⟨by omega, by omega, by omega, u1, v1, ul, u2, z1, u3, fun i hi => ?_, fun r hr => ?_⟩, ⟨by omega, by rw [u5]; congr 1; omega, v3, by rw [u4, v2]; exact p4, ?_⟩, ?_⟩
  · rw [ub_, vb]
    by_cases h : 16 * c ≤ i ∧ i < 16 * c + 16
    · rw [if_pos h, if_pos h]; exact ⟨rfl, rcB_b _ _ _ _ _ _ _⟩
    · rw [if_neg h, if_neg h]; exact j10 i (by omega)
  · by_cases h : r = c
    · subst h
      rw [be4_bN (m := m) (by omega) (fun k hk => by
        rw [ub_, if_pos (by omega), Nat.add_sub_cancel_left]
        unfold rcB; rw [if_pos hk])]
      omega
    · rw [be4_ext (g := σ 17) (fun k hk => by rw [ub_, if_neg (by omega)]), j11 r (by omega)]; omega
  · rw [u4, u6, v4]
    rcases p5 with ⟨q1, q2, q3⟩ | ⟨y, y1, y2, y3, y4⟩
    · left
      have nn : ¬ nI (w + d + 1) = -1 := nI_m1 (by omega)
      rw [← p4, q1, if_neg nn, if_pos (by decide)]; exact ⟨rfl, rfl, q3⟩
    · right
      refine ⟨y, y1, y2, y3, ?_⟩
      rw [← p4, y2]
      subst y3
      have n0 : ¬ nI y < 0 := nI_pos (by omega)
      rw [if_neg n0]
      rcases y4 with ⟨w1, w2, w3⟩ | ⟨w1, w2, w3⟩
      · by_cases h : w + 1 = y
        · right
          have c1 : nI (w + 0 + 1) = nI y := by rw [Nat.add_zero, h]
          have c2 : ¬ nI (w + 1) < nI y := nI_nlt (by omega) (by omega)
          rw [if_pos c1, if_neg c2]; exact ⟨by omega, rfl, rfl⟩
        · left
          have c1 : ¬ nI (w + 0 + 1) = nI y := fun z => h (nI_inj31 (by omega) (by omega) z)
          have c2 : nI (w + 1) < nI y := nI_lt (by omega) (by omega)
          rw [if_neg c1, if_pos c2]; exact ⟨by omega, rfl, w3⟩
      · rw [w2] at hp; exact absurd hp (by decide)
  · rw [u21, v5, v6, v7]
    exact arc_app A (fun i hi => by rw [ub_, if_neg (by omega)])
theorem jrn_drop {M si d m w : Nat} {σ τ u V : gS} {ζ : gQ} (J : jrn M si d σ τ ζ 96 m w) (D : dpd 96 8 σ u) (E : rdp 96 8 τ V) : jrn M si d u V ζ 88 m w := by
  obtain ⟨⟨j1, j2, j3, j4, j5, j6, j7, j8, j9, j10, j11⟩, ⟨p1, p2, p3, p4, p5⟩, A⟩ := J
  refine ⟨⟨by omega, by omega, j3, D.cnt, E.cnt, D.len, by rw [D.fk 2 (by omega)]; exact j7, j8, by rw [D.fk 3 (by omega), E.fk 31 (by omega)]; exact j9, fun i hi => ?_, fun r hr => ?_⟩, ⟨p1, by rw [D.fk 5 (by omega)]; exact p2, by rw [E.fk 32 (by omega)]; exact p3, by rw [D.fk 4 (by omega), E.fk 27 (by omega)]; exact p4, by rw [D.fk 4 (by omega), D.fk 6 (by omega), E.fk 33 (by omega)]; exact p5⟩, ?_⟩
  · have b := j10 (i + 16 * 8) (by omega)
    rw [D.by_ i hi, E.by_ i hi, ← b.1]
    exact ⟨b.2.symm, b.2⟩
  · have e : be4 (u 17) (16 * r) = be4 (σ 17) (16 * (r + 8)) := by
      unfold be4
      rw [D.by_ _ (by omega), D.by_ _ (by omega), D.by_ _ (by omega), D.by_ _ (by omega)]
      rw [show 16 * r + 16 * 8 = 16 * (r + 8) by omega, show 16 * r + 1 + 16 * 8 = 16 * (r + 8) + 1 by omega, show 16 * r + 2 + 16 * 8 = 16 * (r + 8) + 2 by omega, show 16 * r + 3 + 16 * 8 = 16 * (r + 8) + 3 by omega]
    rw [e, j11 (r + 8) (by omega)]; omega
  · rw [D.fr 21 (by decide) (by decide) (by decide), E.fk 50 (by omega), E.fk 52 (by omega), E.fr 218 (by decide) (by decide)]
    exact arc_drop (c := 96) (g := 8) A j11 (by omega) (by omega) j2
abbrev cnd (w : Nat) (τ V : gS) : Prop := (∀ b, b ≠ 199 → V b = τ b) ∧ (∀ k, k ≠ 32 → k ≠ 33 → V 199 k = τ 199 k) ∧ (V 199 32 = nI (w + 1)) ∧ (V 199 33 = if τ 199 27 < 0 then τ 199 33 else if nI (w + 1) < τ 199 27 then τ 199 33 else 1)
theorem cnd.fr {w : Nat} {τ V : gS} (h : cnd w τ V) : ∀ b, b ≠ 199 → V b = τ b := h.1
theorem cnd.fk {w : Nat} {τ V : gS} (h : cnd w τ V) : ∀ k, k ≠ 32 → k ≠ 33 → V 199 k = τ 199 k := h.2.1
theorem cnd.num {w : Nat} {τ V : gS} (h : cnd w τ V) : V 199 32 = nI (w + 1) := h.2.2.1
theorem cnd.out {w : Nat} {τ V : gS} (h : cnd w τ V) : V 199 33 = if τ 199 27 < 0 then τ 199 33 else if nI (w + 1) < τ 199 27 then τ 199 33 else 1 := h.2.2.2
theorem r_count {τ : gS} {w : Nat} (e : τ 199 32 = nI w) : cnd w τ (F_X10_count τ) := by
  rw [F_X10_count_eq]
  unfold Fr_X10_count
  rw [e, nI_1]
  have k1 : pf τ 199 32 (nI (w + 1)) 199 27 = τ 199 27 := pf_i (by decide)
  simp only [k1, pf_s]
  by_cases h1 : τ 199 27 < 0
  · rw [if_pos h1]
    exact ⟨fun b h => pf_ne h, fun k h _ => pf_i h, pf_s, by rw [pf_i (by decide), if_pos h1]⟩
  · rw [if_neg h1]
    by_cases h2 : nI (w + 1) < τ 199 27
    · rw [if_pos h2]
      exact ⟨fun b h => pf_ne h, fun k h _ => pf_i h, pf_s, by rw [pf_i (by decide), if_neg h1, if_pos h2]⟩
    · rw [if_neg h2]
      exact ⟨fun b h => by rw [pf_ne h, pf_ne h], fun k h g => by rw [pf_i g, pf_i h], by rw [pf_i (by decide), pf_s], by rw [pf_s, if_neg h1, if_neg h2]⟩
/-- what a put leaves -/
def cfr (σ u : gS) : Prop := ∀ b, b ≠ 15 → b ≠ 16 → b ≠ 17 → u b = σ b
def rfr (τ : gS) (ζ : gQ) (V : gS) (z : gQ) : Prop := (∀ b, b ≠ 199 → b ≠ 216 → (b < 201 ∨ 208 < b) → V b = τ b) ∧ (∀ k, k ≠ 10 → k ≠ 29 → k ≠ 31 → k ≠ 32 → k ≠ 33 → V 199 k = τ 199 k) ∧ ∀ k, k ≠ 30 → z k = ζ k
theorem pPow_on {M w d : Nat} {x y h o q q' : Int32} (p : pPow M w d x y h o q q') (e : h = 1) : o = 0 := by
  rcases p.2.2.2.2 with ⟨_, _, z⟩ | ⟨_, _, _, _, ⟨_, _, z⟩ | ⟨_, z, _⟩⟩
  · exact z
  · exact z
  · rw [e] at z; exact absurd z (by decide)
theorem pPow_off {M w d : Nat} {x y h o q q' : Int32} (p : pPow M w d x y h o q q') (e : ¬ h = 1) : h = 0 ∧ o = 1 := by
  rcases p.2.2.2.2 with ⟨_, z, _⟩ | ⟨_, _, _, _, ⟨_, z, _⟩ | ⟨_, z, z2⟩⟩
  · exact absurd z e
  · exact absurd z e
  · exact ⟨z, z2⟩
/-- one record more, from states that agree: the end of both puts -/
theorem s_app {M si d c m w t s a b : Nat} {σ τ : gS} {ζ : gQ} {x : Int32} (J : jrn M si d σ τ ζ c m w) (hp : σ 15 6 = 1) (hc : c < 96) (hM : M < 2 ^ 20) (ht : t < 2 ^ 31) (hs : s < 2 ^ 32) (ha : a < 2 ^ 31) (hb : b < 2 ^ 31) (hx : pN x) (et : ζ 19 = lN t) :
    Q_X3_append σ (nI t) (nI a) (nI b) x (nI s) ∧ Q_X10_lay_ τ ζ (nI a) (nI b) x (lN s) ∧ jrn (M + 1) si d (F_X3_append σ (nI t) (nI a) (nI b) x (nI s)) (F_X10_count (F_X10_lay_ τ ζ (nI a) (nI b) x (lN s)).1) (F_X10_lay_ τ ζ (nI a) (nI b) x (lN s)).2 (c + 1) (m + 1) (w + 1) ∧ cfr σ (F_X3_append σ (nI t) (nI a) (nI b) x (nI s)) ∧ F_X3_append σ (nI t) (nI a) (nI b) x (nI s) 15 4 = σ 15 4 ∧ (∀ b', b' ≠ 199 → b' ≠ 216 → F_X10_count (F_X10_lay_ τ ζ (nI a) (nI b) x (lN s)).1 b' = τ b') ∧ (∀ k, k ≠ 29 → k ≠ 32 → k ≠ 33 → F_X10_count (F_X10_lay_ τ ζ (nI a) (nI b) x (lN s)).1 199 k = τ 199 k) ∧ ∀ k, k ≠ 30 → (F_X10_lay_ τ ζ (nI a) (nI b) x (lN s)).2 k = ζ k := by
  have J0 := J
  obtain ⟨⟨j1, j2, j3, j4, j5, j6, j7, j8, j9, j10, j11⟩, ⟨p1, p2, p3, p4, p5⟩, A⟩ := J
  obtain ⟨q1, P⟩ := c_append (σ := σ) (c := c) (m := m) (v := w + d) (t := t) (s := s) (nI a) (nI b) x hc (by omega) (by omega) hs j4 j7 p2 j6
  obtain ⟨q2, L⟩ := r_lay (τ := τ) (ζ := ζ) (c := c) (m := m) (t := t) (w := a) (b := b) (s := s) (x := x) (by omega) (by omega) (by omega) ha hb (by omega) hx j5 j8 et
  generalize F_X10_lay_ τ ζ (nI a) (nI b) x (lN s) = l at L ⊢
  have C := r_count (τ := l.1) (w := w) (by rw [L.fk 32 (by omega)]; exact p3)
  refine ⟨q1, q2, ?_, P.fr, P.cut, fun b' h1 h2 => (C.fr b' h1).trans (L.fr b' h1 h2), fun k h1 h2 h3 => (C.fk k h2 h3).trans (L.fk k h1), L.fz⟩
  refine jrn_app J0 hp hc hM P.cnt P.num ⟨?_, ?_⟩ P.cut P.wr P.pow P.len P.by_ (P.fr 21 (by decide) (by decide) (by decide)) ?_ ?_ C.num ?_ ?_ ?_ ?_ ?_ L.num
  · rw [P.al, C.fk 31 (by omega) (by omega), L.fk 31 (by omega)]; exact j9.1
  · rw [P.al]; exact j9.2
  · rw [C.fk 29 (by omega) (by omega)]; exact L.cnt
  · rw [C.fk 27 (by omega) (by omega), L.fk 27 (by omega)]
  · rw [C.out, L.fk 27 (by omega), L.fk 33 (by omega)]
  · intro i; rw [C.fr 216 (by decide)]; exact L.by_ i
  · rw [C.fk 50 (by omega) (by omega), L.fk 50 (by omega)]
  · rw [C.fk 52 (by omega) (by omega), L.fk 52 (by omega)]
  · rw [C.fr 218 (by decide), L.fr 218 (by decide) (by decide)]
/-- the whole of put behind the serial number -/
theorem s_put34 {M si d c m w t s a b : Nat} {σ τ : gS} {ζ : gQ} {x : Int32} (J : jrn M si d σ τ ζ c m w) (hp : σ 15 6 = 1) (hM : M < 2 ^ 20 - 2) (ht : t < 2 ^ 31) (hs : s < 2 ^ 32) (ha : a < 2 ^ 31) (hb : b < 2 ^ 31) (hx : pN x) (et : ζ 19 = lN t) :
    Q_X3_write σ (nI t) (nI a) (nI b) x (nI s) ∧ QJ_X10_put__34 (nI a) (nI b) x (lN s) τ ζ ∧ (((F_X3_write σ (nI t) (nI a) (nI b) x (nI s)).1 = 1 ∧ (J_X10_put__34 (nI a) (nI b) x (lN s) τ ζ).1 = 1) ∨ ((F_X3_write σ (nI t) (nI a) (nI b) x (nI s)).1 = 0 ∧ (J_X10_put__34 (nI a) (nI b) x (lN s) τ ζ).1 = 0 ∧ (F_X3_write σ (nI t) (nI a) (nI b) x (nI s)).2 15 6 = 0)) ∧ (∃ c' m' w', jrn (M + 2) si d (F_X3_write σ (nI t) (nI a) (nI b) x (nI s)).2 (J_X10_put__34 (nI a) (nI b) x (lN s) τ ζ).2.1 (J_X10_put__34 (nI a) (nI b) x (lN s) τ ζ).2.2 c' m' w' ∧ 0 < c') ∧ cfr σ (F_X3_write σ (nI t) (nI a) (nI b) x (nI s)).2 ∧ (F_X3_write σ (nI t) (nI a) (nI b) x (nI s)).2 15 4 = σ 15 4 ∧ (∀ b', b' ≠ 199 → b' ≠ 216 → (J_X10_put__34 (nI a) (nI b) x (lN s) τ ζ).2.1 b' = τ b') ∧ (∀ k, k ≠ 29 → k ≠ 31 → k ≠ 32 → k ≠ 33 → (J_X10_put__34 (nI a) (nI b) x (lN s) τ ζ).2.1 199 k = τ 199 k) ∧ ∀ k, k ≠ 30 → (J_X10_put__34 (nI a) (nI b) x (lN s) τ ζ).2.2 k = ζ k := by
  have J0 := J
  obtain ⟨⟨j1, j2, j3, j4, j5, j6, j7, j8, j9, j10, j11⟩, ⟨p1, p2, p3, p4, p5⟩, A⟩ := J
  rw [F_X3_write_eq]
  unfold Q_X3_write Fr_X3_write QJ_X10_put__34 J_X10_put__34 QJ_X10_put__78 J_X10_put__78
  have n6 : ¬ σ 15 6 = 0 := by rw [hp]; decide
  rw [j4, j5]
  by_cases hc : c < 96
  · have c1 : nI c < (96 : Int32) := nI_lt (b := 96) hc (by decide)
    have c2 : ¬ nI c = (96 : Int32) := fun z => absurd ((nI_eq (b := 96) (by omega) (by decide)).mp z) (by omega)
    obtain ⟨q1, q2, JJ, f1, f2, f3, f4, f5⟩ := s_app J0 hp hc (by omega) ht hs ha hb hx et
    simp only [if_neg n6, if_pos c1, if_neg c2]
    exact ⟨⟨q1, trivial⟩, ⟨q2, trivial⟩, Or.inl ⟨trivial, trivial⟩, ⟨c + 1, m + 1, w + 1, jrn_mono JJ (by omega), by omega⟩, f1, f2, f3, fun k h1 h2 h3 h4 => f4 k h1 h3 h4, f5⟩
  · have e96 : c = 96 := by omega
    subst e96
    have c1 : ¬ nI 96 < (96 : Int32) := nI_nlt (a := 96) (b := 96) (by omega) (by decide)
    have c2 : nI 96 = (96 : Int32) := rfl
    simp only [if_neg n6, if_neg c1, if_pos c2]
    obtain ⟨q1, D⟩ : Q_X3_dropOldest σ 8 ∧ dpd 96 8 σ (F_X3_dropOldest σ 8) := c_dropN (g := 8) (by omega) (by omega) j4 j6
    obtain ⟨q2, E⟩ : Q_X10_drop τ 8 ∧ rdp 96 8 τ (F_X10_drop τ 8) := r_drop (g := 8) (by omega) (by omega) j5
    have J1 := jrn_drop J0 D E
    generalize F_X3_dropOldest σ 8 = u1 at D J1 ⊢
    generalize F_X10_drop τ 8 = V1 at E J1 ⊢
    have hp1 : u1 15 6 = 1 := by rw [D.fk 6 (by omega)]; exact hp
    have k1 := J1
    obtain ⟨⟨i1, i2, i3, i4, i5, i6, i7, i8, i9, i10, i11⟩, ⟨o1, o2, o3, o4, o5⟩, A1⟩ := k1
    -- the record of the lost block
    obtain ⟨q3, P⟩ : Q_X3_append (pf u1 15 3 1) (nI t) 30 2 (-1) 0 ∧ apd 88 m (w + d) t (nI 30) (nI 2) (-1) 0 (pf u1 15 3 1) (F_X3_append (pf u1 15 3 1) (nI t) 30 2 (-1) 0) := c_append (σ := pf u1 15 3 1) (c := 88) (m := m) (v := w + d) (t := t) (s := 0) (nI 30) (nI 2) (-1) (by omega) (by omega) (by omega) (by omega) ((pf_i (by decide)).trans i4) ((pf_i (by decide)).trans i7) ((pf_i (by decide)).trans o2) ((congrFun (pf_ne (by decide)) 1).trans i6)
    obtain ⟨q4, L⟩ : Q_X10_lay_ V1 ζ 30 2 (-1) 0 ∧ lyd 88 m t (nI 30) (nI 2) (-1) 0 V1 (F_X10_lay_ V1 ζ 30 2 (-1) 0).1 ζ (F_X10_lay_ V1 ζ 30 2 (-1) 0).2 := r_lay (τ := V1) (ζ := ζ) (c := 88) (m := m) (t := t) (w := 30) (b := 2) (s := 0) (x := -1) (by omega) (by omega) (by omega) (by omega) (by omega) (by omega) (Or.inl rfl) i5 i8 et
    generalize F_X10_lay_ V1 ζ 30 2 (-1) 0 = l at L ⊢
    have C := r_count (τ := pf l.1 199 31 1) (w := w) (by rw [pf_i (by decide), L.fk 32 (by omega)]; exact o3)
    generalize F_X3_append (pf u1 15 3 1) (nI t) 30 2 (-1) 0 = u2 at P ⊢
    generalize F_X10_count (pf l.1 199 31 1) = V2 at C ⊢
    have g27 : pf l.1 199 31 1 199 27 = V1 199 27 := by rw [pf_i (by decide), L.fk 27 (by omega)]
    have g33 : pf l.1 199 31 1 199 33 = V1 199 33 := by rw [pf_i (by decide), L.fk 33 (by omega)]
    have p21 : pf u1 15 3 1 21 = u1 21 := pf_ne (by decide)
    have p154 : pf u1 15 3 1 15 4 = u1 15 4 := pf_i (by decide)
    have p17 : pf u1 15 3 1 17 = u1 17 := pf_ne (by decide)
    have J2 : jrn (M + 1) si d u2 V2 l.2 89 (m + 1) (w + 1) := by
      refine jrn_app J1 hp1 (by omega) (by omega) P.cnt P.num ⟨?_, ?_⟩ ?_ P.wr ?_ P.len (fun i => by rw [← p17]; exact P.by_ i) ?_ ?_ ?_ C.num ?_ ?_ ?_ ?_ ?_ L.num
      · rw [P.al, pf_s, C.fk 31 (by omega) (by omega), pf_s]
      · rw [P.al, pf_s]; exact Or.inr rfl
      · rw [P.cut, p154]
      · rw [P.pow, p154]
      · rw [P.fr 21 (by decide) (by decide) (by decide), p21]
      · rw [C.fk 29 (by omega) (by omega), pf_i (by decide)]; exact L.cnt
      · rw [C.fk 27 (by omega) (by omega), g27]
      · rw [C.out, g27, g33]
      · intro i; rw [C.fr 216 (by decide), pf_ne (by decide)]; exact L.by_ i
      · rw [C.fk 50 (by omega) (by omega), pf_i (by decide), L.fk 50 (by omega)]
      · rw [C.fk 52 (by omega) (by omega), pf_i (by decide), L.fk 52 (by omega)]
      · rw [C.fr 218 (by decide), pf_ne (by decide), L.fr 218 (by decide) (by decide)]
    have fc : cfr σ u2 := fun b h1 h2 h3 => by rw [P.fr b h1 h2 h3, pf_ne h1, D.fr b h1 h2 h3]
    have fq : u2 15 4 = σ 15 4 := by rw [P.cut, p154, D.fk 4 (by omega)]
    have fv : ∀ b', b' ≠ 199 → b' ≠ 216 → V2 b' = τ b' := fun b h1 h2 => by rw [C.fr b h1, pf_ne h1, L.fr b h1 h2, E.fr b h1 h2]
    have fk : ∀ k, k ≠ 29 → k ≠ 31 → k ≠ 32 → k ≠ 33 → V2 199 k = τ 199 k := fun k h1 h2 h3 h4 => by rw [C.fk k h3 h4, pf_i h2, L.fk k h1, E.fk k h1]
    by_cases hq : u2 15 6 = 1
    · have h33 := pPow_on J2.2.1 hq
      have nq : ¬ u2 15 6 = 0 := by rw [hq]; decide
      have et2 : l.2 19 = lN t := by rw [L.fz 19 (by omega)]; exact et
      obtain ⟨q5, q6, JJ, f1, f2, f3, f4, f5⟩ := s_app J2 hq (by omega) (by omega) ht hs ha hb hx et2
      simp only [if_neg nq, if_pos h33]
      exact ⟨⟨q1, q3, q5, trivial⟩, ⟨q2, q4, q6, trivial⟩, Or.inl ⟨trivial, trivial⟩, ⟨90, m + 2, w + 2, JJ, by omega⟩, fun b h1 h2 h3 => (f1 b h1 h2 h3).trans (fc b h1 h2 h3), f2.trans fq, fun b h1 h2 => (f3 b h1 h2).trans (fv b h1 h2), fun k h1 h2 h3 h4 => (f4 k h1 h3 h4).trans (fk k h1 h2 h3 h4), fun k hk => (f5 k hk).trans (L.fz k hk)⟩
    · obtain ⟨h0, h33⟩ := pPow_off J2.2.1 hq
      have n33 : ¬ V2 199 33 = 0 := by rw [h33]; decide
      simp only [if_pos h0, if_neg n33]
      exact ⟨⟨q1, q3, trivial⟩, ⟨q2, q4, trivial⟩, Or.inr ⟨trivial, trivial, h0⟩, ⟨89, m + 1, w + 1, jrn_mono J2 (by omega), by omega⟩, fc, fq, fv, fk, L.fz⟩
