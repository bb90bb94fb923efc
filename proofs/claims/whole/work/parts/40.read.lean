/-! What the class's sight of a card says -/
abbrev sgc (σ τ : gS) (n t j c : Nat) : Prop := ((goodC τ n t c 0 ∧ σ j 1 = nI (be4 (rwR τ c 0) 3)) ∨ (¬ goodC τ n t c 0 ∧ σ j 1 = 0)) ∧ ((σ j 2 = 1 ∧ soundC τ n t c) ∨ (σ j 2 = 0 ∧ ¬ soundC τ n t c)) ∧ ((σ j 3 = 1 ∧ passC τ n t c) ∨ (σ j 3 = 0 ∧ ¬ passC τ n t c)) ∧ ((σ j 4 = 1 ∧ goodC τ n t c 2) ∨ (σ j 4 = 0 ∧ ¬ goodC τ n t c 2)) ∧ (goodC τ n t c 2 → σ j 5 = nI (be2 (rwR τ c 2) 21)) ∧ (goodC τ n t c 3 → σ j 6 = nI (ub (rwR τ c 3 21))) ∧ (goodC τ n t c 3 → σ j 7 = nI (ub (rwR τ c 3 22))) ∧ (goodC τ n t c 1 → σ j 8 = nI (ub (rwR τ c 1 22)))
theorem sgc.ser {σ τ : gS} {n t j c : Nat} (h : sgc σ τ n t j c) : (goodC τ n t c 0 ∧ σ j 1 = nI (be4 (rwR τ c 0) 3)) ∨ (¬ goodC τ n t c 0 ∧ σ j 1 = 0) := h.1
theorem sgc.snd {σ τ : gS} {n t j c : Nat} (h : sgc σ τ n t j c) : (σ j 2 = 1 ∧ soundC τ n t c) ∨ (σ j 2 = 0 ∧ ¬ soundC τ n t c) := h.2.1
theorem sgc.pas {σ τ : gS} {n t j c : Nat} (h : sgc σ τ n t j c) : (σ j 3 = 1 ∧ passC τ n t c) ∨ (σ j 3 = 0 ∧ ¬ passC τ n t c) := h.2.2.1
theorem sgc.fin {σ τ : gS} {n t j c : Nat} (h : sgc σ τ n t j c) : (σ j 4 = 1 ∧ goodC τ n t c 2) ∨ (σ j 4 = 0 ∧ ¬ goodC τ n t c 2) := h.2.2.2.1
theorem sgc.tmp {σ τ : gS} {n t j c : Nat} (h : sgc σ τ n t j c) : goodC τ n t c 2 → σ j 5 = nI (be2 (rwR τ c 2) 21) := h.2.2.2.2.1
theorem sgc.rol {σ τ : gS} {n t j c : Nat} (h : sgc σ τ n t j c) : goodC τ n t c 3 → σ j 6 = nI (ub (rwR τ c 3 21)) := h.2.2.2.2.2.1
theorem sgc.cls {σ τ : gS} {n t j c : Nat} (h : sgc σ τ n t j c) : goodC τ n t c 3 → σ j 7 = nI (ub (rwR τ c 3 22)) := h.2.2.2.2.2.2.1
theorem sgc.rcl {σ τ : gS} {n t j c : Nat} (h : sgc σ τ n t j c) : goodC τ n t c 1 → σ j 8 = nI (ub (rwR τ c 1 22)) := h.2.2.2.2.2.2.2
def sgt (σ τ : gS) (n t j : Nat) (x : Int32) : Prop := σ j 0 = x ∧ ((x = -1 ∧ σ j 1 = 0 ∧ σ j 2 = 0 ∧ σ j 3 = 0 ∧ σ j 4 = 0) ∨ ∃ c, c < 16 ∧ x = nI c ∧ sgc σ τ n t j c)
theorem sgc_same {σ s τ u : gS} {n t j c : Nat} (h : sgc σ τ n t j c) (e : s j = σ j) (r : sameR τ u) : sgc s u n t j c := by
  have g := fun p => goodC_same r n t c p
  have w := fun p => rwR_same r c p
  exact ⟨by rw [g, w, e]; exact h.ser, by rw [soundC_same r, e]; exact h.snd, by rw [passC_same r, e]; exact h.pas, by rw [g, e]; exact h.fin, by rw [g, w, e]; exact h.tmp, by rw [g, w, e]; exact h.rol, by rw [g, w, e]; exact h.cls, by rw [g, w, e]; exact h.rcl⟩
theorem sgt_same {σ s τ u : gS} {n t j : Nat} {x : Int32} (h : sgt σ τ n t j x) (e : s j = σ j) (r : sameR τ u) : sgt s u n t j x := by
  unfold sgt
  rw [e]
  refine ⟨h.1, ?_⟩
  rcases h.2 with z | ⟨c, h1, h2, h3⟩
  · exact Or.inl z
  · exact Or.inr ⟨c, h1, h2, sgc_same h3 e r⟩
theorem rdb {σ τ : gS} {n c p t : Nat} (O : cOk σ τ n) (hc : c < 16) (hp : p < 4) (g : goodC τ n t c p) {i : Nat} (hi : i < 39) : F_X0_byteOf σ (rwC c p) 48 (nI i) = nI (ub (rwR τ c p i)) := by
  obtain ⟨L, hL, e1, e2, hb, _⟩ := (O.crd c hc).2 p hp
  have l1 := goodC_L hL e2 g
  rw [byteOf_u hL (by decide) e1 (by omega), (hb i (by omega)).1]
theorem rdw {σ τ : gS} {n c p t : Nat} (O : cOk σ τ n) (hc : c < 16) (hp : p < 4) (g : goodC τ n t c p) {i : Nat} (hi : i + 1 < 39) : F_X0_twoAt σ (rwC c p) 48 (nI i) = nI (be2 (rwR τ c p) i) := by
  obtain ⟨L, hL, e1, e2, hb, _⟩ := (O.crd c hc).2 p hp
  have l1 := goodC_L hL e2 g
  rw [twoAt_u hL (by decide) e1 (by omega), be2_congr (L := L) (fun i hi => (hb i hi).1) (by omega)]
theorem rdq {σ τ : gS} {n c p t : Nat} (O : cOk σ τ n) (hc : c < 16) (hp : p < 4) (g : goodC τ n t c p) {i : Nat} (hi : i + 3 < 39) : F_X0_fourAt σ (rwC c p) 48 (nI i) = nI (be4 (rwR τ c p) i) := by
  obtain ⟨L, hL, e1, e2, hb, _⟩ := (O.crd c hc).2 p hp
  have l1 := goodC_L hL e2 g
  rw [fourAt_u hL (by decide) e1 (by omega), be4_congr (L := L) (fun i hi => (hb i hi).1) (by omega)]
theorem cOk_pf {σ τ : gS} {n j k : Nat} {v : Int32} (O : cOk σ τ n) (hj : j = 20 ∨ j = 22) : cOk (pf σ j k v) τ n := cOk_fr O (fun b h1 _ => pf_ne (by omega))
theorem rwC_i (c : Nat) : 23 + 11 * c + 1 + 2 + 2 * ix (0 : Int32) = rwC c 0 ∧ 23 + 11 * c + 1 + 2 + 2 * ix (1 : Int32) = rwC c 1 ∧ 23 + 11 * c + 1 + 2 + 2 * ix (2 : Int32) = rwC c 2 ∧ 23 + 11 * c + 1 + 2 + 2 * ix (3 : Int32) = rwC c 3 := by
  rw [ix0, ix1, ix2, ix3]; exact ⟨rfl, rfl, rfl, rfl⟩
/-- what the last of the steps leave -/
abbrev pst (σ s τ : gS) (n t j c : Nat) : Prop := (∀ b, (b < 8 ∨ 11 < b) → b ≠ 23 + 11 * c + 2 → b ≠ j → s b = σ b) ∧ (cOk s τ n) ∧ (goodC τ n t c 2 → s j 5 = nI (be2 (rwR τ c 2) 21)) ∧ (goodC τ n t c 3 → s j 6 = nI (ub (rwR τ c 3 21))) ∧ (goodC τ n t c 3 → s j 7 = nI (ub (rwR τ c 3 22))) ∧ (goodC τ n t c 1 → s j 8 = nI (ub (rwR τ c 1 22)))
theorem pst.fr {σ s τ : gS} {n t j c : Nat} (h : pst σ s τ n t j c) : ∀ b, (b < 8 ∨ 11 < b) → b ≠ 23 + 11 * c + 2 → b ≠ j → s b = σ b := h.1
theorem pst.ok {σ s τ : gS} {n t j c : Nat} (h : pst σ s τ n t j c) : cOk s τ n := h.2.1
theorem pst.tmp {σ s τ : gS} {n t j c : Nat} (h : pst σ s τ n t j c) : goodC τ n t c 2 → s j 5 = nI (be2 (rwR τ c 2) 21) := h.2.2.1
theorem pst.rol {σ s τ : gS} {n t j c : Nat} (h : pst σ s τ n t j c) : goodC τ n t c 3 → s j 6 = nI (ub (rwR τ c 3 21)) := h.2.2.2.1
theorem pst.cls {σ s τ : gS} {n t j c : Nat} (h : pst σ s τ n t j c) : goodC τ n t c 3 → s j 7 = nI (ub (rwR τ c 3 22)) := h.2.2.2.2.1
theorem pst.rcl {σ s τ : gS} {n t j c : Nat} (h : pst σ s τ n t j c) : goodC τ n t c 1 → s j 8 = nI (ub (rwR τ c 1 22)) := h.2.2.2.2.2
theorem c_212 {σ τ : gS} {n t j c : Nat} {u : Int32} (O : cOk σ τ n) (hj : j = 20 ∨ j = 22) (hc : c < 16) (hu : u = 0 ∨ u = 1) (p0 p4 : Int32) : QJ_X8_read_212 j c p0 p4 u σ ∧ pst σ (J_X8_read_212 j c p0 p4 u σ) τ n t j c ∧ J_X8_read_212 j c p0 p4 u σ j 0 = σ j 0 ∧ J_X8_read_212 j c p0 p4 u σ j 1 = σ j 1 ∧ J_X8_read_212 j c p0 p4 u σ j 2 = σ j 2 ∧ J_X8_read_212 j c p0 p4 u σ j 3 = u ∧ J_X8_read_212 j c p0 p4 u σ j 4 = σ j 4 := by
  unfold QJ_X8_read_212 J_X8_read_212
  obtain ⟨w0, w1, w2, w3⟩ := rwC_i c
  simp only [w0, w1, w2, w3]
  have O1 : cOk (pf σ j 3 u) τ n := cOk_pf O hj
  have r5 : goodC τ n t c 2 → F_X0_twoAt (pf σ j 3 u) (rwC c 2) 48 21 = nI (be2 (rwR τ c 2) 21) := fun g => rdw (i := 21) O1 hc (by omega) g (by omega)
  have q5 := q_twoAt (pf σ j 3 u) (rwC c 2) (N := 48) (by decide) 21
  generalize F_X0_twoAt (pf σ j 3 u) (rwC c 2) 48 21 = v5 at r5 ⊢
  have O2 : cOk (pf (pf σ j 3 u) j 5 v5) τ n := cOk_pf O1 hj
  have r6 : goodC τ n t c 3 → F_X0_byteOf (pf (pf σ j 3 u) j 5 v5) (rwC c 3) 48 21 = nI (ub (rwR τ c 3 21)) := fun g => rdb (i := 21) O2 hc (by omega) g (by omega)
  have q6 := q_byteOf (pf (pf σ j 3 u) j 5 v5) (rwC c 3) (N := 48) (by decide) 21
  generalize F_X0_byteOf (pf (pf σ j 3 u) j 5 v5) (rwC c 3) 48 21 = v6 at r6 ⊢
  have O3 : cOk (pf (pf (pf σ j 3 u) j 5 v5) j 6 v6) τ n := cOk_pf O2 hj
  have r7 : goodC τ n t c 3 → F_X0_byteOf (pf (pf (pf σ j 3 u) j 5 v5) j 6 v6) (rwC c 3) 48 22 = nI (ub (rwR τ c 3 22)) := fun g => rdb (i := 22) O3 hc (by omega) g (by omega)
  have q7 := q_byteOf (pf (pf (pf σ j 3 u) j 5 v5) j 6 v6) (rwC c 3) (N := 48) (by decide) 22
  generalize F_X0_byteOf (pf (pf (pf σ j 3 u) j 5 v5) j 6 v6) (rwC c 3) 48 22 = v7 at r7 ⊢
  have O4 : cOk (pf (pf (pf (pf σ j 3 u) j 5 v5) j 6 v6) j 7 v7) τ n := cOk_pf O3 hj
  have r8 : goodC τ n t c 1 → F_X0_byteOf (pf (pf (pf (pf σ j 3 u) j 5 v5) j 6 v6) j 7 v7) (rwC c 1) 48 22 = nI (ub (rwR τ c 1 22)) := fun g => rdb (i := 22) O4 hc (by omega) g (by omega)
  have q8 := q_byteOf (pf (pf (pf (pf σ j 3 u) j 5 v5) j 6 v6) j 7 v7) (rwC c 1) (N := 48) (by decide) 22
  generalize F_X0_byteOf (pf (pf (pf (pf σ j 3 u) j 5 v5) j 6 v6) j 7 v7) (rwC c 1) 48 22 = v8 at r8 ⊢
  refine ⟨⟨hu, q5, q6, q7, q8, trivial⟩, ⟨fun b _ _ h => by rw [pf_ne h, pf_ne h, pf_ne h, pf_ne h, pf_ne h], cOk_pf O4 hj, ?_, ?_, ?_, ?_⟩, ?_, ?_, ?_, ?_, ?_⟩ <;> simp only [pf_v, reduceIte, Nat.reduceEqDiff]
  · exact r5
  · exact r6
  · exact r7
  · exact r8
theorem pst_t {σ s u τ : gS} {n t j c : Nat} (h : ∀ b, (b < 8 ∨ 11 < b) → b ≠ 23 + 11 * c + 2 → b ≠ j → s b = σ b) (P : pst s u τ n t j c) : pst σ u τ n t j c := ⟨fun b h1 h2 h3 => (P.fr b h1 h2 h3).trans (h b h1 h2 h3), P.ok, P.tmp, P.rol, P.cls, P.rcl⟩
theorem own_eq {σ τ : gS} {n : Nat} (O : cOk σ τ n) : F_X4_ownIssuer σ = τ 199 18 := by
  rw [F_X4_ownIssuer_eq]
  unfold Fr_X4_ownIssuer
  have h7 := O.kw.1
  rw [O.kw.2.1, ix0]
  by_cases h : n = 0
  · have c : nI n ≤ 0 := nI_le (b := 0) (by omega) (by decide)
    rw [if_pos c, O.own.1 h]
  · have c : ¬ nI n ≤ 0 := nI_ge (a := 0) (by omega) (by omega)
    rw [if_neg c, O.own.2 (by omega)]
theorem c_162 {σ τ : gS} {n t j c : Nat} {y u : Int32} (O : cOk σ τ n) (hj : j = 20 ∨ j = 22) (hc : c < 16) (ht : t < 2 ^ 31) (hu : u = 0 ∨ u = 1) (hy : (y = 1 ∧ goodC τ n t c 0) ∨ (y = 0 ∧ ¬ goodC τ n t c 0)) (p0 : Int32) : QJ_X8_read_162 j c p0 (nI t) y u σ ∧ pst σ (J_X8_read_162 j c p0 (nI t) y u σ) τ n t j c ∧ J_X8_read_162 j c p0 (nI t) y u σ j 0 = σ j 0 ∧ J_X8_read_162 j c p0 (nI t) y u σ j 1 = σ j 1 ∧ J_X8_read_162 j c p0 (nI t) y u σ j 2 = u ∧ ((J_X8_read_162 j c p0 (nI t) y u σ j 3 = 1 ∧ passC τ n t c) ∨ (J_X8_read_162 j c p0 (nI t) y u σ j 3 = 0 ∧ ¬ passC τ n t c)) ∧ J_X8_read_162 j c p0 (nI t) y u σ j 4 = σ j 4 := by
  unfold QJ_X8_read_162 J_X8_read_162 QJ_X8_read_211 J_X8_read_211
  obtain ⟨w0, w1, w2, w3⟩ := rwC_i c
  simp only [w0, w3]
  have O1 : cOk (pf σ j 2 u) τ n := cOk_pf O hj
  have k0 : pf σ j 2 u j 0 = σ j 0 := pf_i (by decide)
  have k1 : pf σ j 2 u j 1 = σ j 1 := pf_i (by decide)
  have k2 : pf σ j 2 u j 2 = u := pf_s
  have k4 : pf σ j 2 u j 4 = σ j 4 := pf_i (by decide)
  have kf : ∀ b, b ≠ j → pf σ j 2 u b = σ b := fun b h => pf_ne h
  generalize pf σ j 2 u = s at O1 k0 k1 k2 k4 kf ⊢
  -- the end without a pass
  have no : ∀ s', cOk s' τ n → (∀ b, (b < 8 ∨ 11 < b) → b ≠ 23 + 11 * c + 2 → s' b = s b) → ¬ passC τ n t c → QJ_X8_read_212 j c p0 (nI t) 0 s' ∧ pst σ (J_X8_read_212 j c p0 (nI t) 0 s') τ n t j c ∧ J_X8_read_212 j c p0 (nI t) 0 s' j 0 = σ j 0 ∧ J_X8_read_212 j c p0 (nI t) 0 s' j 1 = σ j 1 ∧ J_X8_read_212 j c p0 (nI t) 0 s' j 2 = u ∧ ((J_X8_read_212 j c p0 (nI t) 0 s' j 3 = 1 ∧ passC τ n t c) ∨ (J_X8_read_212 j c p0 (nI t) 0 s' j 3 = 0 ∧ ¬ passC τ n t c)) ∧ J_X8_read_212 j c p0 (nI t) 0 s' j 4 = σ j 4 := by
    intro s' O' fr np
    obtain ⟨q, P, e0, e1, e2, e3, e4⟩ := c_212 (t := t) O' hj hc (Or.inl rfl) p0 (nI t)
    have ej := fr j (by omega) (by omega)
    rw [e0, e1, e2, e3, e4, ej]
    exact ⟨q, pst_t (fun b h1 h2 h3 => (fr b h1 h2).trans (kf b h3)) P, k0, k1, k2, Or.inr ⟨rfl, np⟩, k4⟩
  rcases hy with ⟨ey, gy⟩ | ⟨ey, gy⟩
  rotate_left
  · rw [if_pos ey, if_pos ey]
    exact ⟨⟨hu, (no s O1 (fun _ _ _ => rfl) (fun z => gy z.1)).1⟩, (no s O1 (fun _ _ _ => rfl) (fun z => gy z.1)).2⟩
  have eyn : ¬ y = 0 := by rw [ey]; decide
  rw [if_neg eyn, if_neg eyn]
  obtain ⟨q3, c3, f3, O3⟩ : Q_X8_isGood s c 3 (nI t) ∧ (((F_X8_isGood s c 3 (nI t)).1 = 1 ∧ goodC τ n t c 3) ∨ ((F_X8_isGood s c 3 (nI t)).1 = 0 ∧ ¬ goodC τ n t c 3)) ∧ (∀ b, (b < 8 ∨ 11 < b) → b ≠ 23 + 11 * c + 2 → (F_X8_isGood s c 3 (nI t)).2 b = s b) ∧ cOk (F_X8_isGood s c 3 (nI t)).2 τ n := c_good (p := 3) O1 hc (by omega) ht
  generalize F_X8_isGood s c 3 (nI t) = g at c3 f3 O3 ⊢
  rcases c3 with ⟨e3, c3⟩ | ⟨e3, c3⟩
  rotate_left
  · rw [if_pos e3, if_pos e3]
    have z := no g.2 O3 f3 (fun z => c3 z.2.1)
    exact ⟨⟨hu, q3, z.1⟩, z.2⟩
  have e3n : ¬ g.1 = 0 := by rw [e3]; decide
  rw [if_neg e3n, if_neg e3n]
  obtain ⟨qh, ch⟩ := c_held (p := 3) O3 hc (by omega) gy c3
  rcases ch with ⟨eh, ch⟩ | ⟨eh, ch⟩
  rotate_left
  · rw [if_pos eh, if_pos eh]
    have z := no g.2 O3 f3 (fun z => ch z.2.2.1)
    exact ⟨⟨hu, q3, qh, z.1⟩, z.2⟩
  have ehn : ¬ F_X8_isHeldBy g.2 (rwC c 3) 48 (rwC c 0) 48 = 0 := by rw [eh]; decide
  rw [if_neg ehn, if_neg ehn]
  have et : F_X0_twoAt g.2 (rwC c 3) 48 1 = nI (be2 (rwR τ c 3) 1) := rdw (i := 1) O3 hc (by omega) c3 (by omega)
  have eo := own_eq O3
  rw [et, eo]
  have q2 := q_twoAt g.2 (rwC c 3) (N := 48) (by decide) 1
  by_cases h1 : nI (be2 (rwR τ c 3) 1) = τ 199 18
  rotate_left
  · rw [if_neg h1, if_neg h1]
    have z := no g.2 O3 f3 (fun z => h1 z.2.2.2)
    exact ⟨⟨hu, q3, qh, q2, z.1⟩, z.2⟩
  rw [if_pos h1, if_pos h1]
  obtain ⟨q, P, e0, e1, e2, e3', e4⟩ := c_212 (t := t) O3 hj hc (Or.inr rfl) p0 (nI t)
  have ej := f3 j (by omega) (by omega)
  rw [e0, e1, e2, e3', e4, ej]
  exact ⟨⟨hu, q3, qh, q2, q⟩, pst_t (fun b h1 h2 h3 => (f3 b h1 h2).trans (kf b h3)) P, k0, k1, k2, Or.inl ⟨rfl, gy, c3, ch, h1⟩, k4⟩
theorem c_116 {σ τ : gS} {n t j c : Nat} {y y' u : Int32} (O : cOk σ τ n) (hj : j = 20 ∨ j = 22) (hc : c < 16) (ht : t < 2 ^ 31) (hy : (y = 1 ∧ goodC τ n t c 0) ∨ (y = 0 ∧ ¬ goodC τ n t c 0)) (hy' : (y' = 1 ∧ goodC τ n t c 1) ∨ (y' = 0 ∧ ¬ goodC τ n t c 1)) (h4 : (σ j 4 = 1 ∧ goodC τ n t c 2) ∨ (σ j 4 = 0 ∧ ¬ goodC τ n t c 2)) (p0 : Int32) : QJ_X8_read_116 j c p0 (nI t) y y' u σ ∧ pst σ (J_X8_read_116 j c p0 (nI t) y y' u σ) τ n t j c ∧ J_X8_read_116 j c p0 (nI t) y y' u σ j 0 = σ j 0 ∧ J_X8_read_116 j c p0 (nI t) y y' u σ j 1 = u ∧ ((J_X8_read_116 j c p0 (nI t) y y' u σ j 2 = 1 ∧ soundC τ n t c) ∨ (J_X8_read_116 j c p0 (nI t) y y' u σ j 2 = 0 ∧ ¬ soundC τ n t c)) ∧ ((J_X8_read_116 j c p0 (nI t) y y' u σ j 3 = 1 ∧ passC τ n t c) ∨ (J_X8_read_116 j c p0 (nI t) y y' u σ j 3 = 0 ∧ ¬ passC τ n t c)) ∧ J_X8_read_116 j c p0 (nI t) y y' u σ j 4 = σ j 4 := by
  unfold QJ_X8_read_116 J_X8_read_116 QJ_X8_read_161 J_X8_read_161
  obtain ⟨w0, w1, w2, w3⟩ := rwC_i c
  simp only [w0, w1, w2]
  have O1 : cOk (pf σ j 1 u) τ n := cOk_pf O hj
  have k0 : pf σ j 1 u j 0 = σ j 0 := pf_i (by decide)
  have k1 : pf σ j 1 u j 1 = u := pf_s
  have k4 : pf σ j 1 u j 4 = σ j 4 := pf_i (by decide)
  have kf : ∀ b, b ≠ j → pf σ j 1 u b = σ b := fun b h => pf_ne h
  generalize pf σ j 1 u = s at O1 k0 k1 k4 kf ⊢
  rw [k4]
  have go : ∀ v : Int32, (v = 1 ∧ soundC τ n t c) ∨ (v = 0 ∧ ¬ soundC τ n t c) → QJ_X8_read_162 j c p0 (nI t) y v s ∧ pst σ (J_X8_read_162 j c p0 (nI t) y v s) τ n t j c ∧ J_X8_read_162 j c p0 (nI t) y v s j 0 = σ j 0 ∧ J_X8_read_162 j c p0 (nI t) y v s j 1 = u ∧ ((J_X8_read_162 j c p0 (nI t) y v s j 2 = 1 ∧ soundC τ n t c) ∨ (J_X8_read_162 j c p0 (nI t) y v s j 2 = 0 ∧ ¬ soundC τ n t c)) ∧ ((J_X8_read_162 j c p0 (nI t) y v s j 3 = 1 ∧ passC τ n t c) ∨ (J_X8_read_162 j c p0 (nI t) y v s j 3 = 0 ∧ ¬ passC τ n t c)) ∧ J_X8_read_162 j c p0 (nI t) y v s j 4 = σ j 4 := by
    intro v hv
    obtain ⟨q, P, e0, e1, e2, e3, e4⟩ := c_162 (u := v) O1 hj hc ht (hv.elim (fun z => Or.inr z.1) (fun z => Or.inl z.1)) hy p0
    rw [e0, e1, e2, e4]
    exact ⟨q, pst_t (fun b h1 h2 h3 => kf b h3) P, k0, k1, hv, e3, k4⟩
  rcases hy with ⟨ey, gy⟩ | ⟨ey, gy⟩
  rotate_left
  · rw [if_pos ey, if_pos ey]; exact go 0 (Or.inr ⟨rfl, fun z => gy z.1⟩)
  have eyn : ¬ y = 0 := by rw [ey]; decide
  rw [if_neg eyn, if_neg eyn]
  rcases hy' with ⟨ey', gy'⟩ | ⟨ey', gy'⟩
  rotate_left
  · rw [if_pos ey', if_pos ey']; exact go 0 (Or.inr ⟨rfl, fun z => gy' z.2.1⟩)
  have eyn' : ¬ y' = 0 := by rw [ey']; decide
  rw [if_neg eyn', if_neg eyn']
  rcases h4 with ⟨e4, g4⟩ | ⟨e4, g4⟩
  rotate_left
  · rw [if_pos e4, if_pos e4]; exact go 0 (Or.inr ⟨rfl, fun z => g4 z.2.2.1⟩)
  have e4n : ¬ σ j 4 = 0 := by rw [e4]; decide
  rw [if_neg e4n, if_neg e4n]
  obtain ⟨qh, ch⟩ := c_held (p := 1) O1 hc (by omega) gy gy'
  rcases ch with ⟨eh, ch⟩ | ⟨eh, ch⟩
  rotate_left
  · rw [if_pos eh, if_pos eh]
    have z := go 0 (Or.inr ⟨rfl, fun z => ch z.2.2.2.1⟩)
    exact ⟨⟨qh, z.1⟩, z.2⟩
  have ehn : ¬ F_X8_isHeldBy s (rwC c 1) 48 (rwC c 0) 48 = 0 := by rw [eh]; decide
  rw [if_neg ehn, if_neg ehn]
  obtain ⟨qk, ck⟩ := c_held (p := 2) O1 hc (by omega) gy g4
  rcases ck with ⟨ek, ck⟩ | ⟨ek, ck⟩
  rotate_left
  · rw [if_pos ek, if_pos ek]
    have z := go 0 (Or.inr ⟨rfl, fun z => ck z.2.2.2.2⟩)
    exact ⟨⟨qh, qk, z.1⟩, z.2⟩
  have ekn : ¬ F_X8_isHeldBy s (rwC c 2) 48 (rwC c 0) 48 = 0 := by rw [ek]; decide
  rw [if_neg ekn, if_neg ekn]
  have z := go 1 (Or.inl ⟨rfl, gy, gy', g4, ch, ck⟩)
  exact ⟨⟨qh, qk, z.1⟩, z.2⟩
theorem c_read {σ τ : gS} {n t j c : Nat} (O : cOk σ τ n) (hj : j = 20 ∨ j = 22) (hc : c < 16) (ht : t < 2 ^ 31) (x : Int32) : Q_X8_read σ j c x (nI t) ∧ (∀ b, (b < 8 ∨ 11 < b) → b ≠ 23 + 11 * c + 2 → b ≠ j → F_X8_read σ j c x (nI t) b = σ b) ∧ cOk (F_X8_read σ j c x (nI t)) τ n ∧ F_X8_read σ j c x (nI t) j 0 = x ∧ sgc (F_X8_read σ j c x (nI t)) τ n t j c := by
  rw [F_X8_read_eq]
  unfold Q_X8_read Fr_X8_read
  obtain ⟨w0, w1, w2, w3⟩ := rwC_i c
  simp only [w0]
  have O5 : cOk (pf (pf (pf (pf (pf σ j 0 x) j 1 0) j 2 0) j 3 0) j 4 0) τ n := cOk_pf (cOk_pf (cOk_pf (cOk_pf (cOk_pf O hj) hj) hj) hj) hj
  have k0 : pf (pf (pf (pf (pf σ j 0 x) j 1 0) j 2 0) j 3 0) j 4 0 j 0 = x := by rw [pf_i (by decide), pf_i (by decide), pf_i (by decide), pf_i (by decide), pf_s]
  have kf : ∀ b, b ≠ j → pf (pf (pf (pf (pf σ j 0 x) j 1 0) j 2 0) j 3 0) j 4 0 b = σ b := fun b h => by rw [pf_ne h, pf_ne h, pf_ne h, pf_ne h, pf_ne h]
  generalize pf (pf (pf (pf (pf σ j 0 x) j 1 0) j 2 0) j 3 0) j 4 0 = s at O5 k0 kf ⊢
  obtain ⟨q0, c0, f0, O0⟩ : Q_X8_isGood s c 0 (nI t) ∧ (((F_X8_isGood s c 0 (nI t)).1 = 1 ∧ goodC τ n t c 0) ∨ ((F_X8_isGood s c 0 (nI t)).1 = 0 ∧ ¬ goodC τ n t c 0)) ∧ (∀ b, (b < 8 ∨ 11 < b) → b ≠ 23 + 11 * c + 2 → (F_X8_isGood s c 0 (nI t)).2 b = s b) ∧ cOk (F_X8_isGood s c 0 (nI t)).2 τ n := c_good (p := 0) O5 hc (by omega) ht
  generalize F_X8_isGood s c 0 (nI t) = g0 at c0 f0 O0 ⊢
  obtain ⟨q2, c2, f2, O2⟩ : Q_X8_isGood g0.2 c 2 (nI t) ∧ (((F_X8_isGood g0.2 c 2 (nI t)).1 = 1 ∧ goodC τ n t c 2) ∨ ((F_X8_isGood g0.2 c 2 (nI t)).1 = 0 ∧ ¬ goodC τ n t c 2)) ∧ (∀ b, (b < 8 ∨ 11 < b) → b ≠ 23 + 11 * c + 2 → (F_X8_isGood g0.2 c 2 (nI t)).2 b = g0.2 b) ∧ cOk (F_X8_isGood g0.2 c 2 (nI t)).2 τ n := c_good (p := 2) O0 hc (by omega) ht
  generalize F_X8_isGood g0.2 c 2 (nI t) = g2 at c2 f2 O2 ⊢
  have b2 : g2.1 = 0 ∨ g2.1 = 1 := c2.elim (fun z => Or.inr z.1) (fun z => Or.inl z.1)
  have O3 : cOk (pf g2.2 j 4 g2.1) τ n := cOk_pf O2 hj
  have m0 : pf g2.2 j 4 g2.1 j 0 = x := by rw [pf_i (by decide), f2 j (by omega) (by omega), f0 j (by omega) (by omega), k0]
  have m4 : pf g2.2 j 4 g2.1 j 4 = g2.1 := pf_s
  have mf : ∀ b, (b < 8 ∨ 11 < b) → b ≠ 23 + 11 * c + 2 → b ≠ j → pf g2.2 j 4 g2.1 b = σ b := fun b h1 h2 h3 => by rw [pf_ne h3, f2 b h1 h2, f0 b h1 h2, kf b h3]
  generalize pf g2.2 j 4 g2.1 = s2 at O3 m0 m4 mf ⊢
  obtain ⟨q1, c1, f1, O1⟩ : Q_X8_isGood s2 c 1 (nI t) ∧ (((F_X8_isGood s2 c 1 (nI t)).1 = 1 ∧ goodC τ n t c 1) ∨ ((F_X8_isGood s2 c 1 (nI t)).1 = 0 ∧ ¬ goodC τ n t c 1)) ∧ (∀ b, (b < 8 ∨ 11 < b) → b ≠ 23 + 11 * c + 2 → (F_X8_isGood s2 c 1 (nI t)).2 b = s2 b) ∧ cOk (F_X8_isGood s2 c 1 (nI t)).2 τ n := c_good (p := 1) O3 hc (by omega) ht
  generalize F_X8_isGood s2 c 1 (nI t) = g1 at c1 f1 O1 ⊢
  have ej := f1 j (by omega) (by omega)
  have h4 : (g1.2 j 4 = 1 ∧ goodC τ n t c 2) ∨ (g1.2 j 4 = 0 ∧ ¬ goodC τ n t c 2) := by rw [ej, m4]; exact c2
  have fin : ∀ u : Int32, ((goodC τ n t c 0 ∧ u = nI (be4 (rwR τ c 0) 3)) ∨ (¬ goodC τ n t c 0 ∧ u = 0)) → QJ_X8_read_116 j c x (nI t) g0.1 g1.1 u g1.2 ∧ (∀ b, (b < 8 ∨ 11 < b) → b ≠ 23 + 11 * c + 2 → b ≠ j → J_X8_read_116 j c x (nI t) g0.1 g1.1 u g1.2 b = σ b) ∧ cOk (J_X8_read_116 j c x (nI t) g0.1 g1.1 u g1.2) τ n ∧ J_X8_read_116 j c x (nI t) g0.1 g1.1 u g1.2 j 0 = x ∧ sgc (J_X8_read_116 j c x (nI t) g0.1 g1.1 u g1.2) τ n t j c := by
    intro u hu
    obtain ⟨q, P, e0, e1, e2, e3, e4⟩ := c_116 (u := u) O1 hj hc ht c0 c1 h4 x
    refine ⟨q, fun b h1 h2 h3 => ((P.fr b h1 h2 h3).trans (f1 b h1 h2)).trans (mf b h1 h2 h3), P.ok, by rw [e0, ej, m0], ⟨by rw [e1]; exact hu, e2, e3, by rw [e4]; exact h4, P.tmp, P.rol, P.cls, P.rcl⟩⟩
  rcases c0 with ⟨e0, g⟩ | ⟨e0, g⟩
  · have e0n : ¬ g0.1 = 0 := by rw [e0]; decide
    rw [if_neg e0n, if_neg e0n]
    have z := fin _ (Or.inl ⟨g, rdq (i := 3) O1 hc (by omega) g (by omega)⟩)
    exact ⟨⟨q0, q2, b2, q1, q_fourAt g1.2 (rwC c 0) (N := 48) (by decide) 3, z.1⟩, z.2⟩
  · rw [if_pos e0, if_pos e0]
    have z := fin 0 (Or.inr ⟨g, rfl⟩)
    exact ⟨⟨q0, q2, b2, q1, z.1⟩, z.2⟩
theorem isCard_c {c : Nat} (h : c < 16) : F_X9_isCard (nI c) = 1 := by
  rw [F_X9_isCard_eq]; unfold Fr_X9_isCard
  rw [if_neg (nI_pos (by omega)), if_neg (show ¬ (16 : Int32) ≤ nI c from nI_ge (b := 16) h (by decide))]
theorem isCard_or (x : Int32) : (F_X9_isCard x = 0 ∧ ∀ c, c < 16 → ¬ x = nI c) ∨ (F_X9_isCard x = 1 ∧ ∃ c, c < 16 ∧ x = nI c) := by
  by_cases h : ∃ c, c < 16 ∧ x = nI c
  · obtain ⟨c, hc, rfl⟩ := h
    exact Or.inr ⟨isCard_c hc, c, hc, rfl⟩
  · refine Or.inl ⟨?_, fun c hc z => h ⟨c, hc, z⟩⟩
    rw [F_X9_isCard_eq]; unfold Fr_X9_isCard
    by_cases h0 : x < 0
    · rw [if_pos h0]
    · obtain ⟨m, hm, rfl⟩ := nI_of h0
      rw [if_neg h0, if_pos]
      exact nI_le (a := 16) (Nat.not_lt.mp (fun z => h ⟨m, z, rfl⟩)) hm
/-- one sight: what is read if there is a card, what is left -/
theorem c_sight {σ τ : gS} {n t j : Nat} (O : cOk σ τ n) (hj : j = 20 ∨ j = 22) (ht : t < 2 ^ 31) (x : Int32) : (F_X9_isCard x = 0 ∧ (∀ b, b ≠ j → F_X8_readN σ j x (nI t) b = σ b) ∧ cOk (F_X8_readN σ j x (nI t)) τ n ∧ (pN x → sgt (F_X8_readN σ j x (nI t)) τ n t j x)) ∨ (¬ F_X9_isCard x = 0 ∧ vp_in x 16 ∧ Q_X8_read σ j (ix x) x (nI t) ∧ (∀ b, (b < 8 ∨ 11 < b) → b < 23 → b ≠ j → F_X8_read σ j (ix x) x (nI t) b = σ b) ∧ cOk (F_X8_read σ j (ix x) x (nI t)) τ n ∧ sgt (F_X8_read σ j (ix x) x (nI t)) τ n t j x) := by
  rcases isCard_or x with ⟨e, h⟩ | ⟨e, c, hc, rfl⟩
  · refine Or.inl ⟨e, ?_⟩
    rw [F_X8_readN_eq]; unfold Fr_X8_readN
    simp only
    refine ⟨fun b h => by rw [pf_ne h, pf_ne h, pf_ne h, pf_ne h, pf_ne h], cOk_pf (cOk_pf (cOk_pf (cOk_pf (cOk_pf O hj) hj) hj) hj) hj, fun p => ?_⟩
    have ex : x = -1 := by
      rcases p with z | ⟨c, hc, z⟩
      · exact z
      · exact absurd z (h c hc)
    refine ⟨?_, Or.inl ⟨ex, ?_, ?_, ?_, ?_⟩⟩ <;> simp only [pf_v, reduceIte, Nat.reduceEqDiff]
  · refine Or.inr ⟨by rw [e]; decide, vp_in_nI hc (by decide), ?_⟩
    rw [ix_n (by omega)]
    obtain ⟨q, f, O', e0, S⟩ := c_read O hj hc ht (nI c)
    exact ⟨q, fun b h1 h2 h3 => f b h1 (by omega) h3, O', e0, Or.inr ⟨c, hc, rfl, S⟩⟩
/-- both sights -/
theorem c_readCards {σ τ : gS} {n t : Nat} (O : cOk σ τ n) (ht : t < 2 ^ 31) (e : σ 0 10 = nI t) : Q_X9_readCards σ ∧ (∀ b, (b < 8 ∨ 11 < b) → b < 23 → b ≠ 20 → b ≠ 22 → F_X9_readCards σ b = σ b) ∧ cOk (F_X9_readCards σ) τ n ∧ (∀ x, (if σ 19 1 = 0 then σ 0 4 else σ 19 3) = x → pN x → sgt (F_X9_readCards σ) τ n t 20 x) ∧ (∀ x, (if σ 21 1 = 2 ∧ σ 21 4 = -1 then σ 0 5 else σ 21 3) = x → pN x → sgt (F_X9_readCards σ) τ n t 22 x) := by
  have st2 : ∀ s : gS, cOk s τ n → s 0 10 = nI t → ∀ x, QJ_X9_readCards_111 x s ∧ (∀ b, (b < 8 ∨ 11 < b) → b < 23 → b ≠ 22 → J_X9_readCards_111 x s b = s b) ∧ cOk (J_X9_readCards_111 x s) τ n ∧ (pN x → sgt (J_X9_readCards_111 x s) τ n t 22 x) := by
    intro s O' es x
    unfold QJ_X9_readCards_111 J_X9_readCards_111
    rw [es]
    rcases c_sight O' (Or.inr rfl) ht x with ⟨h0, h1, h2, h3⟩ | ⟨h0, h1, h2, h3, h4, h5⟩
    · rw [if_pos h0, if_pos h0]; exact ⟨trivial, fun b _ _ h => h1 b h, h2, h3⟩
    · rw [if_neg h0, if_neg h0]; exact ⟨⟨h1, h2, trivial⟩, h3, h4, fun _ => h5⟩
  have mid : ∀ s : gS, cOk s τ n → s 0 10 = nI t → s 0 = σ 0 → s 21 = σ 21 → (∀ b, (b < 8 ∨ 11 < b) → b < 23 → b ≠ 20 → s b = σ b) → ∀ y, (pN y → sgt s τ n t 20 y) → (if (s 21 1) = (2 : Int32) then (if (s 21 4) = (-1 : Int32) then QJ_X9_readCards_92 (1 : Int32) s else QJ_X9_readCards_91 s) else QJ_X9_readCards_91 s) ∧ (∀ b, (b < 8 ∨ 11 < b) → b < 23 → b ≠ 20 → b ≠ 22 → (if (s 21 1) = (2 : Int32) then (if (s 21 4) = (-1 : Int32) then J_X9_readCards_92 (1 : Int32) s else J_X9_readCards_91 s) else J_X9_readCards_91 s) b = σ b) ∧ cOk (if (s 21 1) = (2 : Int32) then (if (s 21 4) = (-1 : Int32) then J_X9_readCards_92 (1 : Int32) s else J_X9_readCards_91 s) else J_X9_readCards_91 s) τ n ∧ (pN y → sgt (if (s 21 1) = (2 : Int32) then (if (s 21 4) = (-1 : Int32) then J_X9_readCards_92 (1 : Int32) s else J_X9_readCards_91 s) else J_X9_readCards_91 s) τ n t 20 y) ∧ (∀ x, (if σ 21 1 = 2 ∧ σ 21 4 = -1 then σ 0 5 else σ 21 3) = x → pN x → sgt (if (s 21 1) = (2 : Int32) then (if (s 21 4) = (-1 : Int32) then J_X9_readCards_92 (1 : Int32) s else J_X9_readCards_91 s) else J_X9_readCards_91 s) τ n t 22 x) := by
    intro s O' es e0 e21 fr y sy
    unfold QJ_X9_readCards_91 J_X9_readCards_91 QJ_X9_readCards_92 J_X9_readCards_92
    have n10 : ¬ (1 : Int32) = 0 := by decide
    simp only [if_neg n10, if_true]
    rw [e0, e21]
    have key : ∀ x, (if σ 21 1 = 2 ∧ σ 21 4 = -1 then σ 0 5 else σ 21 3) = x → QJ_X9_readCards_111 x s ∧ (∀ b, (b < 8 ∨ 11 < b) → b < 23 → b ≠ 20 → b ≠ 22 → J_X9_readCards_111 x s b = σ b) ∧ cOk (J_X9_readCards_111 x s) τ n ∧ (pN y → sgt (J_X9_readCards_111 x s) τ n t 20 y) ∧ (∀ x', (if σ 21 1 = 2 ∧ σ 21 4 = -1 then σ 0 5 else σ 21 3) = x' → pN x' → sgt (J_X9_readCards_111 x s) τ n t 22 x') := by
      intro x hx
      obtain ⟨q, f, O2, sg⟩ := st2 s O' es x
      refine ⟨q, fun b h1 h2 h3 h4 => (f b h1 h2 h4).trans (fr b h1 h2 h3), O2, fun p => sgt_same (sy p) (f 20 (by omega) (by omega) (by omega)) ⟨rfl, rfl, rfl, rfl, rfl⟩, fun x' hx' p => ?_⟩
      have : x' = x := hx'.symm.trans hx
      rw [this] at p ⊢; exact sg p
    by_cases h1 : σ 21 1 = 2
    · by_cases h2 : σ 21 4 = -1
      · have := key _ (if_pos ⟨h1, h2⟩)
        simp only [if_pos h1, if_pos h2]; simp only [h1, h2, and_self, if_true] at this ⊢; exact this
      · have := key _ (if_neg (fun z => h2 z.2))
        simp only [if_pos h1, if_neg h2]; simp only [h1, h2, and_false, if_false] at this ⊢; exact this
    · have := key _ (if_neg (fun z => h1 z.1))
      simp only [if_neg h1]; simp only [h1, false_and, if_false] at this ⊢; exact this
  rw [F_X9_readCards_eq]
  unfold Q_X9_readCards Fr_X9_readCards
  have top : ∀ y, QJ_X9_readCards_24 y σ ∧ (∀ b, (b < 8 ∨ 11 < b) → b < 23 → b ≠ 20 → b ≠ 22 → J_X9_readCards_24 y σ b = σ b) ∧ cOk (J_X9_readCards_24 y σ) τ n ∧ (pN y → sgt (J_X9_readCards_24 y σ) τ n t 20 y) ∧ (∀ x, (if σ 21 1 = 2 ∧ σ 21 4 = -1 then σ 0 5 else σ 21 3) = x → pN x → sgt (J_X9_readCards_24 y σ) τ n t 22 x) := by
    intro y
    unfold QJ_X9_readCards_24 J_X9_readCards_24 QJ_X9_readCards_50 J_X9_readCards_50
    rw [e]
    rcases c_sight O (Or.inl rfl) ht y with ⟨h0, h1, h2, h3⟩ | ⟨h0, h1, h2, h3, h4, h5⟩
    · rw [if_pos h0, if_pos h0]
      exact mid _ h2 (by rw [h1 0 (by omega)]; exact e) (h1 0 (by omega)) (h1 21 (by omega)) (fun b _ _ h => h1 b h) y h3
    · rw [if_neg h0, if_neg h0]
      have z := mid _ h4 (by rw [h3 0 (by omega) (by omega) (by omega)]; exact e) (h3 0 (by omega) (by omega) (by omega)) (h3 21 (by omega) (by omega) (by omega)) h3 y (fun _ => h5)
      exact ⟨⟨h1, h2, z.1⟩, z.2⟩
  by_cases h : σ 19 1 = 0
  · rw [if_pos h, if_pos h]
    obtain ⟨z1, z2, z3, z4, z5⟩ := top (σ 0 4)
    exact ⟨z1, z2, z3, fun x hx p => by rw [if_pos h] at hx; subst hx; exact z4 p, z5⟩
  · rw [if_neg h, if_neg h]
    obtain ⟨z1, z2, z3, z4, z5⟩ := top (σ 19 3)
    exact ⟨z1, z2, z3, fun x hx p => by rw [if_neg h] at hx; subst hx; exact z4 p, z5⟩
