/-! feed, seal, card -/
theorem IV_tape {K n so si t : Nat} {σ s τ V : gS} {ζ : gQ} (I : IVk K n so si t σ τ ζ) (F : ∀ b, b ≠ 1 → b ≠ 2 → (b < 8 ∨ 11 < b) → s b = σ b) (G : ∀ b, b ≠ 199 → b ≠ 200 → (b < 201 ∨ 209 < b) → V b = τ b) (k : ∀ j, j ≠ 1 → j ≠ 10 → V 199 j = τ 199 j) (T : pTab (V 199 10) (V 202) (V 203)) (P : pB 400 (s 1 1) (V 199 1) (s 2) (V 200)) : IVk K n so si t s V ζ := by
  have C := I.com
  refine ⟨⟨P, ?_, ?_, ?_, ?_, ?_, ?_, T, ?_⟩, ?_, ?_, ?_, ?_⟩
  · rw [F 0 (by decide) (by decide) (by decide), F 3 (by decide) (by decide) (by decide), F 4 (by decide) (by decide) (by decide), k 25 (by decide) (by decide), G 215 (by decide) (by decide) (by decide)]; exact C.disk
  · rw [F 0 (by decide) (by decide) (by decide), F 15 (by decide) (by decide) (by decide), k 20 (by decide) (by decide), k 21 (by decide) (by decide), k 22 (by decide) (by decide), k 23 (by decide) (by decide), k 26 (by decide) (by decide), k 27 (by decide) (by decide)]; exact C.see
  · rw [F 0 (by decide) (by decide) (by decide)]; exact C.now
  · rw [F 0 (by decide) (by decide) (by decide)]; exact C.ser
  · rw [F 6 (by decide) (by decide) (by decide), G 217 (by decide) (by decide) (by decide)]; exact C.set
  · rw [F 12 (by decide) (by decide) (by decide), F 13 (by decide) (by decide) (by decide), F 14 (by decide) (by decide) (by decide), k 17 (by decide) (by decide), k 18 (by decide) (by decide), G 213 (by decide) (by decide) (by decide), G 214 (by decide) (by decide) (by decide)]; exact C.key
  · have ec : (fun b => s (b + 23)) = fun b => σ (b + 23) := funext (fun b => F (b + 23) (by omega) (by omega) (by omega))
    rw [ec, G 210 (by decide) (by decide) (by decide), G 211 (by decide) (by decide) (by decide), G 212 (by decide) (by decide) (by decide), G 213 (by decide) (by decide) (by decide), G 214 (by decide) (by decide) (by decide)]; exact C.crd
  · rw [F 18 (by decide) (by decide) (by decide), F 0 (by decide) (by decide) (by decide), k 35 (by decide) (by decide), k 38 (by decide) (by decide), k 39 (by decide) (by decide)]; exact I.lat
  · rw [F 19 (by decide) (by decide) (by decide), k 42 (by decide) (by decide), k 40 (by decide) (by decide), k 43 (by decide) (by decide), k 45 (by decide) (by decide)]; exact I.out
  · rw [F 21 (by decide) (by decide) (by decide), k 46 (by decide) (by decide), k 41 (by decide) (by decide), k 47 (by decide) (by decide), k 48 (by decide) (by decide), k 49 (by decide) (by decide)]; exact I.ins
  · rw [F 15 (by decide) (by decide) (by decide), F 16 (by decide) (by decide) (by decide), F 17 (by decide) (by decide) (by decide), F 21 (by decide) (by decide) (by decide), k 29 (by decide) (by decide), k 31 (by decide) (by decide), k 50 (by decide) (by decide), k 52 (by decide) (by decide), G 216 (by decide) (by decide) (by decide), G 218 (by decide) (by decide) (by decide)]; exact I.jj
theorem shr_b8 {a i : Nat} (ha : a < 2 ^ 32) (hi : i < 4) : (nI a >>> ((24 - 8 * nI i) &&& 31)).toInt8.toInt32 = bN 4 a i := by
  rw [← b8_of_and, bW_s _ hi, bW_nI ha hi]
  unfold bN
  rw [← b8_of_and (nI (a / 2 ^ (8 * (4 - 1 - i)))), and255_nI (Nat.lt_of_le_of_lt (Nat.div_le_self _ _) ha)]
  rw [show 24 - 8 * i = 8 * (4 - 1 - i) by omega]
def yv (d : Nat) : Int32 := if d < 4 then nI (24 - 8 * d) else -8
/-- four bytes laid on the reference's tape -/
abbrev ly4 (L a : Nat) (τ V : gS) : Prop := (∀ b, b ≠ 199 → b ≠ 200 → V b = τ b) ∧ (∀ k, k ≠ 1 → V 199 k = τ 199 k) ∧ (V 199 1 = nI (L + 4)) ∧ (∀ i, V 200 i = if L ≤ i ∧ i < L + 4 then bN 4 a (i - L) else τ 200 i)
theorem ly4.fr {L a : Nat} {τ V : gS} (h : ly4 L a τ V) : ∀ b, b ≠ 199 → b ≠ 200 → V b = τ b := h.1
theorem ly4.fk {L a : Nat} {τ V : gS} (h : ly4 L a τ V) : ∀ k, k ≠ 1 → V 199 k = τ 199 k := h.2.1
theorem ly4.len {L a : Nat} {τ V : gS} (h : ly4 L a τ V) : V 199 1 = nI (L + 4) := h.2.2.1
theorem ly4.by_ {L a : Nat} {τ V : gS} (h : ly4 L a τ V) : ∀ i, V 200 i = if L ≤ i ∧ i < L + 4 then bN 4 a (i - L) else τ 200 i := h.2.2.2
theorem r_lay4 {τ : gS} {L a : Nat} (hL : L + 4 ≤ 400) (ha : a < 2 ^ 32) (e : τ 199 1 = nI L) : Q_X10_lay τ (nI a) ∧ ly4 L a τ (F_X10_lay τ (nI a)) := by
  rw [F_X10_lay_eq]
  unfold Q_X10_lay Fr_X10_lay
  exact lpF (fun f d s => QG_X10_lay_L3 (nI a) f (yv d) s ∧ ly4 L a τ (G_X10_lay_L3 (nI a) f (yv d) s)) (fun d s => (∀ b, b ≠ 199 → b ≠ 200 → s b = τ b) ∧ (∀ k, k ≠ 1 → s 199 k = τ 199 k) ∧ s 199 1 = nI (L + d) ∧ ∀ i, s 200 i = if L ≤ i ∧ i < L + d then bN 4 a (i - L) else τ 200 i) 4 (by
    intro f s h
    unfold QG_X10_lay_L3 G_X10_lay_L3
    have c1 : yv 4 < 0 := by decide
    simp only [if_pos c1]
    exact ⟨trivial, h.1, h.2.1, h.2.2.1, h.2.2.2⟩) (by
    intro f d s hd h k
    unfold QG_X10_lay_L3 G_X10_lay_L3
    have ey : yv d = nI (24 - 8 * d) := by unfold yv; rw [if_pos hd]
    have c1 : ¬ yv d < 0 := by rw [ey]; exact nI_pos (by omega)
    have e1 : yv d + Int32.ofInt (-8) = yv (d + 1) := by
      rcases (show d = 0 ∨ d = 1 ∨ d = 2 ∨ d = 3 by omega) with rfl | rfl | rfl | rfl <;> decide
    have e2 : yv d = 24 - 8 * nI d := by
      rw [ey, show (8 : Int32) = nI 8 from rfl, pk_mul, show (24 : Int32) = nI 24 from rfl, pk_sub (by omega)]
    have e3 : (nI a >>> (yv d &&& 31)).toInt8.toInt32 = bN 4 a d := by rw [e2]; exact shr_b8 ha hd
    have e4 : pf s 200 (L + d) (bN 4 a d) 199 1 = nI (L + d) := by rw [pf_ne (by decide)]; exact h.2.2.1
    simp only [if_neg c1, e1, e3, h.2.2.1, ix_n (show L + d < 2 ^ 31 by omega), b8_b8, e4, nI_1]
    have b8n : (bN 4 a d).toInt8.toInt32 = bN 4 a d := b8_b8 _
    rw [b8n]
    simp only [e4, nI_1]
    have g := k (pf (pf s 200 (L + d) (bN 4 a d)) 199 1 (nI (L + d + 1))) ⟨fun b h1 h2 => by rw [pf_ne h1, pf_ne h2]; exact h.1 b h1 h2, fun j hj => by rw [pf_i hj, pf_ne (by decide)]; exact h.2.1 j hj, pf_s, fun i => by
      rw [pf_ne (by decide), pf_v]
      by_cases ei : i = L + d
      · subst ei; rw [if_pos rfl, if_pos (by omega), Nat.add_sub_cancel_left]
      · rw [if_neg ei, h.2.2.2 i]
        by_cases hh : L ≤ i ∧ i < L + d
        · rw [if_pos hh, if_pos (by omega)]
        · rw [if_neg hh, if_neg (by omega)]⟩
    exact ⟨⟨vp_in_nI (by omega) (by decide), g.1⟩, g.2⟩) 4000 0 τ (Nat.zero_le _) (by omega) ⟨fun _ _ _ => rfl, fun _ _ => rfl, e, fun i => by rw [if_neg (by omega)]⟩
/-- the same four bytes on both tapes -/
theorem feed1 {σ τ : gS} {L : Nat} (hL : L + 4 ≤ 400) (x : Int32) (l1 : σ 1 1 = nI L) (l2 : τ 199 1 = nI L) (lb : ∀ i, i < L → σ 2 i = τ 200 i ∧ isb (σ 2 i)) :
    Q_X0_addFour σ 1 400 x ∧ Q_X10_lay τ x ∧ F_X0_addFour σ 1 400 x 1 1 = nI (L + 4) ∧ F_X10_lay τ x 199 1 = nI (L + 4) ∧ (∀ i, i < L + 4 → F_X0_addFour σ 1 400 x 2 i = F_X10_lay τ x 200 i ∧ isb (F_X0_addFour σ 1 400 x 2 i)) ∧ (∀ b, b ≠ 1 → b ≠ 2 → F_X0_addFour σ 1 400 x b = σ b) ∧ (∀ b, b ≠ 199 → b ≠ 200 → F_X10_lay τ x b = τ b) ∧ ∀ k, k ≠ 1 → F_X10_lay τ x 199 k = τ 199 k := by
  have hx := nI_of_word x
  have hl := x.toBitVec.isLt
  generalize x.toBitVec.toNat = a at hx hl
  subst hx
  obtain ⟨q1, p1⟩ := c_addF (σ := σ) (j := 1) (N := 400) (L := L) (a := a) hL (by decide) hl l1
  obtain ⟨q2, p2⟩ := r_lay4 (τ := τ) (L := L) (a := a) hL hl l2
  refine ⟨q1, q2, p1.len, p2.len, fun i hi => ?_, p1.fr, p2.fr, p2.fk⟩
  have e1 : F_X0_addFour σ 1 400 (nI a) 2 i = if L ≤ i ∧ i < L + 4 then bN 4 a (i - L) else σ 2 i := p1.by_ i
  rw [e1, p2.by_]
  by_cases h : L ≤ i ∧ i < L + 4
  · rw [if_pos h, if_pos h]; exact ⟨rfl, isb_mk _⟩
  · rw [if_neg h, if_neg h]; exact lb i (by omega)
theorem v_feed {K n so si t : Nat} {σ τ : gS} {ζ : gQ} (I : IVk K n so si t σ τ ζ) (a b c d e : Int32) : Q_X9_feed σ a b c d e ∧ Q_X10_feed τ a b c d e ∧ (F_X9_feed σ a b c d e).1 = (F_X10_feed τ a b c d e).1 ∧ IVk K n so si t (F_X9_feed σ a b c d e).2 (F_X10_feed τ a b c d e).2 ζ := by
  rw [F_X9_feed_eq, F_X10_feed_eq]
  unfold Q_X9_feed Fr_X9_feed Q_X10_feed Fr_X10_feed
  obtain ⟨L, hL, l1, l2, lb⟩ := I.com.tape
  have hr : F_X0_hasRoom σ 1 400 20 = if nI 400 - σ 1 1 < 20 then 0 else 1 := by rw [F_X0_hasRoom_eq]; rfl
  have e1 : nI 400 - nI L = nI (400 - L) := pk_sub hL
  have e2 : nI L + (20 : Int32) = nI (L + 20) := nI_add L 20
  rw [hr, l1, l2, e1, e2]
  by_cases h : L + 20 ≤ 400
  rotate_left
  · have c1 : nI (400 - L) < 20 := nI_lt (b := 20) (by omega) (by decide)
    have c2 : ¬ nI (L + 20) ≤ 400 := nI_ge (a := 400) (by omega) (by omega)
    simp only [if_pos c1, if_true, if_neg c2]
    exact ⟨trivial, trivial, trivial, I⟩
  have c1 : ¬ nI (400 - L) < 20 := nI_nlt (b := 20) (by omega) (by omega)
  have c2 : nI (L + 20) ≤ 400 := nI_le (b := 400) h (by decide)
  simp only [if_neg c1, if_neg n10, if_pos c2]
  obtain ⟨x1, y1, u1, v1, w1, f1, g1, k1⟩ := feed1 (by omega) a l1 l2 lb
  generalize F_X0_addFour σ 1 400 a = s1 at u1 w1 f1 ⊢
  generalize F_X10_lay τ a = t1 at v1 w1 g1 k1 ⊢
  obtain ⟨x2, y2, u2, v2, w2, f2, g2, k2⟩ := feed1 (by omega) b u1 v1 w1
  generalize F_X0_addFour s1 1 400 b = s2 at u2 w2 f2 ⊢
  generalize F_X10_lay t1 b = t2 at v2 w2 g2 k2 ⊢
  obtain ⟨x3, y3, u3, v3, w3, f3, g3, k3⟩ := feed1 (by omega) c u2 v2 w2
  generalize F_X0_addFour s2 1 400 c = s3 at u3 w3 f3 ⊢
  generalize F_X10_lay t2 c = t3 at v3 w3 g3 k3 ⊢
  obtain ⟨x4, y4, u4, v4, w4, f4, g4, k4⟩ := feed1 (by omega) d u3 v3 w3
  generalize F_X0_addFour s3 1 400 d = s4 at u4 w4 f4 ⊢
  generalize F_X10_lay t3 d = t4 at v4 w4 g4 k4 ⊢
  obtain ⟨x5, y5, u5, v5, w5, f5, g5, k5⟩ := feed1 (by omega) e u4 v4 w4
  generalize F_X0_addFour s4 1 400 e = s5 at u5 w5 f5 ⊢
  generalize F_X10_lay t4 e = t5 at v5 w5 g5 k5 ⊢
  have G : ∀ b, b ≠ 199 → b ≠ 200 → t5 b = τ b := fun b h1 h2 => by rw [g5 b h1 h2, g4 b h1 h2, g3 b h1 h2, g2 b h1 h2, g1 b h1 h2]
  have Kk : ∀ j, j ≠ 1 → t5 199 j = τ 199 j := fun j h => by rw [k5 j h, k4 j h, k3 j h, k2 j h, k1 j h]
  refine ⟨⟨x1, x2, x3, x4, x5, trivial⟩, ⟨y1, y2, y3, y4, y5, trivial⟩, by rw [u5, v5], ?_⟩
  refine IV_tape I (fun b h1 h2 _ => by rw [f5 b h1 h2, f4 b h1 h2, f3 b h1 h2, f2 b h1 h2, f1 b h1 h2]) (fun b h1 h2 _ => G b h1 h2) (fun j h1 _ => Kk j h1) ?_ ⟨L + 4 + 4 + 4 + 4 + 4, by omega, u5, v5, w5⟩
  rw [Kk 10 (by decide), G 202 (by decide) (by decide), G 203 (by decide) (by decide)]; exact I.com.tab
/-- one of four words -/
def pk4 (a b c d : Int32) (i : Nat) : Int32 := if i < 1 then a else if i < 2 then b else if i < 3 then c else d
/-- the reference's tape with a seal -/
abbrev sld (L : Nat) (MB : Nat → Int32) (τ V : gS) : Prop := (∀ y, y ≠ 199 → y ≠ 200 → (y < 201 ∨ 209 < y) → V y = τ y) ∧ (∀ j, j ≠ 1 → j ≠ 10 → V 199 j = τ 199 j) ∧ (pTab (V 199 10) (V 202) (V 203)) ∧ (V 199 1 = nI (L + 16)) ∧ (∀ i, V 200 i = if L ≤ i ∧ i < L + 16 then (MB (i - L)).toInt8.toInt32 else τ 200 i)
theorem sld.fr {L : Nat} {MB : Nat → Int32} {τ V : gS} (h : sld L MB τ V) : ∀ y, y ≠ 199 → y ≠ 200 → (y < 201 ∨ 209 < y) → V y = τ y := h.1
theorem sld.fk {L : Nat} {MB : Nat → Int32} {τ V : gS} (h : sld L MB τ V) : ∀ j, j ≠ 1 → j ≠ 10 → V 199 j = τ 199 j := h.2.1
theorem sld.tab {L : Nat} {MB : Nat → Int32} {τ V : gS} (h : sld L MB τ V) : pTab (V 199 10) (V 202) (V 203) := h.2.2.1
theorem sld.len {L : Nat} {MB : Nat → Int32} {τ V : gS} (h : sld L MB τ V) : V 199 1 = nI (L + 16) := h.2.2.2.1
theorem sld.by_ {L : Nat} {MB : Nat → Int32} {τ V : gS} (h : sld L MB τ V) : ∀ i, V 200 i = if L ≤ i ∧ i < L + 16 then (MB (i - L)).toInt8.toInt32 else τ 200 i := h.2.2.2.2
theorem r_seal109 {τ B : gS} {L : Nat} {MB : Nat → Int32} (h : L + 16 ≤ 400) (a b c d : Int32) (hm : ∀ k, k < 16 → B 207 k = (MB k).toInt8.toInt32) (B1 : B 199 1 = nI L) (B200 : ∀ i, B 200 i = τ 200 i) (Bf : ∀ y, y ≠ 199 → (y < 201 ∨ 209 < y) → B y = τ y) (Bk : ∀ j, j ≠ 10 → B 199 j = τ 199 j) (T : pTab (B 199 10) (B 202) (B 203)) : QG_X10_seal_L109 a b c d 4000 0 B ∧ (G_X10_seal_L109 a b c d 4000 0 B).1 = nI (L + 16) ∧ sld L MB τ (G_X10_seal_L109 a b c d 4000 0 B).2 := by
  have e2 : nI L + (16 : Int32) = nI (L + 16) := nI_add L 16
  have lp := lpF (fun f x u => QG_X10_seal_L109 a b c d f (nI x) u ∧ (G_X10_seal_L109 a b c d f (nI x) u).1 = nI (L + 16) ∧ sld L MB τ (G_X10_seal_L109 a b c d f (nI x) u).2) (fun x u => (∀ y, y ≠ 200 → u y = B y) ∧ ∀ i, u 200 i = if L ≤ i ∧ i < L + x then (MB (i - L)).toInt8.toInt32 else τ 200 i) 16 (by
    intro f u hu
    unfold QG_X10_seal_L109 G_X10_seal_L109
    have d1 : (16 : Int32) ≤ nI 16 := nI_le (a := 16) (Nat.le_refl _) (by decide)
    have u199 : u 199 = B 199 := hu.1 199 (by decide)
    have e3 : u 199 1 + 16 = nI (L + 16) := by rw [u199, B1]; exact e2
    simp only [if_pos d1, e3, pf_s]
    refine ⟨trivial, trivial, fun y h1 h2 h3 => by rw [pf_ne h1, hu.1 y h2]; exact Bf y h1 h3, fun j h1 h2 => by rw [pf_i h1, u199]; exact Bk j h2, ?_, pf_s, fun i => by rw [pf_ne (by decide)]; exact hu.2 i⟩
    rw [pf_i (by decide), pf_ne (by decide), pf_ne (by decide), u199, hu.1 202 (by decide), hu.1 203 (by decide)]; exact T) (by
    intro f x u hx hu k
    unfold QG_X10_seal_L109 G_X10_seal_L109
    have d2 : ¬ (16 : Int32) ≤ nI x := nI_ge (b := 16) hx (by decide)
    have u199 : u 199 = B 199 := hu.1 199 (by decide)
    have e3 : u 199 1 + nI x = nI (L + x) := by rw [u199, B1]; exact nI_add L x
    have e4 : (u 207 x).toInt8.toInt32 = (MB x).toInt8.toInt32 := by rw [hu.1 207 (by decide), hm x hx, b8_b8]
    simp only [if_neg d2, e3, nI_i1, ix_n (show x < 2 ^ 31 by omega), ix_n (show L + x < 2 ^ 31 by omega), e4]
    have g := k (pf u 200 (L + x) (MB x).toInt8.toInt32) ⟨fun y hy => (pf_ne hy).trans (hu.1 y hy), fun i => by
      rw [pf_v]
      by_cases ei : i = L + x
      · subst ei; rw [if_pos rfl, if_pos (by omega), Nat.add_sub_cancel_left]
      · rw [if_neg ei, hu.2 i]
        by_cases hi : L ≤ i ∧ i < L + x
        · rw [if_pos hi, if_pos (by omega)]
        · rw [if_neg hi, if_neg (by omega)]⟩
    exact ⟨⟨vp_in_nI (by omega) (by decide), vp_in_nI (by omega) (by decide), g.1⟩, g.2⟩) 4000 0 B (Nat.zero_le _) (by omega) ⟨fun _ _ => rfl, fun i => by rw [if_neg (by omega)]; exact B200 i⟩
  rw [nI_0] at lp
  exact lp
theorem r_seal18 {τ : gS} {L : Nat} {MB : Nat → Int32} (h : L + 16 ≤ 400) (a b c d : Int32) (l2 : τ 199 1 = nI L) (T : pTab (τ 199 10) (τ 202) (τ 203)) (hMB : ∀ s : gS, s 200 = τ 200 → (∀ i, i < 16 → s 209 i = (bW (pk4 a b c d (i / 4)) (i % 4)).toInt8.toInt32) → ∀ k, k < 16 → (macB (fun k => s 209 (0 + k)) (fun k => s 200 (0 + k)) L k).toInt8.toInt32 = (MB k).toInt8.toInt32) : QG_X10_seal_L18 a b c d 4000 0 τ ∧ (G_X10_seal_L18 a b c d 4000 0 τ).1 = nI (L + 16) ∧ sld L MB τ (G_X10_seal_L18 a b c d 4000 0 τ).2 := by
  have lp := lpF (fun f x s => QG_X10_seal_L18 a b c d f (nI x) s ∧ (G_X10_seal_L18 a b c d f (nI x) s).1 = nI (L + 16) ∧ sld L MB τ (G_X10_seal_L18 a b c d f (nI x) s).2) (fun x s => (∀ y, y ≠ 209 → s y = τ y) ∧ ∀ i, i < x → s 209 i = (bW (pk4 a b c d (i / 4)) (i % 4)).toInt8.toInt32) 16 (by
    intro f s hh
    unfold QG_X10_seal_L18 G_X10_seal_L18
    have d1 : (16 : Int32) ≤ nI 16 := nI_le (a := 16) (Nat.le_refl _) (by decide)
    have s1 : s 199 1 = nI L := by rw [hh.1 199 (by decide)]; exact l2
    have sT : pTab (s 199 10) (s 202) (s 203) := by rw [hh.1 199 (by decide), hh.1 202 (by decide), hh.1 203 (by decide)]; exact T
    have mb := hMB s (hh.1 200 (by decide)) hh.2
    simp only [if_pos d1, s1]
    obtain ⟨qs, v1, v2, v3, v4⟩ : Q_X10_sealOf s 209 16 200 400 0 0 (nI L) ∧ (∀ b, b ≠ 199 → (b < 201 ∨ 208 < b) → F_X10_sealOf s 209 16 200 400 0 0 (nI L) b = s b) ∧ (∀ k, k ≠ 10 → F_X10_sealOf s 209 16 200 400 0 0 (nI L) 199 k = s 199 k) ∧ pTab (F_X10_sealOf s 209 16 200 400 0 0 (nI L) 199 10) (F_X10_sealOf s 209 16 200 400 0 0 (nI L) 202) (F_X10_sealOf s 209 16 200 400 0 0 (nI L) 203) ∧ ∀ k, k < 32 → F_X10_sealOf s 209 16 200 400 0 0 (nI L) 207 k = (macB (fun k => s 209 (0 + k)) (fun k => s 200 (0 + k)) L k).toInt8.toInt32 := r_sealOf (τ := s) (ak := 209) (Nk := 16) (ar := 200) (Nr := 400) (a := 0) (o := 0) (n := L) sT (by omega) (by omega) (by omega) (by decide) (by omega) (by decide) (by omega)
    generalize F_X10_sealOf s 209 16 200 400 0 0 (nI L) = B at v1 v2 v3 v4 ⊢
    have l := r_seal109 (τ := τ) (B := B) (L := L) (MB := MB) h a b c d (fun k hk => (v4 k (by omega)).trans (mb k hk)) (by rw [v2 1 (by decide)]; exact s1) (fun i => by rw [v1 200 (by decide) (by decide), hh.1 200 (by decide)]) (fun y h1 h2 => by rw [v1 y h1 (by omega), hh.1 y (by omega)]) (fun j h1 => by rw [v2 j h1, hh.1 199 (by decide)]) v3
    exact ⟨⟨qs, l.1⟩, l.2⟩) (by
    intro f x s hx hh k
    unfold QG_X10_seal_L18 G_X10_seal_L18
    have d1 : ¬ (16 : Int32) ≤ nI x := nI_ge (b := 16) hx (by decide)
    have er : rem32 (nI x) 4 = nI (x % 4) := pk_rem (d := 4) (by omega) (by decide) (by decide)
    have v16 : vp_in (nI x) 16 := vp_in_nI hx (by decide)
    have sb : ∀ w : Int32, (w >>> (((24 : Int32) - 8 * nI (x % 4)) &&& 31)).toInt8.toInt32 = (bW w (x % 4)).toInt8.toInt32 := fun w => by rw [← b8_of_and, bW_s _ (by omega)]
    simp only [if_neg d1, er, nI_i1, ix_n (show x < 2 ^ 31 by omega), b8_b8, sb]
    have go : ∀ w : Int32, w = pk4 a b c d (x / 4) → QG_X10_seal_L18 a b c d f (nI (x + 1)) (pf s 209 x (bW w (x % 4)).toInt8.toInt32) ∧ (G_X10_seal_L18 a b c d f (nI (x + 1)) (pf s 209 x (bW w (x % 4)).toInt8.toInt32)).1 = nI (L + 16) ∧ sld L MB τ (G_X10_seal_L18 a b c d f (nI (x + 1)) (pf s 209 x (bW w (x % 4)).toInt8.toInt32)).2 := fun w hw => k (pf s 209 x (bW w (x % 4)).toInt8.toInt32) ⟨fun y hy => (pf_ne hy).trans (hh.1 y hy), fun i hi => by
      rw [pf_v]
      by_cases ei : i = x
      · subst ei; rw [if_pos rfl, hw]
      · rw [if_neg ei]; exact hh.2 i (by omega)⟩
    by_cases h4 : 4 ≤ x
    · have q4 : (4 : Int32) ≤ nI x := nI_le (a := 4) h4 (by omega)
      simp only [if_pos q4]
      by_cases h8 : 8 ≤ x
      · have q8 : (8 : Int32) ≤ nI x := nI_le (a := 8) h8 (by omega)
        simp only [if_pos q8]
        by_cases h12 : 12 ≤ x
        · have q12 : (12 : Int32) ≤ nI x := nI_le (a := 12) h12 (by omega)
          simp only [if_pos q12]
          have g := go d (by unfold pk4; rw [if_neg (by omega), if_neg (by omega), if_neg (by omega)])
          exact ⟨⟨v16, g.1⟩, g.2⟩
        · have q12 : ¬ (12 : Int32) ≤ nI x := nI_ge (b := 12) (by omega) (by decide)
          simp only [if_neg q12]
          have g := go c (by unfold pk4; rw [if_neg (by omega), if_neg (by omega), if_pos (by omega)])
          exact ⟨⟨v16, g.1⟩, g.2⟩
      · have q8 : ¬ (8 : Int32) ≤ nI x := nI_ge (b := 8) (by omega) (by decide)
        simp only [if_neg q8]
        have g := go b (by unfold pk4; rw [if_neg (by omega), if_pos (by omega)])
        exact ⟨⟨v16, g.1⟩, g.2⟩
    · have q4 : ¬ (4 : Int32) ≤ nI x := nI_ge (b := 4) (by omega) (by decide)
      simp only [if_neg q4]
      have g := go a (by unfold pk4; rw [if_pos (by omega)])
      exact ⟨⟨v16, g.1⟩, g.2⟩) 4000 0 τ (Nat.zero_le _) (by omega) ⟨fun _ _ => rfl, fun i hi => absurd hi (by omega)⟩
  rw [nI_0] at lp
  exact lp
theorem v_seal {K n so si t : Nat} {σ τ : gS} {ζ : gQ} (I : IVk K n so si t σ τ ζ) (a b c d : Int32) : Q_X9_seal σ a b c d ∧ Q_X10_seal τ a b c d ∧ (F_X9_seal σ a b c d).1 = (F_X10_seal τ a b c d).1 ∧ IVk K n so si t (F_X9_seal σ a b c d).2 (F_X10_seal τ a b c d).2 ζ := by
  rw [F_X9_seal_eq, F_X10_seal_eq]
  unfold Q_X9_seal Fr_X9_seal Q_X10_seal Fr_X10_seal
  obtain ⟨L, hL, l1, l2, lb⟩ := I.com.tape
  have hr : F_X0_hasRoom σ 1 400 16 = if nI 400 - σ 1 1 < 16 then 0 else 1 := by rw [F_X0_hasRoom_eq]; rfl
  have e1 : nI 400 - nI L = nI (400 - L) := pk_sub hL
  have e2 : nI L + (16 : Int32) = nI (L + 16) := nI_add L 16
  rw [hr, l1, l2, e1, e2]
  by_cases h : L + 16 ≤ 400
  rotate_left
  · have c1 : nI (400 - L) < 16 := nI_lt (b := 16) (by omega) (by decide)
    have c2 : ¬ nI (L + 16) ≤ 400 := nI_ge (a := 400) (by omega) (by omega)
    simp only [if_pos c1, if_true, if_neg c2]
    exact ⟨trivial, trivial, trivial, I⟩
  have c1 : ¬ nI (400 - L) < 16 := nI_nlt (b := 16) (by omega) (by omega)
  have c2 : nI (L + 16) ≤ 400 := nI_le (b := 400) h (by decide)
  simp only [if_neg c1, if_neg n10, if_pos c2]
  -- the class
  have k8 : ∀ j, j < 4 → F_X7_useKey σ a b c d 8 j = pk4 a b c d j := by
    intro j hj
    rw [F_X7_useKey_eq]
    unfold Fr_X7_useKey
    rw [ix0, ix1, ix2, ix3]
    rcases (show j = 0 ∨ j = 1 ∨ j = 2 ∨ j = 3 by omega) with rfl | rfl | rfl | rfl
    · rw [pf_i (by decide), pf_i (by decide), pf_i (by decide), pf_s]; rfl
    · rw [pf_i (by decide), pf_i (by decide), pf_s]; rfl
    · rw [pf_i (by decide), pf_s]; rfl
    · rw [pf_s]; rfl
  have f8 : ∀ x, x ≠ 8 → F_X7_useKey σ a b c d x = σ x := by
    intro x hx
    rw [F_X7_useKey_eq]
    unfold Fr_X7_useKey
    rw [pf_ne hx, pf_ne hx, pf_ne hx, pf_ne hx]
  generalize F_X7_useKey σ a b c d = s1 at k8 f8 ⊢
  have m1 : s1 1 1 = nI L := by rw [f8 1 (by decide)]; exact l1
  rw [m1]
  obtain ⟨qw, w1, w2⟩ := c_work (σ := s1) (j := 1) (N := 400) (n := L) (by decide) hL (by decide) hL
  generalize F_X7_work s1 1 400 (nI L) = s2 at w1 w2 ⊢
  have m2 : s2 1 1 = nI L := by rw [w1 1 (by decide) (by decide) (by decide)]; exact m1
  obtain ⟨qa, pa⟩ := c_addSeal (σ := s2) (j := 1) (N := 400) (L := L) h (by decide) m2 (by decide) (by decide)
  generalize F_X7_addSealTo s2 1 400 = s3 at pa ⊢
  have F : ∀ x, x ≠ 1 → x ≠ 2 → (x < 8 ∨ 11 < x) → s3 x = σ x := fun x h1 h2 h3 => by rw [pa.fr x h1 h2, w1 x (by omega) (by omega) (by omega), f8 x (by omega)]
  have r2 : s1 2 = σ 2 := f8 2 (by decide)
  have sl : ∀ i, i < 16 → bW (s2 11 (i / 4)) (i % 4) = macB (fun k => bW (pk4 a b c d (k / 4)) (k % 4)) (σ 2) L i := by
    intro i hi
    rw [w2 (i / 4) (by omega)]
    have hm : macB (fun k => bW (s1 8 (k / 4)) (k % 4)) (s1 2) L i = macB (fun k => bW (pk4 a b c d (k / 4)) (k % 4)) (σ 2) L i := macB_congr (fun k z => by
      show bW (s1 8 (k / 4)) (k % 4) &&& 255 = bW (pk4 a b c d (k / 4)) (k % 4) &&& 255
      rw [k8 (k / 4) (by omega)]) (fun k _ => by rw [r2]) (by omega)
    unfold macB at hm ⊢
    exact hm
  -- the reference
  obtain ⟨z1, z2, Z⟩ := r_seal18 (τ := τ) (L := L) (MB := macB (fun k => bW (pk4 a b c d (k / 4)) (k % 4)) (τ 200) L) h a b c d l2 I.com.tab (fun s hs h9 k hk => by
    have e := macB_congr (kb := fun k => s 209 (0 + k)) (kb' := fun k => bW (pk4 a b c d (k / 4)) (k % 4)) (r := fun k => s 200 (0 + k)) (r' := τ 200) (n := L) (fun k z => by
      show s 209 (0 + k) &&& 255 = bW (pk4 a b c d (k / 4)) (k % 4) &&& 255
      rw [Nat.zero_add, h9 k z, b8_and]) (fun k z => by
      show s 200 (0 + k) &&& 255 = _
      rw [Nat.zero_add, hs]) (i := k) (by omega)
    rw [e])
  generalize G_X10_seal_L18 a b c d 4000 0 τ = G at z2 Z ⊢
  refine ⟨⟨qw, qa, trivial⟩, z1, by rw [z2]; exact pa.len, IV_tape I F Z.fr Z.fk Z.tab ⟨L + 16, by omega, pa.len, Z.len, fun i hi => ?_⟩⟩
  have z7 := Z.by_ i
  have e3 : s3 2 i = if L ≤ i ∧ i < L + 16 then (bW (s2 11 ((i - L) / 4)) ((i - L) % 4)).toInt8.toInt32 else s2 2 i := pa.by_ i
  rw [e3, z7]
  by_cases hh : L ≤ i ∧ i < L + 16
  · rw [if_pos hh, if_pos hh, sl (i - L) (by omega)]
    refine ⟨?_, isb_mk _⟩
    have hm : macB (fun k => bW (pk4 a b c d (k / 4)) (k % 4)) (σ 2) L (i - L) = macB (fun k => bW (pk4 a b c d (k / 4)) (k % 4)) (τ 200) L (i - L) := macB_congr (fun _ _ => rfl) (fun k hk => by rw [(lb k hk).1]) (by omega)
    rw [hm]
  · rw [if_neg hh, if_neg hh, w1 2 (by decide) (by decide) (by decide), r2]; exact lb i (by omega)
