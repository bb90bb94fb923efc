/-! The law's loop -/
theorem Inv1_s {k : Nat} {σ : gS} {ζ : gQ} (I : Inv1 k σ ζ) : Inv1 (k + 1) σ ζ := by
  obtain ⟨n, so, si, t, I⟩ := I
  exact ⟨n, so, si, t, IV_mono I (by omega)⟩
theorem t_feed {k : Nat} {σ : gS} {ζ : gQ} (a b c d e : Int32) (I : Inv1 k σ ζ) : Q_X9_feed σ a b c d e ∧ Q_X10_feed (F_X9_feed σ a b c d e).2 a b c d e ∧ (F_X9_feed σ a b c d e).1 = (F_X10_feed (F_X9_feed σ a b c d e).2 a b c d e).1 ∧ Inv1 k (F_X10_feed (F_X9_feed σ a b c d e).2 a b c d e).2 ζ := by
  obtain ⟨n, so, si, t, I⟩ := I
  have q := (v_feed I a b c d e).1
  have h1 : ∀ x, 199 ≤ x → (F_X9_feed σ a b c d e).2 x = σ x := fun x hx => fh_X9_feed hx q
  obtain ⟨_, q2, ee, I2⟩ := v_feed (IV_ref I h1) a b c d e
  exact ⟨q, q2, ee, n, so, si, t, IV_cls I2 (fun x hx => fh_X10_feed hx q2)⟩
theorem t_seal {k : Nat} {σ : gS} {ζ : gQ} (a b c d : Int32) (I : Inv1 k σ ζ) : Q_X9_seal σ a b c d ∧ Q_X10_seal (F_X9_seal σ a b c d).2 a b c d ∧ (F_X9_seal σ a b c d).1 = (F_X10_seal (F_X9_seal σ a b c d).2 a b c d).1 ∧ Inv1 k (F_X10_seal (F_X9_seal σ a b c d).2 a b c d).2 ζ := by
  obtain ⟨n, so, si, t, I⟩ := I
  have q := (v_seal I a b c d).1
  have h1 : ∀ x, 199 ≤ x → (F_X9_seal σ a b c d).2 x = σ x := fun x hx => fh_X9_seal hx q
  obtain ⟨_, q2, ee, I2⟩ := v_seal (IV_ref I h1) a b c d
  exact ⟨q, q2, ee, n, so, si, t, IV_cls I2 (fun x hx => fh_X10_seal hx q2)⟩
theorem t_card {k : Nat} {σ : gS} {ζ : gQ} (a b : Int32) (I : Inv1 k σ ζ) : Q_X9_card σ a b ∧ Q_X10_card (F_X9_card σ a b).2 a b ∧ (F_X9_card σ a b).1 = (F_X10_card (F_X9_card σ a b).2 a b).1 ∧ Inv1 k (F_X10_card (F_X9_card σ a b).2 a b).2 ζ := by
  obtain ⟨n, so, si, t, I⟩ := I
  have q := (v_card I a b).1
  have h1 : ∀ x, 199 ≤ x → (F_X9_card σ a b).2 x = σ x := fun x hx => fh_X9_card hx q
  obtain ⟨_, q2, ee, I2⟩ := v_card (IV_ref I h1) a b
  exact ⟨q, q2, ee, n, so, si, t, IV_cls I2 (fun x hx => fh_X10_card hx q2)⟩
theorem t_writable {k : Nat} {σ : gS} {ζ : gQ} (a b : Int32) (hb : pZ b) (I : Inv1 k σ ζ) : Q_X9_writable σ a b ∧ Q_X10_writable (F_X9_writable σ a b).2 a b ∧ (F_X9_writable σ a b).1 = (F_X10_writable (F_X9_writable σ a b).2 a b).1 ∧ Inv1 k (F_X10_writable (F_X9_writable σ a b).2 a b).2 ζ := by
  obtain ⟨n, so, si, t, I⟩ := I
  have q := (v_writable I a b hb).1
  have h1 : ∀ x, 199 ≤ x → (F_X9_writable σ a b).2 x = σ x := fun x hx => fh_X9_writable hx q
  obtain ⟨_, q2, ee, I2⟩ := v_writable (IV_ref I h1) a b hb
  exact ⟨q, q2, ee, n, so, si, t, IV_cls I2 (fun x hx => fh_X10_writable hx q2)⟩
theorem t_disk {k : Nat} {σ : gS} {ζ : gQ} (I : Inv1 k σ ζ) : Q_X9_disk σ ∧ Q_X10_disk (F_X9_disk σ).2 ∧ (F_X9_disk σ).1 = (F_X10_disk (F_X9_disk σ).2).1 ∧ Inv1 k (F_X10_disk (F_X9_disk σ).2).2 ζ := by
  obtain ⟨n, so, si, t, I⟩ := I
  have q := (v_disk I).1
  have h1 : ∀ x, 199 ≤ x → (F_X9_disk σ).2 x = σ x := fun x hx => fh_X9_disk hx q
  obtain ⟨_, q2, ee, I2⟩ := v_disk (IV_ref I h1)
  exact ⟨q, q2, ee, n, so, si, t, IV_cls I2 (fun x hx => fh_X10_disk hx q2)⟩
theorem t_poll {k : Nat} {σ : gS} {ζ : gQ} (hk : k < 100) (I : Inv1 k σ ζ) : Q_X9_poll σ ∧ Q_X10_poll (F_X9_poll σ).2 ζ ∧ (F_X9_poll σ).1 = (F_X10_poll (F_X9_poll σ).2 ζ).1 ∧ Inv1 (k + 1) (F_X10_poll (F_X9_poll σ).2 ζ).2.1 (F_X10_poll (F_X9_poll σ).2 ζ).2.2 := by
  obtain ⟨n, so, si, t, I⟩ := I
  have q := (s_poll I (by omega)).1
  have h1 : ∀ x, 199 ≤ x → (F_X9_poll σ).2 x = σ x := fun x hx => fh_X9_poll hx q
  obtain ⟨_, q2, ee, n', so', si', t', I2⟩ := s_poll (IV_ref I h1) (by omega)
  exact ⟨q, q2, ee, n', so', si', t', IV_mono (IV_cls I2 (fun x hx => fh_X10_poll hx q2)) (by omega)⟩
theorem t_show {k : Nat} {σ : gS} {ζ : gQ} (a : Int32) (I : Inv1 k σ ζ) : Q_X9_show σ a ∧ Q_X10_show σ ζ a ∧ F_X9_show σ a = F_X10_show σ ζ a := by
  obtain ⟨n, so, si, t, I⟩ := I
  exact v_show I a
theorem t_size {k : Nat} {σ : gS} {ζ : gQ} (a b : Int32) (I : Inv1 k σ ζ) : Q_X9_size σ a b ∧ Q_X10_size σ a b ∧ F_X9_size σ a b = F_X10_size σ a b := by
  obtain ⟨n, so, si, t, I⟩ := I
  exact v_size I a b
theorem t_at {k : Nat} {σ : gS} {ζ : gQ} (a b c : Int32) (I : Inv1 k σ ζ) : Q_X9_at σ a b c ∧ Q_X10_at σ a b c ∧ F_X9_at σ a b c = F_X10_at σ a b c := by
  obtain ⟨n, so, si, t, I⟩ := I
  exact v_at I a b c
theorem law_step {L : Nat} {xs : Nat → Int32} {f d : Nat} {σ : gS} {ζ : gQ} (hL : L ≤ 384) (hd : 6 * d + 6 ≤ L) (I : Inv1 d σ ζ) (k : ∀ s z, Inv1 (d + 1) s z → QG_L_law_L18 L xs f (nI (6 * (d + 1))) s z ∧ G_L_law_L18 L xs f (nI (6 * (d + 1))) s z = 1) : QG_L_law_L18 L xs (f + 1) (nI (6 * d)) σ ζ ∧ G_L_law_L18 L xs (f + 1) (nI (6 * d)) σ ζ = 1 := by
  unfold QG_L_law_L18 G_L_law_L18
  have e0 : nI L - 6 = nI (L - 6) := nIs (b := 6) (by omega) 6 rfl
  have c0 : ¬ nI (L - 6) < nI (6 * d) := nI_nlt (by omega) (by omega)
  have e6 : nI (6 * d) + Int32.ofInt 6 = nI (6 * (d + 1)) := by
    have : nI (6 * d) + nI 6 = nI (6 * d + 6) := nI_add _ _
    rw [show 6 * (d + 1) = 6 * d + 6 by omega]; exact this
  have v0 : vp_in (nI (6 * d)) L := vp_in_nI (by omega) (by omega)
  have v : ∀ j : Nat, j < 6 → vp_in (nI (6 * d) + nI j) L := fun j hj => by rw [nI_add]; exact vp_in_nI (by omega) (by omega)
  have v1 : vp_in (nI (6 * d) + 1) L := v 1 (by decide)
  have v2 : vp_in (nI (6 * d) + 2) L := v 2 (by decide)
  have v3 : vp_in (nI (6 * d) + 3) L := v 3 (by decide)
  have v4 : vp_in (nI (6 * d) + 4) L := v 4 (by decide)
  have v5 : vp_in (nI (6 * d) + 5) L := v 5 (by decide)
  simp only [e0, if_neg c0, e6]
  generalize xs (ix (nI (6 * d))) &&& 31 = w
  generalize xs (ix (nI (6 * d) + 1)) = x1
  generalize xs (ix (nI (6 * d) + 2)) = x2
  generalize xs (ix (nI (6 * d) + 3)) = x3
  generalize xs (ix (nI (6 * d) + 4)) = x4
  generalize xs (ix (nI (6 * d) + 5)) = x5
  by_cases w0 : w = 0
  · obtain ⟨q1, q2, ee, J⟩ := t_feed x1 x2 x3 x4 x5 I
    have g := k _ _ (Inv1_s J)
    simp only [if_pos w0, if_pos ee]
    exact ⟨⟨v0, v1, v2, v3, v4, v5, q1, v1, v2, v3, v4, v5, q2, g.1⟩, g.2⟩
  simp only [if_neg w0]
  by_cases w1 : w = 1
  · obtain ⟨ee, J⟩ := t_cut x1 I
    have g := k _ _ (Inv1_s J)
    simp only [if_pos w1, if_pos ee]
    exact ⟨⟨v0, v1, v1, g.1⟩, g.2⟩
  simp only [if_neg w1]
  by_cases w2 : w = 2
  · obtain ⟨q1, q2, ee, J⟩ := t_seal x1 x2 x3 x4 I
    have g := k _ _ (Inv1_s J)
    simp only [if_pos w2, if_pos ee]
    exact ⟨⟨v0, v1, v2, v3, v4, q1, v1, v2, v3, v4, q2, g.1⟩, g.2⟩
  simp only [if_neg w2]
  by_cases w3 : w = 3
  · obtain ⟨q1, q2, ee, J⟩ := t_card x1 x2 I
    have g := k _ _ (Inv1_s J)
    simp only [if_pos w3, if_pos ee]
    exact ⟨⟨v0, v1, v2, q1, v1, v2, q2, g.1⟩, g.2⟩
  simp only [if_neg w3]
  by_cases w4 : w = 4
  · simp only [if_pos w4]
    by_cases hx : x2 = 0
    · obtain ⟨q1, q2, ee, J⟩ := t_writable x1 0 (Or.inl rfl) I
      have g := k _ _ (Inv1_s J)
      simp only [if_pos hx, if_pos ee]
      exact ⟨⟨v0, v1, v2, q1, v1, v2, q2, g.1⟩, g.2⟩
    · obtain ⟨q1, q2, ee, J⟩ := t_writable x1 1 (Or.inr rfl) I
      have g := k _ _ (Inv1_s J)
      simp only [if_neg hx, if_pos ee]
      exact ⟨⟨v0, v1, v2, q1, v1, v2, q2, g.1⟩, g.2⟩
  simp only [if_neg w4]
  by_cases w5 : w = 5
  · obtain ⟨q1, q2, ee, J⟩ := t_put x1 x2 I
    have g := k _ _ (Inv1_s J)
    simp only [if_pos w5, if_pos ee]
    exact ⟨⟨v0, v1, v2, q1, v1, v2, q2, g.1⟩, g.2⟩
  simp only [if_neg w5]
  by_cases w6 : w = 6
  · obtain ⟨ee, J⟩ := t_finger x1 I
    have g := k _ _ (Inv1_s J)
    simp only [if_pos w6, if_pos ee]
    exact ⟨⟨v0, v1, v1, g.1⟩, g.2⟩
  simp only [if_neg w6]
  by_cases w7 : w = 7
  · simp only [if_pos w7]
    by_cases hx : x1 = 0
    · obtain ⟨q1, q2, J⟩ := t_door 0 (Or.inl rfl) I
      have g := k _ _ (Inv1_s J)
      simp only [if_pos hx]
      exact ⟨⟨v0, v1, q1, v1, q2, g.1⟩, g.2⟩
    · obtain ⟨q1, q2, J⟩ := t_door 1 (Or.inr rfl) I
      have g := k _ _ (Inv1_s J)
      simp only [if_neg hx]
      exact ⟨⟨v0, v1, q1, v1, q2, g.1⟩, g.2⟩
  simp only [if_neg w7]
  by_cases w8 : w = 8
  · obtain ⟨q1, q2, ee, J⟩ := t_disk I
    have g := k _ _ (Inv1_s J)
    simp only [if_pos w8, if_pos ee]
    exact ⟨⟨v0, q1, q2, g.1⟩, g.2⟩
  simp only [if_neg w8]
  by_cases w9 : w = 9
  · obtain ⟨q1, ee, J⟩ := t_noDisk I
    have g := k _ _ (Inv1_s J)
    simp only [if_pos w9, if_pos ee]
    exact ⟨⟨v0, q1, g.1⟩, g.2⟩
  simp only [if_neg w9]
  by_cases w10 : w = 10
  · obtain ⟨ee, J⟩ := t_key x1 I
    have g := k _ _ (Inv1_s J)
    simp only [if_pos w10, if_pos ee]
    exact ⟨⟨v0, v1, v1, g.1⟩, g.2⟩
  simp only [if_neg w10]
  by_cases w11 : w = 11
  · obtain ⟨ee, J⟩ := t_tick x1 I
    have g := k _ _ (Inv1_s J)
    simp only [if_pos w11, if_pos ee]
    exact ⟨⟨v0, v1, v1, g.1⟩, g.2⟩
  simp only [if_neg w11]
  by_cases w12 : w = 12
  · obtain ⟨ee, J⟩ := t_cutAt x1 I
    have g := k _ _ (Inv1_s J)
    simp only [if_pos w12, if_pos ee]
    exact ⟨⟨v0, v1, v1, g.1⟩, g.2⟩
  simp only [if_neg w12]
  by_cases w13 : w = 13
  · obtain ⟨q1, q2, ee, J⟩ := t_poll (by omega) I
    have g := k _ _ J
    simp only [if_pos w13, if_pos ee]
    exact ⟨⟨v0, q1, q2, g.1⟩, g.2⟩
  simp only [if_neg w13]
  have gs := k _ _ (Inv1_s I)
  by_cases w14 : w = 14
  · obtain ⟨q1, q2, ee⟩ := t_show x1 I
    simp only [if_pos w14, if_pos ee]
    exact ⟨⟨v0, v1, q1, v1, q2, gs.1⟩, gs.2⟩
  simp only [if_neg w14]
  by_cases w15 : w = 15
  · obtain ⟨q1, q2, ee⟩ := s_record x1 x2 I.A
    simp only [if_pos w15, if_pos ee]
    exact ⟨⟨v0, v1, v2, q1, v1, v2, q2, gs.1⟩, gs.2⟩
  simp only [if_neg w15]
  by_cases w16 : w = 16
  · obtain ⟨q1, q2, ee⟩ := t_size x1 x2 I
    simp only [if_pos w16, if_pos ee]
    exact ⟨⟨v0, v1, v2, q1, v1, v2, q2, gs.1⟩, gs.2⟩
  simp only [if_neg w16]
  by_cases w17 : w = 17
  · obtain ⟨q1, q2, ee⟩ := t_at x1 x2 x3 I
    simp only [if_pos w17, if_pos ee]
    exact ⟨⟨v0, v1, v2, v3, q1, v1, v2, v3, q2, gs.1⟩, gs.2⟩
  simp only [if_neg w17]
  by_cases w18 : w = 18
  · obtain ⟨q1, q2, ee⟩ := s_diskAt x1 I.A
    simp only [if_pos w18, if_pos ee]
    exact ⟨⟨v0, v1, q1, v1, q2, gs.1⟩, gs.2⟩
  simp only [if_neg w18]
  exact ⟨⟨v0, gs.1⟩, gs.2⟩
theorem hpure_all (L : Nat) (xs : Nat → Int32) (hL : L ≤ 384) : QG_L_law_L18 L xs 100 0 sEnd zEnd ∧ G_L_law_L18 L xs 100 0 sEnd zEnd = 1 := by
  have lp := lpF (fun f d (s : gS × gQ) => QG_L_law_L18 L xs f (nI (6 * d)) s.1 s.2 ∧ G_L_law_L18 L xs f (nI (6 * d)) s.1 s.2 = 1) (fun d s => Inv1 d s.1 s.2) (L / 6) (by
    intro f s _
    unfold QG_L_law_L18 G_L_law_L18
    have c : nI L - 6 < nI (6 * (L / 6)) := by
      by_cases h : 6 ≤ L
      · rw [nIs (b := 6) h 6 rfl]; exact nI_lt (by omega) (by omega)
      · have n : nI L - nI 6 < 0 := pk_sneg (by omega) (by omega)
        have p := lt_to n
        rw [i_0] at p
        rw [Int32.lt_iff_toInt_lt, nI_toInt (show 6 * (L / 6) < 2 ^ 31 by omega)]
        have : (nI L - 6).toInt < 0 := p
        omega
    simp only [if_pos c]
    exact ⟨trivial, trivial⟩) (by
    intro f d s hd I k
    exact law_step hL (by omega) I (fun s z J => k (s, z) J)) 100 0 (sEnd, zEnd) (Nat.zero_le _) (by omega) s_begin
  rw [Nat.mul_zero, nI_0] at lp
  exact lp
