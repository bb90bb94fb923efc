/-! The archive is written -/
theorem s_stepIc {M n so si t d : Nat} {σ τ : gS} {ζ : gQ} {x : Int32} (R : RLk M n so si t d σ τ ζ) (hp : σ 15 6 = 1) (hM : M < 2 ^ 20 - 2) (S : sgt σ τ n t 22 x) {a b : Int32} (ha : sm a) (hb : sm b) (p q : Int32) :
    ∃ r u V z, F_X9_stepInside σ a b p q = (r, if r = 0 then u else pf (pf u 21 1 p) 21 2 q) ∧ F_X10_put_ τ ζ a b x = (r, V, z) ∧ Q_X9_stepInside σ a b p q ∧ Q_X10_put_ τ ζ a b x ∧ putE (M + 2) n so si t d σ τ ζ r u V z ∧ ∃ c : Nat, 0 < c ∧ c ≤ 96 ∧ u 15 1 = nI c := by
  have hs := sgt_sre S
  obtain ⟨r, u, V, z, e1, e2, q1, q2, E⟩ := s_pt R hp hM ha hb hs
  refine ⟨r, u, V, z, ?_, e2, ?_, q2, E, ?_⟩
  · rw [F_X9_stepInside_eq]; unfold Fr_X9_stepInside; rw [S.1]; simp only [e1]
    rcases E.1 with h | ⟨h, _⟩
    · have n : ¬ r = 0 := by rw [h]; decide
      rw [if_neg n, if_neg n, h]
    · rw [if_pos h, if_pos h, h]
  · unfold Q_X9_stepInside; rw [S.1]; simp only [e1]
    refine ⟨q1, ?_⟩
    rcases E.1 with h | ⟨h, _⟩
    · have n : ¬ r = 0 := by rw [h]; decide
      rw [if_neg n]; trivial
    · rw [if_pos h]; trivial
  · obtain ⟨an, ha1, rfl⟩ := ha
    obtain ⟨bn, hb1, rfl⟩ := hb
    obtain ⟨ht, et, ez⟩ := R.com.now
    obtain ⟨c, m, w, J⟩ := R.jr
    have px : pN x := by
      rcases hs with ⟨z, _⟩ | ⟨c, hc, z, _⟩
      · exact Or.inl z
      · exact Or.inr ⟨c, hc, z⟩
    obtain ⟨s, hs1, hs2⟩ : ∃ s : Nat, s < 2 ^ 32 ∧ σ 22 1 = nI s := by
      rcases hs with ⟨_, z⟩ | ⟨c, hc, _, ⟨_, z⟩ | ⟨_, z⟩⟩
      · exact ⟨0, by decide, z⟩
      · exact ⟨_, be4_lt _ _, z⟩
      · exact ⟨0, by decide, z⟩
    obtain ⟨_, _, _, ⟨c', m', w', J', hc'⟩, _⟩ := s_put34 (x := x) J hp hM (show t < 2 ^ 31 by omega) hs1 ha1 hb1 px ez
    rw [← hs2, ← et, e1] at J'
    exact ⟨c', hc', J'.1.1, J'.1.2.2.2.1⟩
theorem c_copy {σ : gS} {q c : Nat} (hq : q ≤ 24) (hqc : q ≤ c) (hc : c ≤ 96) (e3 : σ 3 1 = nI 1) (e16 : σ 16 1 = nI (16 * c)) (hb : ∀ i, i < 16 * c → isb (σ 17 i)) : Q_X3_copyOldest σ (nI q) ∧ bap 3 1 σ (F_X3_copyOldest σ (nI q)) (16 * q) (σ 17) := by
  rw [F_X3_copyOldest_eq]
  unfold Q_X3_copyOldest Fr_X3_copyOldest
  have eq16 : nI q * (16 : Int32) = nI (16 * q) := by rw [show (16 : Int32) = nI 16 from rfl, pk_mul, Nat.mul_comm]
  exact lpF (fun f d s => QG_X3_copyOldest_L2 (nI q) f (nI d) s ∧ bap 3 1 σ (G_X3_copyOldest_L2 (nI q) f (nI d) s) (16 * q) (σ 17)) (fun d s => bap 3 1 σ s d (σ 17)) (16 * q) (by
    intro f s h
    unfold QG_X3_copyOldest_L2 G_X3_copyOldest_L2
    have c1 : nI (16 * q) ≤ nI (16 * q) := nI_le (Nat.le_refl _) (by omega)
    simp only [eq16, if_pos c1]
    exact ⟨trivial, h⟩) (by
    intro f d s hd h k
    unfold QG_X3_copyOldest_L2 G_X3_copyOldest_L2
    have c1 : ¬ nI (16 * q) ≤ nI d := nI_ge hd (by omega)
    have s16 : s 16 1 = nI (16 * c) := by rw [h.fr 16 (by decide) (by decide)]; exact e16
    have s17 : s 17 = σ 17 := h.fr 17 (by decide) (by decide)
    have eb : F_X0_byteOf s 16 1536 (nI d) = σ 17 d &&& 255 := by rw [byteOf_nat (n := 16 * c) (by omega) (by decide) s16 (by omega), if_pos (by omega), s17]
    simp only [eq16, if_neg c1, nI_i1, eb]
    obtain ⟨qa, pa⟩ := c_addB (σ := s) (j := 3) (N := 400) (L := 1 + d) (by omega) (by decide) h.len (σ 17 d &&& 255)
    have g := k _ (bap_c (bap_t h pa) (v' := σ 17) (fun i hi => by
      by_cases z : i < d
      · rw [if_pos z]
      · have : i = d := by omega
        subst this
        rw [if_neg z, b8_of_and]; exact hb i (by omega)))
    exact ⟨⟨q_byteOf s 16 (by decide) _, qa, g.1⟩, g.2⟩) 4000 0 σ (Nat.zero_le _) (by omega) (bap_0 e3)
abbrev ard (q : Nat) (V W : gS) : Prop := (∀ b, b ≠ 199 → b ≠ 215 → b ≠ 218 → W b = V b) ∧ (∀ k, k ≠ 50 → k ≠ 52 → k ≠ 25 → k ≠ 46 → k ≠ 41 → W 199 k = V 199 k) ∧ (W 199 50 = nI q) ∧ (W 199 52 = nI (1 + 16 * q)) ∧ (W 199 25 = nI (1 + 16 * q)) ∧ (W 199 46 = 6 ∧ W 199 41 = 6) ∧ (W 218 0 = 82) ∧ (∀ i, i < 16 * q → W 218 (1 + i) = (V 216 i).toInt8.toInt32) ∧ (W 215 0 = 82) ∧ (∀ i, i < 16 * q → W 215 (1 + i) = (V 216 i).toInt8.toInt32)
theorem ard.fr {q : Nat} {V W : gS} (h : ard q V W) : ∀ b, b ≠ 199 → b ≠ 215 → b ≠ 218 → W b = V b := h.1
theorem ard.fk {q : Nat} {V W : gS} (h : ard q V W) : ∀ k, k ≠ 50 → k ≠ 52 → k ≠ 25 → k ≠ 46 → k ≠ 41 → W 199 k = V 199 k := h.2.1
theorem ard.many {q : Nat} {V W : gS} (h : ard q V W) : W 199 50 = nI q := h.2.2.1
theorem ard.size {q : Nat} {V W : gS} (h : ard q V W) : W 199 52 = nI (1 + 16 * q) := h.2.2.2.1
theorem ard.dsk {q : Nat} {V W : gS} (h : ard q V W) : W 199 25 = nI (1 + 16 * q) := h.2.2.2.2.1
theorem ard.st {q : Nat} {V W : gS} (h : ard q V W) : W 199 46 = 6 ∧ W 199 41 = 6 := h.2.2.2.2.2.1
theorem ard.w0 {q : Nat} {V W : gS} (h : ard q V W) : W 218 0 = 82 := h.2.2.2.2.2.2.1
theorem ard.wi {q : Nat} {V W : gS} (h : ard q V W) : ∀ i, i < 16 * q → W 218 (1 + i) = (V 216 i).toInt8.toInt32 := h.2.2.2.2.2.2.2.1
theorem ard.d0 {q : Nat} {V W : gS} (h : ard q V W) : W 215 0 = 82 := h.2.2.2.2.2.2.2.2.1
theorem ard.di {q : Nat} {V W : gS} (h : ard q V W) : ∀ i, i < 16 * q → W 215 (1 + i) = (V 216 i).toInt8.toInt32 := h.2.2.2.2.2.2.2.2.2
theorem r_arch {V : gS} {z : gQ} {q : Nat} (hq : q ≤ 24) (x : Int32) : QJ_X10_archives_31 x (nI q) V z ∧ ard q V (J_X10_archives_31 x (nI q) V z).1 ∧ (J_X10_archives_31 x (nI q) V z).2 = z := by
  unfold QJ_X10_archives_31 J_X10_archives_31
  have e16 : ∀ s : gS, s 199 50 = nI q → (16 : Int32) * s 199 50 = nI (16 * q) := fun s h => by rw [h]; exact pk_mul 16 q
  have e17 : (1 : Int32) + nI (16 * q) = nI (1 + 16 * q) := nI_add 1 _
  have k50 : pf V 199 50 (nI q) 199 50 = nI q := pf_s
  have b82 : (82 : Int32).toInt8.toInt32 = 82 := by decide
  simp only [e16 _ k50, e17, ix0, b82]
  have f0 : ∀ b, b ≠ 199 → b ≠ 218 → pf (pf (pf V 199 50 (nI q)) 199 52 (nI (1 + 16 * q))) 218 0 82 b = V b := fun b h1 h2 => by rw [pf_ne h2, pf_ne h1, pf_ne h1]
  have f1 : ∀ k, k ≠ 50 → k ≠ 52 → pf (pf (pf V 199 50 (nI q)) 199 52 (nI (1 + 16 * q))) 218 0 82 199 k = V 199 k := fun k h1 h2 => by rw [pf_ne (by decide), pf_i h2, pf_i h1]
  have f2 : pf (pf (pf V 199 50 (nI q)) 199 52 (nI (1 + 16 * q))) 218 0 82 199 50 = nI q := by rw [pf_ne (by decide), pf_i (by decide), pf_s]
  have f3 : pf (pf (pf V 199 50 (nI q)) 199 52 (nI (1 + 16 * q))) 218 0 82 199 52 = nI (1 + 16 * q) := by rw [pf_ne (by decide), pf_s]
  have f4 : pf (pf (pf V 199 50 (nI q)) 199 52 (nI (1 + 16 * q))) 218 0 82 218 0 = 82 := pf_s
  generalize pf (pf (pf V 199 50 (nI q)) 199 52 (nI (1 + 16 * q))) 218 0 82 = A at f0 f1 f2 f3 f4 ⊢
  -- the second loop
  have lp2 : ∀ B : gS, (∀ b, b ≠ 218 → B b = A b) → B 218 0 = 82 → (∀ i, i < 16 * q → B 218 (1 + i) = (V 216 i).toInt8.toInt32) → QG_X10_archives_L90 x 4000 0 B z ∧ ard q V (G_X10_archives_L90 x 4000 0 B z).1 ∧ (G_X10_archives_L90 x 4000 0 B z).2 = z := by
    intro B hB hB0 hBi
    exact lpF (fun f d s => QG_X10_archives_L90 x f (nI d) s z ∧ ard q V (G_X10_archives_L90 x f (nI d) s z).1 ∧ (G_X10_archives_L90 x f (nI d) s z).2 = z) (fun d s => (∀ b, b ≠ 215 → s b = B b) ∧ ∀ i, i < d → s 215 i = (B 218 i).toInt8.toInt32) (1 + 16 * q) (by
      intro f s h
      unfold QG_X10_archives_L90 G_X10_archives_L90
      have s52 : s 199 52 = nI (1 + 16 * q) := by rw [h.1 199 (by decide), hB 199 (by decide)]; exact f3
      have c1 : nI (1 + 16 * q) ≤ nI (1 + 16 * q) := nI_le (Nat.le_refl _) (by omega)
      simp only [s52, if_pos c1, iTo]
      have s199 : s 199 = A 199 := (h.1 199 (by decide)).trans (hB 199 (by decide))
      refine ⟨trivial, ⟨fun b h1 h2 h3 => ?_, fun k h1 h2 h3 h4 h5 => ?_, ?_, ?_, ?_, ⟨?_, pf_s⟩, ?_, fun i hi => ?_, ?_, fun i hi => ?_⟩, trivial⟩
      · rw [pf_ne h1, pf_ne h1, pf_ne h1, h.1 b h2, hB b h3, f0 b h1 h3]
      · rw [pf_i h5, pf_i h4, pf_i h3, s199, f1 k h1 h2]
      · rw [pf_i (by decide), pf_i (by decide), pf_i (by decide), s199, f2]
      · rw [pf_i (by decide), pf_i (by decide), pf_i (by decide), s199, f3]
      · rw [pf_i (by decide), pf_i (by decide), pf_s]
      · rw [pf_i (by decide), pf_s]
      · rw [pf_ne (by decide), pf_ne (by decide), pf_ne (by decide), h.1 218 (by decide)]; exact hB0
      · rw [pf_ne (by decide), pf_ne (by decide), pf_ne (by decide), h.1 218 (by decide)]; exact hBi i hi
      · rw [pf_ne (by decide), pf_ne (by decide), pf_ne (by decide), h.2 0 (by omega), hB0, b82]
      · rw [pf_ne (by decide), pf_ne (by decide), pf_ne (by decide), h.2 _ (by omega), hBi i hi, b8_b8]) (by
      intro f d s hd h k
      unfold QG_X10_archives_L90 G_X10_archives_L90
      have s52 : s 199 52 = nI (1 + 16 * q) := by rw [h.1 199 (by decide), hB 199 (by decide)]; exact f3
      have c1 : ¬ s 199 52 ≤ nI d := by rw [s52]; exact nI_ge hd (by omega)
      simp only [if_neg c1, nI_i1, ix_n (show d < 2 ^ 31 by omega)]
      have g := k (pf s 215 d (s 218 d).toInt8.toInt32) ⟨fun b hb => (pf_ne hb).trans (h.1 b hb), fun i hi => by
        rw [pf_v]
        by_cases e : i = d
        · subst e; rw [if_pos rfl, h.1 218 (by decide)]
        · rw [if_neg e]; exact h.2 i (by omega)⟩
      exact ⟨⟨vp_in_nI (by omega) (by decide), vp_in_nI (by omega) (by decide), g.1⟩, g.2⟩) 4000 0 B (Nat.zero_le _) (by omega) ⟨fun _ _ => rfl, fun i hi => absurd hi (by omega)⟩
  exact lpF (fun f d s => QG_X10_archives_L57 x f (nI d) s z ∧ ard q V (G_X10_archives_L57 x f (nI d) s z).1 ∧ (G_X10_archives_L57 x f (nI d) s z).2 = z) (fun d s => (∀ b, b ≠ 218 → s b = A b) ∧ s 218 0 = 82 ∧ ∀ i, i < d → s 218 (1 + i) = (V 216 i).toInt8.toInt32) (16 * q) (by
    intro f s h
    unfold QG_X10_archives_L57 G_X10_archives_L57
    have s50 : s 199 50 = nI q := by rw [h.1 199 (by decide)]; exact f2
    have c1 : (16 : Int32) * s 199 50 ≤ nI (16 * q) := by rw [e16 s s50]; exact nI_le (Nat.le_refl _) (by omega)
    simp only [if_pos c1]
    exact lp2 s h.1 h.2.1 h.2.2) (by
    intro f d s hd h k
    unfold QG_X10_archives_L57 G_X10_archives_L57
    have s50 : s 199 50 = nI q := by rw [h.1 199 (by decide)]; exact f2
    have c1 : ¬ (16 : Int32) * s 199 50 ≤ nI d := by rw [e16 s s50]; exact nI_ge hd (by omega)
    have e1 : (1 : Int32) + nI d = nI (1 + d) := nI_add 1 d
    simp only [if_neg c1, nI_i1, e1, ix_n (show d < 2 ^ 31 by omega), ix_n (show 1 + d < 2 ^ 31 by omega)]
    have g := k (pf s 218 (1 + d) (s 216 d).toInt8.toInt32) ⟨fun b hb => (pf_ne hb).trans (h.1 b hb), by rw [pf_i (by omega)]; exact h.2.1, fun i hi => by
      rw [pf_v]
      by_cases e : i = d
      · subst e; rw [if_pos rfl, h.1 216 (by decide), f0 216 (by decide) (by decide)]
      · rw [if_neg (by omega)]; exact h.2.2 i (by omega)⟩
    exact ⟨⟨vp_in_nI (by omega) (by decide), vp_in_nI (by omega) (by decide), g.1⟩, g.2⟩) 4000 0 A (Nat.zero_le _) (by omega) ⟨fun _ _ => rfl, f4, fun i hi => absurd hi (by omega)⟩
theorem a_arch {M n so t d : Nat} {σ τ : gS} {ζ : gQ} {c : Nat} (R : RLk M n so 5 t d σ τ ζ) (hp : σ 15 6 = 1) (hM : M < 2 ^ 20 - 2) (hr : ¬ σ 21 4 = -1) (hd : σ 0 2 = 1) (hq1 : σ 21 5 = 1 ∧ τ 199 49 = 1) (S : sgt σ τ n t 22 (nI c)) :
    ∃ u V z, F_X9_startArchive σ = (1, u) ∧ Q_X9_startArchive σ ∧ Q_X10_archives τ ζ (nI c) ∧ F_X10_archives τ ζ (nI c) = (V, z) ∧ actR M n so 5 t d σ τ 1 u V z := by
  rw [F_X9_startArchive_eq, F_X10_archives_eq]
  unfold Fr_X9_startArchive Q_X9_startArchive Fr_X10_archives Q_X10_archives
  have hn := ins_n R (by decide)
  obtain ⟨r, u, V, z, e1, e2, q1, q2, E, k, k0, k1, k2⟩ := s_stepIc R hp hM S (a := 56) (b := 0) (sm_n 56 (by decide)) (sm_n 0 (by decide)) 6 6
  simp only [e1, e2]
  rcases E.1 with rfl | ⟨rfl, h6⟩
  rotate_left
  · simp only [if_true]
    exact ⟨_, _, _, rfl, ⟨q1, trivial⟩, ⟨q2, trivial⟩, rfl, actR_1 E.2.1 (by omega)⟩
  simp only [if_neg n10]
  have R' := E.2.1
  obtain ⟨k', m, w, J⟩ := R'.jr
  obtain ⟨⟨j1, j2, j3, j4, j5, j6, j7, j8, j9, j10, j11⟩, P, A⟩ := J
  have ek : k' = k := nI_inj31 (by omega) (by omega) (j4.symm.trans k2)
  subst ek
  have on : F_X3_oldestNumber (pf (pf u 21 1 6) 21 2 6) = nI (m - k') := by
    rw [F_X3_oldestNumber_eq]
    show u 15 2 - u 15 1 = _
    rw [j7, j4, pk_sub (by omega)]
  have x151 : pf (pf (pf u 21 1 6) 21 2 6) 21 6 (nI (m - k')) 15 1 = nI k' := j4
  obtain ⟨q, hq, hq24, hqk, hqm, hqr⟩ : ∃ q : Nat, 1 ≤ q ∧ q ≤ 24 ∧ q ≤ k' ∧ (if (24 : Int32) < nI k' then (24 : Int32) else nI k') = nI q ∧ (if (24 : Int32) ≤ nI k' then QJ_X10_archives_31 (nI c) (24 : Int32) V z else QJ_X10_archives_31 (nI c) (nI k') V z) = QJ_X10_archives_31 (nI c) (nI q) V z ∧ (if (24 : Int32) ≤ nI k' then J_X10_archives_31 (nI c) (24 : Int32) V z else J_X10_archives_31 (nI c) (nI k') V z) = J_X10_archives_31 (nI c) (nI q) V z := by
    by_cases h : 24 ≤ k'
    · refine ⟨24, by omega, by omega, h, ?_, ?_, ?_⟩
      · by_cases h' : k' = 24
        · subst h'; rw [if_neg (show ¬ (24 : Int32) < nI 24 by decide)]
        · rw [if_pos (show (24 : Int32) < nI k' from nI_lt (a := 24) (by omega) (by omega))]; rfl
      · rw [if_pos (show (24 : Int32) ≤ nI k' from nI_le (a := 24) h (by omega))]; rfl
      · rw [if_pos (show (24 : Int32) ≤ nI k' from nI_le (a := 24) h (by omega))]; rfl
    · refine ⟨k', k0, by omega, Nat.le_refl _, ?_, ?_, ?_⟩
      · rw [if_neg (show ¬ (24 : Int32) < nI k' from nI_nlt (a := 24) (by omega) (by decide))]
      · rw [if_neg (show ¬ (24 : Int32) ≤ nI k' from nI_ge (b := 24) (by omega) (by decide))]
      · rw [if_neg (show ¬ (24 : Int32) ≤ nI k' from nI_ge (b := 24) (by omega) (by decide))]
  obtain ⟨qr, ar, az⟩ := r_arch (V := V) (z := z) hq24 (nI c)
  simp only [on, x151, hqm, j5, hqr.1, hqr.2]
  generalize J_X10_archives_31 (nI c) (nI q) V z = G at ar az ⊢
  -- the class
  have g3 : pf (pf (pf (pf (pf u 21 1 6) 21 2 6) 21 6 (nI (m - k'))) 21 7 (nI q)) 3 1 0 3 1 = nI 0 := pf_s
  have gf : ∀ b, b ≠ 21 → b ≠ 3 → pf (pf (pf (pf (pf u 21 1 6) 21 2 6) 21 6 (nI (m - k'))) 21 7 (nI q)) 3 1 0 b = u b := fun b h1 h2 => by rw [pf_ne h2, pf_ne h1, pf_ne h1, pf_ne h1, pf_ne h1]
  have g21 : pf (pf (pf (pf (pf u 21 1 6) 21 2 6) 21 6 (nI (m - k'))) 21 7 (nI q)) 3 1 0 21 = pf (pf (pf (pf u 21 1 6) 21 2 6) 21 6 (nI (m - k'))) 21 7 (nI q) 21 := pf_ne (by decide)
  generalize pf (pf (pf (pf (pf u 21 1 6) 21 2 6) 21 6 (nI (m - k'))) 21 7 (nI q)) 3 1 0 = s8 at g3 gf g21 ⊢
  obtain ⟨qa, pa⟩ := c_addB (σ := s8) (j := 3) (N := 400) (L := 0) (by omega) (by decide) g3 82
  generalize F_X0_addByte s8 3 400 82 = s11 at pa ⊢
  have e217 : s11 21 7 = nI q := by rw [pa.fr 21 (by decide) (by decide), g21, pf_s]
  have s16 : s11 16 = u 16 := (pa.fr 16 (by decide) (by decide)).trans (gf 16 (by decide) (by decide))
  have s17 : s11 17 = u 17 := (pa.fr 17 (by decide) (by decide)).trans (gf 17 (by decide) (by decide))
  rw [e217]
  obtain ⟨qc, pc⟩ := c_copy (σ := s11) (q := q) (c := k') hq24 hqk j1 pa.len (by rw [s16]; exact j6) (by rw [s17]; exact fun i hi => (j10 i hi).2)
  generalize F_X3_copyOldest s11 (nI q) = sF at pc ⊢
  refine ⟨_, _, _, rfl, ⟨q1, qa, qc, trivial⟩, ⟨q2, qr⟩, rfl, actR_1 (M' := M + 2) (n' := n) (so' := so) (si' := 6) ?_ (by omega)⟩
  rw [az]
  have F : ∀ b, b ≠ 3 → b ≠ 4 → b ≠ 21 → sF b = u b := fun b h1 h2 h3 => by rw [pc.fr b h1 h2, pa.fr b h1 h2, gf b h3 h1]
  have F21 : sF 21 = pf (pf (pf (pf u 21 1 6) 21 2 6) 21 6 (nI (m - k'))) 21 7 (nI q) 21 := by rw [pc.fr 21 (by decide) (by decide), pa.fr 21 (by decide) (by decide), g21]
  have C := R'.com
  have I := R'.ins
  have g := ar.fr
  have fk := ar.fk
  have er : ¬ u 21 4 = -1 := by rw [E.2.2.1 21 (by decide) (by decide) (by decide)]; exact hr
  have eq5 : u 21 5 = 1 := by rw [E.2.2.1 21 (by decide) (by decide) (by decide)]; exact hq1.1
  have eq49 : V 199 49 = 1 := by rw [E.2.2.2.2.1 49 (by decide) (by decide) (by decide) (by decide) (by decide)]; exact hq1.2
  have ed : u 0 2 = 1 := by rw [E.2.2.1 0 (by decide) (by decide) (by decide)]; exact hd
  have v6 : ∀ i, i < 16 * q → (V 216 i).toInt8.toInt32 = V 216 i := fun i hi => by
    have b := j10 i (by omega)
    rw [← b.1]; exact b.2
  refine ⟨⟨?_, ?_, ?_, ?_, ?_, ?_, ?_, ?_, ?_⟩, ?_, ?_, ?_, k', m, w, ⟨?_, ?_, ?_⟩⟩
  · rw [F 1 (by decide) (by decide) (by decide), F 2 (by decide) (by decide) (by decide), fk 1 (by decide) (by decide) (by decide) (by decide) (by decide), g 200 (by decide) (by decide) (by decide)]; exact C.tape
  · rw [F 0 (by decide) (by decide) (by decide), ed]
    refine Or.inr ⟨rfl, 1 + 16 * q, by omega, pc.len, ar.dsk, fun i hi => ?_⟩
    rw [pc.by_]
    by_cases h0 : i = 0
    · subst h0
      rw [if_neg (by omega), pa.by_, if_pos (by omega), ar.d0]
      exact ⟨by decide, by show isb (82 : Int32).toInt8.toInt32; exact isb_mk _⟩
    · rw [if_pos (by omega)]
      have e := ar.di (i - 1) (by omega)
      rw [show 1 + (i - 1) = i by omega, v6 _ (by omega)] at e
      have b := j10 (i - 1) (by omega)
      rw [e, s17]; exact b
  · rw [F 0 (by decide) (by decide) (by decide), F 15 (by decide) (by decide) (by decide), fk 20 (by decide) (by decide) (by decide) (by decide) (by decide), fk 21 (by decide) (by decide) (by decide) (by decide) (by decide), fk 22 (by decide) (by decide) (by decide) (by decide) (by decide), fk 23 (by decide) (by decide) (by decide) (by decide) (by decide), fk 26 (by decide) (by decide) (by decide) (by decide) (by decide), fk 27 (by decide) (by decide) (by decide) (by decide) (by decide)]; exact C.see
  · rw [F 0 (by decide) (by decide) (by decide)]; exact C.now
  · rw [F 0 (by decide) (by decide) (by decide)]; exact C.ser
  · rw [F 6 (by decide) (by decide) (by decide), g 217 (by decide) (by decide) (by decide)]; exact C.set
  · rw [F 12 (by decide) (by decide) (by decide), F 13 (by decide) (by decide) (by decide), F 14 (by decide) (by decide) (by decide), fk 17 (by decide) (by decide) (by decide) (by decide) (by decide), fk 18 (by decide) (by decide) (by decide) (by decide) (by decide), g 213 (by decide) (by decide) (by decide), g 214 (by decide) (by decide) (by decide)]; exact C.key
  · rw [fk 10 (by decide) (by decide) (by decide) (by decide) (by decide), g 202 (by decide) (by decide) (by decide), g 203 (by decide) (by decide) (by decide)]; exact C.tab
  · have ec : (fun b => sF (b + 23)) = fun b => u (b + 23) := funext (fun b => F (b + 23) (by omega) (by omega) (by omega))
    rw [ec, g 210 (by decide) (by decide) (by decide), g 211 (by decide) (by decide) (by decide), g 212 (by decide) (by decide) (by decide), g 213 (by decide) (by decide) (by decide), g 214 (by decide) (by decide) (by decide)]; exact C.crd
  · rw [F 18 (by decide) (by decide) (by decide), F 0 (by decide) (by decide) (by decide), fk 35 (by decide) (by decide) (by decide) (by decide) (by decide), fk 38 (by decide) (by decide) (by decide) (by decide) (by decide), fk 39 (by decide) (by decide) (by decide) (by decide) (by decide)]; exact R'.lat
  · rw [F 19 (by decide) (by decide) (by decide), fk 42 (by decide) (by decide) (by decide) (by decide) (by decide), fk 40 (by decide) (by decide) (by decide) (by decide) (by decide), fk 43 (by decide) (by decide) (by decide) (by decide) (by decide), fk 45 (by decide) (by decide) (by decide) (by decide) (by decide)]; exact R'.out
  · rw [F21, ar.st.1, ar.st.2, fk 47 (by decide) (by decide) (by decide) (by decide) (by decide), fk 48 (by decide) (by decide) (by decide) (by decide) (by decide), fk 49 (by decide) (by decide) (by decide) (by decide) (by decide)]
    exact ⟨by decide, rfl, rfl, ⟨6, by decide, rfl, rfl⟩, I.2.2.2.2.1, fun _ => Or.inr (Or.inr rfl), fun _ => ⟨er, 1, by decide, by decide, eq5, eq49, fun _ => rfl⟩, fun _ => I.2.2.2.2.2.2.2.1 (Or.inr (Or.inr er)), ins_lo 6 (by decide) hn⟩
  · rw [F 15 (by decide) (by decide) (by decide), F 16 (by decide) (by decide) (by decide), F 17 (by decide) (by decide) (by decide), fk 29 (by decide) (by decide) (by decide) (by decide) (by decide), fk 31 (by decide) (by decide) (by decide) (by decide) (by decide), g 216 (by decide) (by decide) (by decide)]
    exact ⟨j1, j2, j3, j4, j5, j6, j7, j8, j9, j10, j11⟩
  · rw [F 15 (by decide) (by decide) (by decide), fk 32 (by decide) (by decide) (by decide) (by decide) (by decide), fk 33 (by decide) (by decide) (by decide) (by decide) (by decide), fk 27 (by decide) (by decide) (by decide) (by decide) (by decide)]; exact P
  · intro _
    rw [F21, F 17 (by decide) (by decide) (by decide), ar.many, ar.size]
    refine ⟨m - k', q, rfl, rfl, rfl, hq, hq24, rfl, ar.w0, by omega, by omega, fun _ => ⟨hqk, fun i hi => ?_⟩, fun h => absurd (show m - k' + k' = m by omega) h⟩
    rw [ar.wi i hi, v6 i hi]; exact (j10 i (by omega)).1.symm
