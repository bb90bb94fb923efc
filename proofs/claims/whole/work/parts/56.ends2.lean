/-! The archive's end, both sides -/
theorem ub_inj {x y : Int32} (hx : isb x) (hy : isb y) (h : ub x = ub y) : x = y := isb_eq hx hy (by rw [ub_eq, ub_eq, h])
theorem c_same {σ τ : gS} {k m f q : Nat} (D : pD (σ 0 2) (σ 3 1) (τ 199 25) (σ 4) (τ 215)) (hk : k ≤ 96) (hm : m < 2 ^ 20) (hf : f + k ≤ m) (h1 : 1 ≤ q) (hq : q ≤ 24) (j1 : σ 15 1 = nI k) (j2 : σ 15 2 = nI m) (j3 : σ 16 1 = nI (16 * k)) (jb : ∀ i, i < 16 * k → isb (σ 17 i)) (a1 : σ 21 6 = nI f) (a2 : σ 21 7 = nI q) (w0 : τ 218 0 = 82) (aw : f + k = m → q ≤ k ∧ ∀ i, i < 16 * q → τ 218 (1 + i) = σ 17 i) :
    Q_X9_isArchiveOnDisk σ ∧ ((F_X9_isArchiveOnDisk σ = 1 ∧ (τ 199 25 = nI (1 + 16 * q) ∧ f + k = m ∧ ∀ i, i < 1 + 16 * q → τ 215 i = τ 218 i)) ∨ (F_X9_isArchiveOnDisk σ = 0 ∧ ¬ (τ 199 25 = nI (1 + 16 * q) ∧ f + k = m ∧ ∀ i, i < 1 + 16 * q → τ 215 i = τ 218 i))) := by
  rw [F_X9_isArchiveOnDisk_eq]
  unfold Q_X9_isArchiveOnDisk Fr_X9_isArchiveOnDisk
  rcases D with ⟨d1, d2, _⟩ | ⟨d1, n, hn, d2, d3, db⟩
  · rw [if_pos d1, if_pos d1]
    refine ⟨trivial, Or.inr ⟨rfl, fun z => ?_⟩⟩
    exact absurd (z.1.symm.trans d2) (nI_m1 (by omega))
  have nd : ¬ σ 0 2 = 0 := by rw [d1]; decide
  have on : F_X3_oldestNumber σ = nI (m - k) := by rw [F_X3_oldestNumber_eq]; unfold Fr_X3_oldestNumber; rw [j2, j1, pk_sub (by omega)]
  rw [if_neg nd, if_neg nd, on, a1, a2]
  by_cases hfm : f + k = m
  rotate_left
  · have c1 : ¬ nI (m - k) = nI f := fun z => hfm (by have := nI_inj31 (by omega) (by omega) z; omega)
    rw [if_neg c1, if_neg c1]
    exact ⟨trivial, Or.inr ⟨rfl, fun z => hfm z.2.1⟩⟩
  have c1 : nI (m - k) = nI f := by rw [show m - k = f by omega]
  obtain ⟨hqk, hw⟩ := aw hfm
  rw [if_pos c1, if_pos c1]
  have q0 := q_byteOf σ 3 (N := 400) (by decide) 0
  have b0 : F_X0_byteOf σ 3 400 0 = if 0 < n then σ 4 0 &&& 255 else -1 := byteOf_nat (i := 0) hn (by decide) d2 (by decide)
  rw [b0]
  have e17 : (1 : Int32) + nI q * 16 = nI (1 + 16 * q) := by rw [show (16 : Int32) = nI 16 from rfl, pk_mul, Nat.mul_comm, show (1 : Int32) = nI 1 from rfl, nI_add]
  have e16 : nI q * (16 : Int32) = nI (16 * q) := by rw [show (16 : Int32) = nI 16 from rfl, pk_mul, Nat.mul_comm]
  have b82 : (82 : Int32) &&& 255 = 82 := by decide
  have i82 : isb 82 := isb_mk 82
  by_cases hn0 : 0 < n
  rotate_left
  · have c2 : ¬ (-1 : Int32) = 82 := by decide
    rw [if_neg hn0, if_neg c2, if_neg c2]
    refine ⟨⟨q0, trivial⟩, Or.inr ⟨rfl, fun z => ?_⟩⟩
    have := nI_inj31 (by omega) (by omega) (z.1.symm.trans d3); omega
  rw [if_pos hn0]
  by_cases h82 : σ 4 0 &&& 255 = 82
  rotate_left
  · rw [if_neg h82, if_neg h82]
    refine ⟨⟨q0, trivial⟩, Or.inr ⟨rfl, fun z => h82 ?_⟩⟩
    rw [(db 0 hn0).1, z.2.2 0 (by omega), w0, b82]
  rw [if_pos h82, if_pos h82]
  rw [F_X3_areOldest_eq]
  unfold Q_X3_areOldest Fr_X3_areOldest
  rw [e17, e16, d2]
  by_cases hl : n = 1 + 16 * q
  rotate_left
  · have c3 : ¬ nI n = nI (1 + 16 * q) := fun z => hl (nI_inj31 (by omega) (by omega) z)
    rw [if_neg c3, if_neg c3, if_pos rfl, if_pos rfl]
    refine ⟨⟨q0, trivial, trivial⟩, Or.inr ⟨rfl, fun z => hl ?_⟩⟩
    exact nI_inj31 (by omega) (by omega) (d3.symm.trans z.1)
  have c3 : nI n = nI (1 + 16 * q) := by rw [hl]
  rw [if_pos c3, if_pos c3]
  obtain ⟨qa, al⟩ : Q_X0_isAlike σ 3 400 16 1536 1 0 (nI (16 * q)) ∧ ((F_X0_isAlike σ 3 400 16 1536 1 0 (nI (16 * q)) = 1 ∧ ∀ i, i < 16 * q → ub (σ 4 (1 + i)) = ub (σ 17 (0 + i))) ∨ (F_X0_isAlike σ 3 400 16 1536 1 0 (nI (16 * q)) = 0 ∧ ∃ i, i < 16 * q ∧ ub (σ 4 (1 + i)) ≠ ub (σ 17 (0 + i)))) := isAlike_u (σ := σ) (j := 3) (N := 400) (n := n) (j2 := 16) (N2 := 1536) (n2 := 16 * k) (a := 1) (b := 0) (m := 16 * q) hn (by decide) d2 (by omega) (by decide) j3 (by omega) (by omega) (by omega)
  have e0 : σ 4 0 = 82 := isb_eq (db 0 hn0).2 i82 (by rw [h82, b82])
  rcases al with ⟨ea, al⟩ | ⟨ea, i, hi, al⟩
  · have c4 : ¬ F_X0_isAlike σ 3 400 16 1536 1 0 (nI (16 * q)) = 0 := by rw [ea]; decide
    rw [if_neg c4, if_neg c4, if_neg n10, if_neg n10]
    refine ⟨⟨q0, ⟨qa, trivial⟩, trivial⟩, Or.inl ⟨rfl, by rw [d3, hl], hfm, fun i hi => ?_⟩⟩
    rw [← (db i (by omega)).1]
    by_cases hi0 : i = 0
    · subst hi0; rw [e0, w0]
    · have a := al (i - 1) (by omega)
      rw [show 1 + (i - 1) = i by omega, Nat.zero_add] at a
      have w := hw (i - 1) (by omega)
      rw [show 1 + (i - 1) = i by omega] at w
      rw [w]; exact ub_inj (db i (by omega)).2 (jb _ (by omega)) a
  · rw [if_pos ea, if_pos ea, if_pos rfl, if_pos rfl]
    refine ⟨⟨q0, ⟨qa, trivial⟩, trivial⟩, Or.inr ⟨rfl, fun z => al ?_⟩⟩
    rw [(db (1 + i) (by omega)).1, z.2.2 (1 + i) (by omega), hw i hi, Nat.zero_add]
theorem pJ_drop {M c m g : Nat} {σ τ u V : gS} {nm : Int64} (J : pJ M c m (σ 15 1) (τ 199 29) (σ 16 1) (σ 15 2) nm (σ 15 3) (τ 199 31) (σ 17) (τ 216)) (hg : g ≤ c) (u1 : u 15 1 = nI (c - g)) (u2 : u 15 2 = σ 15 2) (ul : u 16 1 = nI (16 * (c - g))) (ub_ : ∀ i, i < 16 * (c - g) → u 17 i = σ 17 (i + 16 * g)) (v1 : V 199 29 = nI (c - g)) (vb : ∀ i, i < 16 * (c - g) → V 216 i = (τ 216 (i + 16 * g)).toInt8.toInt32) (al : u 15 3 = V 199 31 ∧ pZ (u 15 3)) : pJ M (c - g) m (u 15 1) (V 199 29) (u 16 1) (u 15 2) nm (u 15 3) (V 199 31) (u 17) (V 216) := by
  obtain ⟨j1, j2, j3, j4, j5, j6, j7, j8, j9, j10, j11⟩ := J
  refine ⟨by omega, by omega, j3, u1, v1, ul, by rw [u2]; exact j7, j8, al, fun i hi => ?_, fun r hr => ?_⟩
  · have b := j10 (i + 16 * g) (by omega)
    rw [ub_ i hi, vb i hi, ← b.1]
    exact ⟨b.2.symm, b.2⟩
  · have e : be4 (u 17) (16 * r) = be4 (σ 17) (16 * (r + g)) := by
      unfold be4
      rw [ub_ _ (by omega), ub_ _ (by omega), ub_ _ (by omega), ub_ _ (by omega)]
      rw [show 16 * r + 16 * g = 16 * (r + g) by omega, show 16 * r + 1 + 16 * g = 16 * (r + g) + 1 by omega, show 16 * r + 2 + 16 * g = 16 * (r + g) + 2 by omega, show 16 * r + 3 + 16 * g = 16 * (r + g) + 3 by omega]
    rw [e, j11 (r + g) (by omega)]; omega
theorem a_ends {M n so t d : Nat} {σ τ : gS} {ζ : gQ} {c : Nat} (R : RLk M n so 6 t d σ τ ζ) (hp : σ 15 6 = 1) (hM : M < 2 ^ 20 - 4) (hr : ¬ σ 21 4 = -1) (S : sgt σ τ n t 22 (nI c)) :
    ∃ u V z, F_X9_endArchive σ = (1, u) ∧ Q_X9_endArchive σ ∧ Q_X10_ends τ ζ (nI c) ∧ F_X10_ends τ ζ (nI c) = (V, z) ∧ actR M n so 6 t d σ τ 1 u V z := by
  rw [F_X9_endArchive_eq, F_X10_ends_eq]
  unfold Fr_X9_endArchive Q_X9_endArchive Fr_X10_ends Q_X10_ends QJ_X10_ends_26 J_X10_ends_26 QJ_X10_ends_27 J_X10_ends_27
  have hn := ins_n R (by decide)
  obtain ⟨k, m, w, ⟨j1, j2, j3, j4, j5, j6, j7, j8, j9, j10, j11⟩, P, A⟩ := R.jr
  obtain ⟨f, q, a1, a2, a3, a4, a5, a6, a7, a8, a9, a10, a11⟩ := A rfl
  obtain ⟨qs, cs⟩ := c_same R.com.disk j1 (by omega) a9 a4 a5 j4 j7 j6 (fun i hi => (j10 i hi).2) a1 a2 a7 a10
  have rq : Q_X10_put_ τ ζ 58 1 (nI c) := by
    obtain ⟨_, _, _, _, _, _, _, q2, _⟩ := s_stepI R hp (by omega) S (a := 58) (b := 1) (sm_n 58 (by decide)) (sm_n 1 (by decide)) 2 11
    exact q2
  rcases cs with ⟨es, d1, d2, d3⟩ | ⟨es, ns⟩
  rotate_left
  · -- not the archive
    have no : (if τ 199 25 = τ 199 52 then (if τ 199 29 < τ 199 50 then QG_X10_ends_L30 (nI c) 4000 0 0 τ ζ else QG_X10_ends_L30 (nI c) 4000 1 0 τ ζ) else QG_X10_ends_L30 (nI c) 4000 0 0 τ ζ) ∧ (if τ 199 25 = τ 199 52 then (if τ 199 29 < τ 199 50 then G_X10_ends_L30 (nI c) 4000 0 0 τ ζ else G_X10_ends_L30 (nI c) 4000 1 0 τ ζ) else G_X10_ends_L30 (nI c) 4000 0 0 τ ζ) = E58 (nI c) τ ζ := by
      have no0 := e_no30 (ζ := ζ) a5 a3 a6 (nI c) rq false (fun z => absurd z (by decide))
      by_cases h1 : τ 199 25 = τ 199 52
      · rw [if_pos h1, if_pos h1]
        by_cases h2 : τ 199 29 < τ 199 50
        · rw [if_pos h2, if_pos h2]; exact no0
        · rw [if_neg h2, if_neg h2]
          refine e_no30 (ζ := ζ) a5 a3 a6 (nI c) rq true (fun _ hd hw => ?_)
          have hqk : q ≤ k := by
            rw [j5, a3] at h2
            exact Nat.not_lt.mp (fun z => h2 (nI_lt z (by omega)))
          by_cases hfm : f + k = m
          · exact ns ⟨by rw [h1, a6], hfm, hd⟩
          · have e1 := a11 hfm
            have e2 := j11 0 (by omega)
            have e3 : be4 (τ 218) 1 = be4 (σ 17) (16 * 0) := by
              unfold be4
              rw [← hw 0 (by omega), ← hw 1 (by omega), ← hw 2 (by omega), ← hw 3 (by omega), ← (j10 0 (by omega)).1, ← (j10 1 (by omega)).1, ← (j10 2 (by omega)).1, ← (j10 3 (by omega)).1]
            rw [e1, e2] at e3
            omega
      · rw [if_neg h1, if_neg h1]; exact no0
    simp only [if_pos es]
    rw [no.2]
    unfold E58
    obtain ⟨r, u, V, z, e1, e2, q1, q2, E⟩ := s_stepI R hp (by omega) S (a := 58) (b := 1) (sm_n 58 (by decide)) (sm_n 1 (by decide)) 2 11
    simp only [e1, e2, iTo]
    rcases E.1 with rfl | ⟨rfl, h6⟩
    · simp only [if_neg n10]
      refine ⟨_, _, _, rfl, ⟨qs, q1, trivial⟩, no.1, rfl, actR_1 (M' := M + 2) (n' := n) (so' := so) (si' := 2) ?_ (by omega)⟩
      have R' := E.2.1
      have I := R'.ins
      have er : ¬ u 21 4 = -1 := by rw [E.2.2.1 21 (by decide) (by decide) (by decide)]; exact hr
      exact ⟨R'.com, R'.lat, R'.out, ⟨by decide, rfl, rfl, ⟨11, by decide, rfl, rfl⟩, I.2.2.2.2.1, fun _ => Or.inl rfl, fun h => absurd h (by decide), fun _ => I.2.2.2.2.2.2.2.1 (Or.inr (Or.inr er)), ins_lo 2 (by decide) hn⟩, jr_n R'.jr (by decide)⟩
    · simp only [if_true]
      exact ⟨_, _, _, rfl, ⟨qs, q1, trivial⟩, no.1, rfl, actR_1 E.2.1 (by omega)⟩
  -- the archive
  obtain ⟨hqk, hw⟩ := a10 d2
  have es0 : ¬ F_X9_isArchiveOnDisk σ = 0 := by rw [es]; decide
  obtain ⟨r, u, V, z, e1, e2, q1, q2, E⟩ := s_stepI R hp (by omega) S (a := 57) (b := 0) (sm_n 57 (by decide)) (sm_n 0 (by decide)) 2 5
  have c1 : τ 199 25 = τ 199 52 := by rw [d1, a6]
  have c2 : ¬ τ 199 29 < τ 199 50 := by rw [j5, a3]; exact nI_nlt hqk (by omega)
  have hP : ∀ i, i < 16 * q → τ 216 i = τ 218 (1 + i) := fun i hi => by rw [hw i hi]; exact (j10 i (by omega)).1.symm
  have eq1 : τ 199 50 - 1 = nI (q - 1) := by rw [a3]; exact nIs (b := 1) a4 1 rfl
  obtain ⟨qn, en⟩ := r_number (τ := τ) (i := q - 1) (by omega)
  have eb : be4 (τ 216) (16 * (q - 1)) = f + q - 1 := by
    rw [be4_ext (g := σ 17) (fun i hi => (j10 _ (by omega)).1.symm), j11 (q - 1) (by omega)]; omega
  rw [eb] at en
  simp only [if_neg es0, if_pos c1, if_neg c2, e1]
  rcases E.1 with rfl | ⟨rfl, h6⟩
  rotate_left
  · have Y := e_yes30 (ζ := ζ) a5 a3 a6 (nI c) (by unfold Q57; rw [eq1]; simp only [e2, if_true]; exact ⟨qn, q2, trivial⟩) d3 hP
    rw [Y.2]
    unfold E57
    simp only [e2, if_true]
    exact ⟨_, _, _, rfl, ⟨qs, q1, trivial⟩, Y.1, rfl, actR_1 E.2.1 (by omega)⟩
  simp only [if_neg n10]
  have R' := E.2.1
  have C := R'.com
  have I := R'.ins
  obtain ⟨k', m', w', ⟨i1, i2, i3, i4, i5, i6, i7, i8, i9, i10, i11⟩, P', A'⟩ := R'.jr
  obtain ⟨f', q', b1, b2, b3, b4, b5, b6, b7, b8, b9, b10, b11⟩ := A' rfl
  have u21 : u 21 = σ 21 := E.2.2.1 21 (by decide) (by decide) (by decide)
  rw [u21, a1] at b1
  rw [u21, a2] at b2
  have ef : f' = f := (nI_inj31 (by omega) (by omega) b1).symm
  have eqq : q' = q := (nI_inj31 (by omega) (by omega) b2).symm
  subst ef eqq
  -- how many go
  obtain ⟨g, hg1, hg2, hg3, hg4⟩ : ∃ g : Nat, g ≤ k' ∧ (∀ r, r < g → m' - k' + r ≤ f' + q' - 1) ∧ (g < k' → f' + q' - 1 < m' - k' + g) ∧ (g = k' ∨ g = f' + q' - (m' - k')) ∧ g ≤ f' + q' - (m' - k') := by
    by_cases h : f' + q' - (m' - k') ≤ k'
    · exact ⟨f' + q' - (m' - k'), h, fun r hr => by omega, fun _ => by omega, Or.inr rfl, Nat.le_refl _⟩
    · exact ⟨k', Nat.le_refl _, fun r hr => by omega, fun hh => by omega, Or.inl rfl, by omega⟩
  obtain ⟨qr, ed, ez⟩ := r_clear (V := V) (z := z) (c := k') (g := g) (o := m' - k') (l := f' + q' - 1) (x := nI c) i1 hg1 (by omega) (by omega) i5 (fun r hr => by rw [be4_ext (g := u 17) (fun i hi => (i10 _ (by omega)).1.symm), i11 r hr]) hg2 hg3
  have Y := e_yes30 (ζ := ζ) a5 a3 a6 (nI c) (by unfold Q57; rw [eq1, en]; simp only [e2, if_neg n10]; exact ⟨qn, q2, qr⟩) d3 hP
  rw [Y.2]
  unfold E57
  rw [eq1, en]
  simp only [e2, if_neg n10]
  -- the class
  have on : F_X3_oldestNumber (pf (pf u 21 1 2) 21 2 5) = nI (m' - k') := by
    rw [F_X3_oldestNumber_eq]
    show u 15 2 - u 15 1 = _
    rw [i7, i4, pk_sub (by omega)]
  have x6 : pf (pf u 21 1 2) 21 2 5 21 6 = nI f' := by rw [pf_i (by decide), pf_i (by decide), u21]; exact a1
  have x7 : pf (pf u 21 1 2) 21 2 5 21 7 = nI q' := by rw [pf_i (by decide), pf_i (by decide), u21]; exact a2
  have gone : nI (m' - k') - nI f' = nI (m' - k' - f') := pk_sub (by omega)
  simp only [on, x6, x7, gone]
  rw [F_X3_clearOldest_eq]
  unfold Q_X3_clearOldest Fr_X3_clearOldest
  have hv : (if (0 : Int32) < (if nI k' < nI q' - nI (m' - k' - f') then nI k' else nI q' - nI (m' - k' - f')) then (if nI k' < nI q' - nI (m' - k' - f') then nI k' else nI q' - nI (m' - k' - f')) else (0 : Int32)) = nI g := by
    by_cases h : m' - k' - f' ≤ q'
    · rw [pk_sub h]
      by_cases h2 : k' < q' - (m' - k' - f')
      · have l1 : nI k' < nI (q' - (m' - k' - f')) := nI_lt h2 (by omega)
        rw [if_pos l1]
        have eg : g = k' := by omega
        by_cases h3 : k' = 0
        · rw [eg, h3, if_neg (by decide)]; rfl
        · rw [if_pos (show (0 : Int32) < nI k' from nI_lt (a := 0) (by omega) (by omega)), eg]
      · have l1 : ¬ nI k' < nI (q' - (m' - k' - f')) := nI_nlt (by omega) (by omega)
        rw [if_neg l1]
        have eg : g = q' - (m' - k' - f') := by omega
        by_cases h3 : q' - (m' - k' - f') = 0
        · rw [eg, h3, if_neg (by decide)]; rfl
        · rw [if_pos (show (0 : Int32) < nI (q' - (m' - k' - f')) from nI_lt (a := 0) (by omega) (by omega)), eg]
    · have neg : nI q' - nI (m' - k' - f') < 0 := pk_sneg (by omega) (by omega)
      have l1 : ¬ nI k' < nI q' - nI (m' - k' - f') := fun y => by
        have := lt_to y; have := lt_to neg
        rw [nI_toInt (by omega)] at *
        rw [i_0] at *
        omega
      have l2 : ¬ (0 : Int32) < nI q' - nI (m' - k' - f') := fun y => by
        have := lt_to y; have := lt_to neg; omega
      rw [if_neg l1, if_neg l2, show g = 0 by omega]; rfl
  obtain ⟨qd, D⟩ := c_drop (σ := pf (pf u 21 1 2) 21 2 5) (c := k') (g := g) i1 hg1 i4 i6 hv
  generalize F_X3_dropOldest (pf (pf u 21 1 2) 21 2 5) (nI q' - nI (m' - k' - f')) = s3 at D ⊢
  have v31 : u 15 3 = V 199 31 := i9.1
  have z31 : pZ (u 15 3) := i9.2
  have s33 : s3 15 3 = u 15 3 := by rw [D.fk 3 (by decide), pf_ne (by decide), pf_ne (by decide)]
  generalize G_X10_ends_L163 (nI c) 4000 1 (lN (f' + q' - 1)) 0 V z = G at ed ez ⊢
  -- together
  have fin : ∀ X : gS, (∀ b, b ≠ 15 → X b = s3 b) → (∀ j, j ≠ 3 → X 15 j = s3 15 j) → X 15 3 = (if V 199 31 = 0 then 0 else if k' - g < 64 then 0 else 1) → RLk (M + 2) n so 2 t d X G.1 z := by
    intro X hX hX15 hX3
    have er : ¬ u 21 4 = -1 := by rw [u21]; exact hr
    have F : ∀ b, b ≠ 15 → b ≠ 16 → b ≠ 17 → X b = pf (pf u 21 1 2) 21 2 5 b := fun b h1 h2 h3 => (hX b h1).trans (D.fr b h1 h2 h3)
    have F15 : ∀ j, j ≠ 3 → j ≠ 1 → X 15 j = u 15 j := fun j h1 h2 => by rw [hX15 j h1, D.fk j h2, pf_ne (by decide), pf_ne (by decide)]
    have fr := ed.fr
    have fk := ed.fk
    refine ⟨⟨?_, ?_, ?_, ?_, ?_, ?_, ?_, ?_, ?_⟩, ?_, ?_, ?_, k' - g, m', w', ?_, ?_, pArc_n (by decide)⟩
    · rw [F 1 (by decide) (by decide) (by decide), F 2 (by decide) (by decide) (by decide), fk 1 (by decide) (by decide) (by decide) (by decide), fr 200 (by decide) (by decide)]; exact C.tape
    · rw [F 0 (by decide) (by decide) (by decide), F 3 (by decide) (by decide) (by decide), F 4 (by decide) (by decide) (by decide), fk 25 (by decide) (by decide) (by decide) (by decide), fr 215 (by decide) (by decide)]; exact C.disk
    · rw [F 0 (by decide) (by decide) (by decide), F15 4 (by decide) (by decide), fk 20 (by decide) (by decide) (by decide) (by decide), fk 21 (by decide) (by decide) (by decide) (by decide), fk 22 (by decide) (by decide) (by decide) (by decide), fk 23 (by decide) (by decide) (by decide) (by decide), fk 26 (by decide) (by decide) (by decide) (by decide), fk 27 (by decide) (by decide) (by decide) (by decide)]; exact C.see
    · rw [F 0 (by decide) (by decide) (by decide)]; exact C.now
    · rw [F 0 (by decide) (by decide) (by decide)]; exact C.ser
    · rw [F 6 (by decide) (by decide) (by decide), fr 217 (by decide) (by decide)]; exact C.set
    · rw [F 12 (by decide) (by decide) (by decide), F 13 (by decide) (by decide) (by decide), F 14 (by decide) (by decide) (by decide), fk 17 (by decide) (by decide) (by decide) (by decide), fk 18 (by decide) (by decide) (by decide) (by decide), fr 213 (by decide) (by decide), fr 214 (by decide) (by decide)]; exact C.key
    · rw [fk 10 (by decide) (by decide) (by decide) (by decide), fr 202 (by decide) (by decide), fr 203 (by decide) (by decide)]; exact C.tab
    · have ec : (fun b => X (b + 23)) = fun b => u (b + 23) := funext (fun b => by rw [F (b + 23) (by omega) (by omega) (by omega), pf_ne (by omega), pf_ne (by omega)])
      rw [ec, fr 210 (by decide) (by decide), fr 211 (by decide) (by decide), fr 212 (by decide) (by decide), fr 213 (by decide) (by decide), fr 214 (by decide) (by decide)]; exact C.crd
    · rw [F 18 (by decide) (by decide) (by decide), F 0 (by decide) (by decide) (by decide), fk 35 (by decide) (by decide) (by decide) (by decide), fk 38 (by decide) (by decide) (by decide) (by decide), fk 39 (by decide) (by decide) (by decide) (by decide)]; exact R'.lat
    · rw [F 19 (by decide) (by decide) (by decide), fk 42 (by decide) (by decide) (by decide) (by decide), fk 40 (by decide) (by decide) (by decide) (by decide), fk 43 (by decide) (by decide) (by decide) (by decide), fk 45 (by decide) (by decide) (by decide) (by decide)]; exact R'.out
    · rw [F 21 (by decide) (by decide) (by decide), ed.st.1, ed.st.2, fk 47 (by decide) (by decide) (by decide) (by decide), fk 48 (by decide) (by decide) (by decide) (by decide), fk 49 (by decide) (by decide) (by decide) (by decide)]
      exact ⟨by decide, rfl, rfl, ⟨5, by decide, rfl, rfl⟩, I.2.2.2.2.1, fun _ => Or.inl rfl, fun h => absurd h (by decide), fun _ => I.2.2.2.2.2.2.2.1 (Or.inr (Or.inr er)), ins_lo 2 (by decide) hn⟩
    · refine pJ_drop (σ := u) (τ := V) (u := X) (V := G.1) (g := g) ⟨i1, i2, i3, i4, i5, i6, i7, i8, i9, i10, i11⟩ hg1 ?_ (F15 2 (by decide) (by decide)) ?_ (fun i hi => ?_) ed.cnt ed.by_ ⟨?_, ?_⟩
      · rw [hX15 1 (by decide)]; exact D.cnt
      · rw [hX 16 (by decide)]; exact D.len
      · rw [hX 17 (by decide), D.by_ i hi, pf_ne (by decide), pf_ne (by decide)]
      · rw [hX3, ed.al]
      · rw [hX3]; unfold pZ
        split
        · exact Or.inl rfl
        · split
          · exact Or.inl rfl
          · exact Or.inr rfl
    · rw [F15 5 (by decide) (by decide), F15 6 (by decide) (by decide), F15 4 (by decide) (by decide), fk 32 (by decide) (by decide) (by decide) (by decide), fk 33 (by decide) (by decide) (by decide) (by decide), fk 27 (by decide) (by decide) (by decide) (by decide)]; exact P'
  have d15 := D.cnt
  by_cases h64 : 64 ≤ k' - g
  · have l : (64 : Int32) ≤ nI (k' - g) := nI_le (a := 64) h64 (by omega)
    simp only [d15, if_pos l]
    refine ⟨_, G.1, G.2, rfl, ⟨qs, q1, ⟨qd, trivial⟩, trivial⟩, Y.1, rfl, actR_1 (M' := M + 2) (n' := n) (so' := so) (si' := 2) ?_ (by omega)⟩
    rw [ez]
    refine fin s3 (fun _ _ => rfl) (fun _ _ => rfl) ?_
    rw [s33, if_neg (show ¬ k' - g < 64 by omega), ← v31]
    rcases z31 with h | h
    · rw [h, if_pos rfl]
    · rw [h, if_neg n10]
  · have l : ¬ (64 : Int32) ≤ nI (k' - g) := nI_ge (b := 64) (by omega) (by decide)
    simp only [d15, if_neg l]
    refine ⟨_, G.1, G.2, rfl, ⟨qs, q1, ⟨qd, trivial⟩, trivial⟩, Y.1, rfl, actR_1 (M' := M + 2) (n' := n) (so' := so) (si' := 2) ?_ (by omega)⟩
    rw [ez]
    refine fin _ (fun b h => pf_ne h) (fun j h => pf_i h) ?_
    rw [pf_s, if_pos (show k' - g < 64 by omega)]
    split <;> rfl
