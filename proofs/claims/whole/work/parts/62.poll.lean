/-! A look as a whole -/
abbrev IVk (K n so si t : Nat) (σ τ : gS) (ζ : gQ) : Prop := (RCk K n t σ τ ζ) ∧ (pLat (σ 18 0) (τ 199 35) (σ 18 3) (τ 199 38) (σ 18 1) (ζ 36) (σ 18 2) (ζ 37) (σ 0 8) (τ 199 39)) ∧ (pOut so (σ 19 1) (τ 199 42) (σ 19 2) (τ 199 40) (σ 19 3) (τ 199 43) (σ 19 4) (τ 199 45) (σ 19 5) (ζ 44)) ∧ (pIn si n (σ 21 1) (τ 199 46) (σ 21 2) (τ 199 41) (σ 21 3) (τ 199 47) (σ 21 4) (τ 199 48) (σ 21 5) (τ 199 49)) ∧ (∃ c m : Nat, pJ K c m (σ 15 1) (τ 199 29) (σ 16 1) (σ 15 2) (ζ 30) (σ 15 3) (τ 199 31) (σ 17) (τ 216) ∧ pArc si c m (σ 21 6) (σ 21 7) (τ 199 50) (τ 199 52) (σ 17) (τ 218))
theorem IVk.com {K n so si t : Nat} {σ τ : gS} {ζ : gQ} (h : IVk K n so si t σ τ ζ) : RCk K n t σ τ ζ := h.1
theorem IVk.lat {K n so si t : Nat} {σ τ : gS} {ζ : gQ} (h : IVk K n so si t σ τ ζ) : pLat (σ 18 0) (τ 199 35) (σ 18 3) (τ 199 38) (σ 18 1) (ζ 36) (σ 18 2) (ζ 37) (σ 0 8) (τ 199 39) := h.2.1
theorem IVk.out {K n so si t : Nat} {σ τ : gS} {ζ : gQ} (h : IVk K n so si t σ τ ζ) : pOut so (σ 19 1) (τ 199 42) (σ 19 2) (τ 199 40) (σ 19 3) (τ 199 43) (σ 19 4) (τ 199 45) (σ 19 5) (ζ 44) := h.2.2.1
theorem IVk.ins {K n so si t : Nat} {σ τ : gS} {ζ : gQ} (h : IVk K n so si t σ τ ζ) : pIn si n (σ 21 1) (τ 199 46) (σ 21 2) (τ 199 41) (σ 21 3) (τ 199 47) (σ 21 4) (τ 199 48) (σ 21 5) (τ 199 49) := h.2.2.2.1
theorem IVk.jj {K n so si t : Nat} {σ τ : gS} {ζ : gQ} (h : IVk K n so si t σ τ ζ) : ∃ c m : Nat, pJ K c m (σ 15 1) (τ 199 29) (σ 16 1) (σ 15 2) (ζ 30) (σ 15 3) (τ 199 31) (σ 17) (τ 216) ∧ pArc si c m (σ 21 6) (σ 21 7) (τ 199 50) (τ 199 52) (σ 17) (τ 218) := h.2.2.2.2
theorem IV_mono {K K' n so si t : Nat} {σ τ : gS} {ζ : gQ} (I : IVk K n so si t σ τ ζ) (h : K ≤ K') : IVk K' n so si t σ τ ζ := ⟨RC_mono I.com h, I.lat, I.out, I.ins, by obtain ⟨c, m, J, A⟩ := I.jj; exact ⟨c, m, pJ_mono J h, A⟩⟩
/-- the acts of the class between the two looks at the latch -/
noncomputable def lkC (s : gS) : gS := if s 19 1 = 0 then (if (F_X9_actInside s).1 = 0 then (F_X9_actOutside (F_X9_actInside s).2).2 else (F_X9_actInside s).2) else (if (F_X9_actOutside s).1 = 0 then (F_X9_actInside (F_X9_actOutside s).2).2 else (F_X9_actOutside s).2)
def QlkC (s : gS) : Prop := if s 19 1 = 0 then Q_X9_actInside s ∧ (if (F_X9_actInside s).1 = 0 then Q_X9_actOutside (F_X9_actInside s).2 else True) else Q_X9_actOutside s ∧ (if (F_X9_actOutside s).1 = 0 then Q_X9_actInside (F_X9_actOutside s).2 else True)
theorem actO_0 {σ : gS} (h : σ 15 6 = 0 ∨ F_X4_isEnrolled σ = 0) : F_X9_actOutside σ = (0, σ) ∧ Q_X9_actOutside σ := by
  rw [F_X9_actOutside_eq]
  unfold Fr_X9_actOutside Q_X9_actOutside
  by_cases h1 : σ 15 6 = 0
  · rw [if_pos h1, if_pos h1]; exact ⟨rfl, trivial⟩
  · have h2 := h.resolve_left h1
    rw [if_neg h1, if_neg h1, if_pos h2, if_pos h2]; exact ⟨rfl, trivial⟩
theorem actI_0 {σ : gS} (h : σ 15 6 = 0) : F_X9_actInside σ = (0, σ) ∧ Q_X9_actInside σ := by
  rw [F_X9_actInside_eq]
  unfold Fr_X9_actInside Q_X9_actInside
  rw [if_pos h, if_pos h]; exact ⟨rfl, trivial⟩
theorem s_acts {M n so si t d : Nat} {σ τ : gS} {ζ : gQ} (W : RWk M n si t d σ τ ζ) (RL : σ 15 6 = 1 → RLk M n so si t d σ τ ζ) (hM : M < 2 ^ 20 - 4) (h7 : si ≠ 7) (S20 : ∀ x, (if σ 19 1 = 0 then σ 0 4 else σ 19 3) = x → pN x → sgt σ τ n t 20 x) (S22 : ∀ x, (if σ 21 1 = 2 ∧ σ 21 4 = -1 then σ 0 5 else σ 21 3) = x → pN x → sgt σ τ n t 22 x) :
    ∃ u V z, lkC σ = u ∧ QlkC σ ∧ (Q_X10_latch V z → QJ_X10_look_57 (if n = 0 then 0 else 1) τ ζ) ∧ J_X10_look_57 (if n = 0 then 0 else 1) τ ζ = ((F_X10_latch V z).1, (F_X10_latch V z).2) ∧ ∃ n' si', RWk (M + 4) n' si' t d u V z ∧ (u 15 6 = 1 → ∃ so', RLk (M + 4) n' so' si' t d u V z) := by
  unfold lkC QlkC QJ_X10_look_57 J_X10_look_57
  obtain ⟨c, m, w, J⟩ := W.jr
  by_cases hp : σ 15 6 = 1
  rotate_left
  · -- no power
    obtain ⟨p0, p33⟩ := pPow_off J.2.1 hp
    have n33 : ¬ τ 199 33 = 0 := by rw [p33]; decide
    obtain ⟨i1, i2⟩ := actI_0 p0
    obtain ⟨o1, o2⟩ := actO_0 (σ := σ) (Or.inl p0)
    simp only [if_neg n33, i1, o1, if_true]
    refine ⟨σ, τ, ζ, ?_, ?_, fun q => ⟨q, trivial⟩, rfl, n, si, RW_mono W (by omega), fun h => absurd h hp⟩
    · split <;> rfl
    · split
      · exact ⟨i2, o2⟩
      · exact ⟨o2, i2⟩
  have R := RL hp
  have h33 := pPow_on J.2.1 hp
  simp only [if_pos h33]
  have x20 := R.out
  have act1 : ∀ {r : Int32} {u V : gS} {z : gQ}, r = 1 → actR M n so si t d σ τ r u V z → ∃ n' si', RWk (M + 4) n' si' t d u V z ∧ (u 15 6 = 1 → ∃ so', RLk (M + 4) n' so' si' t d u V z) := by
    intro r u V z hr A
    rcases A with ⟨_, n', so', si', R'⟩ | ⟨h, _⟩
    · exact ⟨n', si', R'.toW, fun _ => ⟨so', R'⟩⟩
    · rw [hr] at h; exact absurd h (by decide)
  -- what an act that did nothing leaves for the other
  have nxt : ∀ {u V : gS} {z : gQ}, actR M n so si t d σ τ 0 u V z → RLk M n so si t d u V z ∧ u 15 6 = 1 ∧ u 19 = σ 19 ∧ u 0 = σ 0 ∧ (∀ x, (if u 19 1 = 0 then u 0 4 else u 19 3) = x → pN x → sgt u V n t 20 x) ∧ (∀ x, (if u 21 1 = 2 ∧ u 21 4 = -1 then u 0 5 else u 21 3) = x → pN x → sgt u V n t 22 x) := by
    intro u V z A
    rcases A with ⟨h, _⟩ | ⟨_, R', f1, f2, sR⟩
    · exact absurd h (by decide)
    · refine ⟨R', by rw [f1 15 (by decide)]; exact hp, f1 19 (by decide), f1 0 (by decide), fun x hx px => ?_, fun x hx px => ?_⟩
      · rw [f1 19 (by decide), f1 0 (by decide)] at hx
        exact sgt_same (S20 x hx px) (f1 20 (by decide)) sR
      · rw [f2 1 (by decide), f2 4 (by decide), f1 0 (by decide), f2 3 (by decide)] at hx
        exact sgt_same (S22 x hx px) (f1 22 (by decide)) sR
  have act2 : ∀ {r : Int32} {σ' τ' u V : gS} {z : gQ}, actR M n so si t d σ' τ' r u V z → ∃ n' si', RWk (M + 4) n' si' t d u V z ∧ (u 15 6 = 1 → ∃ so', RLk (M + 4) n' so' si' t d u V z) := by
    intro r σ' τ' u V z A
    rcases A with ⟨_, n', so', si', R'⟩ | ⟨_, R', _⟩
    · exact ⟨n', si', R'.toW, fun _ => ⟨so', R'⟩⟩
    · exact ⟨n, si, RW_mono R'.toW (by omega), fun _ => ⟨so, RL_mono R' (by omega)⟩⟩
  have pn20 : ∀ {u V : gS} {z : gQ}, RLk M n so si t d u V z → pN (if u 19 1 = 0 then u 0 4 else u 19 3) := by
    intro u V z R'
    by_cases h : u 19 1 = 0
    · rw [if_pos h]; exact R'.com.see.1.2
    · rw [if_neg h]
      have so0 : so ≠ 0 := fun e => h (by rw [R'.out.2.1, e]; rfl)
      obtain ⟨k, hk, e, _⟩ := R'.out.2.2.2.2.1 so0
      exact Or.inr ⟨k, hk, e⟩
  obtain ⟨ri, ui, Vi, zi, fi1, qi1, qi2, fi2, Ai⟩ := a_inside R hp hM h7 rfl (S22 _ rfl)
  have e42 : τ 199 42 = nI so := x20.2.2.1
  have e19 : σ 19 1 = nI so := x20.2.1
  by_cases hn : n = 0
  · -- not enrolled
    have n0 : F_X4_isEnrolled σ = 0 := enr_0 (by rw [R.com.key.2.1, hn])
    obtain ⟨o1, o2⟩ := actO_0 (σ := σ) (Or.inr n0)
    unfold QJ_X10_look_95 J_X10_look_95
    simp only [if_pos hn, if_true, fi2]
    by_cases hs : σ 19 1 = 0
    · simp only [if_pos hs, fi1]
      rcases actR_b Ai with rfl | rfl
      · have N := nxt Ai
        have ne : F_X4_isEnrolled ui = 0 := enr_0 (by rw [N.1.com.key.2.1, hn])
        obtain ⟨o1', o2'⟩ := actO_0 (σ := ui) (Or.inr ne)
        simp only [if_true, o1']
        exact ⟨ui, Vi, zi, rfl, ⟨qi1, o2'⟩, fun q => ⟨qi2, q, trivial⟩, rfl, act2 Ai⟩
      · simp only [if_neg n10]
        exact ⟨ui, Vi, zi, rfl, ⟨qi1, trivial⟩, fun q => ⟨qi2, q, trivial⟩, rfl, act2 Ai⟩
    · simp only [if_neg hs, o1, if_true, fi1]
      refine ⟨ui, Vi, zi, rfl, ⟨o2, qi1⟩, fun q => ⟨qi2, ?_⟩, ?_, act2 Ai⟩
      · split <;> exact ⟨q, trivial⟩
      · split <;> rfl
  -- enrolled
  have hn' : 0 < n := by omega
  simp only [if_neg hn, if_neg n10]
  by_cases hs : so = 0
  · have c1 : σ 19 1 = 0 := by rw [e19, hs]; rfl
    have c2 : τ 199 42 = 0 := by rw [e42, hs]; rfl
    unfold QJ_X10_look_95 J_X10_look_95
    simp only [if_pos c1, if_pos c2, fi1, fi2, if_neg n10]
    rcases actR_b Ai with rfl | rfl
    · obtain ⟨N1, N2, N3, N4, N5, N6⟩ := nxt Ai
      obtain ⟨ro, uo, Vo, zo, fo1, qo1, qo2, fo2, Ao⟩ := a_outside N1 N2 hM hn' rfl (N5 _ rfl (pn20 N1))
      simp only [if_true, fo1, fo2]
      exact ⟨uo, Vo, zo, rfl, ⟨qi1, qo1⟩, fun q => ⟨qi2, qo2, q, trivial⟩, rfl, act2 Ao⟩
    · simp only [if_neg n10]
      exact ⟨ui, Vi, zi, rfl, ⟨qi1, trivial⟩, fun q => ⟨qi2, q, trivial⟩, rfl, act2 Ai⟩
  · have so7 := R.out.1
    have c1 : ¬ σ 19 1 = 0 := by rw [e19]; exact nI_ne0 (by omega) (by omega)
    have c2 : ¬ τ 199 42 = 0 := by rw [e42]; exact nI_ne0 (by omega) (by omega)
    obtain ⟨ro, uo, Vo, zo, fo1, qo1, qo2, fo2, Ao⟩ := a_outside R hp hM hn' rfl (S20 _ rfl (pn20 R))
    simp only [if_neg c1, if_neg c2, fo1, fo2]
    rcases actR_b Ao with rfl | rfl
    · obtain ⟨N1, N2, N3, N4, N5, N6⟩ := nxt Ao
      obtain ⟨ri', ui', Vi', zi', fi1', qi1', qi2', fi2', Ai'⟩ := a_inside N1 N2 hM h7 rfl (N6 _ rfl)
      simp only [if_true, fi1', fi2']
      exact ⟨ui', Vi', zi', rfl, ⟨qo1, qi1'⟩, fun q => ⟨qo2, qi2', q, trivial⟩, rfl, act2 Ai'⟩
    · simp only [if_neg n10]
      exact ⟨uo, Vo, zo, rfl, ⟨qo1, trivial⟩, fun q => ⟨qo2, q, trivial⟩, rfl, act2 Ao⟩
/-- the last look at the latch, with or without power -/
theorem s_latchA {M n si t d : Nat} {σ τ : gS} {ζ : gQ} (W : RWk M n si t d σ τ ζ) (RL : σ 15 6 = 1 → ∃ so, RLk M n so si t d σ τ ζ) (hM : M < 2 ^ 20 - 4) :
    ∃ u V z, F_X9_watchLatch σ = u ∧ Q_X9_watchLatch σ ∧ Q_X10_latch τ ζ ∧ F_X10_latch τ ζ = (V, z) ∧ RWk (M + 4) n si t d u V z ∧ (u 15 6 = 1 → ∃ so, RLk (M + 4) n so si t d u V z) := by
  by_cases hp : σ 15 6 = 1
  · obtain ⟨so, R⟩ := RL hp
    obtain ⟨u, V, z, e1, q1, q2, e2, W', R', _⟩ := s_latch R hp hM
    exact ⟨u, V, z, e1, q1, q2, e2, W', fun h => ⟨so, R' h⟩⟩
  · obtain ⟨c, m, w, J⟩ := W.jr
    obtain ⟨p0, p33⟩ := pPow_off J.2.1 hp
    have n33 : ¬ τ 199 33 = 0 := by rw [p33]; decide
    obtain ⟨_, k1, k2⟩ := c_latch0 p0
    refine ⟨σ, τ, ζ, k2, k1, ?_, ?_, RW_mono W (by omega), fun h => absurd h hp⟩
    · unfold Q_X10_latch; rw [if_neg n33]; trivial
    · rw [F_X10_latch_eq]; unfold Fr_X10_latch; rw [if_neg n33]
/-- all of a look -/
theorem s_look {M n so si t d : Nat} {σ τ : gS} {ζ : gQ} (R : RLk M n so si t d σ τ ζ) (hM : M < 2 ^ 20 - 20) (h7 : si ≠ 7) (S20 : ∀ x, (if σ 19 1 = 0 then σ 0 4 else σ 19 3) = x → pN x → sgt σ τ n t 20 x) (S22 : ∀ x, (if σ 21 1 = 2 ∧ σ 21 4 = -1 then σ 0 5 else σ 21 3) = x → pN x → sgt σ τ n t 22 x) :
    ∃ u V z, F_X9_watchLatch (lkC (F_X9_watchLatch (F_X9_seeDoor σ))) = u ∧ (Q_X9_seeDoor σ ∧ Q_X9_watchLatch (F_X9_seeDoor σ) ∧ QlkC (F_X9_watchLatch (F_X9_seeDoor σ)) ∧ Q_X9_watchLatch (lkC (F_X9_watchLatch (F_X9_seeDoor σ)))) ∧ Q_X10_look τ ζ ∧ F_X10_look τ ζ = (V, z) ∧ ∃ n' si', RWk (M + 14) n' si' t d u V z ∧ (u 15 6 = 1 → ∃ so', RLk (M + 14) n' so' si' t d u V z) := by
  obtain ⟨u1, V1, z1, e1, q1, k1, f1, R1, fr1, f01, sR1⟩ := s_seeD R (by omega)
  rw [e1, f1]
  -- the first look at the latch
  have L1 : ∃ u V z, F_X9_watchLatch u1 = u ∧ Q_X9_watchLatch u1 ∧ Q_X10_latch V1 z1 ∧ F_X10_latch V1 z1 = (V, z) ∧ RWk (M + 6) n si t d u V z ∧ (u 15 6 = 1 → RLk (M + 6) n so si t d u V z) ∧ ltE u1 u V1 V := by
    by_cases hp : u1 15 6 = 1
    · exact s_latch R1 hp (by omega)
    · obtain ⟨c, m, w, J⟩ := R1.jr
      obtain ⟨p0, p33⟩ := pPow_off J.2.1 hp
      have n33 : ¬ V1 199 33 = 0 := by rw [p33]; decide
      obtain ⟨_, y1, y2⟩ := c_latch0 p0
      refine ⟨u1, V1, z1, y2, y1, ?_, ?_, RW_mono R1.toW (by omega), fun h => absurd h hp, ⟨fun _ _ _ _ _ _ => rfl, fun _ _ => rfl, sameR_r _⟩⟩
      · unfold Q_X10_latch; rw [if_neg n33]; trivial
      · rw [F_X10_latch_eq]; unfold Fr_X10_latch; rw [if_neg n33]
  obtain ⟨u2, V2, z2, e2, q2, p2, f2, W2, R2, le⟩ := L1
  rw [e2]
  have t0 : u2 0 = u1 0 := le.fr 0 (by decide) (by decide) (by decide) (by decide) (by decide)
  have t21 : u2 21 = σ 21 := (le.fr 21 (by decide) (by decide) (by decide) (by decide) (by decide)).trans (fr1 21 (by decide) (by decide) (by decide) (by decide))
  have t20 : u2 20 = σ 20 := (le.fr 20 (by decide) (by decide) (by decide) (by decide) (by decide)).trans (fr1 20 (by decide) (by decide) (by decide) (by decide))
  have t22 : u2 22 = σ 22 := (le.fr 22 (by decide) (by decide) (by decide) (by decide) (by decide)).trans (fr1 22 (by decide) (by decide) (by decide) (by decide))
  have t19 : ∀ k, k ≠ 2 → u2 19 k = σ 19 k := fun k hk => (le.f19 k hk).trans (by rw [fr1 19 (by decide) (by decide) (by decide) (by decide)])
  have sR : sameR τ V2 := ⟨le.same.1.trans sR1.1, le.same.2.1.trans sR1.2.1, le.same.2.2.1.trans sR1.2.2.1, le.same.2.2.2.1.trans sR1.2.2.2.1, le.same.2.2.2.2.trans sR1.2.2.2.2⟩
  obtain ⟨u3, V3, z3, e3, q3, k3, f3, n', si', W3, R3⟩ := s_acts (so := so) W2 R2 (by omega) h7 (fun x hx px => by
    rw [t19 1 (by decide), t19 3 (by decide), t0, f01 4 (by decide)] at hx
    exact sgt_same (S20 x hx px) t20 sR) (fun x hx px => by
    rw [t21, t0, f01 5 (by decide)] at hx
    exact sgt_same (S22 x hx px) t22 sR)
  rw [e3]
  obtain ⟨u4, V4, z4, e4, q4, p4, f4, W4, R4⟩ := s_latchA W3 R3 (by omega)
  refine ⟨u4, V4, z4, e4, ⟨q1, q2, q3, q4⟩, ?_, ?_, n', si', W4, R4⟩
  · apply k1
    unfold QJ_X10_look_40
    refine ⟨p2, ?_⟩
    simp only [f2]
    have I := W2.ins
    by_cases hn : n = 0
    · have l : V2 199 46 ≤ 1 := by rw [I.2.2.1]; exact nI_le (b := 1) (I.2.2.2.2.2.2.2.2.mpr hn) (by decide)
      rw [if_pos hn] at k3
      simp only [if_pos l]; exact k3 p4
    · have l : ¬ V2 199 46 ≤ 1 := by
        rw [I.2.2.1]
        have : ¬ si ≤ 1 := fun z => hn (I.2.2.2.2.2.2.2.2.mp z)
        have := I.1
        exact nI_ge (a := 1) (by omega) (by omega)
      rw [if_neg hn] at k3
      simp only [if_neg l]; exact k3 p4
  · unfold J_X10_look_40
    simp only [f2]
    have I := W2.ins
    by_cases hn : n = 0
    · have l : V2 199 46 ≤ 1 := by rw [I.2.2.1]; exact nI_le (b := 1) (I.2.2.2.2.2.2.2.2.mpr hn) (by decide)
      rw [if_pos hn] at f3
      simp only [if_pos l]; rw [f3, f4]
    · have l : ¬ V2 199 46 ≤ 1 := by
        rw [I.2.2.1]
        have : ¬ si ≤ 1 := fun z => hn (I.2.2.2.2.2.2.2.2.mp z)
        have := I.1
        exact nI_ge (a := 1) (by omega) (by omega)
      rw [if_neg hn] at f3
      simp only [if_neg l]; rw [f3, f4]
