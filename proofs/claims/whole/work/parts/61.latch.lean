/-! Door, latch -/
/-- what lasts when the power has gone -/
abbrev RWk (M n si t d : Nat) (σ τ : gS) (ζ : gQ) : Prop := (RCk M n t σ τ ζ) ∧ (pIn si n (σ 21 1) (τ 199 46) (σ 21 2) (τ 199 41) (σ 21 3) (τ 199 47) (σ 21 4) (τ 199 48) (σ 21 5) (τ 199 49)) ∧ (pT (σ 19 5) (ζ 44)) ∧ (∃ c m w : Nat, jrn M si d σ τ ζ c m w)
theorem RWk.com {M n si t d : Nat} {σ τ : gS} {ζ : gQ} (h : RWk M n si t d σ τ ζ) : RCk M n t σ τ ζ := h.1
theorem RWk.ins {M n si t d : Nat} {σ τ : gS} {ζ : gQ} (h : RWk M n si t d σ τ ζ) : pIn si n (σ 21 1) (τ 199 46) (σ 21 2) (τ 199 41) (σ 21 3) (τ 199 47) (σ 21 4) (τ 199 48) (σ 21 5) (τ 199 49) := h.2.1
theorem RWk.wt {M n si t d : Nat} {σ τ : gS} {ζ : gQ} (h : RWk M n si t d σ τ ζ) : pT (σ 19 5) (ζ 44) := h.2.2.1
theorem RWk.jr {M n si t d : Nat} {σ τ : gS} {ζ : gQ} (h : RWk M n si t d σ τ ζ) : ∃ c m w : Nat, jrn M si d σ τ ζ c m w := h.2.2.2
theorem RLk.toW {M n so si t d : Nat} {σ τ : gS} {ζ : gQ} (R : RLk M n so si t d σ τ ζ) : RWk M n si t d σ τ ζ := ⟨R.com, R.ins, R.out.2.2.2.2.2.2, R.jr⟩
theorem RW_mono {M M' n si t d : Nat} {σ τ : gS} {ζ : gQ} (R : RWk M n si t d σ τ ζ) (h : M ≤ M') : RWk M' n si t d σ τ ζ := ⟨RC_mono R.com h, R.ins, R.wt, by obtain ⟨c, m, w, J⟩ := R.jr; exact ⟨c, m, w, jrn_mono J h⟩⟩
/-- a record without a card, said of the journals alone -/
theorem s_putJ {M si d t c m w : Nat} {σ τ : gS} {ζ : gQ} (J : jrn M si d σ τ ζ c m w) (hM : M < 2 ^ 20 - 2) (ht : t < 2 ^ 31) (et : σ 0 10 = nI t) (ez : ζ 19 = lN t) {a b : Int32} (ha : sm a) (hb : sm b) :
    ∃ r u V z, F_X9_write σ a b = (r, u) ∧ F_X10_put_ τ ζ a b (-1) = (r, V, z) ∧ Q_X9_write σ a b ∧ Q_X10_put_ τ ζ a b (-1) ∧ (r = 1 ∨ (r = 0 ∧ u 15 6 = 0)) ∧ (∃ c' m' w' : Nat, jrn (M + 2) si d u V z c' m' w') ∧ cfr σ u ∧ u 15 4 = σ 15 4 ∧ (∀ b', b' ≠ 199 → b' ≠ 216 → V b' = τ b') ∧ (∀ k, k ≠ 29 → k ≠ 31 → k ≠ 32 → k ≠ 33 → V 199 k = τ 199 k) ∧ ∀ k, k ≠ 30 → z k = ζ k := by
  obtain ⟨an, ha1, rfl⟩ := ha
  obtain ⟨bn, hb1, rfl⟩ := hb
  rw [F_X9_write_eq, F_X10_put__eq]
  unfold Fr_X9_write Q_X9_write Q_X10_put_ Fr_X10_put_ QJ_X10_put__33 J_X10_put__33
  rw [et]
  have c1 : (-1 : Int32) < 0 := by decide
  by_cases hp : σ 15 6 = 1
  · have h33 := pPow_on J.2.1 hp
    obtain ⟨q1, q2, h, ⟨c', m', w', J', _⟩, f1, f2, f3, f4, f5⟩ : Q_X3_write σ (nI t) (nI an) (nI bn) (-1) 0 ∧ QJ_X10_put__34 (nI an) (nI bn) (-1) 0 τ ζ ∧ (((F_X3_write σ (nI t) (nI an) (nI bn) (-1) 0).1 = 1 ∧ (J_X10_put__34 (nI an) (nI bn) (-1) 0 τ ζ).1 = 1) ∨ ((F_X3_write σ (nI t) (nI an) (nI bn) (-1) 0).1 = 0 ∧ (J_X10_put__34 (nI an) (nI bn) (-1) 0 τ ζ).1 = 0 ∧ (F_X3_write σ (nI t) (nI an) (nI bn) (-1) 0).2 15 6 = 0)) ∧ (∃ c' m' w', jrn (M + 2) si d (F_X3_write σ (nI t) (nI an) (nI bn) (-1) 0).2 (J_X10_put__34 (nI an) (nI bn) (-1) 0 τ ζ).2.1 (J_X10_put__34 (nI an) (nI bn) (-1) 0 τ ζ).2.2 c' m' w' ∧ 0 < c') ∧ cfr σ (F_X3_write σ (nI t) (nI an) (nI bn) (-1) 0).2 ∧ (F_X3_write σ (nI t) (nI an) (nI bn) (-1) 0).2 15 4 = σ 15 4 ∧ (∀ b', b' ≠ 199 → b' ≠ 216 → (J_X10_put__34 (nI an) (nI bn) (-1) 0 τ ζ).2.1 b' = τ b') ∧ (∀ k, k ≠ 29 → k ≠ 31 → k ≠ 32 → k ≠ 33 → (J_X10_put__34 (nI an) (nI bn) (-1) 0 τ ζ).2.1 199 k = τ 199 k) ∧ ∀ k, k ≠ 30 → (J_X10_put__34 (nI an) (nI bn) (-1) 0 τ ζ).2.2 k = ζ k := s_put34 (s := 0) (x := -1) J hp hM ht (by decide) ha1 hb1 (Or.inl rfl) ez
    simp only [if_pos h33, if_pos c1]
    generalize F_X3_write σ (nI t) (nI an) (nI bn) (-1) 0 = F at h J' f1 f2 ⊢
    generalize J_X10_put__34 (nI an) (nI bn) (-1) 0 τ ζ = G at h J' f3 f4 f5 ⊢
    have er : F.1 = G.1 := by rcases h with ⟨h1, h2⟩ | ⟨h1, h2, _⟩ <;> rw [h1, h2]
    refine ⟨F.1, F.2, G.2.1, G.2.2, rfl, by rw [er], ⟨q1, ?_, trivial⟩, q2, ?_, ⟨c', m', w', J'⟩, f1, f2, f3, f4, f5⟩
    · rcases h with ⟨h1, _⟩ | ⟨h1, _⟩
      · exact Or.inr h1
      · exact Or.inl h1
    · rcases h with ⟨h1, h2⟩ | ⟨h1, h2, h3⟩
      · exact Or.inl h1
      · exact Or.inr ⟨h1, h3⟩
  · obtain ⟨h0, h33⟩ := pPow_off J.2.1 hp
    have n33 : ¬ τ 199 33 = 0 := by rw [h33]; decide
    rw [F_X3_write_eq]
    unfold Q_X3_write Fr_X3_write
    simp only [if_pos h0, if_neg n33]
    exact ⟨0, σ, τ, ζ, rfl, rfl, ⟨trivial, Or.inl trivial, trivial⟩, trivial, Or.inr ⟨rfl, h0⟩, ⟨c, m, w, jrn_mono J (by omega)⟩, fun _ _ _ _ => rfl, rfl, fun _ _ _ => rfl, fun _ _ _ _ _ => rfl, fun _ _ => rfl⟩
theorem pf_at (σ : gS) (a k : Nat) (v : Int32) : pf σ a k v a = upd (σ a) k v := by unfold pf; exact vu_s _ _ _
/-- the door is looked at -/
theorem s_seeD {M n so si t d : Nat} {σ τ : gS} {ζ : gQ} (R : RLk M n so si t d σ τ ζ) (hM : M < 2 ^ 20 - 2) :
    ∃ u V z, F_X9_seeDoor σ = u ∧ Q_X9_seeDoor σ ∧ (QJ_X10_look_40 V z → Q_X10_look τ ζ) ∧ F_X10_look τ ζ = J_X10_look_40 V z ∧ RLk (M + 2) n so si t d u V z ∧ (∀ b, b ≠ 0 → b ≠ 15 → b ≠ 16 → b ≠ 17 → u b = σ b) ∧ (∀ k, k ≠ 8 → u 0 k = σ 0 k) ∧ sameR τ V := by
  rw [F_X9_seeDoor_eq, F_X10_look_eq]
  unfold Fr_X9_seeDoor Q_X9_seeDoor Fr_X10_look Q_X10_look
  obtain ⟨_, _, _, _, ⟨d1, d2⟩, _⟩ := R.com.see
  have lt := R.lat
  obtain ⟨l1, l2⟩ := lt.2.2.2.2
  obtain ⟨ht, et, ez⟩ := R.com.now
  rw [← d1, ← l1]
  by_cases h : σ 0 7 = σ 0 8
  · have h' : σ 0 8 = σ 0 7 := h.symm
    simp only [if_pos h, if_pos h']
    refine ⟨_, τ, ζ, rfl, ⟨d2, trivial⟩, fun z => z, rfl, RL_mono (M := M) ?_ (by omega), fun b h1 _ _ _ => pf_ne h1, fun k hk => pf_i hk, sameR_r τ⟩
    exact ⟨R.com, ⟨lt.1, lt.2.1, lt.2.2.1, lt.2.2.2.1, ⟨h.trans l1, d2⟩⟩, R.out, R.ins, R.jr⟩
  · have h' : ¬ σ 0 8 = σ 0 7 := fun z => h z.symm
    simp only [if_neg h, if_neg h']
    have q7 : pf τ 199 39 (σ 0 7) 199 23 = σ 0 7 := by rw [pf_i (by decide)]; exact d1.symm
    have R1 : RLk M n so si t d (pf σ 0 8 (σ 0 7)) (pf τ 199 39 (σ 0 7)) ζ := ⟨R.com, ⟨lt.1, lt.2.1, lt.2.2.1, lt.2.2.2.1, ⟨rfl, d2⟩⟩, R.out, R.ins, R.jr⟩
    obtain ⟨c, m, w, J⟩ := R.jr
    have J1 : jrn M si d σ (pf τ 199 39 (σ 0 7)) ζ c m w := J
    have core : ∀ a : Int32, sm a → ∃ u V z, F_X9_write σ a 0 = u ∧ Q_X9_write σ a 0 ∧ Q_X10_put_ (pf τ 199 39 (σ 0 7)) ζ a 0 (-1) ∧ (F_X10_put_ (pf τ 199 39 (σ 0 7)) ζ a 0 (-1)).2 = (V, z) ∧ u.2 0 7 = σ 0 7 ∧ RLk (M + 2) n so si t d (pf u.2 0 8 (u.2 0 7)) V z ∧ (∀ b, b ≠ 15 → b ≠ 16 → b ≠ 17 → u.2 b = σ b) ∧ sameR τ V := by
      intro a ha
      obtain ⟨r, u, V, z, e1, e2, q1, q2, _, J', f1, f2, f3, f4, f5⟩ := s_putJ J1 hM (show t < 2 ^ 31 by omega) et ez ha (sm_n 0 (by decide))
      have e2' : F_X10_put_ (pf τ 199 39 (σ 0 7)) ζ a 0 (-1) = (r, V, z) := e2
      have e1' : F_X9_write σ a 0 = (r, u) := e1
      have u0 : u 0 = σ 0 := f1 0 (by decide) (by decide) (by decide)
      have g : rfr (pf τ 199 39 (σ 0 7)) ζ V z := ⟨fun b h1 h2 h3 => f3 b h1 h2, fun k h1 h2 h3 h4 h5 => f4 k h2 h3 h4 h5, f5⟩
      have T : pTab (V 199 10) (V 202) (V 203) := by
        rw [f4 10 (by decide) (by decide) (by decide) (by decide), f3 202 (by decide) (by decide), f3 203 (by decide) (by decide)]; exact R.com.tab
      refine ⟨(r, u), V, z, e1', q1, q2, by rw [e2'], by show u 0 7 = σ 0 7; rw [u0], ?_, f1, ?_⟩
      · refine RL_put R1 (by omega) (u := pf u 0 8 (u 0 7)) (fun b h1 h2 h3 => ?_) f2 g T ?_
        · by_cases hb : b = 0
          · subst hb; rw [pf_at, pf_at, u0]
          · rw [pf_ne hb, pf_ne hb]; exact f1 b h1 h2 h3
        · obtain ⟨c', m', w', J''⟩ := J'
          exact ⟨c', m', w', J''⟩
      · have s := sameR_rfr g
        exact s
    by_cases h7 : σ 0 7 = 0
    · obtain ⟨u, V, z, e1, q1, q2, e2, e3, R', f1, sR⟩ := core 21 (sm_n 21 (by decide))
      simp only [q7, if_pos h7, e1]
      unfold QJ_X10_look_34 J_X10_look_34
      simp only [e2]
      refine ⟨_, V, z, rfl, ⟨q1, ?_, trivial⟩, fun y => ⟨d2, q2, y⟩, rfl, R', fun b h0 h1 h2 h3 => by rw [pf_ne h0]; exact f1 b h1 h2 h3, fun k hk => by rw [pf_i hk, f1 0 (by decide) (by decide) (by decide)], sR⟩
      rw [e3]; exact d2
    · obtain ⟨u, V, z, e1, q1, q2, e2, e3, R', f1, sR⟩ := core 20 (sm_n 20 (by decide))
      simp only [q7, if_neg h7, e1]
      unfold QJ_X10_look_34 J_X10_look_34
      simp only [e2]
      refine ⟨_, V, z, rfl, ⟨q1, ?_, trivial⟩, fun y => ⟨d2, q2, y⟩, rfl, R', fun b h0 h1 h2 h3 => by rw [pf_ne h0]; exact f1 b h1 h2 h3, fun k hk => by rw [pf_i hk, f1 0 (by decide) (by decide) (by decide)], sR⟩
      rw [e3]; exact d2
/-- what a look at the latch leaves -/
abbrev ltE (σ u τ V : gS) : Prop := (∀ b, b ≠ 15 → b ≠ 16 → b ≠ 17 → b ≠ 18 → b ≠ 19 → u b = σ b) ∧ (∀ k, k ≠ 2 → u 19 k = σ 19 k) ∧ (sameR τ V)
theorem ltE.fr {σ u τ V : gS} (h : ltE σ u τ V) : ∀ b, b ≠ 15 → b ≠ 16 → b ≠ 17 → b ≠ 18 → b ≠ 19 → u b = σ b := h.1
theorem ltE.f19 {σ u τ V : gS} (h : ltE σ u τ V) : ∀ k, k ≠ 2 → u 19 k = σ 19 k := h.2.1
theorem ltE.same {σ u τ V : gS} (h : ltE σ u τ V) : sameR τ V := h.2.2
theorem lw_0 {σ : gS} (h : σ 15 6 = 0) (a b : Int32) : F_X9_write σ a b = (0, σ) ∧ Q_X9_write σ a b := by
  rw [F_X9_write_eq]
  unfold Fr_X9_write Q_X9_write
  rw [F_X3_write_eq]
  unfold Q_X3_write Fr_X3_write
  simp only [if_pos h]
  exact ⟨trivial, trivial, Or.inl trivial, trivial⟩
/-- without power the class's latch stays -/
theorem c_latch0 {σ : gS} (h : σ 15 6 = 0) : (QJ_X9_watchLatch_62 σ ∧ J_X9_watchLatch_62 σ = σ) ∧ Q_X9_watchLatch σ ∧ F_X9_watchLatch σ = σ := by
  have a := fun x y => (lw_0 h x y).1
  have b := fun x y => (lw_0 h x y).2
  have x134 : ∀ y, QJ_X9_watchLatch_134 y σ ∧ J_X9_watchLatch_134 y σ = σ := by
    intro y
    unfold QJ_X9_watchLatch_134 J_X9_watchLatch_134
    simp only [a, if_true]
    constructor
    · split
      · split
        · trivial
        · exact ⟨b _ _, trivial⟩
      · trivial
    · (repeat' split) <;> rfl
  have x98 : ∀ y, QJ_X9_watchLatch_98 y σ ∧ J_X9_watchLatch_98 y σ = σ := by
    intro y
    unfold QJ_X9_watchLatch_98 J_X9_watchLatch_98
    simp only [a, if_true]
    constructor
    · split
      · exact (x134 _).1
      · split
        · exact ⟨b _ _, (x134 _).1⟩
        · exact (x134 _).1
    · split
      · exact (x134 _).2
      · split
        · exact (x134 _).2
        · exact (x134 _).2
  have x62 : QJ_X9_watchLatch_62 σ ∧ J_X9_watchLatch_62 σ = σ := by
    unfold QJ_X9_watchLatch_62 J_X9_watchLatch_62 QJ_X9_watchLatch_97 J_X9_watchLatch_97
    constructor
    · split
      · exact (x98 _).1
      · split
        · split
          · exact (x98 _).1
          · exact (x98 _).1
        · exact (x98 _).1
    · split
      · exact (x98 _).2
      · split
        · split
          · exact (x98 _).2
          · exact (x98 _).2
        · exact (x98 _).2
  refine ⟨x62, ?_⟩
  rw [F_X9_watchLatch_eq]
  unfold Q_X9_watchLatch Fr_X9_watchLatch
  simp only [a, if_true]
  constructor
  · split
    · exact x62.1
    · split
      · exact x62.1
      · exact ⟨b _ _, x62.1⟩
  · split
    · exact x62.2
    · split
      · exact x62.2
      · exact x62.2
/-- the alarm of the door -/
theorem s_latch2 {M n so si t d : Nat} {σ τ : gS} {ζ : gQ} (R : RLk M n so si t d σ τ ζ) (hp : σ 15 6 = 1) (hM : M < 2 ^ 20 - 2) :
    ∃ u V z, J_X9_watchLatch_62 σ = u ∧ QJ_X9_watchLatch_62 σ ∧ QJ_X10_latch_48 τ ζ ∧ J_X10_latch_48 τ ζ = (V, z) ∧ RLk (M + 2) n so si t d u V z ∧ ltE σ u τ V := by
  obtain ⟨_, _, _, _, ⟨d1, d2⟩, _⟩ := R.com.see
  obtain ⟨⟨l1, l2⟩, ⟨a1, a2⟩, ⟨y, y1, y2, y3⟩, l4, l5⟩ := R.lat
  obtain ⟨ht, et, ez⟩ := R.com.now
  -- the word that is due
  have core : ∀ due : Int32, pZ due → ∃ u V z, J_X9_watchLatch_98 due σ = u ∧ QJ_X9_watchLatch_98 due σ ∧ QJ_X10_latch_79 due τ ζ ∧ J_X10_latch_79 due τ ζ = (V, z) ∧ RLk (M + 2) n so si t d u V z ∧ ltE σ u τ V := by
    intro due hdue
    unfold J_X9_watchLatch_98 QJ_X9_watchLatch_98 QJ_X10_latch_79 J_X10_latch_79 J_X9_watchLatch_134 QJ_X9_watchLatch_134
    rw [← a1]
    have idl : RLk (M + 2) n so si t d σ τ ζ := RL_mono R (by omega)
    have ide : ltE σ σ τ τ := ⟨fun _ _ _ _ _ _ => rfl, fun _ _ => rfl, sameR_r τ⟩
    have lE : ∀ (r : Int32) (u V : gS) (z : gQ), putE (M + 2) n so si t d σ τ ζ r u V z → ltE σ u τ V := fun r u V z E => ⟨fun b h1 h2 h3 _ _ => E.2.2.1 b h1 h2 h3, fun k _ => by rw [E.2.2.1 19 (by decide) (by decide) (by decide)], sameR_rfr E.2.2.2⟩
    rcases hdue with rfl | rfl
    · rcases a2 with ha | ha
      · simp only [ha, if_true]
        exact ⟨_, _, _, rfl, trivial, trivial, rfl, idl, ide⟩
      · have n01 : ¬ (0 : Int32) = 1 := by decide
        simp only [ha, if_true, if_neg n01, if_neg n10]
        unfold QJ_X10_latch_100 J_X10_latch_100
        obtain ⟨r, u, V, z, e1, e2, q1, q2, E⟩ := s_wri R hp hM (a := 25) (b := 0) (sm_n 25 (by decide)) (sm_n 0 (by decide))
        simp only [if_true, e1, e2]
        rcases E.1 with rfl | ⟨rfl, h6⟩
        · simp only [if_neg n10]
          have R' := E.2.1
          have L := R'.lat
          have le := lE _ _ _ _ E
          refine ⟨_, _, _, rfl, ⟨q1, trivial⟩, ⟨q2, Or.inl trivial, trivial⟩, rfl, ⟨R'.com, ⟨L.1, ⟨rfl, Or.inl rfl⟩, L.2.2.1, L.2.2.2.1, L.2.2.2.2⟩, R'.out, R'.ins, R'.jr⟩, ⟨fun b h1 h2 h3 h4 h5 => by rw [pf_ne h4]; exact le.fr b h1 h2 h3 h4 h5, fun k hk => by rw [pf_ne (by decide)]; exact le.f19 k hk, le.same⟩⟩
        · simp only [if_true]
          exact ⟨_, _, _, rfl, ⟨q1, trivial⟩, ⟨q2, trivial⟩, rfl, E.2.1, lE _ _ _ _ E⟩
    · rcases a2 with ha | ha
      · simp only [ha, if_neg n10, if_true]
        unfold QJ_X10_latch_100 J_X10_latch_100
        obtain ⟨r, u, V, z, e1, e2, q1, q2, E⟩ := s_wri R hp hM (a := 24) (b := 2) (sm_n 24 (by decide)) (sm_n 2 (by decide))
        simp only [if_neg n10, e1, e2]
        rcases E.1 with rfl | ⟨rfl, h6⟩
        · simp only [if_neg n10]
          have R' := E.2.1
          have L := R'.lat
          have le := lE _ _ _ _ E
          refine ⟨_, _, _, rfl, ⟨q1, trivial⟩, ⟨q2, Or.inr trivial, trivial⟩, rfl, ⟨R'.com, ⟨L.1, ⟨rfl, Or.inr rfl⟩, L.2.2.1, L.2.2.2.1, L.2.2.2.2⟩, R'.out, R'.ins, R'.jr⟩, ⟨fun b h1 h2 h3 h4 h5 => by rw [pf_ne h4]; exact le.fr b h1 h2 h3 h4 h5, fun k hk => by rw [pf_ne (by decide)]; exact le.f19 k hk, le.same⟩⟩
        · simp only [if_true]
          exact ⟨_, _, _, rfl, ⟨q1, trivial⟩, ⟨q2, trivial⟩, rfl, E.2.1, lE _ _ _ _ E⟩
      · simp only [ha, if_neg n10, if_true]
        exact ⟨_, _, _, rfl, trivial, trivial, rfl, idl, ide⟩
  have c0 := core 0 (Or.inl rfl)
  have c1 := core 1 (Or.inr rfl)
  unfold J_X9_watchLatch_62 QJ_X9_watchLatch_62 QJ_X10_latch_48 J_X10_latch_48 J_X9_watchLatch_97 QJ_X9_watchLatch_97 QJ_X10_latch_78 J_X10_latch_78
  rw [← d1, ← l1, et, ez, y2, y3]
  by_cases h1 : σ 0 7 = 0
  · simp only [if_pos h1]; exact c0
  by_cases h2 : σ 18 0 = 0
  · by_cases h3 : t < y
    · have e1 : nI t < nI y := nI_lt h3 (by omega)
      have e2 := (lc_lt (a := t) (b := y) (by omega) (by omega)).mpr h3
      simp only [if_neg h1, if_pos h2, if_pos e1, if_pos e2]; exact c0
    · have e1 : ¬ nI t < nI y := nI_nlt (by omega) (by omega)
      have e2 : ¬ _ := fun z => h3 ((lc_lt (a := t) (b := y) (by omega) (by omega)).mp z)
      simp only [if_neg h1, if_pos h2, if_neg e1, if_neg e2]; exact c1
  · simp only [if_neg h1, if_neg h2]; exact c0
theorem lkR (V : gS) : F_X10_locks V = if V 199 40 = 7 then pf (pf V 199 35 0) 199 40 1 else pf (pf V 199 35 0) 199 40 (V 199 40) := by
  rw [F_X10_locks_eq]
  unfold Fr_X10_locks
  have e : pf V 199 35 0 199 40 = V 199 40 := pf_i (by decide)
  simp only [e]
/-- the latch is looked at, with power -/
theorem s_latch {M n so si t d : Nat} {σ τ : gS} {ζ : gQ} (R : RLk M n so si t d σ τ ζ) (hp : σ 15 6 = 1) (hM : M < 2 ^ 20 - 4) :
    ∃ u V z, F_X9_watchLatch σ = u ∧ Q_X9_watchLatch σ ∧ Q_X10_latch τ ζ ∧ F_X10_latch τ ζ = (V, z) ∧ RWk (M + 4) n si t d u V z ∧ (u 15 6 = 1 → RLk (M + 4) n so si t d u V z) ∧ ltE σ u τ V := by
  obtain ⟨c, m, w, J⟩ := R.jr
  have h33 := pPow_on J.2.1 hp
  obtain ⟨⟨l1, l2⟩, ⟨a1, a2⟩, l3, l4, l5⟩ := R.lat
  obtain ⟨ht, et, ez⟩ := R.com.now
  rw [F_X9_watchLatch_eq, F_X10_latch_eq]
  unfold Q_X9_watchLatch Fr_X9_watchLatch Q_X10_latch Fr_X10_latch
  have go : ∃ u V z, J_X9_watchLatch_62 σ = u ∧ QJ_X9_watchLatch_62 σ ∧ QJ_X10_latch_48 τ ζ ∧ J_X10_latch_48 τ ζ = (V, z) ∧ RWk (M + 4) n si t d u V z ∧ (u 15 6 = 1 → RLk (M + 4) n so si t d u V z) ∧ ltE σ u τ V := by
    obtain ⟨u, V, z, e1, q1, q2, e2, R', le⟩ := s_latch2 R hp (by omega)
    exact ⟨u, V, z, e1, q1, q2, e2, RW_mono R'.toW (by omega), fun _ => RL_mono R' (by omega), le⟩
  rw [← l1, ez, et]
  rcases l2 with hl | hl
  · simp only [h33, hl, if_true]; exact go
  obtain ⟨y, y1, y2, y3⟩ := l4 hl
  simp only [h33, hl, if_true, if_neg n10, y2, y3]
  by_cases h3 : t < y
  · have e1 : nI t < nI y := nI_lt h3 (by omega)
    have e2 := (lc_lt (a := t) (b := y) (by omega) (by omega)).mpr h3
    simp only [if_pos e1, if_pos e2]; exact go
  have e1 : ¬ nI t < nI y := nI_nlt (by omega) (by omega)
  have e2 : ¬ _ := fun z => h3 ((lc_lt (a := t) (b := y) (by omega) (by omega)).mp z)
  simp only [if_neg e1, if_neg e2]
  obtain ⟨r, u, V, z, x1, x2, q1, q2, E⟩ := s_wri R hp (by omega) (a := 23) (b := 0) (sm_n 23 (by decide)) (sm_n 0 (by decide))
  simp only [x1, x2, lkR]
  have R' := E.2.1
  have u19 : u 19 = σ 19 := E.2.2.1 19 (by decide) (by decide) (by decide)
  have sR := sameR_rfr E.2.2.2
  rcases E.1 with rfl | ⟨rfl, h6⟩
  · -- the record is there
    simp only [if_neg n10]
    obtain ⟨g, g1, g2, g3⟩ := R'.out.2.2.2.1
    have o := R'.out
    have L := R'.lat
    have s2 : pf u 18 0 0 19 2 = nI g := by rw [pf_ne (by decide)]; exact g2
    -- both sides behind the lock
    have both : ∀ (s W : gS), RLk (M + 2) n so si t d s W z → (∀ b, b ≠ 18 → b ≠ 19 → s b = u b) → (∀ k, k ≠ 2 → s 19 k = u 19 k) → sameR V W → ∃ u' V' z', J_X9_watchLatch_62 s = u' ∧ QJ_X9_watchLatch_62 s ∧ (if W 199 33 = 0 then QJ_X10_latch_48 W z else True) ∧ (if W 199 33 = 0 then J_X10_latch_48 W z else (W, z)) = (V', z') ∧ RWk (M + 4) n si t d u' V' z' ∧ (u' 15 6 = 1 → RLk (M + 4) n so si t d u' V' z') ∧ ltE σ u' τ V' := by
      intro s W Rs hs hs19 hW
      have tr : sameR τ W := ⟨hW.1.trans sR.1, hW.2.1.trans sR.2.1, hW.2.2.1.trans sR.2.2.1, hW.2.2.2.1.trans sR.2.2.2.1, hW.2.2.2.2.trans sR.2.2.2.2⟩
      obtain ⟨c', m', w', J'⟩ := Rs.jr
      by_cases hps : s 15 6 = 1
      · have w33 := pPow_on J'.2.1 hps
        obtain ⟨u', V', z', f1, p1, p2, f2, R'', le⟩ := s_latch2 Rs hps (by omega)
        simp only [if_pos w33]
        refine ⟨u', V', z', f1, p1, p2, f2, RW_mono R''.toW (by omega), fun _ => RL_mono R'' (by omega), ⟨fun b h1 h2 h3 h4 h5 => ?_, fun k hk => ?_, ?_⟩⟩
        · rw [le.fr b h1 h2 h3 h4 h5, hs b h4 h5]; exact E.2.2.1 b h1 h2 h3
        · rw [le.f19 k hk, hs19 k hk, u19]
        · have l := le.same
          exact ⟨l.1.trans tr.1, l.2.1.trans tr.2.1, l.2.2.1.trans tr.2.2.1, l.2.2.2.1.trans tr.2.2.2.1, l.2.2.2.2.trans tr.2.2.2.2⟩
      · obtain ⟨p0, p33⟩ := pPow_off J'.2.1 hps
        have w33 : ¬ W 199 33 = 0 := by rw [p33]; decide
        obtain ⟨⟨k1, k2⟩, _⟩ := c_latch0 p0
        simp only [if_neg w33]
        refine ⟨s, W, z, k2, k1, trivial, rfl, RW_mono Rs.toW (by omega), fun _ => RL_mono Rs (by omega), ⟨fun b h1 h2 h3 h4 h5 => ?_, fun k hk => by rw [hs19 k hk, u19], tr⟩⟩
        rw [hs b h4 h5]; exact E.2.2.1 b h1 h2 h3
    by_cases h7 : nI g = 7
    · have v7 : V 199 40 = 7 := g3.trans h7
      have s27 : pf u 18 0 0 19 2 = 7 := s2.trans h7
      simp only [if_pos s27, if_pos v7]
      have Rs : RLk (M + 2) n so si t d (pf (pf u 18 0 0) 19 2 1) (pf (pf V 199 35 0) 199 40 1) z := ⟨R'.com, ⟨⟨rfl, Or.inl rfl⟩, L.2.1, L.2.2.1, fun h => absurd (show (0 : Int32) = 1 from h) (by decide), L.2.2.2.2⟩, ⟨o.1, o.2.1, o.2.2.1, ⟨1, by decide, rfl, rfl⟩, o.2.2.2.2.1, o.2.2.2.2.2.1, o.2.2.2.2.2.2⟩, R'.ins, R'.jr⟩
      obtain ⟨u', V', z', f1, p1, p2, f2, R'', le⟩ := both _ _ Rs (fun b h1 h2 => by rw [pf_ne h2, pf_ne h1]) (fun k hk => by rw [pf_i hk, pf_ne (by decide)]) ⟨rfl, rfl, rfl, rfl, rfl⟩
      exact ⟨u', V', z', f1, ⟨q1, p1⟩, ⟨q2, p2⟩, f2, R'', le⟩
    · have v7 : ¬ V 199 40 = 7 := by rw [g3]; exact h7
      have s27 : ¬ pf u 18 0 0 19 2 = 7 := by rw [s2]; exact h7
      simp only [if_neg s27, if_neg v7]
      have Rs : RLk (M + 2) n so si t d (pf u 18 0 0) (pf (pf V 199 35 0) 199 40 (V 199 40)) z := ⟨R'.com, ⟨⟨rfl, Or.inl rfl⟩, L.2.1, L.2.2.1, fun h => absurd (show (0 : Int32) = 1 from h) (by decide), L.2.2.2.2⟩, o, R'.ins, R'.jr⟩
      obtain ⟨u', V', z', f1, p1, p2, f2, R'', le⟩ := both _ _ Rs (fun b h1 h2 => by rw [pf_ne h1]) (fun k hk => by rw [pf_ne (by decide)]) ⟨rfl, rfl, rfl, rfl, rfl⟩
      exact ⟨u', V', z', f1, ⟨q1, p1⟩, ⟨q2, p2⟩, f2, R'', le⟩
  · -- the power went with the lost block
    simp only [if_true]
    obtain ⟨c', m', w', J'⟩ := R'.jr
    have h6' : ¬ u 15 6 = 1 := by rw [h6]; decide
    obtain ⟨_, p33⟩ := pPow_off J'.2.1 h6'
    obtain ⟨⟨k1, k2⟩, _⟩ := c_latch0 h6
    rw [k2]
    have fin : ∀ W : gS, W 199 33 = V 199 33 → RWk (M + 4) n si t d u W z → sameR V W → ∃ u' V' z', u = u' ∧ (Q_X9_write σ 23 0 ∧ QJ_X9_watchLatch_62 u) ∧ (Q_X10_put_ τ ζ 23 0 (-1) ∧ if W 199 33 = 0 then QJ_X10_latch_48 W z else True) ∧ (if W 199 33 = 0 then J_X10_latch_48 W z else (W, z)) = (V', z') ∧ RWk (M + 4) n si t d u' V' z' ∧ (u' 15 6 = 1 → RLk (M + 4) n so si t d u' V' z') ∧ ltE σ u' τ V' := by
      intro W hW RW sW
      have w33 : ¬ W 199 33 = 0 := by rw [hW, p33]; decide
      simp only [if_neg w33]
      refine ⟨u, W, z, rfl, ⟨q1, k1⟩, ⟨q2, trivial⟩, rfl, RW, fun h => absurd h h6', ⟨fun b h1 h2 h3 _ _ => E.2.2.1 b h1 h2 h3, fun k _ => by rw [u19], ?_⟩⟩
      exact ⟨sW.1.trans sR.1, sW.2.1.trans sR.2.1, sW.2.2.1.trans sR.2.2.1, sW.2.2.2.1.trans sR.2.2.2.1, sW.2.2.2.2.trans sR.2.2.2.2⟩
    have RW := RW_mono (M' := M + 4) R'.toW (by omega)
    by_cases v7 : V 199 40 = 7
    · simp only [if_pos v7]
      exact fin _ rfl ⟨RW.com, RW.ins, RW.wt, RW.jr⟩ ⟨rfl, rfl, rfl, rfl, rfl⟩
    · simp only [if_neg v7]
      exact fin _ rfl ⟨RW.com, RW.ins, RW.wt, RW.jr⟩ ⟨rfl, rfl, rfl, rfl, rfl⟩
