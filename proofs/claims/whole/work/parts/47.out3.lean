/-! Puts with or without power; the latch opens; the last acts outside -/
theorem sameR_rfr {τ V : gS} {ζ z : gQ} (h : rfr τ ζ V z) : sameR τ V := ⟨h.1 210 (by decide) (by decide) (by decide), h.1 211 (by decide) (by decide) (by decide), h.1 213 (by decide) (by decide) (by decide), h.1 214 (by decide) (by decide) (by decide), h.2.1 18 (by decide) (by decide) (by decide) (by decide) (by decide)⟩
theorem rfr_r (τ : gS) (ζ : gQ) : rfr τ ζ τ ζ := ⟨fun _ _ _ _ => rfl, fun _ _ _ _ _ _ => rfl, fun _ _ => rfl⟩
theorem s_ptA {M n so si t d : Nat} {σ τ : gS} {ζ : gQ} (R : RLk M n so si t d σ τ ζ) (hM : M < 2 ^ 20 - 2) {a b : Int32} (ha : sm a) (hb : sm b) {x v : Int32} (hx : sre τ n t x v) :
    ∃ r u V z, F_X3_write σ (σ 0 10) a b x v = (r, u) ∧ F_X10_put_ τ ζ a b x = (r, V, z) ∧ Q_X3_write σ (σ 0 10) a b x v ∧ Q_X10_put_ τ ζ a b x ∧ putE (M + 2) n so si t d σ τ ζ r u V z := by
  by_cases hp : σ 15 6 = 1
  · exact s_pt R hp hM ha hb hx
  · obtain ⟨⟨e1, q1⟩, e2, q2⟩ := s_pt0 R.toRP hp a b x v (σ 0 10)
    obtain ⟨c, m, w, J⟩ := R.jr
    exact ⟨0, σ, τ, ζ, e1, e2, q1, q2, Or.inr ⟨rfl, (pPow_off J.2.1 hp).1⟩, RL_mono R (by omega), fun _ _ _ _ => rfl, rfr_r τ ζ⟩
theorem s_wriA {M n so si t d : Nat} {σ τ : gS} {ζ : gQ} (R : RLk M n so si t d σ τ ζ) (hM : M < 2 ^ 20 - 2) {a b : Int32} (ha : sm a) (hb : sm b) :
    ∃ r u V z, F_X9_write σ a b = (r, u) ∧ F_X10_put_ τ ζ a b (-1) = (r, V, z) ∧ Q_X9_write σ a b ∧ Q_X10_put_ τ ζ a b (-1) ∧ putE (M + 2) n so si t d σ τ ζ r u V z := by
  obtain ⟨r, u, V, z, e1, e2, q1, q2, E⟩ := s_ptA R hM ha hb (x := -1) (v := 0) (Or.inl ⟨rfl, rfl⟩)
  refine ⟨r, u, V, z, ?_, e2, ?_, q2, E⟩
  · rw [F_X9_write_eq]; unfold Fr_X9_write; simp only [e1]
  · unfold Q_X9_write; simp only [e1]
    exact ⟨q1, E.1.elim (fun h => Or.inr h) (fun h => Or.inl h.1), trivial⟩
theorem s_stepOA {M n so si t d : Nat} {σ τ : gS} {ζ : gQ} {x : Int32} (R : RLk M n so si t d σ τ ζ) (hM : M < 2 ^ 20 - 2) (S : sgt σ τ n t 20 x) {a b : Int32} (ha : sm a) (hb : sm b) (p q : Int32) :
    ∃ r u V z, F_X9_stepOutside σ a b p q = (r, if r = 0 then u else pf (pf u 19 1 p) 19 2 q) ∧ F_X10_put_ τ ζ a b x = (r, V, z) ∧ Q_X9_stepOutside σ a b p q ∧ Q_X10_put_ τ ζ a b x ∧ putE (M + 2) n so si t d σ τ ζ r u V z := by
  obtain ⟨r, u, V, z, e1, e2, q1, q2, E⟩ := s_ptA R hM ha hb (sgt_sre S)
  refine ⟨r, u, V, z, ?_, e2, ?_, q2, E⟩
  · rw [F_X9_stepOutside_eq]; unfold Fr_X9_stepOutside; rw [S.1]; simp only [e1]
    rcases E.1 with h | ⟨h, _⟩
    · have n : ¬ r = 0 := by rw [h]; decide
      rw [if_neg n, if_neg n, h]
    · rw [if_pos h, if_pos h, h]
  · unfold Q_X9_stepOutside; rw [S.1]; simp only [e1]
    refine ⟨q1, ?_⟩
    rcases E.1 with h | ⟨h, _⟩
    · have n : ¬ r = 0 := by rw [h]; decide
      rw [if_neg n]; trivial
    · rw [if_pos h]; trivial
theorem s_stepIA {M n so si t d : Nat} {σ τ : gS} {ζ : gQ} {x : Int32} (R : RLk M n so si t d σ τ ζ) (hM : M < 2 ^ 20 - 2) (S : sgt σ τ n t 22 x) {a b : Int32} (ha : sm a) (hb : sm b) (p q : Int32) :
    ∃ r u V z, F_X9_stepInside σ a b p q = (r, if r = 0 then u else pf (pf u 21 1 p) 21 2 q) ∧ F_X10_put_ τ ζ a b x = (r, V, z) ∧ Q_X9_stepInside σ a b p q ∧ Q_X10_put_ τ ζ a b x ∧ putE (M + 2) n so si t d σ τ ζ r u V z := by
  obtain ⟨r, u, V, z, e1, e2, q1, q2, E⟩ := s_ptA R hM ha hb (sgt_sre S)
  refine ⟨r, u, V, z, ?_, e2, ?_, q2, E⟩
  · rw [F_X9_stepInside_eq]; unfold Fr_X9_stepInside; rw [S.1]; simp only [e1]
    rcases E.1 with h | ⟨h, _⟩
    · have n : ¬ r = 0 := by rw [h]; decide
      rw [if_neg n, if_neg n, h]
    · rw [if_pos h, if_pos h, h]
  · unfold Q_X9_stepInside; rw [S.1]; simp only [e1]
    refine ⟨q1, ?_⟩
    rcases E.1 with h | ⟨h, _⟩
    · have n : ¬ r = 0 := by rw [h]; decide
      rw [if_neg n]; trivial
    · rw [if_pos h]; trivial
/-- the latch's new times -/
theorem lat_open {M n so si t d : Nat} {u V : gS} {z : gQ} (R : RLk M n so si t d u V z) : pLat 1 1 (u 18 3) (V 199 38) (u 0 10 + u 6 0) (z 19 + (V 217 0).toInt64) (u 0 10 + u 6 0 + u 6 1) (z 19 + (V 217 0).toInt64 + (V 217 1).toInt64) (u 0 8) (V 199 39) := by
  obtain ⟨a, a1, a2, a3, a4⟩ := set_get R.com.set (show 0 < 9 by omega)
  obtain ⟨b, b1, b2, b3, b4⟩ := set_get R.com.set (show 1 < 9 by omega)
  have ha : a ≤ 10000 := a2
  have hb : b ≤ 10000 := b2
  obtain ⟨t1, t2, t3⟩ := R.com.now
  have l := R.lat
  refine ⟨⟨rfl, Or.inr rfl⟩, l.2.1, ⟨t + a + b, by omega, ?_, ?_⟩, fun _ => ⟨t + a, by omega, ?_, ?_⟩, l.2.2.2.2⟩
  · rw [t2, a3, b3, nI_add, nI_add]
  · rw [t3, a4, b4, nI_l (by omega), nI_l (by omega), lN_add, lN_add]
  · rw [t2, a3, nI_add]
  · rw [t3, a4, nI_l (by omega), lN_add]
theorem opC (s : gS) : F_X9_openLatch s = pf (pf (pf (pf s 18 0 1) 18 1 (s 0 10 + s 6 0)) 18 2 (s 0 10 + s 6 0 + s 6 1)) 19 2 7 := by
  rw [F_X9_openLatch_eq]; unfold Fr_X9_openLatch; rw [ix0, ix1]; rfl
theorem opR (V : gS) (z : gQ) : F_X10_opens V z = (pf (pf V 199 35 1) 199 40 7, vp_updL (vp_updL z 36 (z 19 + (V 217 0).toInt64)) 37 (z 19 + (V 217 0).toInt64 + (V 217 1).toInt64)) := by
  rw [F_X10_opens_eq]; unfold Fr_X10_opens; rw [ix0, ix1]; rfl
/-- state 6 -/
theorem a_leaves {M n si t d : Nat} {σ τ : gS} {ζ : gQ} {c : Nat} (R : RLk M n 6 si t d σ τ ζ) (hp : σ 15 6 = 1) (hM : M < 2 ^ 20 - 4) (S : sgt σ τ n t 20 (nI c)) :
    ∃ r u V z, F_X9_waitForRemoval σ = (r, u) ∧ Q_X9_waitForRemoval σ ∧ QJ_X10_actOutside_61 (nI c) τ ζ ∧ J_X10_actOutside_61 (nI c) τ ζ = (r, V, z) ∧ actR M n 6 si t d σ τ r u V z := by
  rw [F_X9_waitForRemoval_eq]
  unfold Fr_X9_waitForRemoval Q_X9_waitForRemoval QJ_X10_actOutside_61 J_X10_actOutside_61
  have e42 : τ 199 42 = 6 := R.out.2.2.1
  have n60 : ¬ (6 : Int32) = 0 := by decide
  have n61 : ¬ (6 : Int32) = 1 := by decide
  have n62 : ¬ (6 : Int32) = 2 := by decide
  have n63 : ¬ (6 : Int32) = 3 := by decide
  have n64 : ¬ (6 : Int32) = 4 := by decide
  have n65 : ¬ (6 : Int32) = 5 := by decide
  simp only [e42, if_neg n60, if_neg n61, if_neg n62, if_neg n63, if_neg n64, if_neg n65, if_true]
  rw [F_X10_leaves_eq]
  unfold Q_X10_leaves Fr_X10_leaves
  obtain ⟨ht, et, ez⟩ := R.com.now
  obtain ⟨⟨s1, s2⟩, _⟩ := R.com.see
  obtain ⟨y, y1, y2, y3⟩ := R.out.2.2.2.2.2.2
  rw [← s1, ez, y3]
  rcases s2 with s2 | ⟨k, hk, s2⟩
  · have c1 : ¬ (0 : Int32) ≤ -1 := by decide
    obtain ⟨r, u, V, z, e1, e2, q1, q2, E⟩ := s_writeOf R hp (by omega) S (a := 14) (b := 0) (sm_n 14 (by decide)) (sm_n 0 (by decide))
    simp only [s2, if_true, if_neg c1, e1, e2]
    rcases E.1 with rfl | ⟨rfl, h6⟩
    · simp only [if_neg n10]
      have S' := sgt_same S (E.2.2.1 20 (by decide) (by decide) (by decide)) (sameR_rfr E.2.2.2)
      obtain ⟨r', u', V', z', e1', e2', q1', q2', E'⟩ := s_stepOA E.2.1 (by omega) S' (a := 22) (b := 0) (sm_n 22 (by decide)) (sm_n 0 (by decide)) 0 7
      simp only [e1', e2']
      rcases E'.1 with rfl | ⟨rfl, h6'⟩
      · simp only [if_neg n10, opC, opR]
        refine ⟨_, _, _, _, rfl, ⟨q1, q1', trivial⟩, ⟨⟨q2, q2', trivial⟩, Or.inr trivial, trivial⟩, rfl, actR_1 (M' := M + 4) (n' := n) (so' := 0) (si' := si) ?_ (by omega)⟩
        have R' := E'.2.1
        have Lt := lat_open R'
        exact ⟨R'.com, Lt, ⟨by decide, rfl, rfl, ⟨7, by decide, rfl, rfl⟩, fun h => absurd rfl h, fun h => absurd h (by decide), R'.out.2.2.2.2.2.2⟩, R'.ins, R'.jr⟩
      · simp only [if_true]
        exact ⟨_, _, _, _, rfl, ⟨q1, q1', trivial⟩, ⟨⟨q2, q2', trivial⟩, Or.inr trivial, trivial⟩, rfl, actR_1 E'.2.1 (by omega)⟩
    · simp only [if_true]
      exact ⟨_, _, _, _, rfl, ⟨q1, trivial⟩, ⟨⟨q2, trivial⟩, Or.inr trivial, trivial⟩, rfl, actR_1 E.2.1 (by omega)⟩
  · have c1 : (0 : Int32) ≤ nI k := nI_pos' (by omega)
    have c2 : ¬ nI k = -1 := nI_m1 (by omega)
    simp only [s2, if_neg c2, if_pos c1, y2, et]
    by_cases h : y < t
    · have d1 : nI y < nI t := nI_lt h (by omega)
      have d2 := (lc_gt (a := t) (b := y) (by omega) (by omega)).mpr h
      obtain ⟨r, u, V, z, e1, e2, q1, q2, E⟩ := s_stepO R hp (by omega) S (a := 15) (b := 1) (sm_n 15 (by decide)) (sm_n 1 (by decide)) 7 5
      simp only [if_pos d1, if_pos d2, e1, e2, oTo]
      rcases E.1 with rfl | ⟨rfl, h6⟩
      · simp only [if_neg n10]
        exact ⟨_, _, _, _, rfl, ⟨q1, trivial⟩, ⟨⟨q2, trivial⟩, Or.inr trivial, trivial⟩, rfl, actR_1 (out_c E.2.1 (by decide) 7 5 (by decide) (by decide) (by decide)) (by omega)⟩
      · simp only [if_true]
        exact ⟨_, _, _, _, rfl, ⟨q1, trivial⟩, ⟨⟨q2, trivial⟩, Or.inr trivial, trivial⟩, rfl, actR_1 E.2.1 (by omega)⟩
    · have d1 : ¬ nI y < nI t := nI_nlt (by omega) (by omega)
      have d2 : ¬ _ := fun z => h ((lc_gt (a := t) (b := y) (by omega) (by omega)).mp z)
      simp only [if_neg d1, if_neg d2]
      exact ⟨_, _, _, _, rfl, trivial, ⟨trivial, Or.inl trivial, trivial⟩, rfl, actR_0 R (sameR_r _)⟩
/-- state 7 -/
theorem a_ill {M n si t d : Nat} {σ τ : gS} {ζ : gQ} {c : Nat} (R : RLk M n 7 si t d σ τ ζ) (hp : σ 15 6 = 1) (hM : M < 2 ^ 20 - 2) (S : sgt σ τ n t 20 (nI c)) :
    ∃ r u V z, F_X9_endIllVisit σ = (r, u) ∧ Q_X9_endIllVisit σ ∧ QJ_X10_actOutside_61 (nI c) τ ζ ∧ J_X10_actOutside_61 (nI c) τ ζ = (r, V, z) ∧ actR M n 7 si t d σ τ r u V z := by
  rw [F_X9_endIllVisit_eq]
  unfold Fr_X9_endIllVisit Q_X9_endIllVisit QJ_X10_actOutside_61 J_X10_actOutside_61
  have e42 : τ 199 42 = 7 := R.out.2.2.1
  have n70 : ¬ (7 : Int32) = 0 := by decide
  have n71 : ¬ (7 : Int32) = 1 := by decide
  have n72 : ¬ (7 : Int32) = 2 := by decide
  have n73 : ¬ (7 : Int32) = 3 := by decide
  have n74 : ¬ (7 : Int32) = 4 := by decide
  have n75 : ¬ (7 : Int32) = 5 := by decide
  have n76 : ¬ (7 : Int32) = 6 := by decide
  obtain ⟨⟨s1, s2⟩, _⟩ := R.com.see
  simp only [e42, if_neg n70, if_neg n71, if_neg n72, if_neg n73, if_neg n74, if_neg n75, if_neg n76, ← s1]
  rcases s2 with s2 | ⟨k, hk, s2⟩
  · have c1 : (-1 : Int32) < 0 := by decide
    obtain ⟨r, u, V, z, e1, e2, q1, q2, E⟩ := s_stepO R hp (by omega) S (a := 16) (b := 0) (sm_n 16 (by decide)) (sm_n 0 (by decide)) 0 1
    simp only [s2, if_true, if_pos c1, e1, e2, oTo]
    rcases E.1 with rfl | ⟨rfl, h6⟩
    · simp only [if_neg n10]
      exact ⟨_, _, _, _, rfl, ⟨q1, trivial⟩, ⟨q2, trivial⟩, rfl, actR_1 (out_0 E.2.1 1 (by decide)) (by omega)⟩
    · simp only [if_true]
      exact ⟨_, _, _, _, rfl, ⟨q1, trivial⟩, ⟨q2, trivial⟩, rfl, actR_1 E.2.1 (by omega)⟩
  · have c1 : ¬ nI k < 0 := nI_pos (by omega)
    have c2 : ¬ nI k = -1 := nI_m1 (by omega)
    simp only [s2, if_neg c2, if_neg c1]
    exact ⟨_, _, _, _, rfl, trivial, trivial, rfl, actR_0 R (sameR_r _)⟩
