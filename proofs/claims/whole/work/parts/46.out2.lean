/-! The acts outside, on -/
theorem out_c1 {M n so si t d : Nat} {u V : gS} {z : gQ} (R : RLk M n so si t d u V z) : so ≤ 7 := R.out.1
/-- state 2 -/
theorem a_waits {M n si t d : Nat} {σ τ : gS} {ζ : gQ} {c : Nat} (R : RLk M n 2 si t d σ τ ζ) (hp : σ 15 6 = 1) (hM : M < 2 ^ 20 - 2) (S : sgt σ τ n t 20 (nI c)) :
    ∃ r u V z, F_X9_waitForFinger σ = (r, u) ∧ Q_X9_waitForFinger σ ∧ QJ_X10_actOutside_61 (nI c) τ ζ ∧ J_X10_actOutside_61 (nI c) τ ζ = (r, V, z) ∧ actR M n 2 si t d σ τ r u V z := by
  rw [F_X9_waitForFinger_eq]
  unfold Fr_X9_waitForFinger Q_X9_waitForFinger QJ_X10_actOutside_61 J_X10_actOutside_61
  have e42 : τ 199 42 = 2 := R.out.2.2.1
  have n20 : ¬ (2 : Int32) = 0 := by decide
  have n21 : ¬ (2 : Int32) = 1 := by decide
  simp only [e42, if_neg n20, if_neg n21, if_true]
  rw [F_X10_waits_eq]
  unfold Q_X10_waits Fr_X10_waits
  obtain ⟨ht, et, ez⟩ := R.com.now
  obtain ⟨_, _, _, ⟨sf, hf⟩, _⟩ := R.com.see
  obtain ⟨y, y1, y2, y3⟩ := R.out.2.2.2.2.2.2
  rw [← sf, ez, y3]
  rcases hf with hf | ⟨f, hf1, hf⟩
  · have c1 : (-1 : Int32) < 0 := by decide
    simp only [hf, if_true, if_pos c1, y2, et]
    by_cases h : y < t
    · have d1 : nI y < nI t := nI_lt h (by omega)
      have d2 := (lc_gt (a := t) (b := y) (by omega) (by omega)).mpr h
      obtain ⟨r, u, V, z, e1, e2, q1, q2, E⟩ := s_stepO R hp hM S (a := 7) (b := 1) (sm_n 7 (by decide)) (sm_n 1 (by decide)) 7 5
      simp only [if_pos d1, if_pos d2, e1, e2, oTo]
      rcases E.1 with rfl | ⟨rfl, h6⟩
      · simp only [if_neg n10]
        exact ⟨_, _, _, _, rfl, ⟨q1, trivial⟩, ⟨⟨q2, trivial⟩, Or.inr trivial, trivial⟩, rfl, actR_1 (out_c E.2.1 (by decide) 7 5 (by decide) (by decide) (by decide)) (by omega)⟩
      · simp only [if_true]
        exact ⟨_, _, _, _, rfl, ⟨q1, trivial⟩, ⟨⟨q2, trivial⟩, Or.inr trivial, trivial⟩, rfl, actR_1 E.2.1 (by omega)⟩
    · have d1 : ¬ nI y < nI t := nI_nlt (by omega) (by omega)
      have d2 : ¬ _ := fun z => h ((lc_gt (a := t) (b := y) (by omega) (by omega)).mp z)
      simp only [if_neg d1, if_neg d2]
      exact ⟨_, _, _, _, rfl, trivial, ⟨trivial, Or.inl trivial, trivial⟩, rfl, actR_0 R (sameR_r _)⟩
  · have c1 : ¬ nI f < 0 := nI_pos (by omega)
    have c2 : ¬ nI f = -1 := nI_m1 (by omega)
    obtain ⟨r, u, V, z, e1, e2, q1, q2, E⟩ := s_stepO R hp hM S (a := 6) (b := 0) (sm_n 6 (by decide)) (sm_n 0 (by decide)) 3 3
    simp only [hf, if_neg c2, if_neg c1, e1, e2, oTo]
    rcases E.1 with rfl | ⟨rfl, h6⟩
    · simp only [if_neg n10]
      refine ⟨_, _, _, _, rfl, ⟨q1, trivial⟩, ⟨⟨q2, trivial⟩, Or.inr trivial, trivial⟩, rfl, actR_1 (M' := M + 2) (n' := n) (so' := 3) (si' := si) ?_ (by omega)⟩
      have R' := E.2.1
      have eu : u 0 6 = nI f := by rw [E.2.2.1 0 (by decide) (by decide) (by decide)]; exact hf
      have eV : V 199 22 = nI f := by rw [E.2.2.2.2.1 22 (by decide) (by decide) (by decide) (by decide) (by decide), ← sf]; exact hf
      exact ⟨R'.com, R'.lat, ⟨by decide, rfl, rfl, ⟨3, by decide, rfl, rfl⟩, fun _ => R'.out.2.2.2.2.1 (by decide), fun _ => ⟨f, hf1, eu, eV⟩, R'.out.2.2.2.2.2.2⟩, R'.ins, R'.jr⟩
    · simp only [if_true]
      exact ⟨_, _, _, _, rfl, ⟨q1, trivial⟩, ⟨⟨q2, trivial⟩, Or.inr trivial, trivial⟩, rfl, actR_1 E.2.1 (by omega)⟩
/-- state 3 -/
theorem a_finger {M n si t d : Nat} {σ τ : gS} {ζ : gQ} {c : Nat} (R : RLk M n 3 si t d σ τ ζ) (hp : σ 15 6 = 1) (hM : M < 2 ^ 20 - 2) (hc : c < 16) (S : sgt σ τ n t 20 (nI c)) (G : sgc σ τ n t 20 c) :
    ∃ r u V z, F_X9_judgeFinger σ = (r, u) ∧ Q_X9_judgeFinger σ ∧ QJ_X10_actOutside_61 (nI c) τ ζ ∧ J_X10_actOutside_61 (nI c) τ ζ = (r, V, z) ∧ actR M n 3 si t d σ τ r u V z := by
  rw [F_X9_judgeFinger_eq]
  unfold Fr_X9_judgeFinger Q_X9_judgeFinger QJ_X10_actOutside_61 J_X10_actOutside_61
  have e42 : τ 199 42 = 3 := R.out.2.2.1
  have n30 : ¬ (3 : Int32) = 0 := by decide
  have n31 : ¬ (3 : Int32) = 1 := by decide
  have n32 : ¬ (3 : Int32) = 2 := by decide
  simp only [e42, if_neg n30, if_neg n31, if_neg n32, if_true]
  obtain ⟨ht, et, ez⟩ := R.com.now
  obtain ⟨qg, cg, sg⟩ : Q_X10_isGood τ ζ (nI c) 2 ∧ (((F_X10_isGood τ ζ (nI c) 2).1 = 1 ∧ goodC τ n t c 2) ∨ ((F_X10_isGood τ ζ (nI c) 2).1 = 0 ∧ ¬ goodC τ n t c 2)) ∧ scr τ (F_X10_isGood τ ζ (nI c) 2).2 := r_good (p := 2) R.com.ref hc (by omega) (by omega) ez
  generalize F_X10_isGood τ ζ (nI c) 2 = fg at cg sg ⊢
  have Rg := RL_scr R sg
  have Sg := sgt_same S rfl (sameR_scr sg)
  have no : ∃ r u V z, ((1 : Int32), (F_X9_stepOutside σ 9 1 7 5).2) = (r, u) ∧ Q_X9_stepOutside σ 9 1 7 5 ∧ QJ_X10_actOutside_181 (nI c) fg.2 ζ ∧ J_X10_actOutside_181 (nI c) fg.2 ζ = (r, V, z) ∧ actR M n 3 si t d σ τ r u V z := by
    obtain ⟨r, u, V, z, e1, e2, q1, q2, E⟩ := s_stepO Rg hp hM Sg (a := 9) (b := 1) (sm_n 9 (by decide)) (sm_n 1 (by decide)) 7 5
    unfold QJ_X10_actOutside_181 J_X10_actOutside_181 QJ_X10_actOutside_182 J_X10_actOutside_182 QJ_X10_actOutside_195 J_X10_actOutside_195 QJ_X10_actOutside_204 J_X10_actOutside_204
    simp only [if_true, e1, e2, oTo]
    rcases E.1 with rfl | ⟨rfl, h6⟩
    · simp only [if_neg n10]
      exact ⟨_, _, _, _, rfl, q1, ⟨q2, trivial⟩, rfl, actR_1 (out_c E.2.1 (by decide) 7 5 (by decide) (by decide) (by decide)) (by omega)⟩
    · simp only [if_true]
      exact ⟨_, _, _, _, rfl, q1, ⟨q2, trivial⟩, rfl, actR_1 E.2.1 (by omega)⟩
  rcases cg with ⟨eg, gg⟩ | ⟨eg, gg⟩
  rotate_left
  · have e4 : σ 20 4 = 0 := by
      rcases G.fin with ⟨_, z⟩ | ⟨z, _⟩
      · exact absurd z gg
      · exact z
    simp only [if_pos e4, if_pos eg]
    obtain ⟨r, u, V, z, h1, h2, h3, h4, h5⟩ := no
    exact ⟨r, u, V, z, h1, ⟨h2, trivial⟩, ⟨qg, h3⟩, h4, h5⟩
  have egn : ¬ fg.1 = 0 := by rw [eg]; decide
  have e4 : ¬ σ 20 4 = 0 := by
    rcases G.fin with ⟨z, _⟩ | ⟨_, z⟩
    · rw [z]; decide
    · exact absurd gg z
  obtain ⟨a, ha, fa, fb⟩ := R.out.2.2.2.2.2.1 rfl
  have sb := be2_lt (rwR τ c 2) 21
  have cs : F_X9_scoreOf (σ 19 4) (σ 20 5) = nI (zer (a ^^^ be2 (rwR τ c 2) 21) 16) := by rw [fa, G.tmp gg]; exact c_score ha sb
  obtain ⟨qr, rs⟩ := r_score (τ := fg.2) hc ha (by rw [sg.2.1 45 (by decide)]; exact fb)
  rw [rwR_same (sameR_scr sg), Nat.xor_comm] at rs
  obtain ⟨v, v1, v2, v3, v4⟩ := set_get R.com.set (show 6 < 9 by omega)
  have e217 : fg.2 217 6 = nI v := by rw [sg.1 217 (by decide) (by decide)]; exact v4
  have i6 : ix (6 : Int32) = 6 := ix_n (n := 6) (by decide)
  simp only [if_neg egn, if_neg e4, cs, rs, i6, v3, e217]
  by_cases h : nI (zer (a ^^^ be2 (rwR τ c 2) 21) 16) < nI v
  · simp only [if_pos h]
    obtain ⟨r, u, V, z, h1, h2, h3, h4, h5⟩ := no
    exact ⟨r, u, V, z, h1, ⟨h2, trivial⟩, ⟨qg, qr, h3⟩, h4, h5⟩
  · simp only [if_neg h]
    obtain ⟨r, u, V, z, e1, e2, q1, q2, E⟩ := s_stepO Rg hp hM Sg (a := 8) (b := 0) (sm_n 8 (by decide)) (sm_n 0 (by decide)) 4 3
    unfold QJ_X10_actOutside_182 J_X10_actOutside_182 QJ_X10_actOutside_195 J_X10_actOutside_195 QJ_X10_actOutside_204 J_X10_actOutside_204
    simp only [if_neg n10, e1, e2, oTo]
    rcases E.1 with rfl | ⟨rfl, h6⟩
    · simp only [if_neg n10]
      exact ⟨_, _, _, _, rfl, ⟨q1, trivial⟩, ⟨qg, qr, q2, trivial⟩, rfl, actR_1 (out_c E.2.1 (by decide) 4 3 (by decide) (by decide) (by decide)) (by omega)⟩
    · simp only [if_true]
      exact ⟨_, _, _, _, rfl, ⟨q1, trivial⟩, ⟨qg, qr, q2, trivial⟩, rfl, actR_1 E.2.1 (by omega)⟩
/-- opening times -/
theorem s_open {M n t : Nat} {σ τ : gS} {ζ : gQ} (C : RCk M n t σ τ ζ) : Q_X9_isOpeningTime σ ∧ F_X9_isOpeningTime σ = F_X10_isOpenNow τ ζ ∧ pZ (F_X10_isOpenNow τ ζ) := by
  rw [F_X9_isOpeningTime_eq, F_X10_isOpenNow_eq]
  unfold Q_X9_isOpeningTime Fr_X9_isOpeningTime Fr_X10_isOpenNow QJ_X9_isOpeningTime_25 J_X9_isOpeningTime_25 QJ_X9_isOpeningTime_42 J_X9_isOpeningTime_42
  obtain ⟨ht, et, ez⟩ := C.now
  have i7 : ix (7 : Int32) = 7 := ix_n (n := 7) (by decide)
  have i8 : ix (8 : Int32) = 8 := ix_n (n := 8) (by decide)
  obtain ⟨o, o1, o2, o3, o4⟩ := set_get C.set (show 7 < 9 by omega)
  obtain ⟨k, k1, k2, k3, k4⟩ := set_get C.set (show 8 < 9 by omega)
  have r1 : rem32 (nI t) 1000 = nI (t % 1000) := pk_rem (d := 1000) (by omega) (by decide) (by decide)
  have r2 : rem64 (lN t) 1000 = lN (t % 1000) := pk_lRem (b := 1000) (by omega) (by decide) (by decide)
  have x10 : ¬ (1 : Int32) = 0 := by decide
  simp only [et, ez, i7, i8, o3, o4, k3, k4, r1, r2, lN_i]
  generalize nI (t % 1000) = v
  generalize nI o = p
  generalize nI k = q
  by_cases h1 : v < p
  · have h1' : ¬ p ≤ v := fun z => Int32.not_lt.mpr z h1
    by_cases h2 : q < v
    · by_cases h3 : q < p
      · simp only [h1, h1', h2, h3, if_true, if_false]; exact ⟨trivial, trivial, Or.inl rfl⟩
      · simp only [h1, h1', h2, h3, if_true, if_false]; exact ⟨trivial, trivial, Or.inl rfl⟩
    · by_cases h3 : q < p
      · simp only [h1, h1', h2, h3, if_true, if_false, if_neg x10]; exact ⟨trivial, trivial, Or.inr rfl⟩
      · simp only [h1, h1', h2, h3, if_true, if_false, if_neg x10]; exact ⟨trivial, trivial, Or.inl rfl⟩
  · have h1' : p ≤ v := Int32.not_lt.mp h1
    by_cases h2 : q < v
    · by_cases h3 : q < p
      · simp only [h1, h1', h2, h3, if_true, if_false, if_neg x10]; exact ⟨trivial, trivial, Or.inr rfl⟩
      · simp only [h1, h1', h2, h3, if_true, if_false, if_neg x10]; exact ⟨trivial, trivial, Or.inl rfl⟩
    · by_cases h3 : q < p
      · simp only [h1, h1', h2, h3, if_true, if_false, if_neg x10]; exact ⟨trivial, trivial, Or.inr rfl⟩
      · simp only [h1, h1', h2, h3, if_true, if_false, if_neg x10]; exact ⟨trivial, trivial, Or.inr rfl⟩
/-- state 5 -/
theorem a_entry {M n si t d : Nat} {σ τ : gS} {ζ : gQ} {c : Nat} (R : RLk M n 5 si t d σ τ ζ) (hp : σ 15 6 = 1) (hM : M < 2 ^ 20 - 2) (hc : c < 16) (S : sgt σ τ n t 20 (nI c)) (G : sgc σ τ n t 20 c) :
    ∃ r u V z, F_X9_judgeEntry σ = (r, u) ∧ Q_X9_judgeEntry σ ∧ QJ_X10_actOutside_61 (nI c) τ ζ ∧ J_X10_actOutside_61 (nI c) τ ζ = (r, V, z) ∧ actR M n 5 si t d σ τ r u V z := by
  rw [F_X9_judgeEntry_eq]
  unfold Fr_X9_judgeEntry Q_X9_judgeEntry QJ_X10_actOutside_61 J_X10_actOutside_61
  have e42 : τ 199 42 = 5 := R.out.2.2.1
  have n50 : ¬ (5 : Int32) = 0 := by decide
  have n51 : ¬ (5 : Int32) = 1 := by decide
  have n52 : ¬ (5 : Int32) = 2 := by decide
  have n53 : ¬ (5 : Int32) = 3 := by decide
  have n54 : ¬ (5 : Int32) = 4 := by decide
  simp only [e42, if_neg n50, if_neg n51, if_neg n52, if_neg n53, if_neg n54, if_true]
  obtain ⟨ht, et, ez⟩ := R.com.now
  have i5 : ix (5 : Int32) = 5 := ix_n (n := 5) (by decide)
  obtain ⟨v, v1, v2, v3, v4⟩ := set_get R.com.set (show 5 < 9 by omega)
  have hv : v ≤ 5 := v2
  simp only [i5, v3]
  -- the two ends
  have no : ∀ s, scr τ s → ∃ r u V z, ((1 : Int32), (F_X9_stepOutside σ 13 1 7 5).2) = (r, u) ∧ Q_X9_stepOutside σ 13 1 7 5 ∧ QJ_X10_actOutside_300 (nI c) s ζ ∧ J_X10_actOutside_300 (nI c) s ζ = (r, V, z) ∧ actR M n 5 si t d σ τ r u V z := by
    intro s sc
    obtain ⟨r, u, V, z, e1, e2, q1, q2, E⟩ := s_stepO (RL_scr R sc) hp hM (sgt_same S rfl (sameR_scr sc)) (a := 13) (b := 1) (sm_n 13 (by decide)) (sm_n 1 (by decide)) 7 5
    unfold QJ_X10_actOutside_300 J_X10_actOutside_300 QJ_X10_actOutside_301 J_X10_actOutside_301 QJ_X10_actOutside_316 J_X10_actOutside_316 QJ_X10_actOutside_326 J_X10_actOutside_326 QJ_X10_actOutside_346 J_X10_actOutside_346 QJ_X10_actOutside_356 J_X10_actOutside_356
    simp only [if_true, e1, e2, oTo]
    rcases E.1 with rfl | ⟨rfl, h6⟩
    · simp only [if_neg n10]
      have R' := out_c E.2.1 (by decide) 7 5 (by decide) (by decide) (by decide)
      refine ⟨_, _, _, _, rfl, q1, ⟨q2, trivial⟩, rfl, actR_1 (M' := M + 2) (n' := n) (so' := 7) (si' := si) ?_ (by omega)⟩
      exact ⟨R'.com, R'.lat, R'.out, R'.ins, R'.jr⟩
    · simp only [if_true]
      exact ⟨_, _, _, _, rfl, q1, ⟨q2, trivial⟩, rfl, actR_1 E.2.1 (by omega)⟩
  have yes : ∀ s, scr τ s → ∃ r u V z, (if (F_X9_stepOutside σ 12 0 6 4).1 = 0 then ((1 : Int32), (F_X9_stepOutside σ 12 0 6 4).2) else ((1 : Int32), pf (F_X9_stepOutside σ 12 0 6 4).2 19 5 ((F_X9_stepOutside σ 12 0 6 4).2 0 10 + (F_X9_stepOutside σ 12 0 6 4).2 6 (ix 3)))) = (r, u) ∧ Q_X9_stepOutside σ 12 0 6 4 ∧ QJ_X10_actOutside_301 (nI c) 1 s ζ ∧ J_X10_actOutside_301 (nI c) 1 s ζ = (r, V, z) ∧ actR M n 5 si t d σ τ r u V z := by
    intro s sc
    obtain ⟨r, u, V, z, e1, e2, q1, q2, E⟩ := s_stepO (RL_scr R sc) hp hM (sgt_same S rfl (sameR_scr sc)) (a := 12) (b := 0) (sm_n 12 (by decide)) (sm_n 0 (by decide)) 6 4
    unfold QJ_X10_actOutside_301 J_X10_actOutside_301 QJ_X10_actOutside_316 J_X10_actOutside_316 QJ_X10_actOutside_326 J_X10_actOutside_326 QJ_X10_actOutside_346 J_X10_actOutside_346 QJ_X10_actOutside_356 J_X10_actOutside_356
    simp only [if_neg n10, e1, e2, oTo, ix3]
    rcases E.1 with rfl | ⟨rfl, h6⟩
    · simp only [if_neg n10]
      have R' := out_c E.2.1 (by decide) 6 4 (by decide) (by decide) (by decide)
      refine ⟨_, _, _, _, rfl, q1, ⟨q2, trivial⟩, rfl, actR_1 (M' := M + 2) (n' := n) (so' := 6) (si' := si) ?_ (by omega)⟩
      refine ⟨R'.com, R'.lat, ⟨R'.out.1, R'.out.2.1, R'.out.2.2.1, R'.out.2.2.2.1, R'.out.2.2.2.2.1, R'.out.2.2.2.2.2.1, ?_⟩, R'.ins, R'.jr⟩
      exact pT_add (i := 3) E.2.1.com (by decide)
    · simp only [if_true]
      exact ⟨_, _, _, _, rfl, q1, ⟨q2, trivial⟩, rfl, actR_1 E.2.1 (by omega)⟩
  -- with a class
  have cls : ∀ (s : gS) (p w : Nat), scr τ s → p < 4 → w < 256 → ub (rwR τ c p 22) = w → F_X8_classHeld σ 20 = nI w → ∃ r u V z, (if F_X8_classHeld σ 20 < nI v then ((1 : Int32), (F_X9_stepOutside σ 13 1 7 5).2) else if F_X9_isOpeningTime σ = 0 then ((1 : Int32), (F_X9_stepOutside σ 13 1 7 5).2) else if (F_X9_stepOutside σ 12 0 6 4).1 = 0 then ((1 : Int32), (F_X9_stepOutside σ 12 0 6 4).2) else ((1 : Int32), pf (F_X9_stepOutside σ 12 0 6 4).2 19 5 ((F_X9_stepOutside σ 12 0 6 4).2 0 10 + (F_X9_stepOutside σ 12 0 6 4).2 6 (ix 3)))) = (r, u) ∧ (if F_X8_classHeld σ 20 < nI v then Q_X9_stepOutside σ 13 1 7 5 ∧ True else Q_X9_isOpeningTime σ ∧ if F_X9_isOpeningTime σ = 0 then Q_X9_stepOutside σ 13 1 7 5 ∧ True else Q_X9_stepOutside σ 12 0 6 4 ∧ if (F_X9_stepOutside σ 12 0 6 4).1 = 0 then True else True) ∧ QJ_X10_actOutside_272 (nI c) (nI c) (nI p) s ζ ∧ J_X10_actOutside_272 (nI c) (nI c) (nI p) s ζ = (r, V, z) ∧ actR M n 5 si t d σ τ r u V z := by
    intro s p w sc hp4 hw ew ec
    unfold QJ_X10_actOutside_272 J_X10_actOutside_272
    have f : Q_X10_field s (nI c) (nI p) 22 1 ∧ F_X10_field s (nI c) (nI p) 22 1 = lN w := by
      have := r_field (τ := s) (p := p) (i := 22) (n := 1) hc hp4 (by omega) (by omega)
      rw [beN_1] at this
      have e : s 210 = τ 210 := sc.1 210 (by decide) (by decide)
      unfold rwR at ew
      rw [e] at this
      rw [← ew]; exact this
    have e217 : s 217 5 = nI v := by rw [sc.1 217 (by decide) (by decide)]; exact v4
    obtain ⟨qo, eo, _⟩ := s_open (RC_scr R.com sc)
    rw [ec, f.2, i5, e217, nI_l (by omega), eo]
    by_cases h : w < v
    · have d1 : nI w < nI v := nI_lt h (by omega)
      have d2 := (lc_lt (a := w) (b := v) (by omega) (by omega)).mpr h
      simp only [if_pos d1, if_pos d2]
      obtain ⟨r, u, V, z, h1, h2, h3, h4, h5⟩ := no s sc
      exact ⟨r, u, V, z, h1, ⟨h2, trivial⟩, ⟨f.1, h3⟩, h4, h5⟩
    · have d1 : ¬ nI w < nI v := nI_nlt (by omega) (by omega)
      have d2 : ¬ _ := fun z => h ((lc_lt (a := w) (b := v) (by omega) (by omega)).mp z)
      simp only [if_neg d1, if_neg d2]
      by_cases ho : F_X10_isOpenNow s ζ = 0
      · simp only [if_pos ho]
        obtain ⟨r, u, V, z, h1, h2, h3, h4, h5⟩ := no s sc
        exact ⟨r, u, V, z, h1, ⟨qo, h2, trivial⟩, ⟨f.1, h3⟩, h4, h5⟩
      · simp only [if_neg ho]
        obtain ⟨r, u, V, z, h1, h2, h3, h4, h5⟩ := yes s sc
        exact ⟨r, u, V, z, h1, ⟨qo, h2, by split <;> trivial⟩, ⟨f.1, h3⟩, h4, h5⟩
  have ch : F_X8_classHeld σ 20 = if σ 20 3 = 0 then if σ 20 2 = 0 then (-1 : Int32) else σ 20 8 else σ 20 7 := by rw [F_X8_classHeld_eq]; rfl
  obtain ⟨qp, cp, sp⟩ := r_pass R.com.ref hc (show t < 2 ^ 31 by omega) ez
  generalize F_X10_hasPass τ ζ (nI c) = fp at cp sp ⊢
  rcases cp with ⟨ep, gp⟩ | ⟨ep, gp⟩
  · have epn : ¬ fp.1 = 0 := by rw [ep]; decide
    have e3 : ¬ σ 20 3 = 0 := by
      rcases G.pas with ⟨z, _⟩ | ⟨_, z⟩
      · rw [z]; decide
      · exact absurd gp z
    unfold QJ_X10_actOutside_261 J_X10_actOutside_261
    simp only [if_neg epn]
    obtain ⟨r, u, V, z, h1, h2, h3, h4, h5⟩ := cls fp.2 3 (ub (rwR τ c 3 22)) sp (by omega) (ub_lt _) rfl (by rw [ch, if_neg e3]; exact G.cls gp.2.1)
    exact ⟨r, u, V, z, h1, h2, ⟨qp, h3⟩, h4, h5⟩
  have e3 : σ 20 3 = 0 := by
    rcases G.pas with ⟨_, z⟩ | ⟨z, _⟩
    · exact absurd z gp
    · exact z
  simp only [if_pos ep]
  obtain ⟨qs, cs, ss⟩ := r_sound (τ := fp.2) (RC_scr R.com sp).ref hc (show t < 2 ^ 31 by omega) ez
  rw [soundC_same (sameR_scr sp)] at cs
  generalize F_X10_isSound fp.2 ζ (nI c) = fs at cs ss ⊢
  have ss' := scr_t sp ss
  rcases cs with ⟨es, gs⟩ | ⟨es, gs⟩
  · have esn : ¬ fs.1 = 0 := by rw [es]; decide
    have e2' : ¬ σ 20 2 = 0 := by
      rcases G.snd with ⟨z, _⟩ | ⟨_, z⟩
      · rw [z]; decide
      · exact absurd gs z
    unfold QJ_X10_actOutside_261 J_X10_actOutside_261
    simp only [if_neg esn, if_pos ep]
    obtain ⟨r, u, V, z, h1, h2, h3, h4, h5⟩ := cls fs.2 1 (ub (rwR τ c 1 22)) ss' (by omega) (ub_lt _) rfl (by rw [ch, if_pos e3, if_neg e2']; exact G.rcl gs.2.1)
    exact ⟨r, u, V, z, h1, h2, ⟨qp, qs, h3⟩, h4, h5⟩
  · have e2' : σ 20 2 = 0 := by
      rcases G.snd with ⟨_, z⟩ | ⟨z, _⟩
      · exact absurd z gs
      · exact z
    have d1 : F_X8_classHeld σ 20 < nI v := by
      rw [ch, if_pos e3, if_pos e2']
      rw [Int32.lt_iff_toInt_lt, i_m1, nI_toInt (by omega)]; omega
    simp only [if_pos d1, if_pos es]
    obtain ⟨r, u, V, z, h1, h2, h3, h4, h5⟩ := no fs.2 ss'
    exact ⟨r, u, V, z, h1, ⟨h2, trivial⟩, ⟨qp, qs, h3⟩, h4, h5⟩
