/-! The acts inside: keys, the disk asked for, the latch, the end -/
theorem rf_eq {k : Nat} (h : k ≤ 4) : F_X9_roleFor (nI k) = if k = 1 then 2 else if k = 3 then 1 else 3 := by
  rw [F_X9_roleFor_eq]; unfold Fr_X9_roleFor
  rcases (show k = 0 ∨ k = 1 ∨ k = 2 ∨ k = 3 ∨ k = 4 by omega) with rfl | rfl | rfl | rfl | rfl <;> decide
/-- the role's own facts -/
theorem ins_role {M n so si t d : Nat} {σ τ : gS} {ζ : gQ} (R : RLk M n so si t d σ τ ζ) (hr : ¬ σ 21 4 = -1) : (∃ r : Nat, 1 ≤ r ∧ r ≤ 3 ∧ σ 21 4 = nI r ∧ τ 199 48 = nI r) ∧ ∃ c : Nat, c < 16 ∧ σ 21 3 = nI c ∧ τ 199 47 = nI c := by
  obtain ⟨rr, rq⟩ := R.ins.2.2.2.2.1
  obtain ⟨ro, h1, h2, h3⟩ := rq.elim (fun z => absurd z hr) id
  exact ⟨⟨ro, h1, h2, h3, by rw [← rr]; exact h3⟩, R.ins.2.2.2.2.2.2.2.1 (Or.inr (Or.inr hr))⟩
theorem see_k {oc om ic im fc fm dc dm kc km cc cm : Int32} (h : pSee oc om ic im fc fm dc dm kc km cc cm) : pSee oc om ic im fc fm dc dm 0 0 cc cm := ⟨h.1, h.2.1, h.2.2.1, h.2.2.2.1, h.2.2.2.2.1, ⟨0, by decide, rfl, rfl⟩, h.2.2.2.2.2.2⟩
theorem a_key {M n so t d : Nat} {σ τ : gS} {ζ : gQ} {c : Nat} (R : RLk M n so 2 t d σ τ ζ) (hp : σ 15 6 = 1) (hM : M < 2 ^ 20 - 2) (hr : ¬ σ 21 4 = -1) (S : sgt σ τ n t 22 (nI c)) :
    ∃ r u V z, F_X9_takeKey σ = (r, u) ∧ Q_X9_takeKey σ ∧ (if τ 199 26 = 0 then True else if τ 199 26 = 1 then QJ_X10_asks_44 (nI c) 2 τ ζ else if τ 199 26 = 3 then QJ_X10_asks_44 (nI c) 1 τ ζ else QJ_X10_asks_44 (nI c) 3 τ ζ) ∧ (if τ 199 26 = 0 then ((0 : Int32), τ, ζ) else if τ 199 26 = 1 then J_X10_asks_44 (nI c) 2 τ ζ else if τ 199 26 = 3 then J_X10_asks_44 (nI c) 1 τ ζ else J_X10_asks_44 (nI c) 3 τ ζ) = (r, V, z) ∧ actR M n so 2 t d σ τ r u V z := by
  rw [F_X9_takeKey_eq]
  unfold Fr_X9_takeKey Q_X9_takeKey
  obtain ⟨_, _, _, _, _, ⟨k, k1, k2, k3⟩, _⟩ := R.com.see
  obtain ⟨⟨ro, ro1, ro2, ro3, ro4⟩, _⟩ := ins_role R hr
  have hn := ins_n R (by decide)
  rw [k2, k3]
  by_cases h0 : k = 0
  · have e : nI k = 0 := by rw [h0]; rfl
    simp only [if_pos e]
    exact ⟨_, _, _, _, rfl, trivial, trivial, rfl, actR_0 R (sameR_r _)⟩
  have e : ¬ nI k = 0 := nI_ne0 (by omega) (by omega)
  simp only [if_neg e, rf_eq k1, ro3]
  have core : ∀ w : Nat, w ≤ 3 → (if k = 1 then 2 else if k = 3 then 1 else (3 : Int32)) = nI w → ∃ r u V z, (if nI ro = nI w then (if (F_X9_stepInside σ (50 + nI k) 0 5 6).1 = 0 then ((1 : Int32), (F_X9_stepInside σ (50 + nI k) 0 5 6).2) else ((1 : Int32), pf (pf (F_X9_stepInside σ (50 + nI k) 0 5 6).2 21 5 ((F_X9_stepInside σ (50 + nI k) 0 5 6).2 0 9)) 0 9 0)) else (if (F_X9_stepInside σ 55 1 2 3).1 = 0 then ((1 : Int32), (F_X9_stepInside σ 55 1 2 3).2) else ((1 : Int32), pf (F_X9_stepInside σ 55 1 2 3).2 0 9 0))) = (r, u) ∧ (if nI ro = nI w then Q_X9_stepInside σ (50 + nI k) 0 5 6 ∧ (if (F_X9_stepInside σ (50 + nI k) 0 5 6).1 = 0 then True else True) else Q_X9_stepInside σ 55 1 2 3 ∧ (if (F_X9_stepInside σ 55 1 2 3).1 = 0 then True else True)) ∧ QJ_X10_asks_44 (nI c) (nI w) τ ζ ∧ J_X10_asks_44 (nI c) (nI w) τ ζ = (r, V, z) ∧ actR M n so 2 t d σ τ r u V z := by
    intro w hw _
    unfold QJ_X10_asks_44 J_X10_asks_44
    rw [ro4, k3]
    have s50 : sm (50 + nI k) := ⟨50 + k, by omega, nI_add 50 k⟩
    by_cases hh : nI ro = nI w
    · obtain ⟨r, u, V, z, e1, e2, q1, q2, E⟩ := s_stepI R hp hM S (a := 50 + nI k) (b := 0) s50 (sm_n 0 (by decide)) 5 6
      simp only [if_pos hh, e1, e2, iTo]
      rcases E.1 with rfl | ⟨rfl, h6⟩
      · simp only [if_neg n10]
        refine ⟨_, _, _, _, rfl, ⟨q1, trivial⟩, ⟨q2, trivial⟩, rfl, actR_1 (M' := M + 2) (n' := n) (so' := so) (si' := 5) ?_ (by omega)⟩
        have R' := E.2.1
        have C := R'.com
        have I := R'.ins
        have er : ¬ u 21 4 = -1 := by rw [E.2.2.1 21 (by decide) (by decide) (by decide)]; exact hr
        have eu : u 0 9 = nI k := by rw [E.2.2.1 0 (by decide) (by decide) (by decide)]; exact k2
        have eV : V 199 26 = nI k := by rw [E.2.2.2.2.1 26 (by decide) (by decide) (by decide) (by decide) (by decide)]; exact k3
        exact ⟨⟨C.tape, C.disk, see_k C.see, C.now, C.ser, C.set, C.key, C.tab, C.crd⟩, R'.lat, R'.out, ⟨by decide, rfl, rfl, ⟨6, by decide, rfl, rfl⟩, I.2.2.2.2.1, fun _ => Or.inr (Or.inl rfl), fun _ => ⟨er, k, by omega, k1, eu, eV, fun h => absurd h (by decide)⟩, fun _ => I.2.2.2.2.2.2.2.1 (Or.inr (Or.inr er)), ins_lo 5 (by decide) hn⟩, jr_n R'.jr (by decide)⟩
      · simp only [if_true]
        exact ⟨_, _, _, _, rfl, ⟨q1, trivial⟩, ⟨q2, trivial⟩, rfl, actR_1 E.2.1 (by omega)⟩
    · obtain ⟨r, u, V, z, e1, e2, q1, q2, E⟩ := s_stepI R hp hM S (a := 55) (b := 1) (sm_n 55 (by decide)) (sm_n 1 (by decide)) 2 3
      simp only [if_neg hh, e1, e2]
      rcases E.1 with rfl | ⟨rfl, h6⟩
      · simp only [if_neg n10]
        refine ⟨_, _, _, _, rfl, ⟨q1, trivial⟩, ⟨q2, trivial⟩, rfl, actR_1 (M' := M + 2) (n' := n) (so' := so) (si' := 2) ?_ (by omega)⟩
        have R' := E.2.1
        have C := R'.com
        have I := R'.ins
        have er : ¬ u 21 4 = -1 := by rw [E.2.2.1 21 (by decide) (by decide) (by decide)]; exact hr
        exact ⟨⟨C.tape, C.disk, see_k C.see, C.now, C.ser, C.set, C.key, C.tab, C.crd⟩, R'.lat, R'.out, ⟨by decide, rfl, I.2.2.1, ⟨3, by decide, rfl, rfl⟩, I.2.2.2.2.1, fun _ => Or.inl rfl, fun h => absurd h (by decide), fun _ => I.2.2.2.2.2.2.2.1 (Or.inr (Or.inr er)), ins_lo 2 (by decide) hn⟩, jr_n R'.jr (by decide)⟩
      · simp only [if_true]
        exact ⟨_, _, _, _, rfl, ⟨q1, trivial⟩, ⟨q2, trivial⟩, rfl, actR_1 E.2.1 (by omega)⟩
  rcases (show k = 1 ∨ k = 2 ∨ k = 3 ∨ k = 4 by omega) with rfl | rfl | rfl | rfl
  · have g := core 2 (by decide) rfl
    simp +decide only [if_true, if_false]
    exact g
  · have g := core 3 (by decide) rfl
    simp +decide only [if_true, if_false]
    exact g
  · have g := core 1 (by decide) rfl
    simp +decide only [if_true, if_false]
    exact g
  · have g := core 3 (by decide) rfl
    simp +decide only [if_true, if_false]
    exact g
/-- a disk is wanted -/
theorem a_want {M n so si t d : Nat} {σ τ : gS} {ζ : gQ} (R : RLk M n so si t d σ τ ζ) :
    ∃ r u V, F_X9_askForDisk σ = (r, u) ∧ Q_X9_askForDisk σ ∧ (if τ 199 41 = 7 then ((0 : Int32), pf τ 199 41 7, ζ) else ((1 : Int32), pf τ 199 41 7, ζ)) = (r, V, ζ) ∧ actR M n so si t d σ τ r u V ζ := by
  rw [F_X9_askForDisk_eq]
  unfold Fr_X9_askForDisk Q_X9_askForDisk J_X9_askForDisk_17 QJ_X9_askForDisk_17
  have I := R.ins
  obtain ⟨g, g1, g2, g3⟩ := I.2.2.2.1
  have R' : RLk M n so si t d (pf σ 21 2 7) (pf τ 199 41 7) ζ := ⟨R.com, R.lat, R.out, ⟨I.1, I.2.1, I.2.2.1, ⟨7, by decide, rfl, rfl⟩, I.2.2.2.2⟩, R.jr⟩
  rw [g2, g3]
  by_cases h : nI g = 7
  · simp only [if_pos h, if_neg n10]
    exact ⟨_, _, _, rfl, trivial, rfl, Or.inr ⟨rfl, R', fun b hb => pf_ne hb, fun k hk => pf_i hk, rfl, rfl, rfl, rfl, rfl⟩⟩
  · simp only [if_neg h, if_true]
    exact ⟨_, _, _, rfl, trivial, rfl, actR_1 R' (by omega)⟩
/-- the guard opens -/
theorem a_unlock {M n so t d : Nat} {σ τ : gS} {ζ : gQ} {c : Nat} (R : RLk M n so 5 t d σ τ ζ) (hp : σ 15 6 = 1) (hM : M < 2 ^ 20 - 4) (hr : ¬ σ 21 4 = -1) (S : sgt σ τ n t 22 (nI c)) :
    ∃ r u V z, F_X9_unlock σ = (r, u) ∧ Q_X9_unlock σ ∧ (Q_X10_put_ τ ζ 61 0 (nI c) ∧ (if (F_X10_put_ τ ζ 61 0 (nI c)).1 = 0 then True else Q_X10_put_ (F_X10_put_ τ ζ 61 0 (nI c)).2.1 (F_X10_put_ τ ζ 61 0 (nI c)).2.2 22 0 (nI c) ∧ (if (F_X10_put_ (F_X10_put_ τ ζ 61 0 (nI c)).2.1 (F_X10_put_ τ ζ 61 0 (nI c)).2.2 22 0 (nI c)).1 = 0 then True else True))) ∧ (if (F_X10_put_ τ ζ 61 0 (nI c)).1 = 0 then ((1 : Int32), (F_X10_put_ τ ζ 61 0 (nI c)).2.1, (F_X10_put_ τ ζ 61 0 (nI c)).2.2) else if (F_X10_put_ (F_X10_put_ τ ζ 61 0 (nI c)).2.1 (F_X10_put_ τ ζ 61 0 (nI c)).2.2 22 0 (nI c)).1 = 0 then ((1 : Int32), (F_X10_put_ (F_X10_put_ τ ζ 61 0 (nI c)).2.1 (F_X10_put_ τ ζ 61 0 (nI c)).2.2 22 0 (nI c)).2.1, (F_X10_put_ (F_X10_put_ τ ζ 61 0 (nI c)).2.1 (F_X10_put_ τ ζ 61 0 (nI c)).2.2 22 0 (nI c)).2.2) else ((1 : Int32), F_X10_insideTo (F_X10_opens (F_X10_put_ (F_X10_put_ τ ζ 61 0 (nI c)).2.1 (F_X10_put_ τ ζ 61 0 (nI c)).2.2 22 0 (nI c)).2.1 (F_X10_put_ (F_X10_put_ τ ζ 61 0 (nI c)).2.1 (F_X10_put_ τ ζ 61 0 (nI c)).2.2 22 0 (nI c)).2.2).1 2 5, (F_X10_opens (F_X10_put_ (F_X10_put_ τ ζ 61 0 (nI c)).2.1 (F_X10_put_ τ ζ 61 0 (nI c)).2.2 22 0 (nI c)).2.1 (F_X10_put_ (F_X10_put_ τ ζ 61 0 (nI c)).2.1 (F_X10_put_ τ ζ 61 0 (nI c)).2.2 22 0 (nI c)).2.2).2)) = (r, V, z) ∧ actR M n so 5 t d σ τ r u V z := by
  rw [F_X9_unlock_eq]
  unfold Fr_X9_unlock Q_X9_unlock
  have hn := ins_n R (by decide)
  obtain ⟨r, u, V, z, e1, e2, q1, q2, E⟩ := s_writeOf R hp (by omega) S (a := 61) (b := 0) (sm_n 61 (by decide)) (sm_n 0 (by decide))
  simp only [e1, e2]
  rcases E.1 with rfl | ⟨rfl, h6⟩
  rotate_left
  · simp only [if_true]
    exact ⟨_, _, _, _, rfl, ⟨q1, trivial⟩, ⟨q2, trivial⟩, rfl, actR_1 E.2.1 (by omega)⟩
  simp only [if_neg n10]
  have S' := sgt_same S (E.2.2.1 22 (by decide) (by decide) (by decide)) (sameR_rfr E.2.2.2)
  obtain ⟨r', u', V', z', e1', e2', q1', q2', E'⟩ := s_stepIA E.2.1 (by omega) S' (a := 22) (b := 0) (sm_n 22 (by decide)) (sm_n 0 (by decide)) 2 5
  simp only [e1', e2']
  rcases E'.1 with rfl | ⟨rfl, h6'⟩
  rotate_left
  · simp only [if_true]
    exact ⟨_, _, _, _, rfl, ⟨q1, q1', trivial⟩, ⟨q2, q2', trivial⟩, rfl, actR_1 E'.2.1 (by omega)⟩
  simp only [if_neg n10, opC, opR, iTo]
  refine ⟨_, _, _, _, rfl, ⟨q1, q1', trivial⟩, ⟨q2, q2', trivial⟩, rfl, actR_1 (M' := M + 4) (n' := n) (so' := so) (si' := 2) ?_ (by omega)⟩
  have R' := E'.2.1
  have I := R'.ins
  have Lt := lat_open R'
  have er : ¬ u' 21 4 = -1 := by rw [E'.2.2.1 21 (by decide) (by decide) (by decide), E.2.2.1 21 (by decide) (by decide) (by decide)]; exact hr
  have o := R'.out
  exact ⟨R'.com, Lt, ⟨o.1, o.2.1, o.2.2.1, ⟨7, by decide, rfl, rfl⟩, o.2.2.2.2.1, o.2.2.2.2.2.1, o.2.2.2.2.2.2⟩, ⟨by decide, rfl, rfl, ⟨5, by decide, rfl, rfl⟩, I.2.2.2.2.1, fun _ => Or.inl rfl, fun h => absurd h (by decide), fun _ => I.2.2.2.2.2.2.2.1 (Or.inr (Or.inr er)), ins_lo 2 (by decide) hn⟩, jr_n R'.jr (by decide)⟩
/-- the house is shut -/
theorem a_shut {M n so t d : Nat} {σ τ : gS} {ζ : gQ} {c : Nat} (R : RLk M n so 5 t d σ τ ζ) (hp : σ 15 6 = 1) (hM : M < 2 ^ 20 - 4) (hr : ¬ σ 21 4 = -1) (S : sgt σ τ n t 22 (nI c)) :
    ∃ u V z, F_X9_shutDown σ = (1, u) ∧ Q_X9_shutDown σ ∧ Q_X10_shuts τ ζ (nI c) ∧ F_X10_shuts τ ζ (nI c) = (V, z) ∧ actR M n so 5 t d σ τ 1 u V z := by
  rw [F_X9_shutDown_eq, F_X10_shuts_eq]
  unfold Fr_X9_shutDown Q_X9_shutDown Fr_X10_shuts Q_X10_shuts
  have hn := ins_n R (by decide)
  obtain ⟨_, _, _, _, ⟨d1, d2⟩, _⟩ := R.com.see
  obtain ⟨⟨l1, l2⟩, _⟩ := R.lat
  rw [← d1, ← l1]
  -- the last record
  have fin : ∀ {M' : Nat} {s W : gS} {y : gQ}, RLk M' n so 5 t d s W y → M' + 2 ≤ M + 4 → ¬ s 21 4 = -1 → sgt s W n t 22 (nI c) → ∃ u V z, J_X9_shutDown_44 1 s = (1, u) ∧ QJ_X9_shutDown_44 1 s ∧ QJ_X10_shuts_48 (nI c) 1 W y ∧ J_X10_shuts_48 (nI c) 1 W y = (V, z) ∧ actR M n so 5 t d σ τ 1 u V z := by
    intro M' s W y Rs hM' hrs Ss
    unfold J_X9_shutDown_44 QJ_X9_shutDown_44 QJ_X10_shuts_48 J_X10_shuts_48
    obtain ⟨r, u, V, z, e1, e2, q1, q2, E⟩ := s_stepIA Rs (by omega) Ss (a := 62) (b := 0) (sm_n 62 (by decide)) (sm_n 0 (by decide)) 7 12
    simp only [if_neg n10, e1, e2, iTo]
    rcases E.1 with rfl | ⟨rfl, h6⟩
    · simp only [if_neg n10]
      refine ⟨_, _, _, rfl, ⟨q1, trivial⟩, ⟨q2, trivial⟩, rfl, actR_1 (M' := M' + 2) (n' := n) (so' := 0) (si' := 7) ?_ hM'⟩
      have R' := E.2.1
      have l := R'.lat
      have o := R'.out
      refine ⟨R'.com, ⟨⟨rfl, Or.inl rfl⟩, ⟨rfl, Or.inl rfl⟩, l.2.2.1, fun h => absurd (show (0 : Int32) = 1 from h) (by decide), l.2.2.2.2⟩, ⟨by decide, rfl, rfl, ⟨0, by decide, rfl, rfl⟩, fun h => absurd rfl h, fun h => absurd h (by decide), o.2.2.2.2.2.2⟩, ⟨by decide, rfl, rfl, ⟨12, by decide, rfl, rfl⟩, ⟨rfl, Or.inl rfl⟩, fun h => absurd rfl h, fun h => absurd h (by decide), fun h => absurd (h.elim (fun z => absurd z (by decide)) (fun h => h.elim (fun z => absurd z (by decide)) id)) (fun z => z rfl), ins_lo 7 (by decide) hn⟩, jr_n R'.jr (by decide)⟩
    · simp only [if_true]
      exact ⟨_, _, _, rfl, ⟨q1, trivial⟩, ⟨q2, trivial⟩, rfl, actR_1 E.2.1 hM'⟩
  rcases d2 with hd | hd
  · simp only [hd, if_true]
    unfold J_X9_shutDown_39 QJ_X9_shutDown_39 QJ_X10_shuts_43 J_X10_shuts_43
    rcases l2 with hl | hl
    · simp only [hl, if_true]
      exact fin R (by omega) hr S
    · simp only [hl, if_neg n10]
      obtain ⟨r, u, V, z, e1, e2, q1, q2, E⟩ := s_wri R hp (by omega) (a := 23) (b := 0) (sm_n 23 (by decide)) (sm_n 0 (by decide))
      simp only [e1, e2]
      rcases E.1 with rfl | ⟨rfl, h6⟩
      · simp only [if_neg n10]
        have er : ¬ u 21 4 = -1 := by rw [E.2.2.1 21 (by decide) (by decide) (by decide)]; exact hr
        obtain ⟨u', V', z', g1, g2, g3, g4, g5⟩ := fin E.2.1 (by omega) er (sgt_same S (E.2.2.1 22 (by decide) (by decide) (by decide)) (sameR_rfr E.2.2.2))
        exact ⟨u', V', z', g1, ⟨q1, g2⟩, ⟨q2, g3⟩, g4, g5⟩
      · unfold J_X9_shutDown_44 QJ_X9_shutDown_44 QJ_X10_shuts_48 J_X10_shuts_48
        simp only [if_true]
        exact ⟨_, _, _, rfl, ⟨q1, trivial⟩, ⟨q2, trivial⟩, rfl, actR_1 E.2.1 (by omega)⟩
  · simp only [hd, if_neg n10]
    obtain ⟨r, u, V, z, e1, e2, q1, q2, E⟩ := s_stepI R hp (by omega) S (a := 63) (b := 1) (sm_n 63 (by decide)) (sm_n 1 (by decide)) 2 5
    simp only [e1, e2, iTo]
    rcases E.1 with rfl | ⟨rfl, h6⟩
    · simp only [if_neg n10]
      refine ⟨_, _, _, rfl, ⟨q1, trivial⟩, ⟨q2, trivial⟩, rfl, actR_1 (M' := M + 2) (n' := n) (so' := so) (si' := 2) ?_ (by omega)⟩
      have R' := E.2.1
      have I := R'.ins
      have er : ¬ u 21 4 = -1 := by rw [E.2.2.1 21 (by decide) (by decide) (by decide)]; exact hr
      exact ⟨R'.com, R'.lat, R'.out, ⟨by decide, rfl, rfl, ⟨5, by decide, rfl, rfl⟩, I.2.2.2.2.1, fun _ => Or.inl rfl, fun h => absurd h (by decide), fun _ => I.2.2.2.2.2.2.2.1 (Or.inr (Or.inr er)), ins_lo 2 (by decide) hn⟩, jr_n R'.jr (by decide)⟩
    · simp only [if_true]
      exact ⟨_, _, _, rfl, ⟨q1, trivial⟩, ⟨q2, trivial⟩, rfl, actR_1 E.2.1 (by omega)⟩
