/-! The acts inside: cards, roles, keys -/
theorem iTo (V : gS) (p q : Int32) : F_X10_insideTo V p q = pf (pf V 199 46 p) 199 41 q := by rw [F_X10_insideTo_eq]; rfl
theorem jr_n {M si s d : Nat} {σ τ : gS} {ζ : gQ} (h : ∃ c m w : Nat, jrn M si d σ τ ζ c m w) (hs : s ≠ 6) : ∃ c m w : Nat, jrn M s d σ τ ζ c m w := by
  obtain ⟨c, m, w, J⟩ := h; exact ⟨c, m, w, jrn_n J hs⟩
theorem ins_n {M n so si t d : Nat} {σ τ : gS} {ζ : gQ} (R : RLk M n so si t d σ τ ζ) (h : 2 ≤ si) : 0 < n := by
  have := R.ins.2.2.2.2.2.2.2.2
  rcases Nat.eq_zero_or_pos n with z | z
  · have := this.mpr z; omega
  · exact z
theorem ins_lo {n : Nat} (s : Nat) (h : 2 ≤ s) (hn : 0 < n) : s ≤ 1 ↔ n = 0 := ⟨fun z => by omega, fun z => by omega⟩
/-- state 2 without role -/
theorem a_sees {M n so t d : Nat} {σ τ : gS} {ζ : gQ} {x : Int32} (R : RLk M n so 2 t d σ τ ζ) (hp : σ 15 6 = 1) (hM : M < 2 ^ 20 - 2) (hr : σ 21 4 = -1) (hx : σ 0 5 = x) (S : sgt σ τ n t 22 x) :
    ∃ r u V z, F_X9_meetInnerCard σ = (r, u) ∧ Q_X9_meetInnerCard σ ∧ Q_X10_sees τ ζ ∧ F_X10_sees τ ζ = (r, V, z) ∧ actR M n so 2 t d σ τ r u V z := by
  rw [F_X9_meetInnerCard_eq, F_X10_sees_eq]
  unfold Fr_X9_meetInnerCard Q_X9_meetInnerCard Q_X10_sees Fr_X10_sees
  obtain ⟨_, ⟨s1, s2⟩, _⟩ := R.com.see
  have e21 : τ 199 21 = x := s1.symm.trans hx
  have hn := ins_n R (by decide)
  rw [hx] at s2
  simp only [hx, e21]
  rcases s2 with rfl | ⟨c, hc, rfl⟩
  · have c1 : ¬ (0 : Int32) ≤ -1 := by decide
    simp only [if_true, if_neg c1]
    exact ⟨_, _, _, _, rfl, trivial, trivial, rfl, actR_0 R (sameR_r _)⟩
  · have c1 : (0 : Int32) ≤ nI c := nI_pos' (by omega)
    have c2 : ¬ nI c = -1 := nI_m1 (by omega)
    obtain ⟨r, u, V, z, e1, e2, q1, q2, E⟩ := s_stepI R hp hM S (a := 42) (b := 0) (sm_n 42 (by decide)) (sm_n 0 (by decide)) 3 2
    simp only [if_neg c2, if_pos c1, e1, e2, iTo]
    rcases E.1 with rfl | ⟨rfl, h6⟩
    · simp only [if_neg n10]
      refine ⟨_, _, _, _, rfl, ⟨q1, trivial⟩, ⟨q2, trivial⟩, rfl, actR_1 (M' := M + 2) (n' := n) (so' := so) (si' := 3) ?_ (by omega)⟩
      have R' := E.2.1
      have I := R'.ins
      have eu : u 0 5 = nI c := by rw [E.2.2.1 0 (by decide) (by decide) (by decide)]; exact hx
      have eV : V 199 21 = nI c := by rw [E.2.2.2.2.1 21 (by decide) (by decide) (by decide) (by decide) (by decide)]; exact e21
      have er : u 21 4 = -1 := by rw [E.2.2.1 21 (by decide) (by decide) (by decide)]; exact hr
      exact ⟨R'.com, R'.lat, R'.out, ⟨by decide, rfl, rfl, ⟨2, by decide, rfl, rfl⟩, I.2.2.2.2.1, fun h => absurd er h, fun h => absurd h (by decide), fun _ => ⟨c, hc, eu, eV⟩, ins_lo 3 (by decide) hn⟩, jr_n R'.jr (by decide)⟩
    · simp only [if_true]
      exact ⟨_, _, _, _, rfl, ⟨q1, trivial⟩, ⟨q2, trivial⟩, rfl, actR_1 E.2.1 (by omega)⟩
theorem pass_role {τ : gS} {n t c : Nat} (h : passC τ n t c) : ub (rwR τ c 3 21) ≤ 3 := by
  obtain ⟨_, ⟨L, _, _, ⟨_, _, f⟩, _⟩, _⟩ := h
  rw [if_neg (by decide), if_neg (by decide)] at f
  exact f.1
theorem f_role {s : gS} {c : Nat} (hc : c < 16) : Q_X10_field s (nI c) 3 21 1 ∧ F_X10_field s (nI c) 3 21 1 = lN (ub (rwR s c 3 21)) := by
  have := r_field (τ := s) (p := 3) (i := 21) (n := 1) hc (by omega) (by omega) (by omega)
  rw [beN_1] at this; exact this
/-- state 3 -/
theorem a_got {M n so t d : Nat} {σ τ : gS} {ζ : gQ} {c : Nat} (R : RLk M n so 3 t d σ τ ζ) (hp : σ 15 6 = 1) (hM : M < 2 ^ 20 - 2) (hc : c < 16) (c1 : σ 21 3 = nI c) (c2 : τ 199 47 = nI c) (S : sgt σ τ n t 22 (nI c)) (G : sgc σ τ n t 22 c) :
    ∃ r u V z, F_X9_judgeInnerCard σ = (r, u) ∧ Q_X9_judgeInnerCard σ ∧ (if τ 199 21 = nI c then (Q_X10_hasPass τ ζ (nI c)) ∧ (if (F_X10_hasPass τ ζ (nI c)).1 = 0 then QJ_X10_actInside_190 (nI c) (F_X10_hasPass τ ζ (nI c)).2 ζ else (Q_X10_field (F_X10_hasPass τ ζ (nI c)).2 (nI c) 3 21 1) ∧ (if (lg_cmp (F_X10_field (F_X10_hasPass τ ζ (nI c)).2 (nI c) 3 21 1) 0) ≤ 0 then QJ_X10_actInside_190 (nI c) (F_X10_hasPass τ ζ (nI c)).2 ζ else (Q_X10_put_ (F_X10_hasPass τ ζ (nI c)).2 ζ 44 0 (nI c)) ∧ (if (F_X10_put_ (F_X10_hasPass τ ζ (nI c)).2 ζ 44 0 (nI c)).1 = 0 then True else (Q_X10_field (F_X10_insideTo (F_X10_put_ (F_X10_hasPass τ ζ (nI c)).2 ζ 44 0 (nI c)).2.1 2 5) (nI c) 3 21 1) ∧ True))) else (Q_X10_put_ τ ζ 43 1 (nI c)) ∧ (if (F_X10_put_ τ ζ 43 1 (nI c)).1 = 0 then True else True)) ∧ (if τ 199 21 = nI c then (if (F_X10_hasPass τ ζ (nI c)).1 = 0 then J_X10_actInside_190 (nI c) (F_X10_hasPass τ ζ (nI c)).2 ζ else if (lg_cmp (F_X10_field (F_X10_hasPass τ ζ (nI c)).2 (nI c) 3 21 1) 0) ≤ 0 then J_X10_actInside_190 (nI c) (F_X10_hasPass τ ζ (nI c)).2 ζ else if (F_X10_put_ (F_X10_hasPass τ ζ (nI c)).2 ζ 44 0 (nI c)).1 = 0 then (1, (F_X10_put_ (F_X10_hasPass τ ζ (nI c)).2 ζ 44 0 (nI c)).2.1, (F_X10_put_ (F_X10_hasPass τ ζ (nI c)).2 ζ 44 0 (nI c)).2.2) else (1, pf (F_X10_insideTo (F_X10_put_ (F_X10_hasPass τ ζ (nI c)).2 ζ 44 0 (nI c)).2.1 2 5) 199 48 (F_X10_field (F_X10_insideTo (F_X10_put_ (F_X10_hasPass τ ζ (nI c)).2 ζ 44 0 (nI c)).2.1 2 5) (nI c) 3 21 1).toInt32, (F_X10_put_ (F_X10_hasPass τ ζ (nI c)).2 ζ 44 0 (nI c)).2.2)) else if (F_X10_put_ τ ζ 43 1 (nI c)).1 = 0 then (1, (F_X10_put_ τ ζ 43 1 (nI c)).2.1, (F_X10_put_ τ ζ 43 1 (nI c)).2.2) else (1, pf (F_X10_insideTo (F_X10_put_ τ ζ 43 1 (nI c)).2.1 2 1) 199 47 (-1), (F_X10_put_ τ ζ 43 1 (nI c)).2.2)) = (r, V, z) ∧ actR M n so 3 t d σ τ r u V z := by
  rw [F_X9_judgeInnerCard_eq]
  unfold Fr_X9_judgeInnerCard Q_X9_judgeInnerCard
  obtain ⟨_, ⟨s1, s2⟩, _⟩ := R.com.see
  have hn := ins_n R (by decide)
  have rm1 : σ 21 4 = -1 := by
    by_cases h : σ 21 4 = -1
    · exact h
    · have := R.ins.2.2.2.2.2.1 h; omega
  obtain ⟨ht, et, ez⟩ := R.com.now
  simp only [c1, ← s1]
  by_cases hh : σ 0 5 = nI c
  rotate_left
  · obtain ⟨r, u, V, z, e1, e2, q1, q2, E⟩ := s_stepI R hp hM S (a := 43) (b := 1) (sm_n 43 (by decide)) (sm_n 1 (by decide)) 2 1
    simp only [if_neg hh, e1, e2, iTo]
    rcases E.1 with rfl | ⟨rfl, h6⟩
    · simp only [if_neg n10]
      refine ⟨_, _, _, _, rfl, ⟨q1, trivial⟩, ⟨q2, trivial⟩, rfl, actR_1 (M' := M + 2) (n' := n) (so' := so) (si' := 2) ?_ (by omega)⟩
      have R' := E.2.1
      have I := R'.ins
      have er : u 21 4 = -1 := by rw [E.2.2.1 21 (by decide) (by decide) (by decide)]; exact rm1
      exact ⟨R'.com, R'.lat, R'.out, ⟨by decide, rfl, rfl, ⟨1, by decide, rfl, rfl⟩, I.2.2.2.2.1, fun h => absurd er h, fun h => absurd h (by decide), fun h => absurd (h.elim (fun z => absurd z (by decide)) (fun h => h.elim (fun z => absurd z (by decide)) id)) (fun z => z er), ins_lo 2 (by decide) hn⟩, jr_n R'.jr (by decide)⟩
    · simp only [if_true]
      exact ⟨_, _, _, _, rfl, ⟨q1, trivial⟩, ⟨q2, trivial⟩, rfl, actR_1 E.2.1 (by omega)⟩
  simp only [if_pos hh]
  obtain ⟨qp, cp, sp⟩ := r_pass R.com.ref hc (show t < 2 ^ 31 by omega) ez
  generalize F_X10_hasPass τ ζ (nI c) = fp at cp sp ⊢
  have Rp := RL_scr R sp
  have Sp := sgt_same S rfl (sameR_scr sp)
  have no : ∃ r u V z, J_X9_judgeInnerCard_49 σ = (r, u) ∧ QJ_X9_judgeInnerCard_49 σ ∧ QJ_X10_actInside_190 (nI c) fp.2 ζ ∧ J_X10_actInside_190 (nI c) fp.2 ζ = (r, V, z) ∧ actR M n so 3 t d σ τ r u V z := by
    unfold J_X9_judgeInnerCard_49 QJ_X9_judgeInnerCard_49 QJ_X10_actInside_190 J_X10_actInside_190
    obtain ⟨r, u, V, z, e1, e2, q1, q2, E⟩ := s_stepI Rp hp hM Sp (a := 45) (b := 1) (sm_n 45 (by decide)) (sm_n 1 (by decide)) 4 4
    simp only [e1, e2, iTo]
    rcases E.1 with rfl | ⟨rfl, h6⟩
    · simp only [if_neg n10]
      refine ⟨_, _, _, _, rfl, ⟨q1, trivial⟩, ⟨q2, trivial⟩, rfl, actR_1 (M' := M + 2) (n' := n) (so' := so) (si' := 4) ?_ (by omega)⟩
      have R' := E.2.1
      have I := R'.ins
      have er : u 21 4 = -1 := by rw [E.2.2.1 21 (by decide) (by decide) (by decide)]; exact rm1
      exact ⟨R'.com, R'.lat, R'.out, ⟨by decide, rfl, rfl, ⟨4, by decide, rfl, rfl⟩, I.2.2.2.2.1, fun h => absurd er h, fun h => absurd h (by decide), fun _ => I.2.2.2.2.2.2.2.1 (Or.inl rfl), ins_lo 4 (by decide) hn⟩, jr_n R'.jr (by decide)⟩
    · simp only [if_true]
      exact ⟨_, _, _, _, rfl, ⟨q1, trivial⟩, ⟨q2, trivial⟩, rfl, actR_1 E.2.1 (by omega)⟩
  rcases cp with ⟨ep, gp⟩ | ⟨ep, gp⟩
  rotate_left
  · have e3 : σ 22 3 = 0 := by
      rcases G.pas with ⟨_, z⟩ | ⟨z, _⟩
      · exact absurd z gp
      · exact z
    simp only [if_pos e3, if_pos ep]
    obtain ⟨r, u, V, z, h1, h2, h3, h4, h5⟩ := no
    exact ⟨r, u, V, z, h1, h2, ⟨qp, h3⟩, h4, h5⟩
  have epn : ¬ fp.1 = 0 := by rw [ep]; decide
  have e3 : ¬ σ 22 3 = 0 := by
    rcases G.pas with ⟨z, _⟩ | ⟨_, z⟩
    · rw [z]; decide
    · exact absurd gp z
  have fr := f_role (s := fp.2) hc
  rw [rwR_same (sameR_scr sp)] at fr
  have ub3 := pass_role gp
  have e6 : σ 22 6 = nI (ub (rwR τ c 3 21)) := G.rol gp.2.1
  simp only [if_neg e3, if_neg epn, fr.2, e6, show (0 : Int64) = lN 0 from rfl]
  by_cases h0 : ub (rwR τ c 3 21) = 0
  · have d1 : nI (ub (rwR τ c 3 21)) = 0 := by rw [h0]; rfl
    have d2 : lg_cmp (lN (ub (rwR τ c 3 21))) (lN 0) ≤ 0 := (lc_le (by omega) (by omega)).mpr (by omega)
    simp only [if_pos d1, if_pos d2]
    obtain ⟨r, u, V, z, h1, h2, h3, h4, h5⟩ := no
    exact ⟨r, u, V, z, h1, h2, ⟨qp, fr.1, h3⟩, h4, h5⟩
  have d1 : ¬ nI (ub (rwR τ c 3 21)) = 0 := nI_ne0 (by omega) (by omega)
  have d2 : ¬ lg_cmp (lN (ub (rwR τ c 3 21))) (lN 0) ≤ 0 := fun z => absurd ((lc_le (by omega) (by omega)).mp z) (by omega)
  simp only [if_neg d1, if_neg d2]
  obtain ⟨r, u, V, z, e1, e2, q1, q2, E⟩ := s_stepI Rp hp hM Sp (a := 44) (b := 0) (sm_n 44 (by decide)) (sm_n 0 (by decide)) 2 5
  simp only [e1, e2, iTo]
  rcases E.1 with rfl | ⟨rfl, h6⟩
  · simp only [if_neg n10]
    have fw := f_role (s := pf (pf V 199 46 2) 199 41 5) hc
    have ew : rwR (pf (pf V 199 46 2) 199 41 5) c 3 21 = rwR τ c 3 21 := by
      unfold rwR
      rw [pf_ne (by decide), pf_ne (by decide), E.2.2.2.1 210 (by decide) (by decide) (by decide), sp.1 210 (by decide) (by decide)]
    rw [ew] at fw
    simp only [fw.2, lN_i]
    refine ⟨_, _, _, _, rfl, ⟨q1, trivial⟩, ⟨qp, fr.1, q2, fw.1, trivial⟩, rfl, actR_1 (M' := M + 2) (n' := n) (so' := so) (si' := 2) ?_ (by omega)⟩
    have R' := E.2.1
    have I := R'.ins
    have eu : u 22 6 = nI (ub (rwR τ c 3 21)) := by rw [E.2.2.1 22 (by decide) (by decide) (by decide)]; exact e6
    refine ⟨R'.com, R'.lat, R'.out, ⟨by decide, rfl, rfl, ⟨5, by decide, rfl, rfl⟩, ⟨eu, Or.inr ⟨ub (rwR τ c 3 21), by omega, ub3, eu⟩⟩, fun _ => Or.inl rfl, fun h => absurd h (by decide), fun _ => I.2.2.2.2.2.2.2.1 (Or.inl rfl), ins_lo 2 (by decide) hn⟩, jr_n R'.jr (by decide)⟩
  · simp only [if_true]
    exact ⟨_, _, _, _, rfl, ⟨q1, trivial⟩, ⟨qp, fr.1, q2, trivial⟩, rfl, actR_1 E.2.1 (by omega)⟩
/-- state 4 -/
theorem a_togo {M n so t d : Nat} {σ τ : gS} {ζ : gQ} {c : Nat} (R : RLk M n so 4 t d σ τ ζ) (hp : σ 15 6 = 1) (hM : M < 2 ^ 20 - 2) (S : sgt σ τ n t 22 (nI c)) :
    ∃ r u V z, F_X9_endInnerVisit σ = (r, u) ∧ Q_X9_endInnerVisit σ ∧ (if τ 199 21 < 0 then Q_X10_put_ τ ζ 46 0 (nI c) ∧ (if (F_X10_put_ τ ζ 46 0 (nI c)).1 = 0 then True else True) else True) ∧ (if τ 199 21 < 0 then (if (F_X10_put_ τ ζ 46 0 (nI c)).1 = 0 then ((1 : Int32), (F_X10_put_ τ ζ 46 0 (nI c)).2.1, (F_X10_put_ τ ζ 46 0 (nI c)).2.2) else ((1 : Int32), pf (F_X10_insideTo (F_X10_put_ τ ζ 46 0 (nI c)).2.1 2 1) 199 47 (-1), (F_X10_put_ τ ζ 46 0 (nI c)).2.2)) else ((0 : Int32), τ, ζ)) = (r, V, z) ∧ actR M n so 4 t d σ τ r u V z := by
  rw [F_X9_endInnerVisit_eq]
  unfold Fr_X9_endInnerVisit Q_X9_endInnerVisit
  obtain ⟨_, ⟨s1, s2⟩, _⟩ := R.com.see
  have hn := ins_n R (by decide)
  have rm1 : σ 21 4 = -1 := by
    by_cases h : σ 21 4 = -1
    · exact h
    · have := R.ins.2.2.2.2.2.1 h; omega
  simp only [← s1]
  rcases s2 with s2 | ⟨k, hk, s2⟩
  · have c1 : (-1 : Int32) < 0 := by decide
    obtain ⟨r, u, V, z, e1, e2, q1, q2, E⟩ := s_stepI R hp hM S (a := 46) (b := 0) (sm_n 46 (by decide)) (sm_n 0 (by decide)) 2 1
    simp only [s2, if_true, if_pos c1, e1, e2, iTo]
    rcases E.1 with rfl | ⟨rfl, h6⟩
    · simp only [if_neg n10]
      refine ⟨_, _, _, _, rfl, ⟨q1, trivial⟩, ⟨q2, trivial⟩, rfl, actR_1 (M' := M + 2) (n' := n) (so' := so) (si' := 2) ?_ (by omega)⟩
      have R' := E.2.1
      have I := R'.ins
      have er : u 21 4 = -1 := by rw [E.2.2.1 21 (by decide) (by decide) (by decide)]; exact rm1
      exact ⟨R'.com, R'.lat, R'.out, ⟨by decide, rfl, rfl, ⟨1, by decide, rfl, rfl⟩, I.2.2.2.2.1, fun h => absurd er h, fun h => absurd h (by decide), fun h => absurd (h.elim (fun z => absurd z (by decide)) (fun h => h.elim (fun z => absurd z (by decide)) id)) (fun z => z er), ins_lo 2 (by decide) hn⟩, jr_n R'.jr (by decide)⟩
    · simp only [if_true]
      exact ⟨_, _, _, _, rfl, ⟨q1, trivial⟩, ⟨q2, trivial⟩, rfl, actR_1 E.2.1 (by omega)⟩
  · have c1 : ¬ nI k < 0 := nI_pos (by omega)
    have c2 : ¬ nI k = -1 := nI_m1 (by omega)
    simp only [s2, if_neg c2, if_neg c1]
    exact ⟨_, _, _, _, rfl, trivial, trivial, rfl, actR_0 R (sameR_r _)⟩
/-- a role ends, or does not -/
theorem a_lost {M n so si t d : Nat} {σ τ : gS} {ζ : gQ} {c : Nat} (R : RLk M n so si t d σ τ ζ) (hp : σ 15 6 = 1) (hM : M < 2 ^ 20 - 2) (hc : c < 16) (hs : 2 ≤ si) (c1 : σ 21 3 = nI c) (c2 : τ 199 47 = nI c) (hr : ¬ σ 21 4 = -1) (S : sgt σ τ n t 22 (nI c)) (G : sgc σ τ n t 22 c) :
    ∃ r u V z, F_X9_roleEnds σ = (r, u) ∧ Q_X9_roleEnds σ ∧ Q_X10_isLost τ ζ (nI c) ∧ F_X10_isLost τ ζ (nI c) = (r, V, z) ∧ ((r = 1 ∧ ∃ n' so' si', RLk (M + 4) n' so' si' t d u V z) ∨ (r = 0 ∧ u = σ ∧ z = ζ ∧ scr τ V)) := by
  rw [F_X9_roleEnds_eq, F_X10_isLost_eq]
  unfold Fr_X9_roleEnds Q_X9_roleEnds Q_X10_isLost Fr_X10_isLost
  obtain ⟨_, ⟨s1, s2⟩, _⟩ := R.com.see
  have hn := ins_n R hs
  obtain ⟨ht, et, ez⟩ := R.com.now
  obtain ⟨rr, rq⟩ := R.ins.2.2.2.2.1
  simp only [c1, c2, ← s1]
  by_cases hh : σ 0 5 = nI c
  rotate_left
  · obtain ⟨r, u, V, z, e1, e2, q1, q2, E⟩ := s_stepI R hp hM S (a := 47) (b := 0) (sm_n 47 (by decide)) (sm_n 0 (by decide)) 2 1
    simp only [if_neg hh, e1, e2, iTo]
    rcases E.1 with rfl | ⟨rfl, h6⟩
    · simp only [if_neg n10]
      refine ⟨_, _, _, _, rfl, ⟨q1, trivial⟩, ⟨q2, trivial⟩, rfl, Or.inl ⟨rfl, n, so, 2, RL_mono (M := M + 2) ?_ (by omega)⟩⟩
      have R' := E.2.1
      exact ⟨R'.com, R'.lat, R'.out, ⟨by decide, rfl, rfl, ⟨1, by decide, rfl, rfl⟩, ⟨rfl, Or.inl rfl⟩, fun h => absurd rfl h, fun h => absurd h (by decide), fun h => absurd (h.elim (fun z => absurd z (by decide)) (fun h => h.elim (fun z => absurd z (by decide)) id)) (fun z => z rfl), ins_lo 2 (by decide) hn⟩, jr_n R'.jr (by decide)⟩
    · simp only [if_true]
      exact ⟨_, _, _, _, rfl, ⟨q1, trivial⟩, ⟨q2, trivial⟩, rfl, Or.inl ⟨rfl, n, so, si, RL_mono E.2.1 (by omega)⟩⟩
  simp only [if_pos hh]
  obtain ⟨qp, cp, sp⟩ := r_pass R.com.ref hc (show t < 2 ^ 31 by omega) ez
  generalize F_X10_hasPass τ ζ (nI c) = fp at cp sp ⊢
  have Rp := RL_scr R sp
  have Sp := sgt_same S rfl (sameR_scr sp)
  have no : ∃ r u V z, J_X9_roleEnds_67 σ = (r, u) ∧ QJ_X9_roleEnds_67 σ ∧ QJ_X10_isLost_66 (nI c) fp.2 ζ ∧ J_X10_isLost_66 (nI c) fp.2 ζ = (r, V, z) ∧ ((r = 1 ∧ ∃ n' so' si', RLk (M + 4) n' so' si' t d u V z) ∨ (r = 0 ∧ u = σ ∧ z = ζ ∧ scr τ V)) := by
    unfold J_X9_roleEnds_67 QJ_X9_roleEnds_67 QJ_X10_isLost_66 J_X10_isLost_66
    obtain ⟨r, u, V, z, e1, e2, q1, q2, E⟩ := s_stepI Rp hp hM Sp (a := 48) (b := 1) (sm_n 48 (by decide)) (sm_n 1 (by decide)) 4 4
    simp only [e1, e2, iTo]
    rcases E.1 with rfl | ⟨rfl, h6⟩
    · simp only [if_neg n10]
      refine ⟨_, _, _, _, rfl, ⟨q1, trivial⟩, ⟨q2, trivial⟩, rfl, Or.inl ⟨rfl, n, so, 4, RL_mono (M := M + 2) ?_ (by omega)⟩⟩
      have R' := E.2.1
      have er : ¬ u 21 4 = -1 := by rw [E.2.2.1 21 (by decide) (by decide) (by decide)]; exact hr
      exact ⟨R'.com, R'.lat, R'.out, ⟨by decide, rfl, rfl, ⟨4, by decide, rfl, rfl⟩, ⟨rfl, Or.inl rfl⟩, fun h => absurd rfl h, fun h => absurd h (by decide), fun _ => R'.ins.2.2.2.2.2.2.2.1 (Or.inr (Or.inr er)), ins_lo 4 (by decide) hn⟩, jr_n R'.jr (by decide)⟩
    · simp only [if_true]
      exact ⟨_, _, _, _, rfl, ⟨q1, trivial⟩, ⟨q2, trivial⟩, rfl, Or.inl ⟨rfl, n, so, si, RL_mono E.2.1 (by omega)⟩⟩
  rcases cp with ⟨ep, gp⟩ | ⟨ep, gp⟩
  rotate_left
  · have e3 : σ 22 3 = 0 := by
      rcases G.pas with ⟨_, z⟩ | ⟨z, _⟩
      · exact absurd z gp
      · exact z
    simp only [if_pos e3, if_pos ep]
    obtain ⟨r, u, V, z, h1, h2, h3, h4, h5⟩ := no
    exact ⟨r, u, V, z, h1, h2, ⟨qp, h3⟩, h4, h5⟩
  have epn : ¬ fp.1 = 0 := by rw [ep]; decide
  have e3 : ¬ σ 22 3 = 0 := by
    rcases G.pas with ⟨z, _⟩ | ⟨_, z⟩
    · rw [z]; decide
    · exact absurd gp z
  have fr := f_role (s := fp.2) hc
  rw [rwR_same (sameR_scr sp)] at fr
  have ub3 := pass_role gp
  have e6 : σ 22 6 = nI (ub (rwR τ c 3 21)) := G.rol gp.2.1
  obtain ⟨ro, ro1, ro2, ro3⟩ : ∃ r : Nat, 1 ≤ r ∧ r ≤ 3 ∧ σ 21 4 = nI r := rq.elim (fun z => absurd z hr) id
  have e48 : fp.2 199 48 = nI ro := by rw [sp.2.1 48 (by decide), ← rr]; exact ro3
  simp only [if_neg e3, if_neg epn, fr.2, e6, ro3, e48, nI_l (show ro < 2 ^ 31 by omega)]
  by_cases h0 : ub (rwR τ c 3 21) = ro
  · have d1 : nI (ub (rwR τ c 3 21)) = nI ro := by rw [h0]
    have d2 := (lc_eq (a := ub (rwR τ c 3 21)) (b := ro) (by omega) (by omega)).mpr h0
    simp only [if_pos d1, if_pos d2]
    exact ⟨_, _, _, _, rfl, trivial, ⟨qp, fr.1, trivial⟩, rfl, Or.inr ⟨rfl, rfl, rfl, sp⟩⟩
  · have d1 : ¬ nI (ub (rwR τ c 3 21)) = nI ro := fun z => h0 (nI_inj31 (by omega) (by omega) z)
    have d2 : ¬ _ := fun z => h0 ((lc_eq (a := ub (rwR τ c 3 21)) (b := ro) (by omega) (by omega)).mp z)
    simp only [if_neg d1, if_neg d2]
    obtain ⟨r, u, V, z, h1, h2, h3, h4, h5⟩ := no
    exact ⟨r, u, V, z, h1, h2, ⟨qp, fr.1, h3⟩, h4, h5⟩
