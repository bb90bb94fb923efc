/-! The acts inside, together -/
/-- state 1 -/
theorem a_await {M n so t d : Nat} {σ τ : gS} {ζ : gQ} (R : RLk M n so 1 t d σ τ ζ) : F_X9_awaitEnrolment σ = (1, pf (pf σ 21 1 0) 21 2 8) ∧ actR M n so 1 t d σ τ 1 (pf (pf σ 21 1 0) 21 2 8) (pf (pf τ 199 46 0) 199 41 8) ζ := by
  refine ⟨by rw [F_X9_awaitEnrolment_eq]; rfl, actR_1 (M' := M) (n' := n) (so' := so) (si' := 0) ?_ (by omega)⟩
  have I := R.ins
  have n0 : n = 0 := I.2.2.2.2.2.2.2.2.mp (by decide)
  have rm1 : σ 21 4 = -1 := by
    by_cases h : σ 21 4 = -1
    · exact h
    · have := I.2.2.2.2.2.1 h; omega
  exact ⟨R.com, R.lat, R.out, ⟨by decide, rfl, rfl, ⟨8, by decide, rfl, rfl⟩, I.2.2.2.2.1, fun h => absurd rm1 h, fun h => absurd h (by decide), fun h => absurd (h.elim (fun z => absurd z (by decide)) (fun h => h.elim (fun z => absurd z (by decide)) id)) (fun z => z rm1), ⟨fun _ => n0, fun _ => by decide⟩⟩, jr_n R.jr (by decide)⟩
/-- has the house a disk -/
theorem disk_has {M n t : Nat} {σ τ : gS} {ζ : gQ} (C : RCk M n t σ τ ζ) : (σ 0 2 = 0 ∧ τ 199 25 < 0 ∧ ¬ 0 ≤ τ 199 25) ∨ (σ 0 2 = 1 ∧ ¬ τ 199 25 < 0 ∧ 0 ≤ τ 199 25) := by
  rcases C.disk with ⟨h1, h2, _⟩ | ⟨h1, l, hl, _, h2, _⟩
  · rw [h2]; exact Or.inl ⟨h1, by decide, by decide⟩
  · rw [h2]; exact Or.inr ⟨h1, nI_pos (by omega), nI_pos' (by omega)⟩
/-- an act behind one that left the reference's hash places changed -/
theorem actR_scr {M n so si t d : Nat} {σ τ u V W : gS} {z : gQ} {r : Int32} (A : actR M n so si t d σ W r u V z) (h : sameR τ W) : actR M n so si t d σ τ r u V z := by
  rcases A with A | ⟨a1, a2, a3, a4, a5⟩
  · exact Or.inl A
  · exact Or.inr ⟨a1, a2, a3, a4, a5.1.trans h.1, a5.2.1.trans h.2.1, a5.2.2.1.trans h.2.2.1, a5.2.2.2.1.trans h.2.2.2.1, a5.2.2.2.2.trans h.2.2.2.2⟩
theorem lost_R {M n so si t d : Nat} {σ τ u V : gS} {ζ z : gQ} {r : Int32} (h : (r = 1 ∧ ∃ n' so' si', RLk (M + 4) n' so' si' t d u V z) ∨ (r = 0 ∧ u = σ ∧ z = ζ ∧ scr τ V)) : (r = 1 ∧ actR M n so si t d σ τ 1 u V z) ∨ (r = 0 ∧ u = σ ∧ z = ζ ∧ scr τ V) := by
  rcases h with ⟨h1, h2⟩ | h
  · exact Or.inl ⟨h1, Or.inl ⟨rfl, h2⟩⟩
  · exact Or.inr h
/-- what a request does: the class's start, the reference's works -/
theorem a_works {M n so t d : Nat} {σ τ : gS} {ζ : gQ} {c : Nat} (R : RLk M n so 5 t d σ τ ζ) (hp : σ 15 6 = 1) (hM : M < 2 ^ 20 - 4) (hr : ¬ σ 21 4 = -1) (S : sgt σ τ n t 22 (nI c)) :
    ∃ r u V z, F_X9_startRequest σ = (r, u) ∧ Q_X9_startRequest σ ∧ Q_X10_works τ ζ (nI c) ∧ F_X10_works τ ζ (nI c) = (r, V, z) ∧ actR M n so 5 t d σ τ r u V z := by
  rw [F_X9_startRequest_eq, F_X10_works_eq]
  unfold Fr_X9_startRequest Q_X9_startRequest Q_X10_works Fr_X10_works QJ_X10_works_24 J_X10_works_24 QJ_X10_works_62 J_X10_works_62
  obtain ⟨q, q1, q2, q3, q4, _⟩ := (R.ins.2.2.2.2.2.2.1 (Or.inl rfl)).2
  have e46 : τ 199 46 = 5 := R.ins.2.2.1
  have n56 : ¬ (5 : Int32) = 6 := by decide
  have n10' : ¬ (1 : Int32) = 0 := by decide
  rcases (show q = 1 ∨ q = 2 ∨ q = 3 ∨ q = 4 by omega) with rfl | rfl | rfl | rfl
  · have x1 : σ 21 5 = 1 := q3
    have x2 : τ 199 49 = 1 := q4
    have l2 : ¬ (2 : Int32) < 1 := by decide
    rcases disk_has R.com with ⟨d1, d2, d3⟩ | ⟨d1, d2, d3⟩
    · obtain ⟨r, u, V, f1, g1, f2, A⟩ := a_want R
      simp only [x1, x2, e46, if_true, if_neg n56, if_neg l2, if_neg d3, if_pos d1, f1]
      exact ⟨r, u, V, ζ, rfl, ⟨g1, actR_b A, trivial⟩, if_tt _, f2, A⟩
    · obtain ⟨u, V, z, f1, g1, g2, f2, A⟩ := a_arch R hp (by omega) hr d1 ⟨x1, x2⟩ S
      simp only [x1, x2, e46, if_true, if_neg n56, if_neg l2, if_pos d3, d1, if_neg n10', f1, f2]
      exact ⟨1, u, V, z, rfl, ⟨g1, Or.inr trivial, trivial⟩, ⟨g2, trivial⟩, rfl, A⟩
  · have x1 : σ 21 5 = 2 := q3
    have x2 : τ 199 49 = 2 := q4
    have n21 : ¬ (2 : Int32) = 1 := by decide
    have l2 : ¬ (2 : Int32) < 2 := by decide
    rcases disk_has R.com with ⟨d1, d2, d3⟩ | ⟨d1, d2, d3⟩
    · obtain ⟨r, u, V, f1, g1, f2, A⟩ := a_want R
      simp only [x1, x2, if_neg n21, if_true, if_neg l2, if_neg d3, if_pos d1, f1]
      exact ⟨r, u, V, ζ, rfl, ⟨g1, actR_b A, trivial⟩, if_tt _, f2, A⟩
    · obtain ⟨u, V, z, f1, g1, g2, f2, A⟩ := a_sett R hp (by omega) hr d1 S
      simp only [x1, x2, if_neg n21, if_true, if_neg l2, if_pos d3, d1, if_neg n10', f1]
      exact ⟨1, u, V, z, rfl, ⟨g1, Or.inr trivial, trivial⟩, g2, f2, A⟩
  · have x1 : σ 21 5 = 3 := q3
    have x2 : τ 199 49 = 3 := q4
    have n31 : ¬ (3 : Int32) = 1 := by decide
    have n32 : ¬ (3 : Int32) = 2 := by decide
    have l2 : (2 : Int32) < 3 := by decide
    obtain ⟨r, u, V, z, f1, g1, g2, f2, A⟩ := a_unlock R hp hM hr S
    simp only [x1, x2, if_neg n31, if_neg n32, if_true, if_pos l2, f1]
    exact ⟨r, u, V, z, rfl, ⟨g1, actR_b A, trivial⟩, g2, f2, A⟩
  · have x1 : σ 21 5 = 4 := q3
    have x2 : τ 199 49 = 4 := q4
    have n41 : ¬ (4 : Int32) = 1 := by decide
    have n42 : ¬ (4 : Int32) = 2 := by decide
    have n43 : ¬ (4 : Int32) = 3 := by decide
    have l2 : (2 : Int32) < 4 := by decide
    obtain ⟨u, V, z, f1, g1, g2, f2, A⟩ := a_shut R hp hM hr S
    simp only [x1, x2, if_neg n41, if_neg n42, if_neg n43, if_true, if_pos l2, f1, f2]
    exact ⟨1, u, V, z, rfl, ⟨g1, Or.inr trivial, trivial⟩, ⟨g2, trivial⟩, rfl, A⟩
theorem a_inside {M n so si t d : Nat} {σ τ : gS} {ζ : gQ} {x : Int32} (R : RLk M n so si t d σ τ ζ) (hp : σ 15 6 = 1) (hM : M < 2 ^ 20 - 4) (h7 : si ≠ 7) (hx : (if σ 21 1 = 2 ∧ σ 21 4 = -1 then σ 0 5 else σ 21 3) = x) (S : pN x → sgt σ τ n t 22 x) :
    ∃ r u V z, F_X9_actInside σ = (r, u) ∧ Q_X9_actInside σ ∧ Q_X10_actInside τ ζ ∧ F_X10_actInside τ ζ = (r, V, z) ∧ actR M n so si t d σ τ r u V z := by
  rw [F_X9_actInside_eq, F_X10_actInside_eq]
  unfold Fr_X9_actInside Q_X9_actInside Q_X10_actInside Fr_X10_actInside
  have n6 : ¬ σ 15 6 = 0 := by rw [hp]; decide
  have I := R.ins
  have s7 := I.1
  have i2 := I.2.1
  have i3 := I.2.2.1
  simp only [if_neg n6]
  rcases (show si = 0 ∨ si = 1 ∨ si = 2 ∨ si = 3 ∨ si = 4 ∨ si = 5 ∨ si = 6 by omega) with rfl | rfl | rfl | rfl | rfl | rfl | rfl
  · -- 0
    have x1 : σ 21 1 = 0 := i2
    have x2 : τ 199 46 = 0 := i3
    rcases disk_has R.com with ⟨d1, d2, d3⟩ | ⟨d1, d2, d3⟩
    · simp only [x1, x2, if_true, d1, if_neg d3]
      exact ⟨_, _, _, _, rfl, trivial, trivial, rfl, actR_0 R (sameR_r _)⟩
    · obtain ⟨u, V, z, f1, g1, g2, f2, A⟩ := a_enrol R hp (by omega) d1
      simp only [x1, x2, if_true, d1, if_neg n10, if_pos d3, f1, f2]
      exact ⟨1, u, V, z, rfl, ⟨g1, trivial⟩, ⟨g2, trivial⟩, rfl, A⟩
  · -- 1
    have x1 : σ 21 1 = 1 := i2
    have x2 : τ 199 46 = 1 := i3
    rcases disk_has R.com with ⟨d1, d2, d3⟩ | ⟨d1, d2, d3⟩
    · obtain ⟨f1, A⟩ := a_await R
      simp only [x1, x2, if_neg n10, if_true, d1, if_pos d2, f1, iTo]
      exact ⟨1, _, _, _, rfl, trivial, trivial, rfl, A⟩
    · simp only [x1, x2, if_neg n10, if_true, d1, if_neg d2]
      exact ⟨_, _, _, _, rfl, trivial, trivial, rfl, actR_0 R (sameR_r _)⟩
  · -- 2
    have x1 : σ 21 1 = 2 := i2
    have x2 : τ 199 46 = 2 := i3
    have n20 : ¬ (2 : Int32) = 0 := by decide
    have n21 : ¬ (2 : Int32) = 1 := by decide
    by_cases hr : σ 21 4 = -1
    · have r48 : τ 199 48 = -1 := by rw [← I.2.2.2.2.1.1]; exact hr
      have c1 : ¬ (0 : Int32) ≤ -1 := by decide
      rw [if_pos ⟨x1, hr⟩] at hx
      obtain ⟨_, ⟨_, s2⟩, _⟩ := R.com.see
      rw [hx] at s2
      obtain ⟨r, u, V, z, f1, g1, g2, f2, A⟩ := a_sees R hp (by omega) hr hx (S s2)
      simp only [x1, x2, if_neg n20, if_neg n21, if_true, hr, r48, if_neg c1, f1, f2]
      exact ⟨r, u, V, z, rfl, ⟨g1, actR_b A, trivial⟩, ⟨g2, actR_b A, trivial⟩, rfl, A⟩
    · obtain ⟨⟨ro, ro1, ro2, ro3, ro4⟩, c, hc, c1, c2⟩ := ins_role R hr
      rw [if_neg (fun z => hr z.2), c1] at hx
      subst hx
      have S' := S (Or.inr ⟨c, hc, rfl⟩)
      have p48 : (0 : Int32) ≤ τ 199 48 := by rw [ro4]; exact nI_pos' (by omega)
      obtain ⟨r, u, V, z, f1, g1, g2, f2, L⟩ := a_lost R hp (by omega) hc (by decide) c1 c2 hr S' (sgt_c S' hc)
      simp only [x1, x2, if_neg n20, if_neg n21, if_true, if_neg hr, if_pos p48, f1, c2]
      rw [F_X10_asks_eq]
      unfold Q_X10_asks Fr_X10_asks
      simp only [f2]
      rcases lost_R (M := M) (n := n) (so := so) (si := 2) L with ⟨rfl, A⟩ | ⟨rfl, rfl, rfl, sc⟩
      · simp only [if_neg n10]
        exact ⟨1, u, V, z, rfl, ⟨g1, trivial⟩, ⟨⟨g2, trivial⟩, Or.inr trivial, trivial⟩, rfl, A⟩
      · obtain ⟨r', u', V', z', f1', g1', g2', f2', A⟩ := a_key (RL_scr R sc) hp (by omega) hr (sgt_same S' rfl (sameR_scr sc))
        simp only [if_true, f1', f2']
        have A' := actR_scr A (sameR_scr sc)
        refine ⟨r', u', V', z', ?_, ⟨g1, g1', if_tt _⟩, ⟨⟨g2, g2'⟩, actR_b A, trivial⟩, rfl, A'⟩
        rcases actR_b A with rfl | rfl
        · rw [if_pos rfl]
        · rw [if_neg n10]
  · -- 3
    have x1 : σ 21 1 = 3 := i2
    have x2 : τ 199 46 = 3 := i3
    have n30 : ¬ (3 : Int32) = 0 := by decide
    have n31 : ¬ (3 : Int32) = 1 := by decide
    have n32 : ¬ (3 : Int32) = 2 := by decide
    obtain ⟨c, hc, c1, c2⟩ := I.2.2.2.2.2.2.2.1 (Or.inl rfl)
    rw [if_neg (fun z => by rw [x1] at z; exact absurd z.1 n32), c1] at hx
    subst hx
    have S' := S (Or.inr ⟨c, hc, rfl⟩)
    obtain ⟨r, u, V, z, f1, g1, g2, f2, A⟩ := a_got R hp (by omega) hc c1 c2 S' (sgt_c S' hc)
    simp only [x1, x2, if_neg n30, if_neg n31, if_neg n32, if_true, f1, c2]
    exact ⟨r, u, V, z, rfl, ⟨g1, actR_b A, trivial⟩, g2, f2, A⟩
  · -- 4
    have x1 : σ 21 1 = 4 := i2
    have x2 : τ 199 46 = 4 := i3
    have n40 : ¬ (4 : Int32) = 0 := by decide
    have n41 : ¬ (4 : Int32) = 1 := by decide
    have n42 : ¬ (4 : Int32) = 2 := by decide
    have n43 : ¬ (4 : Int32) = 3 := by decide
    obtain ⟨c, hc, c1, c2⟩ := I.2.2.2.2.2.2.2.1 (Or.inr (Or.inl rfl))
    rw [if_neg (fun z => by rw [x1] at z; exact absurd z.1 n42), c1] at hx
    subst hx
    have S' := S (Or.inr ⟨c, hc, rfl⟩)
    obtain ⟨r, u, V, z, f1, g1, g2, f2, A⟩ := a_togo R hp (by omega) S'
    simp only [x1, x2, if_neg n40, if_neg n41, if_neg n42, if_neg n43, if_true, f1, c2]
    exact ⟨r, u, V, z, rfl, ⟨g1, actR_b A, trivial⟩, g2, f2, A⟩
  · -- 5
    have x1 : σ 21 1 = 5 := i2
    have x2 : τ 199 46 = 5 := i3
    have n50 : ¬ (5 : Int32) = 0 := by decide
    have n51 : ¬ (5 : Int32) = 1 := by decide
    have n52 : ¬ (5 : Int32) = 2 := by decide
    have n53 : ¬ (5 : Int32) = 3 := by decide
    have n54 : ¬ (5 : Int32) = 4 := by decide
    have hr := (I.2.2.2.2.2.2.1 (Or.inl rfl)).1
    obtain ⟨_, c, hc, c1, c2⟩ := ins_role R hr
    rw [if_neg (fun z => hr z.2), c1] at hx
    subst hx
    have S' := S (Or.inr ⟨c, hc, rfl⟩)
    obtain ⟨r, u, V, z, f1, g1, g2, f2, L⟩ := a_lost R hp (by omega) hc (by decide) c1 c2 hr S' (sgt_c S' hc)
    simp only [x1, x2, if_neg n50, if_neg n51, if_neg n52, if_neg n53, if_neg n54, if_true, f1, c2, f2]
    rcases lost_R (M := M) (n := n) (so := so) (si := 5) L with ⟨rfl, A⟩ | ⟨rfl, rfl, rfl, sc⟩
    · simp only [if_neg n10]
      exact ⟨1, u, V, z, rfl, ⟨g1, trivial⟩, ⟨g2, trivial⟩, rfl, A⟩
    · obtain ⟨r', u', V', z', f1', g1', g2', f2', A⟩ := a_works (RL_scr R sc) hp hM hr (sgt_same S' rfl (sameR_scr sc))
      simp only [if_true, f1', f2']
      refine ⟨r', u', V', z', ?_, ⟨g1, g1', if_tt _⟩, ⟨g2, g2', if_tt _⟩, ?_, actR_scr A (sameR_scr sc)⟩
      · rcases actR_b A with rfl | rfl
        · rw [if_pos rfl]
        · rw [if_neg n10]
      · rcases actR_b A with rfl | rfl
        · rw [if_pos rfl]
        · rw [if_neg n10]
  · -- 6
    have x1 : σ 21 1 = 6 := i2
    have x2 : τ 199 46 = 6 := i3
    have n60 : ¬ (6 : Int32) = 0 := by decide
    have n61 : ¬ (6 : Int32) = 1 := by decide
    have n62 : ¬ (6 : Int32) = 2 := by decide
    have n63 : ¬ (6 : Int32) = 3 := by decide
    have n64 : ¬ (6 : Int32) = 4 := by decide
    have n65 : ¬ (6 : Int32) = 5 := by decide
    have hr := (I.2.2.2.2.2.2.1 (Or.inr rfl)).1
    obtain ⟨q, q1, q2, q3, q4, q5⟩ := (I.2.2.2.2.2.2.1 (Or.inr rfl)).2
    have q49 : τ 199 49 = 1 := by rw [q4, q5 rfl]; rfl
    obtain ⟨_, c, hc, c1, c2⟩ := ins_role R hr
    rw [if_neg (fun z => hr z.2), c1] at hx
    subst hx
    have S' := S (Or.inr ⟨c, hc, rfl⟩)
    obtain ⟨r, u, V, z, f1, g1, g2, f2, L⟩ := a_lost R hp (by omega) hc (by decide) c1 c2 hr S' (sgt_c S' hc)
    simp only [x1, x2, if_neg n60, if_neg n61, if_neg n62, if_neg n63, if_neg n64, if_neg n65, if_true, f1, c2, f2]
    rcases lost_R (M := M) (n := n) (so := so) (si := 6) L with ⟨rfl, A⟩ | ⟨rfl, rfl, rfl, sc⟩
    · simp only [if_neg n10]
      exact ⟨1, u, V, z, rfl, ⟨g1, trivial⟩, ⟨g2, trivial⟩, rfl, A⟩
    · obtain ⟨u', V', z', f1', g1', g2', f2', A⟩ := a_ends (RL_scr R sc) hp hM hr (sgt_same S' rfl (sameR_scr sc))
      have v49 : V 199 49 = 1 := by rw [sc.2.1 49 (by decide)]; exact q49
      have v46 : V 199 46 = 6 := by rw [sc.2.1 46 (by decide)]; exact x2
      simp only [if_true, f1', if_neg n10]
      rw [F_X10_works_eq]
      unfold Q_X10_works Fr_X10_works
      simp only [v49, v46, if_true, f2', if_neg n10]
      exact ⟨1, u', V', z', rfl, ⟨g1, g1', trivial⟩, ⟨g2, ⟨g2', trivial⟩, trivial⟩, rfl, actR_scr A (sameR_scr sc)⟩
