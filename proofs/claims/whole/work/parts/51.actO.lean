/-! The acts outside, together -/
theorem enr_1 {σ : gS} {n : Nat} (h : 0 < n) (h7 : n ≤ 7) (e : σ 12 2 = nI n) : F_X4_isEnrolled σ = 1 := by
  rw [F_X4_isEnrolled_eq]; unfold Fr_X4_isEnrolled
  rw [e, if_neg (show ¬ nI n ≤ 0 from nI_nle h (by omega))]
theorem enr_0 {σ : gS} (e : σ 12 2 = nI 0) : F_X4_isEnrolled σ = 0 := by
  rw [F_X4_isEnrolled_eq]; unfold Fr_X4_isEnrolled
  rw [e, if_pos (show nI 0 ≤ 0 by decide)]
theorem sgt_c {σ τ : gS} {n t j c : Nat} (S : sgt σ τ n t j (nI c)) (hc : c < 16) : sgc σ τ n t j c := by
  rcases S.2 with ⟨h, _⟩ | ⟨c', hc', h, g⟩
  · exact absurd h (nI_m1 (by omega))
  · have : c = c' := nI_inj31 (by omega) (by omega) h
    rw [this]; exact g
theorem actR_b {M n so si t d : Nat} {σ τ u V : gS} {z : gQ} {r : Int32} (h : actR M n so si t d σ τ r u V z) : r = 0 ∨ r = 1 := h.elim (fun h => Or.inr h.1) (fun h => Or.inl h.1)
theorem a_outside {M n so si t d : Nat} {σ τ : gS} {ζ : gQ} {x : Int32} (R : RLk M n so si t d σ τ ζ) (hp : σ 15 6 = 1) (hM : M < 2 ^ 20 - 4) (hn : 0 < n) (hx : (if σ 19 1 = 0 then σ 0 4 else σ 19 3) = x) (S : sgt σ τ n t 20 x) :
    ∃ r u V z, F_X9_actOutside σ = (r, u) ∧ Q_X9_actOutside σ ∧ Q_X10_actOutside τ ζ ∧ F_X10_actOutside τ ζ = (r, V, z) ∧ actR M n so si t d σ τ r u V z := by
  rw [F_X9_actOutside_eq, F_X10_actOutside_eq]
  unfold Fr_X9_actOutside Q_X9_actOutside Q_X10_actOutside Fr_X10_actOutside
  have n6 : ¬ σ 15 6 = 0 := by rw [hp]; decide
  have ne : ¬ F_X4_isEnrolled σ = 0 := by rw [enr_1 hn R.com.key.1 R.com.key.2.1]; decide
  obtain ⟨o1, o2, o3, o4, o5, o6, o7⟩ := R.out
  obtain ⟨⟨v1, v2⟩, _⟩ := R.com.see
  rw [o2] at hx
  simp only [if_neg n6, if_neg ne]
  by_cases h0 : so = 0
  · subst h0
    have e1 : σ 19 1 = 0 := o2
    have e3 : τ 199 42 = 0 := o3
    have hx' : σ 0 4 = x := hx
    have e20 : τ 199 20 = x := v1.symm.trans hx'
    have c01 : (0 : Int32) < 1 := by decide
    obtain ⟨r, u, V, z, f1, q1, q2, f2, A⟩ := a_meet R hp (by omega) S hx'
    unfold QJ_X10_actOutside_18 J_X10_actOutside_18 QJ_X9_actOutside_41 J_X9_actOutside_41
    simp only [e1, e3, if_true, if_pos c01, e20, f1]
    refine ⟨r, u, V, z, ?_, ?_, q2, f2, A⟩
    · by_cases hh : σ 0 4 = σ 19 3
      · simp only [if_pos hh]
      · simp only [if_neg hh]
    · by_cases hh : σ 0 4 = σ 19 3
      · simp only [if_pos hh]; exact ⟨q1, actR_b A, trivial⟩
      · simp only [if_neg hh]; exact ⟨q1, actR_b A, trivial⟩
  · obtain ⟨c, hc, c1, c2⟩ := o5 h0
    have ns : ¬ nI so = 0 := nI_ne0 (by omega) (by omega)
    rw [if_neg ns] at hx
    have hx' : x = nI c := hx.symm.trans c1
    subst hx'
    have G := sgt_c S hc
    unfold QJ_X10_actOutside_18 J_X10_actOutside_18
    have ns3 : ¬ τ 199 42 = 0 := by rw [o3]; exact ns
    have ls : ¬ τ 199 42 < 1 := by rw [o3]; exact nI_nlt (b := 1) (by omega) (by omega)
    simp only [if_neg ns3, if_neg ls, c2, c1, ← v1]
    by_cases h5 : so ≤ 5
    · have l5 : ¬ (5 : Int32) < τ 199 42 := by rw [o3]; exact nI_nlt (a := 5) h5 (by decide)
      simp only [if_neg l5]
      by_cases hh : σ 0 4 = nI c
      · simp only [if_pos hh]
        unfold QJ_X9_actOutside_41 J_X9_actOutside_41
        rcases (show so = 1 ∨ so = 2 ∨ so = 3 ∨ so = 4 ∨ so = 5 by omega) with rfl | rfl | rfl | rfl | rfl
        · have e1 : σ 19 1 = 1 := o2
          obtain ⟨r, u, V, z, f1, q1, q2, f2, A⟩ := a_judge R hp (by omega) hc S G
          simp +decide only [e1, if_true, if_false, f1]
          exact ⟨r, u, V, z, rfl, ⟨q1, actR_b A, trivial⟩, q2, f2, A⟩
        · have e1 : σ 19 1 = 2 := o2
          obtain ⟨r, u, V, z, f1, q1, q2, f2, A⟩ := a_waits R hp (by omega) S
          simp +decide only [e1, if_true, if_false, f1]
          exact ⟨r, u, V, z, rfl, ⟨q1, actR_b A, trivial⟩, q2, f2, A⟩
        · have e1 : σ 19 1 = 3 := o2
          obtain ⟨r, u, V, z, f1, q1, q2, f2, A⟩ := a_finger R hp (by omega) hc S G
          simp +decide only [e1, if_true, if_false, f1]
          exact ⟨r, u, V, z, rfl, ⟨q1, actR_b A, trivial⟩, q2, f2, A⟩
        · have e1 : σ 19 1 = 4 := o2
          obtain ⟨r, u, V, z, f1, q1, q2, f2, A⟩ := a_write R hp (by omega) hc c1 S G
          simp +decide only [e1, if_true, if_false, f1]
          exact ⟨r, u, V, z, rfl, ⟨q1, actR_b A, trivial⟩, q2, f2, A⟩
        · have e1 : σ 19 1 = 5 := o2
          obtain ⟨r, u, V, z, f1, q1, q2, f2, A⟩ := a_entry R hp (by omega) hc S G
          simp +decide only [e1, if_true, if_false, f1]
          exact ⟨r, u, V, z, rfl, ⟨q1, actR_b A, trivial⟩, q2, f2, A⟩
      · simp only [if_neg hh]
        obtain ⟨u, V, z, f1, q1, q2, f2, A⟩ := a_lose R hp (by omega) S
        unfold QJ_X9_actOutside_41 J_X9_actOutside_41
        have q2' : (Q_X10_put_ τ ζ 1 1 (nI c) ∧ if (F_X10_put_ τ ζ 1 1 (nI c)).1 = 0 then True else True) := ⟨q2, by split <;> trivial⟩
        rcases (show so = 1 ∨ so = 2 ∨ so = 3 ∨ so = 4 ∨ so = 5 by omega) with rfl | rfl | rfl | rfl | rfl
        · have e1 : σ 19 1 = 1 := o2
          simp +decide only [e1, if_true, if_false, f1]
          exact ⟨1, u, V, z, rfl, ⟨q1, trivial⟩, q2', f2, A⟩
        · have e1 : σ 19 1 = 2 := o2
          simp +decide only [e1, if_true, if_false, f1]
          exact ⟨1, u, V, z, rfl, ⟨q1, trivial⟩, q2', f2, A⟩
        · have e1 : σ 19 1 = 3 := o2
          simp +decide only [e1, if_true, if_false, f1]
          exact ⟨1, u, V, z, rfl, ⟨q1, trivial⟩, q2', f2, A⟩
        · have e1 : σ 19 1 = 4 := o2
          simp +decide only [e1, if_true, if_false, f1]
          exact ⟨1, u, V, z, rfl, ⟨q1, trivial⟩, q2', f2, A⟩
        · have e1 : σ 19 1 = 5 := o2
          simp +decide only [e1, if_true, if_false, f1]
          exact ⟨1, u, V, z, rfl, ⟨q1, trivial⟩, q2', f2, A⟩
    · have l5 : (5 : Int32) < τ 199 42 := by rw [o3]; exact nI_lt (a := 5) (by omega) (by omega)
      simp only [if_pos l5]
      unfold QJ_X9_actOutside_41 J_X9_actOutside_41
      rcases (show so = 6 ∨ so = 7 by omega) with rfl | rfl
      · have e1 : σ 19 1 = 6 := o2
        obtain ⟨r, u, V, z, f1, q1, q2, f2, A⟩ := a_leaves R hp (by omega) S
        simp +decide only [e1, if_true, if_false, f1]
        refine ⟨r, u, V, z, ?_, ?_, q2, f2, A⟩
        · split <;> rfl
        · split <;> exact ⟨q1, actR_b A, trivial⟩
      · have e1 : σ 19 1 = 7 := o2
        obtain ⟨r, u, V, z, f1, q1, q2, f2, A⟩ := a_ill R hp (by omega) S
        simp +decide only [e1, if_true, if_false, f1]
        refine ⟨r, u, V, z, ?_, ?_, q2, f2, A⟩
        · split <;> rfl
        · split <;> exact ⟨q1, actR_b A, trivial⟩
