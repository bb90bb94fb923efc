/-! The acts outside, but for the making of a pass -/
theorem sm_n (n : Nat) (h : n < 2 ^ 31) : sm (nI n) := ⟨n, h, rfl⟩
/-- what an act does -/
def actR (M n so si t d : Nat) (σ τ : gS) (r : Int32) (u V : gS) (z : gQ) : Prop := (r = 1 ∧ ∃ n' so' si', RLk (M + 4) n' so' si' t d u V z) ∨ (r = 0 ∧ RLk M n so si t d u V z ∧ (∀ b, b ≠ 21 → u b = σ b) ∧ (∀ k, k ≠ 2 → u 21 k = σ 21 k) ∧ sameR τ V)
theorem actR_0 {M n so si t d : Nat} {σ τ V : gS} {ζ : gQ} (R : RLk M n so si t d σ V ζ) (h : sameR τ V) : actR M n so si t d σ τ 0 σ V ζ := Or.inr ⟨rfl, R, fun _ _ => rfl, fun _ _ => rfl, h⟩
theorem actR_1 {M M' n so si t d n' so' si' : Nat} {σ τ u V : gS} {z : gQ} (R : RLk M' n' so' si' t d u V z) (h : M' ≤ M + 4) : actR M n so si t d σ τ 1 u V z := Or.inl ⟨rfl, n', so', si', RL_mono R h⟩
theorem sameR_r (τ : gS) : sameR τ τ := ⟨rfl, rfl, rfl, rfl, rfl⟩
/-- a new state and sign; the card stays -/
theorem out_c {M n so si t d : Nat} {u V : gS} {z : gQ} (R : RLk M n so si t d u V z) (h0 : so ≠ 0) (s g : Nat) (hs : s ≤ 7) (h3 : s ≠ 3) (hg : g ≤ 7) : RLk M n s si t d (pf (pf u 19 1 (nI s)) 19 2 (nI g)) (pf (pf V 199 42 (nI s)) 199 40 (nI g)) z :=
  ⟨R.com, R.lat, ⟨hs, rfl, rfl, ⟨g, hg, rfl, rfl⟩, fun _ => R.out.2.2.2.2.1 h0, fun h => absurd h h3, R.out.2.2.2.2.2.2⟩, R.ins, R.jr⟩
/-- and to state 0 -/
theorem out_0 {M n so si t d : Nat} {u V : gS} {z : gQ} (R : RLk M n so si t d u V z) (g : Nat) (hg : g ≤ 7) : RLk M n 0 si t d (pf (pf u 19 1 0) 19 2 (nI g)) (pf (pf V 199 42 0) 199 40 (nI g)) z :=
  ⟨R.com, R.lat, ⟨by decide, rfl, rfl, ⟨g, hg, rfl, rfl⟩, fun h => absurd rfl h, fun h => absurd h (by decide), R.out.2.2.2.2.2.2⟩, R.ins, R.jr⟩
theorem oTo (V : gS) (p q : Int32) : F_X10_outsideTo V p q = pf (pf V 199 42 p) 199 40 q := by rw [F_X10_outsideTo_eq]; rfl
theorem n10 : ¬ (1 : Int32) = 0 := by decide
theorem a_lose {M n so si t d : Nat} {σ τ : gS} {ζ : gQ} {x : Int32} (R : RLk M n so si t d σ τ ζ) (hp : σ 15 6 = 1) (hM : M < 2 ^ 20 - 2) (S : sgt σ τ n t 20 x) :
    ∃ u V z, F_X9_loseOuterCard σ = (1, u) ∧ Q_X9_loseOuterCard σ ∧ Q_X10_put_ τ ζ 1 1 x ∧ (if (F_X10_put_ τ ζ 1 1 x).1 = 0 then ((1 : Int32), (F_X10_put_ τ ζ 1 1 x).2.1, (F_X10_put_ τ ζ 1 1 x).2.2) else ((1 : Int32), F_X10_outsideTo (F_X10_put_ τ ζ 1 1 x).2.1 0 1, (F_X10_put_ τ ζ 1 1 x).2.2)) = (1, V, z) ∧ actR M n so si t d σ τ 1 u V z := by
  obtain ⟨r, u, V, z, e1, e2, q1, q2, E⟩ := s_stepO R hp hM S (a := 1) (b := 1) (sm_n 1 (by decide)) (sm_n 1 (by decide)) 0 1
  rw [F_X9_loseOuterCard_eq]
  unfold Fr_X9_loseOuterCard Q_X9_loseOuterCard
  simp only [e1, e2, oTo]
  rcases E.1 with rfl | ⟨rfl, h6⟩
  · simp only [if_neg n10]
    exact ⟨_, _, _, rfl, ⟨q1, trivial⟩, q2, rfl, actR_1 (out_0 E.2.1 1 (by decide)) (by omega)⟩
  · simp only [if_true]
    exact ⟨_, _, _, rfl, ⟨q1, trivial⟩, q2, rfl, actR_1 E.2.1 (by omega)⟩
/-- state 0 -/
theorem a_meet {M n si t d : Nat} {σ τ : gS} {ζ : gQ} {x : Int32} (R : RLk M n 0 si t d σ τ ζ) (hp : σ 15 6 = 1) (hM : M < 2 ^ 20 - 2) (S : sgt σ τ n t 20 x) (hx : σ 0 4 = x) :
    ∃ r u V z, F_X9_meetOuterCard σ = (r, u) ∧ Q_X9_meetOuterCard σ ∧ QJ_X10_actOutside_61 x τ ζ ∧ J_X10_actOutside_61 x τ ζ = (r, V, z) ∧ actR M n 0 si t d σ τ r u V z := by
  rw [F_X9_meetOuterCard_eq]
  unfold Fr_X9_meetOuterCard Q_X9_meetOuterCard QJ_X10_actOutside_61 J_X10_actOutside_61
  have e42 : τ 199 42 = 0 := R.out.2.2.1
  obtain ⟨⟨s1, s2⟩, _⟩ := R.com.see
  have e20 : τ 199 20 = x := s1.symm.trans hx
  rw [hx] at s2
  simp only [e42, if_true, hx, e20]
  rcases s2 with rfl | ⟨c, hc, rfl⟩
  · have c1 : ¬ (0 : Int32) ≤ -1 := by decide
    simp only [if_true, if_neg c1]
    exact ⟨_, _, _, _, rfl, trivial, trivial, rfl, actR_0 R (sameR_r _)⟩
  · have c1 : (0 : Int32) ≤ nI c := nI_pos' (by omega)
    have c2 : ¬ nI c = -1 := nI_m1 (by omega)
    obtain ⟨r, u, V, z, e1, e2, q1, q2, E⟩ := s_stepO R hp hM S (a := 2) (b := 0) (sm_n 2 (by decide)) (sm_n 0 (by decide)) 1 3
    simp only [if_neg c2, if_pos c1, e1, e2, oTo]
    rcases E.1 with rfl | ⟨rfl, h6⟩
    · simp only [if_neg n10]
      refine ⟨_, _, _, _, rfl, ⟨q1, trivial⟩, ⟨q2, trivial⟩, rfl, actR_1 (M' := M + 2) (n' := n) (so' := 1) (si' := si) ?_ (by omega)⟩
      have R' := E.2.1
      have eu : u 0 4 = nI c := by rw [E.2.2.1 0 (by decide) (by decide) (by decide)]; exact hx
      refine ⟨R'.com, R'.lat, ⟨by decide, rfl, rfl, ⟨3, by decide, rfl, rfl⟩, fun _ => ⟨c, hc, ?_, rfl⟩, fun h => absurd h (by decide), R'.out.2.2.2.2.2.2⟩, R'.ins, R'.jr⟩
      exact eu
    · simp only [if_true]
      exact ⟨_, _, _, _, rfl, ⟨q1, trivial⟩, ⟨q2, trivial⟩, rfl, actR_1 E.2.1 (by omega)⟩
theorem set_get {a b : Nat → Int32} (h : pSet a b) {i : Nat} (hi : i < 9) : ∃ n : Nat, sLo i ≤ n ∧ n ≤ sHi i ∧ a i = nI n ∧ b i = nI n := h i hi
/-- a later time -/
theorem pT_add {t n : Nat} {u V : gS} {z : gQ} {M : Nat} {i : Nat} (C : RCk M n t u V z) (hi : i < 5) : pT (u 0 10 + u 6 i) (z 19 + (V 217 i).toInt64) := by
  obtain ⟨v, h1, h2, h3, h4⟩ := set_get C.set (show i < 9 by omega)
  obtain ⟨t1, t2, t3⟩ := C.now
  have hv : v ≤ 10000 := by unfold sHi at h2; rw [if_pos hi] at h2; exact h2
  refine ⟨t + v, by omega, by rw [t2, h3, nI_add], by rw [t3, h4, nI_l (by omega), lN_add]⟩
/-- state 1 -/
theorem a_judge {M n si t d : Nat} {σ τ : gS} {ζ : gQ} {c : Nat} (R : RLk M n 1 si t d σ τ ζ) (hp : σ 15 6 = 1) (hM : M < 2 ^ 20 - 2) (hc : c < 16) (S : sgt σ τ n t 20 (nI c)) (G : sgc σ τ n t 20 c) :
    ∃ r u V z, F_X9_judgeOuterCard σ = (r, u) ∧ Q_X9_judgeOuterCard σ ∧ QJ_X10_actOutside_61 (nI c) τ ζ ∧ J_X10_actOutside_61 (nI c) τ ζ = (r, V, z) ∧ actR M n 1 si t d σ τ r u V z := by
  rw [F_X9_judgeOuterCard_eq]
  unfold Fr_X9_judgeOuterCard Q_X9_judgeOuterCard QJ_X10_actOutside_61 J_X10_actOutside_61
  have e42 : τ 199 42 = 1 := R.out.2.2.1
  simp only [e42, if_neg n10, if_true]
  rw [F_X10_looksAt_eq]
  unfold Q_X10_looksAt Fr_X10_looksAt
  obtain ⟨ht, et, ez⟩ := R.com.now
  obtain ⟨qp, cp, sp⟩ := r_pass R.com.ref hc (show t < 2 ^ 31 by omega) ez
  generalize F_X10_hasPass τ ζ (nI c) = fp at cp sp ⊢
  have Rp := RL_scr R sp
  have Sp := sgt_same S rfl (sameR_scr sp)
  rcases cp with ⟨ep, gp⟩ | ⟨ep, gp⟩
  · have epn : ¬ fp.1 = 0 := by rw [ep]; decide
    have e3 : ¬ σ 20 3 = 0 := by
      rcases G.pas with ⟨z, _⟩ | ⟨_, z⟩
      · rw [z]; decide
      · exact absurd gp z
    obtain ⟨r, u, V, z, e1, e2, q1, q2, E⟩ := s_stepO Rp hp hM Sp (a := 3) (b := 0) (sm_n 3 (by decide)) (sm_n 0 (by decide)) 5 3
    simp only [if_neg e3, if_neg epn, e1, e2, oTo]
    rcases E.1 with rfl | ⟨rfl, h6⟩
    · simp only [if_neg n10]
      exact ⟨_, _, _, _, rfl, ⟨q1, trivial⟩, ⟨⟨qp, q2, trivial⟩, trivial⟩, rfl, actR_1 (out_c E.2.1 (by decide) 5 3 (by decide) (by decide) (by decide)) (by omega)⟩
    · simp only [if_true]
      exact ⟨_, _, _, _, rfl, ⟨q1, trivial⟩, ⟨⟨qp, q2, trivial⟩, trivial⟩, rfl, actR_1 E.2.1 (by omega)⟩
  have e3 : σ 20 3 = 0 := by
    rcases G.pas with ⟨_, z⟩ | ⟨z, _⟩
    · exact absurd z gp
    · exact z
  simp only [if_pos e3, if_pos ep]
  obtain ⟨qs, cs, ss⟩ := r_sound (τ := fp.2) Rp.com.ref hc (show t < 2 ^ 31 by omega) ez
  rw [soundC_same (sameR_scr sp)] at cs
  generalize F_X10_isSound fp.2 ζ (nI c) = fs at cs ss ⊢
  have Rs := RL_scr Rp ss
  have Ss := sgt_same Sp rfl (sameR_scr ss)
  rcases cs with ⟨es, gs⟩ | ⟨es, gs⟩
  · have esn : ¬ fs.1 = 0 := by rw [es]; decide
    have e2' : ¬ σ 20 2 = 0 := by
      rcases G.snd with ⟨z, _⟩ | ⟨_, z⟩
      · rw [z]; decide
      · exact absurd gs z
    obtain ⟨r, u, V, z, e1, e2, q1, q2, E⟩ := s_stepO Rs hp hM Ss (a := 4) (b := 0) (sm_n 4 (by decide)) (sm_n 0 (by decide)) 2 2
    simp only [if_neg e2', if_neg esn, e1, e2, oTo, ix2]
    rcases E.1 with rfl | ⟨rfl, h6⟩
    · simp only [if_neg n10]
      refine ⟨_, _, _, _, rfl, ⟨q1, trivial⟩, ⟨⟨qp, qs, q2, trivial⟩, trivial⟩, rfl, actR_1 (M' := M + 2) (n' := n) (so' := 2) (si' := si) ?_ (by omega)⟩
      have R' := out_c E.2.1 (by decide) 2 2 (by decide) (by decide) (by decide)
      refine ⟨R'.com, R'.lat, ⟨R'.out.1, R'.out.2.1, R'.out.2.2.1, R'.out.2.2.2.1, R'.out.2.2.2.2.1, R'.out.2.2.2.2.2.1, ?_⟩, R'.ins, R'.jr⟩
      exact pT_add (i := 2) E.2.1.com (by decide)
    · simp only [if_true]
      exact ⟨_, _, _, _, rfl, ⟨q1, trivial⟩, ⟨⟨qp, qs, q2, trivial⟩, trivial⟩, rfl, actR_1 E.2.1 (by omega)⟩
  · have e2' : σ 20 2 = 0 := by
      rcases G.snd with ⟨_, z⟩ | ⟨z, _⟩
      · exact absurd z gs
      · exact z
    obtain ⟨r, u, V, z, e1, e2, q1, q2, E⟩ := s_stepO Rs hp hM Ss (a := 5) (b := 1) (sm_n 5 (by decide)) (sm_n 1 (by decide)) 7 5
    simp only [if_pos e2', if_pos es, e1, e2, oTo]
    rcases E.1 with rfl | ⟨rfl, h6⟩
    · simp only [if_neg n10]
      exact ⟨_, _, _, _, rfl, ⟨q1, trivial⟩, ⟨⟨qp, qs, q2, trivial⟩, trivial⟩, rfl, actR_1 (out_c E.2.1 (by decide) 7 5 (by decide) (by decide) (by decide)) (by omega)⟩
    · simp only [if_true]
      exact ⟨_, _, _, _, rfl, ⟨q1, trivial⟩, ⟨⟨qp, qs, q2, trivial⟩, trivial⟩, rfl, actR_1 E.2.1 (by omega)⟩
