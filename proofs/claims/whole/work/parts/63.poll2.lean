/-! The start anew, and poll -/
theorem see_cut {oc om ic im fc fm dc dm kc km cc cm : Int32} (h : pSee oc om ic im fc fm dc dm kc km cc cm) : pSee oc om ic im fc fm dc dm kc km (-1) (-1) := ⟨h.1, h.2.1, h.2.2.1, h.2.2.2.1, h.2.2.2.2.1, h.2.2.2.2.2.1, rfl, Or.inl rfl⟩
/-- the start anew: the class's state behind its changes, the reference's before them -/
theorem s_start {M n si t d : Nat} {σ τ : gS} {ζ : gQ} (W : RWk M n si t d σ τ ζ) (hM : M < 2 ^ 20 - 2) (hcut : σ 15 4 = -1 ∧ τ 199 27 = -1) (hpow : σ 15 6 = 1 ∧ τ 199 33 = 0) :
    Q_X9_restart σ ∧ Q_X10_starts τ ζ ∧ ∃ si', IVk (M + 2) n 0 si' t (F_X9_restart σ) (F_X10_starts τ ζ).1 (F_X10_starts τ ζ).2 := by
  have C := W.com
  have I := W.ins
  obtain ⟨_, _, _, _, ⟨d1, d2⟩, _⟩ := C.see
  obtain ⟨ht, et, ez⟩ := C.now
  obtain ⟨c, m, w, J, P, _⟩ := W.jr
  rw [F_X9_restart_eq, F_X10_starts_eq]
  unfold Q_X9_restart Fr_X9_restart Q_X10_starts Fr_X10_starts
  unfold QJ_X9_restart_64 J_X9_restart_64 QJ_X9_restart_80 J_X9_restart_80 QJ_X9_restart_97 J_X9_restart_97
  unfold QJ_X10_starts_13 J_X10_starts_13 QJ_X10_starts_32 J_X10_starts_32 QJ_X10_starts_78 J_X10_starts_78 QJ_X10_starts_91 J_X10_starts_91 QJ_X10_starts_105 J_X10_starts_105
  have pw : w + d ≤ M := P.1
  have J0 : ∀ (s : gS), (s 15 = σ 15) → (s 16 = σ 16) → (s 17 = σ 17) → jrn M 0 (w + d) s (pf τ 199 32 0) ζ c m 0 := by
    intro s h1 h2 h3
    refine ⟨?_, ⟨by omega, ?_, rfl, ?_, Or.inl ⟨?_, ?_, ?_⟩⟩, pArc_n (by decide)⟩
    · rw [h1, h2, h3]; exact J
    · rw [h1, P.2.1]; congr 1; omega
    · rw [h1, hcut.1]; exact hcut.2.symm
    · rw [h1]; exact hcut.1
    · rw [h1]; exact hpow.1
    · exact hpow.2
  have pTt : pT (nI t) (lN t) := ⟨t, by omega, rfl, rfl⟩
  by_cases hn : n = 0
  · have e0 : F_X4_isEnrolled σ = 0 := enr_0 (by rw [C.key.2.1, hn])
    have l : τ 199 46 ≤ 1 := by rw [I.2.2.1]; exact nI_le (b := 1) (I.2.2.2.2.2.2.2.2.mpr hn) (by decide)
    simp only [e0, if_true, if_pos l]
    refine ⟨⟨d2, trivial⟩, ⟨?_, trivial⟩, 0, ?_⟩
    · show τ 199 23 = 0 ∨ τ 199 23 = 1
      rw [← d1]; exact d2
    · refine ⟨RC_mono (M := M) ⟨C.tape, C.disk, C.see, C.now, C.ser, C.set, C.key, C.tab, C.crd⟩ (by omega), ⟨⟨rfl, Or.inl rfl⟩, ⟨rfl, Or.inl rfl⟩, ?_, fun h => absurd (show (0 : Int32) = 1 from h) (by decide), ⟨d1, d2⟩⟩, ⟨by decide, rfl, rfl, ⟨0, by decide, rfl, rfl⟩, fun h => absurd rfl h, fun h => absurd h (by decide), W.wt⟩, ⟨by decide, rfl, rfl, ⟨8, by decide, rfl, rfl⟩, ⟨rfl, Or.inl rfl⟩, fun h => absurd rfl h, fun h => absurd h (by decide), fun h => absurd (h.elim (fun z => absurd z (by decide)) (fun h => h.elim (fun z => absurd z (by decide)) id)) (fun z => z rfl), ⟨fun _ => hn, fun _ => by decide⟩⟩, c, m, pJ_mono J (by omega), pArc_n (by decide)⟩
      show pT (σ 0 10) (ζ 19)
      rw [et, ez]; exact pTt
  · have e1 : F_X4_isEnrolled σ = 1 := enr_1 (by omega) C.key.1 C.key.2.1
    have l : ¬ τ 199 46 ≤ 1 := by
      rw [I.2.2.1]
      have : ¬ si ≤ 1 := fun z => hn (I.2.2.2.2.2.2.2.2.mp z)
      have := I.1
      exact nI_ge (a := 1) (by omega) (by omega)
    simp only [e1, if_neg n10, if_neg l]
    have s15 : pf (pf (pf (pf (pf (pf (pf (pf (pf σ 18 0 0) 18 3 0) 18 2 (pf (pf σ 18 0 0) 18 3 0 0 10)) 0 8 (pf (pf (pf σ 18 0 0) 18 3 0) 18 2 (pf (pf σ 18 0 0) 18 3 0 0 10) 0 7)) 19 1 0) 19 2 1) 21 1 2) 21 2 1) 21 4 (-1) 15 = σ 15 := rfl
    obtain ⟨r, u, V, z, x1, x2, q1, q2, _, ⟨c', m', w', J', P', _⟩, f1, f2, f3, f4, f5⟩ := s_putJ (σ := pf (pf (pf (pf (pf (pf (pf (pf (pf σ 18 0 0) 18 3 0) 18 2 (pf (pf σ 18 0 0) 18 3 0 0 10)) 0 8 (pf (pf (pf σ 18 0 0) 18 3 0) 18 2 (pf (pf σ 18 0 0) 18 3 0 0 10) 0 7)) 19 1 0) 19 2 1) 21 1 2) 21 2 1) 21 4 (-1)) (J0 _ rfl rfl rfl) hM (show t < 2 ^ 31 by omega) et ez (a := 70) (b := 1) (sm_n 70 (by decide)) (sm_n 1 (by decide))
    simp only [x1, x2]
    have v23 : V 199 23 = τ 199 23 := f4 23 (by decide) (by decide) (by decide) (by decide)
    refine ⟨⟨d2, q1, trivial⟩, ⟨q2, ?_, trivial⟩, 2, ?_⟩
    · show V 199 23 = 0 ∨ V 199 23 = 1
      rw [v23, ← d1]; exact d2
    have g : ∀ b, b ≠ 199 → b ≠ 216 → V b = τ b := fun b h1 h2 => (f3 b h1 h2).trans (pf_ne h1)
    have k : ∀ j, j ≠ 29 → j ≠ 31 → j ≠ 32 → j ≠ 33 → V 199 j = τ 199 j := fun j h1 h2 h3 h4 => (f4 j h1 h2 h3 h4).trans (pf_i h3)
    refine ⟨RC_mono (M := M) ⟨?_, ?_, ?_, ?_, ?_, ?_, ?_, ?_, ?_⟩ (by omega), ?_, ?_, ?_, c', m', J', pArc_n (by decide)⟩
    · show pB 400 (u 1 1) (V 199 1) (u 2) (V 200)
      rw [f1 1 (by decide) (by decide) (by decide), f1 2 (by decide) (by decide) (by decide), k 1 (by decide) (by decide) (by decide) (by decide), g 200 (by decide) (by decide)]; exact C.tape
    · show pD (u 0 2) (u 3 1) (V 199 25) (u 4) (V 215)
      rw [f1 0 (by decide) (by decide) (by decide), f1 3 (by decide) (by decide) (by decide), f1 4 (by decide) (by decide) (by decide), k 25 (by decide) (by decide) (by decide) (by decide), g 215 (by decide) (by decide)]; exact C.disk
    · show pSee (u 0 4) (V 199 20) (u 0 5) (V 199 21) (u 0 6) (V 199 22) (u 0 7) (V 199 23) (u 0 9) (V 199 26) (u 15 4) (V 199 27)
      rw [f1 0 (by decide) (by decide) (by decide), f2, k 20 (by decide) (by decide) (by decide) (by decide), k 21 (by decide) (by decide) (by decide) (by decide), k 22 (by decide) (by decide) (by decide) (by decide), k 23 (by decide) (by decide) (by decide) (by decide), k 26 (by decide) (by decide) (by decide) (by decide), k 27 (by decide) (by decide) (by decide) (by decide)]; exact C.see
    · show t ≤ 2000000000 ∧ u 0 10 = nI t ∧ z 19 = lN t
      rw [f1 0 (by decide) (by decide) (by decide), f5 19 (by decide)]; exact C.now
    · show ∃ s : Nat, s ≤ M ∧ u 0 11 = nI (s + 1) ∧ z 53 = lN (s + 1)
      rw [f1 0 (by decide) (by decide) (by decide), f5 53 (by decide)]; exact C.ser
    · show pSet (u 6) (V 217)
      rw [f1 6 (by decide) (by decide) (by decide), g 217 (by decide) (by decide)]; exact C.set
    · show pKey n (u 12 2) (V 199 17) (V 199 18) (u 13) (V 213) (u 14) (V 214)
      rw [f1 12 (by decide) (by decide) (by decide), f1 13 (by decide) (by decide) (by decide), f1 14 (by decide) (by decide) (by decide), k 17 (by decide) (by decide) (by decide) (by decide), k 18 (by decide) (by decide) (by decide) (by decide), g 213 (by decide) (by decide), g 214 (by decide) (by decide)]; exact C.key
    · show pTab (V 199 10) (V 202) (V 203)
      rw [k 10 (by decide) (by decide) (by decide) (by decide), g 202 (by decide) (by decide), g 203 (by decide) (by decide)]; exact C.tab
    · show crdS (fun b => u (b + 23)) (V 210) (V 211) (V 212) (V 213) (V 214) n
      have ec : (fun b => u (b + 23)) = fun b => σ (b + 23) := funext (fun b => f1 (b + 23) (by omega) (by omega) (by omega))
      rw [ec, g 210 (by decide) (by decide), g 211 (by decide) (by decide), g 212 (by decide) (by decide), g 213 (by decide) (by decide), g 214 (by decide) (by decide)]; exact C.crd
    · show pLat (u 18 0) 0 (u 18 3) 0 (u 18 1) (z 19) (u 18 2) (z 19) (u 0 8) (V 199 23)
      rw [f1 18 (by decide) (by decide) (by decide), f1 0 (by decide) (by decide) (by decide), f5 19 (by decide), v23]
      refine ⟨⟨rfl, Or.inl rfl⟩, ⟨rfl, Or.inl rfl⟩, ?_, fun h => absurd (show (0 : Int32) = 1 from h) (by decide), ⟨d1, d2⟩⟩
      show pT (σ 0 10) (ζ 19)
      rw [et, ez]; exact pTt
    · show pOut 0 (u 19 1) 0 (u 19 2) 1 (u 19 3) (-1) (u 19 4) (V 199 45) (u 19 5) (z 44)
      rw [f1 19 (by decide) (by decide) (by decide), f5 44 (by decide)]
      exact ⟨by decide, rfl, rfl, ⟨1, by decide, rfl, rfl⟩, fun h => absurd rfl h, fun h => absurd h (by decide), W.wt⟩
    · show pIn 2 n (u 21 1) 2 (u 21 2) 1 (u 21 3) (-1) (u 21 4) (-1) (u 21 5) 0
      rw [f1 21 (by decide) (by decide) (by decide)]
      exact ⟨by decide, rfl, rfl, ⟨1, by decide, rfl, rfl⟩, ⟨rfl, Or.inl rfl⟩, fun h => absurd rfl h, fun h => absurd h (by decide), fun h => absurd (h.elim (fun z => absurd z (by decide)) (fun h => h.elim (fun z => absurd z (by decide)) id)) (fun z => z rfl), ins_lo 2 (by decide) (by omega)⟩
/-- the end of poll -/
theorem s_end {M n si t : Nat} {σ τ : gS} {ζ : gQ} (W : RWk M n si t 0 σ τ ζ) (RL : σ 15 6 = 1 → ∃ so, RLk M n so si t 0 σ τ ζ) (hM : M < 2 ^ 20 - 2) :
    QJ_X9_poll_72 σ ∧ QJ_X10_poll_34 τ ζ ∧ (J_X9_poll_72 σ).1 = (J_X10_poll_34 τ ζ).1 ∧ ∃ n' so' si' t', IVk (M + 2) n' so' si' t' (J_X9_poll_72 σ).2 (J_X10_poll_34 τ ζ).2.1 (J_X10_poll_34 τ ζ).2.2 := by
  obtain ⟨c, m, w, J, P, A⟩ := W.jr
  have C := W.com
  obtain ⟨_, _, _, _, _, _, cc, cv⟩ := C.see
  unfold QJ_X9_poll_72 J_X9_poll_72 QJ_X10_poll_34 J_X10_poll_34 QJ_X10_poll_46 J_X10_poll_46
  have p32 : pf (pf τ 199 27 (-1)) 199 33 0 199 32 = nI w := by rw [pf_i (by decide), pf_i (by decide)]; exact P.2.2.1
  have p5 : σ 15 5 = nI w := P.2.1
  have eE : F_X3_endLook σ = if σ 15 4 = -1 then (0, pf (pf σ 15 4 (-1)) 15 6 1) else (1, pf (pf σ 15 4 (-1)) 15 6 1) := by rw [F_X3_endLook_eq]; rfl
  rw [eE, ← cc, p5]
  by_cases hc : σ 15 4 = -1
  · have c1 : (-1 : Int32) < 0 := by decide
    simp only [if_pos hc, if_true, hc, if_pos c1, p32]
    have hp : σ 15 6 = 1 := by
      rcases P.2.2.2.2 with ⟨_, h, _⟩ | ⟨y, _, h, _⟩
      · exact h
      · rw [hc] at h; exact absurd h.symm (nI_m1 (by omega))
    obtain ⟨so, R⟩ := RL hp
    obtain ⟨c', m', w', J', P', A'⟩ := R.jr
    refine ⟨trivial, trivial, trivial, n, so, si, t, IV_mono (K := M) ?_ (by omega)⟩
    exact ⟨⟨C.tape, C.disk, see_cut C.see, C.now, C.ser, C.set, C.key, C.tab, C.crd⟩, R.lat, R.out, R.ins, c', m', J', A'⟩
  · have c1 : ¬ σ 15 4 < 0 := by
      rcases cv with h | ⟨y, hy, h⟩
      · exact absurd h hc
      · rw [h]; exact nI_pos (by omega)
    simp only [if_neg hc, if_neg c1, if_neg n10, p32]
    have W1 : RWk M n si t 0 (pf (pf σ 15 4 (-1)) 15 6 1) (pf (pf τ 199 27 (-1)) 199 33 0) ζ := ⟨⟨C.tape, C.disk, see_cut C.see, C.now, C.ser, C.set, C.key, C.tab, C.crd⟩, W.ins, W.wt, c, m, w, J, ⟨P.1, P.2.1, P.2.2.1, rfl, Or.inl ⟨rfl, rfl, rfl⟩⟩, A⟩
    obtain ⟨r1, r2, si', I⟩ := s_start W1 hM ⟨rfl, rfl⟩ ⟨rfl, rfl⟩
    exact ⟨⟨r1, trivial⟩, ⟨r2, trivial⟩, trivial, n, 0, si', t, I⟩
theorem s_poll {K n so si t : Nat} {σ τ : gS} {ζ : gQ} (I : IVk K n so si t σ τ ζ) (hK : K < 2 ^ 20 - 40) :
    Q_X9_poll σ ∧ Q_X10_poll τ ζ ∧ (F_X9_poll σ).1 = (F_X10_poll τ ζ).1 ∧ ∃ n' so' si' t', IVk (K + 20) n' so' si' t' (F_X9_poll σ).2 (F_X10_poll τ ζ).2.1 (F_X10_poll τ ζ).2.2 := by
  rw [F_X9_poll_eq, F_X10_poll_eq]
  unfold Q_X9_poll Fr_X9_poll Q_X10_poll Fr_X10_poll
  have C := I.com
  obtain ⟨c, m, J, A⟩ := I.jj
  obtain ⟨_, _, _, _, _, _, cc, cv⟩ := C.see
  have eB : F_X3_beginLook σ = pf (pf σ 15 5 0) 15 6 (if σ 15 4 = 0 then 0 else 1) := by
    rw [F_X3_beginLook_eq]; unfold Fr_X3_beginLook
    have e : pf σ 15 5 0 15 4 = σ 15 4 := pf_i (by decide)
    simp only [e]
    split <;> rfl
  have e27 : pf τ 199 32 0 199 27 = σ 15 4 := by rw [pf_i (by decide)]; exact cc.symm
  rw [eB]
  simp only [e27]
  -- both sides at the beginning
  have core : ∀ h o : Int32, (o = 0 ∨ o = 1) → (∃ w : Nat, pPow K w 0 0 0 h o (σ 15 4) (τ 199 27)) → (if (pf (pf σ 15 5 0) 15 6 h) 21 1 = (7 : Int32) then QJ_X9_poll_72 (pf (pf σ 15 5 0) 15 6 h) else Q_X9_readCards (pf (pf σ 15 5 0) 15 6 h) ∧ Q_X9_seeDoor (F_X9_readCards (pf (pf σ 15 5 0) 15 6 h)) ∧ Q_X9_watchLatch (F_X9_seeDoor (F_X9_readCards (pf (pf σ 15 5 0) 15 6 h))) ∧ QlkC (F_X9_watchLatch (F_X9_seeDoor (F_X9_readCards (pf (pf σ 15 5 0) 15 6 h)))) ∧ Q_X9_watchLatch (lkC (F_X9_watchLatch (F_X9_seeDoor (F_X9_readCards (pf (pf σ 15 5 0) 15 6 h))))) ∧ QJ_X9_poll_72 (F_X9_watchLatch (lkC (F_X9_watchLatch (F_X9_seeDoor (F_X9_readCards (pf (pf σ 15 5 0) 15 6 h))))))) ∧ QJ_X10_poll_18 o (pf τ 199 32 0) ζ ∧ (if (pf (pf σ 15 5 0) 15 6 h) 21 1 = (7 : Int32) then J_X9_poll_72 (pf (pf σ 15 5 0) 15 6 h) else J_X9_poll_72 (F_X9_watchLatch (lkC (F_X9_watchLatch (F_X9_seeDoor (F_X9_readCards (pf (pf σ 15 5 0) 15 6 h))))))).1 = (J_X10_poll_18 o (pf τ 199 32 0) ζ).1 ∧ ∃ n' so' si' t', IVk (K + 20) n' so' si' t' (if (pf (pf σ 15 5 0) 15 6 h) 21 1 = (7 : Int32) then J_X9_poll_72 (pf (pf σ 15 5 0) 15 6 h) else J_X9_poll_72 (F_X9_watchLatch (lkC (F_X9_watchLatch (F_X9_seeDoor (F_X9_readCards (pf (pf σ 15 5 0) 15 6 h))))))).2 (J_X10_poll_18 o (pf τ 199 32 0) ζ).2.1 (J_X10_poll_18 o (pf τ 199 32 0) ζ).2.2 := by
    intro h o ho ⟨w, hP⟩
    have R : RLk K n so si t 0 (pf (pf σ 15 5 0) 15 6 h) (pf (pf τ 199 32 0) 199 33 o) ζ := ⟨⟨C.tape, C.disk, C.see, C.now, C.ser, C.set, C.key, C.tab, C.crd⟩, I.lat, I.out, I.ins, c, m, w, J, hP, A⟩
    unfold QJ_X10_poll_18 J_X10_poll_18
    have x1 : pf (pf σ 15 5 0) 15 6 h 21 1 = nI si := I.ins.2.1
    have x2 : pf (pf τ 199 32 0) 199 33 o 199 46 = nI si := I.ins.2.2.1
    have s7 := I.ins.1
    simp only [x1, x2]
    by_cases h7 : si = 7
    · have c7 : nI si = 7 := by rw [h7]; rfl
      simp only [if_pos c7]
      obtain ⟨q1, q2, e, n', so', si', t', I'⟩ := s_end R.toW (fun _ => ⟨so, R⟩) (by omega)
      exact ⟨q1, ⟨ho, q2⟩, e, n', so', si', t', IV_mono I' (by omega)⟩
    · have c7 : ¬ nI si = 7 := fun z => h7 ((nI_eq (b := 7) (by omega) (by decide)).mp z)
      simp only [if_neg c7]
      obtain ⟨ht, et, ez⟩ := R.com.now
      obtain ⟨qr, fr, O, S20, S22⟩ := c_readCards R.com.cok (show t < 2 ^ 31 by omega) et
      have R1 := RL_read R fr O
      have f0 := fr 0 (by omega) (by omega) (by omega) (by omega)
      have f19 := fr 19 (by omega) (by omega) (by omega) (by omega)
      have f21 := fr 21 (by omega) (by omega) (by omega) (by omega)
      obtain ⟨u, V, z, e1, ⟨q1, q2, q3, q4⟩, q5, e2, n1, si1, W1, RL1⟩ := s_look R1 (by omega) h7 (fun x hx px => S20 x (by rw [f0, f19] at hx; exact hx) px) (fun x hx px => S22 x (by rw [f0, f21] at hx; exact hx) px)
      obtain ⟨q6, q7, e, n', so', si', t', I'⟩ := s_end W1 RL1 (by omega)
      simp only [e1, e2]
      exact ⟨⟨qr, q1, q2, q3, q4, q6⟩, ⟨ho, q5, q7⟩, e, n', so', si', t', IV_mono I' (by omega)⟩
  -- the class's text
  have cls : ∀ s : gS, (if s 21 1 = (7 : Int32) then QJ_X9_poll_72 s else Q_X9_readCards s ∧ Q_X9_seeDoor (F_X9_readCards s) ∧ Q_X9_watchLatch (F_X9_seeDoor (F_X9_readCards s)) ∧ QlkC (F_X9_watchLatch (F_X9_seeDoor (F_X9_readCards s))) ∧ Q_X9_watchLatch (lkC (F_X9_watchLatch (F_X9_seeDoor (F_X9_readCards s)))) ∧ QJ_X9_poll_72 (F_X9_watchLatch (lkC (F_X9_watchLatch (F_X9_seeDoor (F_X9_readCards s)))))) → (if s 21 1 = (7 : Int32) then QJ_X9_poll_72 s else Q_X9_readCards s ∧ Q_X9_seeDoor (F_X9_readCards s) ∧ Q_X9_watchLatch (F_X9_seeDoor (F_X9_readCards s)) ∧ (if F_X9_watchLatch (F_X9_seeDoor (F_X9_readCards s)) 19 1 = 0 then Q_X9_actInside (F_X9_watchLatch (F_X9_seeDoor (F_X9_readCards s))) ∧ (if (F_X9_actInside (F_X9_watchLatch (F_X9_seeDoor (F_X9_readCards s)))).1 = 0 then Q_X9_actOutside (F_X9_actInside (F_X9_watchLatch (F_X9_seeDoor (F_X9_readCards s)))).2 ∧ QJ_X9_poll_68 (F_X9_actOutside (F_X9_actInside (F_X9_watchLatch (F_X9_seeDoor (F_X9_readCards s)))).2).2 else QJ_X9_poll_68 (F_X9_actInside (F_X9_watchLatch (F_X9_seeDoor (F_X9_readCards s)))).2) else Q_X9_actOutside (F_X9_watchLatch (F_X9_seeDoor (F_X9_readCards s))) ∧ (if (F_X9_actOutside (F_X9_watchLatch (F_X9_seeDoor (F_X9_readCards s)))).1 = 0 then Q_X9_actInside (F_X9_actOutside (F_X9_watchLatch (F_X9_seeDoor (F_X9_readCards s)))).2 ∧ QJ_X9_poll_68 (F_X9_actInside (F_X9_actOutside (F_X9_watchLatch (F_X9_seeDoor (F_X9_readCards s)))).2).2 else QJ_X9_poll_68 (F_X9_actOutside (F_X9_watchLatch (F_X9_seeDoor (F_X9_readCards s)))).2))) ∧ (if s 21 1 = (7 : Int32) then J_X9_poll_72 s else (if F_X9_watchLatch (F_X9_seeDoor (F_X9_readCards s)) 19 1 = 0 then (if (F_X9_actInside (F_X9_watchLatch (F_X9_seeDoor (F_X9_readCards s)))).1 = 0 then J_X9_poll_68 (F_X9_actOutside (F_X9_actInside (F_X9_watchLatch (F_X9_seeDoor (F_X9_readCards s)))).2).2 else J_X9_poll_68 (F_X9_actInside (F_X9_watchLatch (F_X9_seeDoor (F_X9_readCards s)))).2) else (if (F_X9_actOutside (F_X9_watchLatch (F_X9_seeDoor (F_X9_readCards s)))).1 = 0 then J_X9_poll_68 (F_X9_actInside (F_X9_actOutside (F_X9_watchLatch (F_X9_seeDoor (F_X9_readCards s)))).2).2 else J_X9_poll_68 (F_X9_actOutside (F_X9_watchLatch (F_X9_seeDoor (F_X9_readCards s)))).2))) = (if s 21 1 = (7 : Int32) then J_X9_poll_72 s else J_X9_poll_72 (F_X9_watchLatch (lkC (F_X9_watchLatch (F_X9_seeDoor (F_X9_readCards s)))))) := by
    intro s hs
    unfold QJ_X9_poll_68 J_X9_poll_68
    generalize hX : F_X9_watchLatch (F_X9_seeDoor (F_X9_readCards s)) = X at hs ⊢
    by_cases h7 : s 21 1 = 7
    · simp only [if_pos h7] at hs ⊢; exact ⟨hs, trivial⟩
    · simp only [if_neg h7] at hs ⊢
      obtain ⟨a1, a2, a3, a4, a5, a6⟩ := hs
      unfold QlkC at a4
      unfold lkC at a5 a6 ⊢
      by_cases h0 : X 19 1 = 0
      · simp only [if_pos h0] at a4 a5 a6 ⊢
        by_cases h1 : (F_X9_actInside X).1 = 0
        · simp only [if_pos h1] at a4 a5 a6 ⊢
          exact ⟨⟨a1, a2, a3, a4.1, a4.2, a5, a6⟩, trivial⟩
        · simp only [if_neg h1] at a4 a5 a6 ⊢
          exact ⟨⟨a1, a2, a3, a4.1, a5, a6⟩, trivial⟩
      · simp only [if_neg h0] at a4 a5 a6 ⊢
        by_cases h1 : (F_X9_actOutside X).1 = 0
        · simp only [if_pos h1] at a4 a5 a6 ⊢
          exact ⟨⟨a1, a2, a3, a4.1, a4.2, a5, a6⟩, trivial⟩
        · simp only [if_neg h1] at a4 a5 a6 ⊢
          exact ⟨⟨a1, a2, a3, a4.1, a5, a6⟩, trivial⟩
  by_cases hc : σ 15 4 = 0
  · simp only [if_pos hc]
    obtain ⟨q1, q2, e, R⟩ := core 0 1 (Or.inr rfl) ⟨0, by omega, rfl, rfl, cc, Or.inr ⟨0, by omega, hc, rfl, Or.inr ⟨by omega, rfl, rfl⟩⟩⟩
    obtain ⟨k1, k2⟩ := cls _ q1
    rw [k2]
    exact ⟨k1, q2, e, R⟩
  · simp only [if_neg hc]
    have hP : pPow K 0 0 0 0 1 0 (σ 15 4) (τ 199 27) := by
      refine ⟨by omega, rfl, rfl, cc, ?_⟩
      rcases cv with h | ⟨y, hy, h⟩
      · exact Or.inl ⟨h, rfl, rfl⟩
      · refine Or.inr ⟨y, hy, h, rfl, Or.inl ⟨?_, rfl, rfl⟩⟩
        rcases Nat.eq_zero_or_pos y with z | z
        · rw [z] at h; exact absurd h hc
        · exact z
    obtain ⟨q1, q2, e, R⟩ := core 1 0 (Or.inl rfl) ⟨0, hP⟩
    obtain ⟨k1, k2⟩ := cls _ q1
    rw [k2]
    exact ⟨k1, q2, e, R⟩
