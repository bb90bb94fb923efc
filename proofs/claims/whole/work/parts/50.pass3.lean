/-! State 4: the pass is written -/
theorem crd_make {σ s τ V : gS} {ζ z : gQ} {n c se : Nat} {P q : Nat → Int32} (h : crd σ τ n) (hc : c < 16) (hP : ∀ i, isb (P i)) (D : mkd c se P q σ s) (E : mrd c se P q τ V ζ z) : crd s V n := by
  have j3 : rwC c 3 = 32 + 11 * c := by unfold rwC; omega
  intro c' hc'
  obtain ⟨h1, h2⟩ := h c' hc'
  rw [D.fr (23 + 11 * c') (by omega) (by omega) (by omega) (by omega) (by omega), E.fr 212 (by decide) (by decide) (by decide) (by decide)]
  refine ⟨h1, fun p' hp' => ?_⟩
  have jp : rwC c' p' = 26 + 11 * c' + 2 * p' := by unfold rwC; omega
  by_cases hx : 4 * c' + p' = 4 * c + 3
  · have ec : c' = c := by omega
    have ep : p' = 3 := by omega
    subst ec ep
    refine ⟨39, by decide, D.len, by rw [E.sz, if_pos rfl], fun i hi => ?_, Or.inl (by rw [D.sl, if_pos rfl])⟩
    by_cases hi2 : i < 23
    · rw [D.by1 i hi2, E.by1 i hi2]; exact ⟨rfl, hP i⟩
    · have e1 := D.by2 (i - 23) (by omega)
      have e2 := E.by2 (i - 23) (by omega)
      rw [show 23 + (i - 23) = i by omega] at e1 e2
      rw [e1, e2]; exact ⟨rfl, isb_mk _⟩
  · obtain ⟨L, hL, e1, e2, hb, S⟩ := h2 p' hp'
    have er : ∀ i, i < 48 → rwR V c' p' i = rwR τ c' p' i := fun i hi => E.ou _ (by omega)
    refine ⟨L, hL, ?_, ?_, fun i hi => ?_, ?_⟩
    · rw [D.fr (rwC c' p') (by omega) (by omega) (by omega) (by omega) (by omega)]; exact e1
    · rw [E.sz, if_neg hx]; exact e2
    · rw [D.fr (rwC c' p' + 1) (by omega) (by omega) (by omega) (by omega) (by omega), er i (by omega)]; exact hb i hi
    · have es : s (23 + 11 * c' + 2) p' = σ (23 + 11 * c' + 2) p' := by
        by_cases ec : c' = c
        · subst ec; rw [D.sl, if_neg (by omega)]
        · rw [D.fr (23 + 11 * c' + 2) (by omega) (by omega) (by omega) (by omega) (by omega)]
      rw [es, E.fr 213 (by decide) (by decide) (by decide) (by decide), E.fr 214 (by decide) (by decide) (by decide) (by decide)]
      exact pSl_congr hL (fun i hi => (er i (by omega)).symm) S
theorem RL_make {M n so si t d c se : Nat} {u s V W : gS} {z y : gQ} {P q : Nat → Int32} (R : RLk M n so si t d u V z) (h0 : so ≠ 0) (hc : c < 16) (hP : ∀ i, isb (P i)) (hse : u 0 11 = nI (se) ∧ 0 < se ∧ se ≤ M + 1) (D : mkd c se P q (pf (pf u 19 1 5) 19 2 3) s) (E : mrd c se P q V W z y) : RLk (M + 1) n 5 si t d s W y := by
  have j3 : rwC c 3 = 32 + 11 * c := by unfold rwC; omega
  have f : ∀ b, (b < 8 ∨ 11 < b) → b < 23 → b ≠ 0 → b ≠ 19 → s b = u b := fun b h1 h2 h3 h4 => by rw [D.fr b h1 h3 (by omega) (by omega) (by omega), pf_ne h4, pf_ne h4]
  have f0 : ∀ k, k ≠ 11 → s 0 k = u 0 k := fun k hk => by rw [D.fk k hk, pf_ne (by decide), pf_ne (by decide)]
  have f19 : s 19 = pf (pf u 19 1 5) 19 2 3 19 := D.fr 19 (by omega) (by omega) (by omega) (by omega) (by omega)
  have C := R.com
  have k := E.fk
  have g := E.fr
  refine ⟨⟨?_, ?_, ?_, ?_, ?_, ?_, ?_, E.tab, ?_⟩, ?_, ?_, ?_, ?_⟩
  · rw [f 1 (by omega) (by omega) (by omega) (by omega), f 2 (by omega) (by omega) (by omega) (by omega), k 1 (by omega) (by omega) (by omega), g 200 (by omega) (by omega) (by omega) (by omega)]; exact C.tape
  · rw [f0 2 (by omega), f 3 (by omega) (by omega) (by omega) (by omega), f 4 (by omega) (by omega) (by omega) (by omega), k 25 (by omega) (by omega) (by omega), g 215 (by omega) (by omega) (by omega) (by omega)]; exact C.disk
  · rw [f0 4 (by omega), f0 5 (by omega), f0 6 (by omega), f0 7 (by omega), f0 9 (by omega), f 15 (by omega) (by omega) (by omega) (by omega), k 20 (by omega) (by omega) (by omega), k 21 (by omega) (by omega) (by omega), k 22 (by omega) (by omega) (by omega), k 23 (by omega) (by omega) (by omega), k 26 (by omega) (by omega) (by omega), k 27 (by omega) (by omega) (by omega)]; exact C.see
  · rw [f0 10 (by omega), E.fz 19 (by omega)]; exact C.now
  · exact ⟨se, by omega, D.ser, E.ser⟩
  · rw [f 6 (by omega) (by omega) (by omega) (by omega), g 217 (by omega) (by omega) (by omega) (by omega)]; exact C.set
  · rw [f 12 (by omega) (by omega) (by omega) (by omega), f 13 (by omega) (by omega) (by omega) (by omega), f 14 (by omega) (by omega) (by omega) (by omega), k 17 (by omega) (by omega) (by omega), k 18 (by omega) (by omega) (by omega), g 213 (by omega) (by omega) (by omega) (by omega), g 214 (by omega) (by omega) (by omega) (by omega)]; exact C.key
  · exact crdS_of (crd_make (crd_fr (crdS_to C.crd) (fun b h1 _ => by rw [pf_ne (by omega), pf_ne (by omega)])) hc hP D E)
  · rw [f 18 (by omega) (by omega) (by omega) (by omega), f0 8 (by omega), k 35 (by omega) (by omega) (by omega), k 38 (by omega) (by omega) (by omega), k 39 (by omega) (by omega) (by omega), E.fz 36 (by omega), E.fz 37 (by omega)]; exact R.lat
  · have o := (out_c R h0 5 3 (by decide) (by decide) (by decide)).out
    rw [f19, E.st.1, E.st.2, k 43 (by omega) (by omega) (by omega), k 45 (by omega) (by omega) (by omega), E.fz 44 (by omega)]; exact o
  · rw [f 21 (by omega) (by omega) (by omega) (by omega), k 46 (by omega) (by omega) (by omega), k 41 (by omega) (by omega) (by omega), k 47 (by omega) (by omega) (by omega), k 48 (by omega) (by omega) (by omega), k 49 (by omega) (by omega) (by omega)]; exact R.ins
  · obtain ⟨c', m, w, J⟩ := R.jr
    refine ⟨c', m, w, jrn_mono (M := M) ?_ (by omega)⟩
    unfold jrn at J ⊢
    rw [f 15 (by omega) (by omega) (by omega) (by omega), f 16 (by omega) (by omega) (by omega) (by omega), f 17 (by omega) (by omega) (by omega) (by omega), f 21 (by omega) (by omega) (by omega) (by omega), k 29 (by omega) (by omega) (by omega), k 31 (by omega) (by omega) (by omega), k 32 (by omega) (by omega) (by omega), k 33 (by omega) (by omega) (by omega), k 27 (by omega) (by omega) (by omega), k 50 (by omega) (by omega) (by omega), k 52 (by omega) (by omega) (by omega), g 216 (by omega) (by omega) (by omega) (by omega), g 218 (by omega) (by omega) (by omega) (by omega), E.fz 30 (by omega)]
    exact J
theorem a_write {M n si t d : Nat} {σ τ : gS} {ζ : gQ} {c : Nat} (R : RLk M n 4 si t d σ τ ζ) (hp : σ 15 6 = 1) (hM : M < 2 ^ 20 - 4) (hc : c < 16) (e19 : σ 19 3 = nI c) (S : sgt σ τ n t 20 (nI c)) (G : sgc σ τ n t 20 c) :
    ∃ r u V z, F_X9_writePass σ = (r, u) ∧ Q_X9_writePass σ ∧ QJ_X10_actOutside_61 (nI c) τ ζ ∧ J_X10_actOutside_61 (nI c) τ ζ = (r, V, z) ∧ actR M n 4 si t d σ τ r u V z := by
  rw [F_X9_writePass_eq]
  unfold Fr_X9_writePass Q_X9_writePass QJ_X10_actOutside_61 J_X10_actOutside_61 QJ_X9_writePass_26 J_X9_writePass_26
  have e42 : τ 199 42 = 4 := R.out.2.2.1
  have n40 : ¬ (4 : Int32) = 0 := by decide
  have n41 : ¬ (4 : Int32) = 1 := by decide
  have n42 : ¬ (4 : Int32) = 2 := by decide
  have n43 : ¬ (4 : Int32) = 3 := by decide
  simp only [e42, if_neg n40, if_neg n41, if_neg n42, if_neg n43, if_true]
  rw [F_X10_writes_eq]
  unfold Q_X10_writes Fr_X10_writes
  obtain ⟨ht, et, ez⟩ := R.com.now
  obtain ⟨qs, cs, ss⟩ := r_sound R.com.ref hc (show t < 2 ^ 31 by omega) ez
  generalize F_X10_isSound τ ζ (nI c) = fs at cs ss ⊢
  have Rs := RL_scr R ss
  have Ss := sgt_same S rfl (sameR_scr ss)
  have ic : ¬ F_X9_isCard (nI c) = 0 := by rw [isCard_c hc]; decide
  rcases cs with ⟨es, gs⟩ | ⟨es, gs⟩
  rotate_left
  · have e2' : σ 20 2 = 0 := by
      rcases G.snd with ⟨_, z⟩ | ⟨z, _⟩
      · exact absurd z gs
      · exact z
    obtain ⟨r, u, V, z, e1, e2, q1, q2, E⟩ := s_stepO Rs hp (by omega) Ss (a := 5) (b := 1) (sm_n 5 (by decide)) (sm_n 1 (by decide)) 7 5
    simp only [if_pos e2', if_pos es, e1, e2, oTo]
    rcases E.1 with rfl | ⟨rfl, h6⟩
    · simp only [if_neg n10]
      exact ⟨_, _, _, _, rfl, ⟨q1, trivial⟩, ⟨⟨qs, q2, trivial⟩, trivial⟩, rfl, actR_1 (out_c E.2.1 (by decide) 7 5 (by decide) (by decide) (by decide)) (by omega)⟩
    · simp only [if_true]
      exact ⟨_, _, _, _, rfl, ⟨q1, trivial⟩, ⟨⟨qs, q2, trivial⟩, trivial⟩, rfl, actR_1 E.2.1 (by omega)⟩
  have esn : ¬ fs.1 = 0 := by rw [es]; decide
  have e2' : ¬ σ 20 2 = 0 := by
    rcases G.snd with ⟨z, _⟩ | ⟨_, z⟩
    · rw [z]; decide
    · exact absurd gs z
  have v16 : vp_in (nI c) 16 := vp_in_nI hc (by decide)
  have mw := ((crdS_to R.com.crd) c hc).1.1
  have mw2 : fs.2 212 c = σ (23 + 11 * c) 2 := by rw [ss.1 212 (by decide) (by decide), mw]
  simp only [if_neg esn, if_neg e2', e19, if_neg ic, ix_n (show c < 2 ^ 31 by omega), mw2]
  by_cases hw : σ (23 + 11 * c) 2 = 0
  · obtain ⟨r, u, V, z, e1, e2, q1, q2, E⟩ := s_stepO Rs hp (by omega) Ss (a := 11) (b := 1) (sm_n 11 (by decide)) (sm_n 1 (by decide)) 5 6
    simp only [if_pos hw, e1, e2, oTo]
    rcases E.1 with rfl | ⟨rfl, h6⟩
    · simp only [if_neg n10]
      exact ⟨_, _, _, _, rfl, ⟨v16, q1, trivial⟩, ⟨⟨qs, v16, q2, trivial⟩, trivial⟩, rfl, actR_1 (out_c E.2.1 (by decide) 5 6 (by decide) (by decide) (by decide)) (by omega)⟩
    · simp only [if_true]
      exact ⟨_, _, _, _, rfl, ⟨v16, q1, trivial⟩, ⟨⟨qs, v16, q2, trivial⟩, trivial⟩, rfl, actR_1 E.2.1 (by omega)⟩
  obtain ⟨r, u, V, z, e1, e2, q1, q2, E⟩ := s_stepO Rs hp (by omega) Ss (a := 10) (b := 0) (sm_n 10 (by decide)) (sm_n 0 (by decide)) 5 3
  simp only [if_neg hw, e1, e2]
  rcases E.1 with rfl | ⟨rfl, h6⟩
  rotate_left
  · simp only [if_true]
    exact ⟨_, _, _, _, rfl, ⟨v16, q1, trivial⟩, ⟨⟨qs, v16, q2, trivial⟩, trivial⟩, rfl, actR_1 E.2.1 (by omega)⟩
  simp only [if_neg n10]
  have R' := E.2.1
  have C' := R'.com
  have sR : sameR τ V := ⟨(E.2.2.2.1 210 (by decide) (by decide) (by decide)).trans (ss.1 210 (by decide) (by decide)), (E.2.2.2.1 211 (by decide) (by decide) (by decide)).trans (ss.1 211 (by decide) (by decide)), (E.2.2.2.1 213 (by decide) (by decide) (by decide)).trans (ss.1 213 (by decide) (by decide)), (E.2.2.2.1 214 (by decide) (by decide) (by decide)).trans (ss.1 214 (by decide) (by decide)), (E.2.2.2.2.1 18 (by decide) (by decide) (by decide) (by decide) (by decide)).trans (ss.2.1 18 (by decide))⟩
  have gg := (soundC_same sR n t c).mpr gs
  have hn : 0 < n := goodC_key gs.1
  have eu : pf (pf u 19 1 5) 19 2 3 19 3 = nI c := by
    rw [pf_i (by decide), pf_i (by decide), E.2.2.1 19 (by decide) (by decide) (by decide)]; exact e19
  obtain ⟨s, hs, s1, s2⟩ := C'.ser
  obtain ⟨vo, hvo, evo⟩ := C'.ref.iss 0 hn
  have own : V 199 18 = nI vo := (C'.ref.own.2 hn).trans evo
  obtain ⟨ho, ho1, ho2, ho3, ho4⟩ := set_get C'.set (show 4 < 9 by omega)
  have O' : cOk (pf (pf u 19 1 5) 19 2 3) V n := cOk_fr C'.cok (fun b h1 _ => by rw [pf_ne (by omega), pf_ne (by omega)])
  have cm := c_make (σ := pf (pf u 19 1 5) 19 2 3) (τ := V) (c := c) (t := t) (se := s + 1) (ow := vo) (ho := ho) O' hn hc gg.1 gg.2.1 ht C'.now.2.1 s1 (by omega) own hvo ho3 ho2
  have rm := r_make (σ := V) (ζ := z) (c := c) (t := t) (se := s + 1) (ow := vo) (ho := ho) C'.ref hn hc ht C'.now.2.2 s2 (by omega) own hvo ho4 ho2
  dsimp only at rm
  simp only [eu, ix_n (show c < 2 ^ 31 by omega)]
  generalize F_X9_makePassOn (pf (pf u 19 1 5) 19 2 3) c = fc at cm ⊢
  obtain ⟨qc, D⟩ := cm
  obtain ⟨qr, Er⟩ := rm
  exact ⟨_, _, _, _, rfl, ⟨v16, q1, v16, qc, trivial⟩, ⟨⟨qs, v16, q2, qr⟩, trivial⟩, rfl, actR_1 (RL_make R' (by decide) hc (psB_b _ _ _ _ _ _ _ _) ⟨s1, by omega, by omega⟩ D Er) (by omega)⟩
