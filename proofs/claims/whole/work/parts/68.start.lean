/-! The start keeps the relation -/
theorem sE_1 : sEnd 1 1 = 0 ∧ sEnd 199 1 = 0 ∧ sEnd 0 2 = 0 ∧ sEnd 3 1 = 0 ∧ sEnd 199 25 = -1 ∧ sEnd 0 4 = -1 ∧ sEnd 199 20 = -1 ∧ sEnd 0 5 = -1 ∧ sEnd 199 21 = -1 ∧ sEnd 0 6 = -1 ∧ sEnd 199 22 = -1 ∧ sEnd 0 7 = 0 ∧ sEnd 199 23 = 0 ∧ sEnd 0 9 = 0 ∧ sEnd 199 26 = 0 ∧ sEnd 15 4 = -1 ∧ sEnd 199 27 = -1 := by decide +kernel
theorem sE_2 : sEnd 0 10 = 0 ∧ sEnd 0 11 = 1 ∧ sEnd 12 2 = 0 ∧ sEnd 199 17 = 0 ∧ sEnd 199 18 = -1 ∧ sEnd 199 10 = 0 ∧ sEnd 18 0 = 0 ∧ sEnd 199 35 = 0 ∧ sEnd 18 3 = 0 ∧ sEnd 199 38 = 0 ∧ sEnd 18 2 = 0 ∧ sEnd 0 8 = 0 ∧ sEnd 199 39 = 0 := by decide +kernel
theorem sE_3 : sEnd 19 1 = 0 ∧ sEnd 199 42 = 0 ∧ sEnd 19 2 = 0 ∧ sEnd 199 40 = 0 ∧ sEnd 19 5 = 0 ∧ sEnd 21 1 = 0 ∧ sEnd 199 46 = 0 ∧ sEnd 21 2 = 8 ∧ sEnd 199 41 = 8 ∧ sEnd 21 4 = -1 ∧ sEnd 199 48 = -1 ∧ sEnd 15 1 = 0 ∧ sEnd 199 29 = 0 ∧ sEnd 16 1 = 0 ∧ sEnd 15 2 = 1 ∧ sEnd 15 3 = 0 ∧ sEnd 199 31 = 0 := by decide +kernel
theorem sE_4 : ∀ i, i < 9 → sEnd 6 i = tab 0 i ∧ sEnd 217 i = tab 0 i := by decide +kernel
theorem sE_5 : ∀ c, c < 16 → sEnd (23 + 11 * c) 2 = 1 ∧ sEnd 212 c = 1 := by decide +kernel
theorem sE_6 : ∀ c, c < 16 → ∀ p, p < 4 → sEnd (rwC c p) 1 = 0 ∧ sEnd 211 (4 * c + p) = 0 ∧ sEnd (23 + 11 * c + 2) p = 0 := by decide +kernel
theorem tab_0 : ∀ i, i < 9 → ∃ n, n < 1000 ∧ sLo i ≤ n ∧ n ≤ sHi i ∧ tab 0 i = nI n := by decide +kernel
theorem s_begin : Inv1 0 sEnd zEnd := by
  obtain ⟨a1, a2, a3, a4, a5, a6, a7, a8, a9, a10, a11, a12, a13, a14, a15, a16, a17⟩ := sE_1
  obtain ⟨b1, b2, b3, b4, b5, b6, b7, b8, b9, b10, b11, b12, b13⟩ := sE_2
  obtain ⟨c1, c2, c3, c4, c5, c6, c7, c8, c9, c10, c11, c12, c13, c14, c15, c16, c17⟩ := sE_3
  have pT0 : pT 0 0 := ⟨0, by decide, rfl, rfl⟩
  refine ⟨0, 0, 0, 0, ⟨⟨0, by omega, a1, a2, fun i hi => absurd hi (by omega)⟩, Or.inl ⟨a3, a5, 0, by omega, a4⟩, ⟨⟨by rw [a6, a7], Or.inl a6⟩, ⟨by rw [a8, a9], Or.inl a8⟩, Or.inl a6, ⟨by rw [a10, a11], Or.inl a10⟩, ⟨by rw [a12, a13], Or.inl a12⟩, ⟨0, by omega, a14, a15⟩, by rw [a16, a17], Or.inl a16⟩, ⟨by omega, b1, rfl⟩, ⟨0, by omega, b2, rfl⟩, fun i hi => ?_, ⟨by omega, b3, b4, fun _ => b5, fun h => absurd h (by omega), fun i hi => absurd hi (by omega)⟩, Or.inl b6, crdS_of (fun c hc => ?_)⟩, ⟨⟨by rw [b7, b8], Or.inl b7⟩, ⟨by rw [b9, b10], Or.inl b9⟩, ?_, fun h => absurd (b7.symm.trans h) (by decide), ⟨by rw [b12, b13], Or.inl b12⟩⟩, ⟨by decide, c1, c2, ⟨0, by decide, c3, c4⟩, fun h => absurd rfl h, fun h => absurd h (by decide), ?_⟩, ⟨by decide, c6, c7, ⟨8, by decide, c8, c9⟩, ⟨by rw [c10, c11], Or.inl c10⟩, fun h => absurd c10 h, fun h => absurd h (by decide), fun h => absurd (h.elim (fun z => absurd z (by decide)) (fun h => h.elim (fun z => absurd z (by decide)) id)) (fun z => z c10), ⟨fun _ => rfl, fun _ => by decide⟩⟩, 0, 1, ⟨by omega, by omega, by omega, c12, c13, c14, c15, rfl, ⟨by rw [c16, c17], Or.inl c16⟩, fun i hi => absurd hi (by omega), fun r hr => absurd hr (by omega)⟩, pArc_n (by decide)⟩
  · obtain ⟨n, _, n1, n2, n3⟩ := tab_0 i hi
    have e := sE_4 i hi
    exact ⟨n, n1, n2, e.1.trans n3, e.2.trans n3⟩
  · have e := sE_5 c hc
    refine ⟨⟨by rw [e.1, e.2], Or.inr e.1⟩, fun p hp => ?_⟩
    have g := sE_6 c hc p hp
    exact ⟨0, by omega, g.1, g.2.1, fun i hi => absurd hi (by omega), Or.inl g.2.2⟩
  · rw [b11]; exact pT0
  · rw [c5]; exact pT0
