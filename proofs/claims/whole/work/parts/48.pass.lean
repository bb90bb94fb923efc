/-! A pass is made -/
theorem byteOf_fr {σ s : gS} {j N : Nat} (x : Int32) (h1 : s j = σ j) (h2 : s (j + 1) = σ (j + 1)) : F_X0_byteOf s j N x = F_X0_byteOf σ j N x := by
  rw [F_X0_byteOf_eq]; unfold Fr_X0_byteOf; rw [h1, h2]
theorem twoAt_fr {σ s : gS} {j N : Nat} (x : Int32) (h1 : s j = σ j) (h2 : s (j + 1) = σ (j + 1)) : F_X0_twoAt s j N x = F_X0_twoAt σ j N x := by
  rw [F_X0_twoAt_eq]; unfold Fr_X0_twoAt; rw [h1, byteOf_fr _ h1 h2, byteOf_fr _ h1 h2]
theorem fourAt_fr {σ s : gS} {j N : Nat} (x : Int32) (h1 : s j = σ j) (h2 : s (j + 1) = σ (j + 1)) : F_X0_fourAt s j N x = F_X0_fourAt σ j N x := by
  rw [F_X0_fourAt_eq]; unfold Fr_X0_fourAt; rw [h1, twoAt_fr _ h1 h2, twoAt_fr _ h1 h2]
theorem own_fr {σ s : gS} (h1 : s 12 = σ 12) (h2 : s 13 = σ 13) : F_X4_ownIssuer s = F_X4_ownIssuer σ := by
  rw [F_X4_ownIssuer_eq]; unfold Fr_X4_ownIssuer; rw [h1, h2]
theorem bN_1 (a : Nat) : bN 1 a 0 = (nI a).toInt8.toInt32 := by unfold bN; rw [show 8 * (1 - 1 - 0) = 0 from rfl, Nat.pow_zero, Nat.div_one]
theorem c_addT {σ : gS} {j N L a : Nat} (hL : L + 2 ≤ N) (hN : N < 2 ^ 31) (ha : a < 2 ^ 32) (e : σ j 1 = nI L) : Q_X0_addTwo σ j N (nI a) ∧ bap j L σ (F_X0_addTwo σ j N (nI a)) 2 (bN 2 a) := by
  rw [F_X0_addTwo_eq]
  unfold Q_X0_addTwo Fr_X0_addTwo
  dsimp only
  obtain ⟨q1, p1⟩ := c_addB (σ := σ) (j := j) (N := N) (L := L) (by omega) hN e (ush (nI a) 8)
  generalize F_X0_addByte σ j N (ush (nI a) 8) = s1 at p1 ⊢
  obtain ⟨q2, p2⟩ := c_addB (σ := s1) (j := j) (N := N) (L := L + 1) (by omega) hN p1.len (nI a)
  refine ⟨⟨q1, q2, trivial⟩, bap_c (bap_t p1 p2) (fun i hi => ?_)⟩
  have u : ush (nI a) (8 : Int32) = nI (a / 2 ^ 8) := ush_nI (s := 8) ha (by omega)
  rcases (show i = 0 ∨ i = 1 by omega) with rfl | rfl
  · rw [u]; rfl
  · show (nI a).toInt8.toInt32 = bN 2 a 1
    unfold bN; rw [show 8 * (2 - 1 - 1) = 0 from rfl, Nat.pow_zero, Nat.div_one]
theorem c_addSeal {σ : gS} {j N L : Nat} (hL : L + 16 ≤ N) (hN : N < 2 ^ 31) (e : σ j 1 = nI L) (h1 : j ≠ 11) (h2 : j + 1 ≠ 11) : Q_X7_addSealTo σ j N ∧ bap j L σ (F_X7_addSealTo σ j N) 16 (fun i => (bW (σ 11 (i / 4)) (i % 4)).toInt8.toInt32) := by
  rw [F_X7_addSealTo_eq]
  unfold Q_X7_addSealTo Fr_X7_addSealTo
  exact lpF (fun f d s => QG_X7_addSealTo_L2 j N f (nI d) s ∧ bap j L σ (G_X7_addSealTo_L2 j N f (nI d) s) 16 (fun i => (bW (σ 11 (i / 4)) (i % 4)).toInt8.toInt32)) (fun d s => bap j L σ s d (fun i => (bW (σ 11 (i / 4)) (i % 4)).toInt8.toInt32)) 16 (by
    intro f s h
    unfold QG_X7_addSealTo_L2 G_X7_addSealTo_L2
    have c1 : (16 : Int32) ≤ nI 16 := nI_le (a := 16) (Nat.le_refl _) (by decide)
    simp only [if_pos c1]
    exact ⟨trivial, h⟩) (by
    intro f d s hd h k
    unfold QG_X7_addSealTo_L2 G_X7_addSealTo_L2
    have c1 : ¬ (16 : Int32) ≤ nI d := nI_ge (b := 16) hd (by decide)
    have sb := c_sealByte (σ := s) hd
    have e11 : s 11 = σ 11 := h.fr 11 (fun z => h1 z.symm) (fun z => h2 z.symm)
    simp only [if_neg c1, sb.2, nI_i1]
    rw [e11]
    obtain ⟨q, p⟩ := c_addB (σ := s) (j := j) (N := N) (L := L + d) (by omega) hN h.len (bW (σ 11 (d / 4)) (d % 4))
    have g := k _ (bap_c (bap_t h p) (v' := fun i => (bW (σ 11 (i / 4)) (i % 4)).toInt8.toInt32) (fun i hi => by
      by_cases z : i < d
      · rw [if_pos z]
      · have : i = d := by omega
        subst this; rw [if_neg z]))
    exact ⟨⟨sb.1, q, g.1⟩, g.2⟩) 4000 0 σ (Nat.zero_le _) (by omega) (bap_0 e)
/-- a pass' first 23 bytes -/
def psB (ow se wi ws t te ro cl : Nat) (i : Nat) : Int32 := if i < 1 then bN 1 4 0 else if i < 3 then bN 2 ow (i - 1) else if i < 7 then bN 4 se (i - 3) else if i < 9 then bN 2 wi (i - 7) else if i < 13 then bN 4 ws (i - 9) else if i < 17 then bN 4 t (i - 13) else if i < 21 then bN 4 te (i - 17) else if i < 22 then bN 1 ro 0 else bN 1 cl 0
theorem psB_b (ow se wi ws t te ro cl i : Nat) : isb (psB ow se wi ws t te ro cl i) := by
  unfold psB
  repeat' split
  all_goals exact isb_mk _
abbrev mkd (c se : Nat) (P q : Nat → Int32) (σ s : gS) : Prop := (∀ b, (b < 8 ∨ 11 < b) → b ≠ 0 → b ≠ 23 + 11 * c + 2 → b ≠ rwC c 3 → b ≠ rwC c 3 + 1 → s b = σ b) ∧ (∀ k, k ≠ 11 → s 0 k = σ 0 k) ∧ (s 0 11 = nI (se + 1)) ∧ (∀ k, s (23 + 11 * c + 2) k = if k = 3 then 0 else σ (23 + 11 * c + 2) k) ∧ (s (rwC c 3) 1 = nI 39) ∧ (∀ i, i < 23 → s (rwC c 3 + 1) i = P i) ∧ (∀ i, i < 16 → s (rwC c 3 + 1) (23 + i) = (macB q P 23 i).toInt8.toInt32)
theorem mkd.fr {c se : Nat} {P q : Nat → Int32} {σ s : gS} (h : mkd c se P q σ s) : ∀ b, (b < 8 ∨ 11 < b) → b ≠ 0 → b ≠ 23 + 11 * c + 2 → b ≠ rwC c 3 → b ≠ rwC c 3 + 1 → s b = σ b := h.1
theorem mkd.fk {c se : Nat} {P q : Nat → Int32} {σ s : gS} (h : mkd c se P q σ s) : ∀ k, k ≠ 11 → s 0 k = σ 0 k := h.2.1
theorem mkd.ser {c se : Nat} {P q : Nat → Int32} {σ s : gS} (h : mkd c se P q σ s) : s 0 11 = nI (se + 1) := h.2.2.1
theorem mkd.sl {c se : Nat} {P q : Nat → Int32} {σ s : gS} (h : mkd c se P q σ s) : ∀ k, s (23 + 11 * c + 2) k = if k = 3 then 0 else σ (23 + 11 * c + 2) k := h.2.2.2.1
theorem mkd.len {c se : Nat} {P q : Nat → Int32} {σ s : gS} (h : mkd c se P q σ s) : s (rwC c 3) 1 = nI 39 := h.2.2.2.2.1
theorem mkd.by1 {c se : Nat} {P q : Nat → Int32} {σ s : gS} (h : mkd c se P q σ s) : ∀ i, i < 23 → s (rwC c 3 + 1) i = P i := h.2.2.2.2.2.1
theorem mkd.by2 {c se : Nat} {P q : Nat → Int32} {σ s : gS} (h : mkd c se P q σ s) : ∀ i, i < 16 → s (rwC c 3 + 1) (23 + i) = (macB q P 23 i).toInt8.toInt32 := h.2.2.2.2.2.2
theorem c_make {σ τ : gS} {n c t se ow ho : Nat} (O : cOk σ τ n) (hn : 0 < n) (hc : c < 16) (g0 : goodC τ n t c 0) (g1 : goodC τ n t c 1) (ht : t ≤ 2000000000) (et : σ 0 10 = nI t) (es : σ 0 11 = nI se) (hse : se < 2 ^ 31) (eo : τ 199 18 = nI ow) (how : ow < 65536) (eh : σ 6 4 = nI ho) (hho : ho ≤ 10000) :
    Q_X9_makePassOn σ c ∧ mkd c se (psB ow se (be2 (rwR τ c 0) 1) (be4 (rwR τ c 0) 3) t (t + ho) (ub (rwR τ c 1 21)) (ub (rwR τ c 1 22))) (τ 214) σ (F_X9_makePassOn σ c) := by
  rw [F_X9_makePassOn_eq]
  unfold Q_X9_makePassOn Fr_X9_makePassOn
  obtain ⟨w0, w1, w2, w3⟩ := rwC_i c
  have i4 : ix (4 : Int32) = 4 := ix_n (n := 4) (by decide)
  simp only [w0, w1, w3, i4]
  have j0 : rwC c 0 = 26 + 11 * c := by unfold rwC; omega
  have j1 : rwC c 1 = 28 + 11 * c := by unfold rwC; omega
  have j3 : rwC c 3 = 32 + 11 * c := by unfold rwC; omega
  -- the empty row
  have e0 : F_X1_emptyRow σ c 3 = pf (pf σ (23 + 11 * c + 2) 3 0) (rwC c 3) 1 0 := by
    rw [F_X1_emptyRow_eq]; unfold Fr_X1_emptyRow; rw [w3, ix3]
  have q0 : Q_X1_emptyRow σ c 3 := by
    unfold Q_X1_emptyRow
    have pl : ¬ F_X9_isPlace 3 = 0 := by rw [show (3 : Int32) = nI 3 from rfl, c_isPlace (by decide)]; decide
    exact ⟨pl, vp_in_nI (n := 3) (by decide) (by decide), vp_in_nI (n := 3) (by decide) (by decide), vp_in_nI (n := 3) (by decide) (by decide), trivial⟩
  have f0 : ∀ b, b ≠ 23 + 11 * c + 2 → b ≠ rwC c 3 → pf (pf σ (23 + 11 * c + 2) 3 0) (rwC c 3) 1 0 b = σ b := fun b h1 h2 => by rw [pf_ne h2, pf_ne h1]
  have k0 : ∀ k, pf (pf σ (23 + 11 * c + 2) 3 0) (rwC c 3) 1 0 (23 + 11 * c + 2) k = if k = 3 then 0 else σ (23 + 11 * c + 2) k := fun k => by rw [pf_ne (by omega), pf_v]
  have l0 : pf (pf σ (23 + 11 * c + 2) 3 0) (rwC c 3) 1 0 (rwC c 3) 1 = nI 0 := pf_s
  rw [e0]
  generalize pf (pf σ (23 + 11 * c + 2) 3 0) (rwC c 3) 1 0 = s0 at f0 k0 l0 ⊢
  have N48 : 48 < 2 ^ 31 := by decide
  -- kind
  obtain ⟨q1, p1⟩ := c_addB (σ := s0) (j := rwC c 3) (N := 48) (L := 0) (by omega) N48 l0 4
  generalize F_X0_addByte s0 (rwC c 3) 48 4 = s1 at p1 ⊢
  -- own issuer
  have o1 : F_X4_ownIssuer s1 = nI ow := by
    rw [own_fr (σ := σ) ((p1.fr 12 (by omega) (by omega)).trans (f0 12 (by omega) (by omega))) ((p1.fr 13 (by omega) (by omega)).trans (f0 13 (by omega) (by omega))), own_eq O, eo]
  rw [o1]
  obtain ⟨q2, p2⟩ := c_addT (σ := s1) (j := rwC c 3) (N := 48) (L := 0 + 1) (a := ow) (by omega) N48 (by omega) p1.len
  generalize F_X0_addTwo s1 (rwC c 3) 48 (nI ow) = s2 at p2 ⊢
  replace p2 := bap_t p1 p2
  -- serial
  have o2 : s2 0 11 = nI se := by rw [p2.fr 0 (by omega) (by omega), f0 0 (by omega) (by omega)]; exact es
  rw [o2]
  obtain ⟨q3, p3⟩ := c_addF (σ := s2) (j := rwC c 3) (N := 48) (L := 0 + (1 + 2)) (a := se) (by omega) N48 (by omega) p2.len
  generalize F_X0_addFour s2 (rwC c 3) 48 (nI se) = s3 at p3 ⊢
  replace p3 := bap_t p2 p3
  -- holder
  have o3 : F_X0_twoAt s3 (rwC c 0) 48 1 = nI (be2 (rwR τ c 0) 1) := by
    rw [twoAt_fr (σ := σ) _ ((p3.fr _ (by omega) (by omega)).trans (f0 _ (by omega) (by omega))) ((p3.fr _ (by omega) (by omega)).trans (f0 _ (by omega) (by omega)))]
    exact rdw (i := 1) O hc (by omega) g0 (by omega)
  rw [o3]
  have b2 := be2_lt (rwR τ c 0) 1
  have b4 := be4_lt (rwR τ c 0) 3
  obtain ⟨q4, p4⟩ := c_addT (σ := s3) (j := rwC c 3) (N := 48) (L := 0 + (1 + 2 + 4)) (a := be2 (rwR τ c 0) 1) (by omega) N48 (by omega) p3.len
  have q4' := q_twoAt s3 (rwC c 0) N48 1
  generalize F_X0_addTwo s3 (rwC c 3) 48 (nI (be2 (rwR τ c 0) 1)) = s4 at p4 ⊢
  replace p4 := bap_t p3 p4
  have o4 : F_X0_fourAt s4 (rwC c 0) 48 3 = nI (be4 (rwR τ c 0) 3) := by
    rw [fourAt_fr (σ := σ) _ ((p4.fr _ (by omega) (by omega)).trans (f0 _ (by omega) (by omega))) ((p4.fr _ (by omega) (by omega)).trans (f0 _ (by omega) (by omega)))]
    exact rdq (i := 3) O hc (by omega) g0 (by omega)
  rw [o4]
  obtain ⟨q5, p5⟩ := c_addF (σ := s4) (j := rwC c 3) (N := 48) (L := 0 + (1 + 2 + 4 + 2)) (a := be4 (rwR τ c 0) 3) (by omega) N48 (by omega) p4.len
  have q5' := q_fourAt s4 (rwC c 0) N48 3
  generalize F_X0_addFour s4 (rwC c 3) 48 (nI (be4 (rwR τ c 0) 3)) = s5 at p5 ⊢
  replace p5 := bap_t p4 p5
  -- times
  have o5 : s5 0 10 = nI t := by rw [p5.fr 0 (by omega) (by omega), f0 0 (by omega) (by omega)]; exact et
  rw [o5]
  obtain ⟨q6, p6⟩ := c_addF (σ := s5) (j := rwC c 3) (N := 48) (L := 0 + (1 + 2 + 4 + 2 + 4)) (a := t) (by omega) N48 (by omega) p5.len
  generalize F_X0_addFour s5 (rwC c 3) 48 (nI t) = s6 at p6 ⊢
  replace p6 := bap_t p5 p6
  have o6 : s6 0 10 + s6 6 4 = nI (t + ho) := by rw [p6.fr 0 (by omega) (by omega), f0 0 (by omega) (by omega), p6.fr 6 (by omega) (by omega), f0 6 (by omega) (by omega), et, eh, nI_add]
  rw [o6]
  obtain ⟨q7, p7⟩ := c_addF (σ := s6) (j := rwC c 3) (N := 48) (L := 0 + (1 + 2 + 4 + 2 + 4 + 4)) (a := t + ho) (by omega) N48 (by omega) p6.len
  generalize F_X0_addFour s6 (rwC c 3) 48 (nI (t + ho)) = s7 at p7 ⊢
  replace p7 := bap_t p6 p7
  -- role and class
  have o7 : F_X0_byteOf s7 (rwC c 1) 48 21 = nI (ub (rwR τ c 1 21)) := by
    rw [byteOf_fr (σ := σ) _ ((p7.fr _ (by omega) (by omega)).trans (f0 _ (by omega) (by omega))) ((p7.fr _ (by omega) (by omega)).trans (f0 _ (by omega) (by omega)))]
    exact rdb (i := 21) O hc (by omega) g1 (by omega)
  have q8' := q_byteOf s7 (rwC c 1) N48 21
  rw [o7]
  obtain ⟨q8, p8⟩ := c_addB (σ := s7) (j := rwC c 3) (N := 48) (L := 0 + (1 + 2 + 4 + 2 + 4 + 4 + 4)) (by omega) N48 p7.len (nI (ub (rwR τ c 1 21)))
  generalize F_X0_addByte s7 (rwC c 3) 48 (nI (ub (rwR τ c 1 21))) = s8 at p8 ⊢
  replace p8 := bap_t p7 p8
  have o8 : F_X0_byteOf s8 (rwC c 1) 48 22 = nI (ub (rwR τ c 1 22)) := by
    rw [byteOf_fr (σ := σ) _ ((p8.fr _ (by omega) (by omega)).trans (f0 _ (by omega) (by omega))) ((p8.fr _ (by omega) (by omega)).trans (f0 _ (by omega) (by omega)))]
    exact rdb (i := 22) O hc (by omega) g1 (by omega)
  have q9' := q_byteOf s8 (rwC c 1) N48 22
  rw [o8]
  obtain ⟨q9, p9⟩ := c_addB (σ := s8) (j := rwC c 3) (N := 48) (L := 0 + (1 + 2 + 4 + 2 + 4 + 4 + 4 + 1)) (by omega) N48 p8.len (nI (ub (rwR τ c 1 22)))
  generalize F_X0_addByte s8 (rwC c 3) 48 (nI (ub (rwR τ c 1 22))) = s9 at p9 ⊢
  replace p9 := bap_t p8 p9
  have pp : bap (rwC c 3) 0 s0 s9 23 (psB ow se (be2 (rwR τ c 0) 1) (be4 (rwR τ c 0) 3) t (t + ho) (ub (rwR τ c 1 21)) (ub (rwR τ c 1 22))) := bap_c p9 (fun i hi => by
    unfold psB
    rw [bN_1, bN_1, bN_1]
    repeat' split
    all_goals first
      | rfl
      | (exfalso; omega)
      | (congr 1; omega))
  clear p1 p2 p3 p4 p5 p6 p7 p8 p9
  generalize psB ow se (be2 (rwR τ c 0) 1) (be4 (rwR τ c 0) 3) t (t + ho) (ub (rwR τ c 1 21)) (ub (rwR τ c 1 22)) = P at pp ⊢
  have fr9 : ∀ b, b ≠ 23 + 11 * c + 2 → b ≠ rwC c 3 → b ≠ rwC c 3 + 1 → s9 b = σ b := fun b h1 h2 h3 => (pp.fr b h2 h3).trans (f0 b h1 h2)
  -- the seal
  have K9 : pKw n (s9 12 2) (s9 13) (s9 14) (τ 213) (τ 214) := by rw [fr9 12 (by omega) (by omega) (by omega), fr9 13 (by omega) (by omega) (by omega), fr9 14 (by omega) (by omega) (by omega)]; exact O.kw
  obtain ⟨qc, c1, c2⟩ : Q_X4_choose s9 0 ∧ (∀ b, b ≠ 8 → F_X4_choose s9 0 b = s9 b) ∧ ∀ k, k < 16 → bW (F_X4_choose s9 0 8 (k / 4)) (k % 4) = τ 214 (16 * 0 + k) &&& 255 := c_choose (i := 0) K9 hn
  generalize F_X4_choose s9 0 = sa at c1 c2 ⊢
  have la : sa (rwC c 3) 1 = nI 23 := by rw [c1 _ (by omega), pp.len]
  rw [la]
  obtain ⟨qw, w1', w2'⟩ := c_work (σ := sa) (j := rwC c 3) (N := 48) (n := 23) (by omega) (by omega) N48 (by omega)
  generalize F_X7_work sa (rwC c 3) 48 (nI 23) = sb at w1' w2' ⊢
  have lb : sb (rwC c 3) 1 = nI 23 := by rw [w1' _ (by omega) (by omega) (by omega)]; exact la
  obtain ⟨qs, ps⟩ := c_addSeal (σ := sb) (j := rwC c 3) (N := 48) (L := 23) (by omega) N48 lb (by omega) (by omega)
  generalize F_X7_addSealTo sb (rwC c 3) 48 = sd at ps ⊢
  have frd : ∀ b, (b < 8 ∨ 11 < b) → b ≠ 23 + 11 * c + 2 → b ≠ rwC c 3 → b ≠ rwC c 3 + 1 → sd b = σ b := fun b h h1 h2 h3 => by rw [ps.fr b h2 h3, w1' b (by omega) (by omega) (by omega), c1 b (by omega), fr9 b h1 h2 h3]
  have hP : ∀ i, i < 23 → sa (rwC c 3 + 1) i = P i := fun i hi => by rw [c1 _ (by omega), pp.by_, if_pos (by omega)]; rfl
  have od : sd 0 11 = nI se := by rw [frd 0 (by omega) (by omega) (by omega) (by omega)]; exact es
  rw [od, nI_1]
  refine ⟨⟨q0, q1, q2, q3, q4', q4, q5', q5, q6, q7, q8', q8, q9', q9, qc, qw, qs, trivial⟩, fun b h h0 h1 h2 h3 => by rw [pf_ne h0]; exact frd b h h1 h2 h3, fun k hk => by rw [pf_i hk, frd 0 (by omega) (by omega) (by omega) (by omega)], pf_s, fun k => ?_, ?_, fun i hi => ?_, fun i hi => ?_⟩
  · rw [pf_ne (by omega), ps.fr _ (by omega) (by omega), w1' _ (by omega) (by omega) (by omega), c1 _ (by omega), pp.fr _ (by omega) (by omega), k0]
  · rw [pf_ne (by omega), ps.len]
  · rw [pf_ne (by omega), ps.by_, if_neg (by omega), w1' _ (by omega) (by omega) (by omega), hP i hi]
  · rw [pf_ne (by omega), ps.by_, if_pos (by omega), Nat.add_sub_cancel_left, w2' (i / 4) (by omega)]
    have hm : macB (fun k => bW (sa 8 (k / 4)) (k % 4)) (sa (rwC c 3 + 1)) 23 i = macB (τ 214) P 23 i := macB_congr (fun k z => by show bW _ _ &&& 255 = _; rw [bW_255, c2 k z, Nat.mul_zero, Nat.zero_add]) (fun k z => by rw [hP k z]) (by omega)
    unfold macB at hm ⊢
    rw [hm]
