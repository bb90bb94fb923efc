/-! show, size, at, writable, disk -/
theorem c_setShown {a b : gS} (h : pSet (a 6) (b 217)) (x : Int32) : Q_X9_settingShown a x ∧ F_X9_settingShown a x = (if x < (14 : Int32) then (-1 : Int32) else if (22 : Int32) < x then (-1 : Int32) else b 217 (ix (x - (14 : Int32)))) ∧ (if x < (14 : Int32) then True else if (22 : Int32) < x then True else vp_in (x - (14 : Int32)) 9 ∧ True) := by
  rw [F_X9_settingShown_eq]
  unfold Q_X9_settingShown Fr_X9_settingShown
  by_cases h1 : x < 14
  · simp only [if_pos h1]; exact ⟨trivial, trivial, trivial⟩
  have h0 : ¬ x < 0 := fun z => h1 (by
    have a := lt_to z
    rw [i_0] at a
    rw [Int32.lt_iff_toInt_lt]
    have : (14 : Int32).toInt = 14 := by decide
    omega)
  obtain ⟨m, hm, rfl⟩ := nI_of h0
  have m14 : 14 ≤ m := Nat.not_lt.mp (fun z => h1 (nI_lt (b := 14) z (by decide)))
  have e : nI m - 14 = nI (m - 14) := nIs (b := 14) m14 14 rfl
  by_cases h2 : m < 23
  · have c1 : nI m < 23 := nI_lt (b := 23) h2 (by decide)
    have c2 : ¬ (22 : Int32) < nI m := nI_nlt (a := 22) (by omega) (by decide)
    simp only [if_neg h1, if_pos c1, if_neg c2, e, ix_n (show m - 14 < 2 ^ 31 by omega)]
    obtain ⟨v, _, _, v1, v2⟩ := h (m - 14) (by omega)
    have vi : vp_in (nI (m - 14)) 9 := vp_in_nI (by omega) (by decide)
    exact ⟨⟨vi, trivial⟩, by rw [v1, v2], vi, trivial⟩
  · have c1 : ¬ nI m < 23 := nI_nlt (b := 23) (by omega) (by omega)
    have c2 : (22 : Int32) < nI m := nI_lt (a := 22) (by omega) (by omega)
    simp only [if_neg h1, if_neg c1, if_pos c2]
    exact ⟨trivial, trivial, trivial⟩
theorem ite_I {c A B : Prop} [Decidable c] (h1 : c → A) (h2 : ¬ c → B) : if c then A else B := by
  by_cases h : c
  · rw [if_pos h]; exact h1 h
  · rw [if_neg h]; exact h2 h
theorem v_show {K n so si t : Nat} {σ τ : gS} {ζ : gQ} (I : IVk K n so si t σ τ ζ) (x : Int32) : Q_X9_show σ x ∧ Q_X10_show τ ζ x ∧ F_X9_show σ x = F_X10_show τ ζ x := by
  have C := I.com
  obtain ⟨c, m, J, _⟩ := I.jj
  obtain ⟨q1, e1, q2⟩ := c_setShown C.set x
  have a1 : σ 18 0 = τ 199 35 := I.lat.1.1
  have a2 : σ 18 3 = τ 199 38 := I.lat.2.1.1
  have a3 : σ 15 3 = τ 199 31 := J.2.2.2.2.2.2.2.2.1.1
  have a4 : σ 19 2 = τ 199 40 := by obtain ⟨g, _, g1, g2⟩ := I.out.2.2.2.1; rw [g1, g2]
  have a5 : σ 21 2 = τ 199 41 := by obtain ⟨g, _, g1, g2⟩ := I.ins.2.2.2.1; rw [g1, g2]
  have a6 : σ 19 1 = τ 199 42 := I.out.2.1.trans I.out.2.2.1.symm
  have a7 : σ 21 1 = τ 199 46 := I.ins.2.1.trans I.ins.2.2.1.symm
  have a8 : σ 21 4 = τ 199 48 := I.ins.2.2.2.2.1.1
  have a9 : σ 0 10 = (ζ 19).toInt32 := by rw [C.now.2.1, C.now.2.2, lN_i]
  have a10 : σ 15 1 = τ 199 29 := J.2.2.2.1.trans J.2.2.2.2.1.symm
  have a11 : σ 15 2 = (ζ 30).toInt32 := by rw [J.2.2.2.2.2.2.1, J.2.2.2.2.2.2.2.1, lN_i]
  have a12 : σ 0 11 = (ζ 53).toInt32 := by obtain ⟨s, _, s1, s2⟩ := C.ser; rw [s1, s2, lN_i]
  have a13 : F_X4_ownIssuer σ = τ 199 18 := own_eq C.cok
  have a14 : σ 12 2 = τ 199 17 := C.key.2.1.trans C.key.2.2.1.symm
  refine ⟨?_, ?_, ?_⟩
  · unfold Q_X9_show
    refine ite_I (fun _ => if_tt _) (fun _ => ?_)
    refine ite_I (fun _ => if_tt _) (fun _ => ?_)
    refine ite_I (fun _ => if_tt _) (fun _ => ?_)
    refine ite_I (fun _ => trivial) (fun _ => ?_)
    refine ite_I (fun _ => trivial) (fun _ => ?_)
    refine ite_I (fun _ => trivial) (fun _ => ?_)
    refine ite_I (fun _ => trivial) (fun _ => ?_)
    refine ite_I (fun _ => trivial) (fun _ => ?_)
    refine ite_I (fun _ => trivial) (fun _ => ?_)
    refine ite_I (fun _ => trivial) (fun _ => ?_)
    refine ite_I (fun _ => trivial) (fun _ => ?_)
    refine ite_I (fun _ => trivial) (fun _ => ?_)
    refine ite_I (fun _ => trivial) (fun _ => ?_)
    refine ite_I (fun _ => trivial) (fun _ => ?_)
    exact ⟨q1, trivial⟩
  · unfold Q_X10_show
    refine ite_I (fun _ => if_tt _) (fun _ => ?_)
    refine ite_I (fun _ => if_tt _) (fun _ => ?_)
    refine ite_I (fun _ => if_tt _) (fun _ => ?_)
    refine ite_I (fun _ => trivial) (fun _ => ?_)
    refine ite_I (fun _ => trivial) (fun _ => ?_)
    refine ite_I (fun _ => trivial) (fun _ => ?_)
    refine ite_I (fun _ => trivial) (fun _ => ?_)
    refine ite_I (fun _ => trivial) (fun _ => ?_)
    refine ite_I (fun _ => trivial) (fun _ => ?_)
    refine ite_I (fun _ => trivial) (fun _ => ?_)
    refine ite_I (fun _ => trivial) (fun _ => ?_)
    refine ite_I (fun _ => trivial) (fun _ => ?_)
    refine ite_I (fun _ => trivial) (fun _ => ?_)
    refine ite_I (fun _ => trivial) (fun _ => ?_)
    exact q2
  · rw [F_X9_show_eq, F_X10_show_eq]
    unfold Fr_X9_show Fr_X10_show
    rw [a1, a2, a3, a4, a5, a6, a7, a8, a9, a10, a11, a12, a13, a14, e1]
theorem isCardR (x : Int32) : F_X10_isCard x = F_X9_isCard x := by rw [F_X10_isCard_eq, F_X9_isCard_eq]; rfl
theorem isPlace_or (p : Int32) : (F_X9_isPlace p = 0 ∧ (p < 0 ∨ (¬ p < 0 ∧ 3 < p))) ∨ (F_X9_isPlace p = 1 ∧ ¬ p < 0 ∧ ¬ 3 < p ∧ ∃ q : Nat, q < 4 ∧ p = nI q) := by
  rw [F_X9_isPlace_eq]; unfold Fr_X9_isPlace
  by_cases h0 : p < 0
  · rw [if_pos h0]; exact Or.inl ⟨rfl, Or.inl h0⟩
  obtain ⟨m, hm, rfl⟩ := nI_of h0
  rw [if_neg h0]
  by_cases h4 : m < 4
  · have c1 : ¬ (4 : Int32) ≤ nI m := nI_ge (b := 4) h4 (by decide)
    have c2 : ¬ (3 : Int32) < nI m := nI_nlt (a := 3) (by omega) (by decide)
    rw [if_neg c1]; exact Or.inr ⟨rfl, h0, c2, m, h4, rfl⟩
  · have c1 : (4 : Int32) ≤ nI m := nI_le (a := 4) (by omega) hm
    have c2 : (3 : Int32) < nI m := nI_lt (a := 3) (by omega) hm
    rw [if_pos c1]; exact Or.inl ⟨rfl, Or.inr ⟨h0, c2⟩⟩
theorem e4cp (c p : Nat) : (4 : Int32) * nI c + nI p = nI (4 * c + p) := by rw [show (4 : Int32) = nI 4 from rfl, pk_mul, nI_add]
theorem v_size {K n so si t : Nat} {σ τ : gS} {ζ : gQ} (I : IVk K n so si t σ τ ζ) (x p : Int32) : Q_X9_size σ x p ∧ Q_X10_size τ x p ∧ F_X9_size σ x p = F_X10_size τ x p := by
  rw [F_X9_size_eq, F_X10_size_eq]
  unfold Q_X9_size Fr_X9_size Q_X10_size Fr_X10_size
  rw [isCardR]
  rcases isCard_or x with ⟨e, _⟩ | ⟨e, c, hc, rfl⟩
  · simp only [e, if_true]; exact ⟨trivial, trivial, trivial⟩
  rcases isPlace_or p with ⟨e2, h | ⟨h1, h2⟩⟩ | ⟨e2, h1, h2, q, hq, rfl⟩
  · simp only [e, e2, if_neg n10, if_true, if_pos h]; exact ⟨trivial, trivial, trivial⟩
  · simp only [e, e2, if_neg n10, if_true, if_neg h1, if_pos h2]; exact ⟨trivial, trivial, trivial⟩
  · simp only [e, e2, if_neg n10, if_neg h1, if_neg h2, e4cp, ix_n (show c < 2 ^ 31 by omega), ix_n (show q < 2 ^ 31 by omega), ix_n (show 4 * c + q < 2 ^ 31 by omega)]
    obtain ⟨L, hL, l1, l2, _⟩ := (crdS_to I.com.crd c hc).2 q hq
    have l1' : σ (23 + 11 * c + 1 + 2 + 2 * q) 1 = nI L := l1
    exact ⟨⟨vp_in_nI hc (by decide), vp_in_nI hq (by decide), trivial⟩, ⟨vp_in_nI (by omega) (by decide), trivial⟩, by rw [l1', l2]⟩
theorem v_at {K n so si t : Nat} {σ τ : gS} {ζ : gQ} (I : IVk K n so si t σ τ ζ) (x p i : Int32) : Q_X9_at σ x p i ∧ Q_X10_at τ x p i ∧ F_X9_at σ x p i = F_X10_at τ x p i := by
  have vs := v_size I x p
  rw [F_X9_at_eq, F_X10_at_eq]
  unfold Q_X9_at Fr_X9_at Q_X10_at Fr_X10_at
  have m1 : (-1 : Int32) < 0 := by decide
  rw [← vs.2.2]
  have es : F_X9_size σ x p = if F_X9_isCard x = 0 then -1 else if F_X9_isPlace p = 0 then -1 else σ (23 + 11 * ix x + 1 + 2 + 2 * ix p) 1 := by rw [F_X9_size_eq]; rfl
  rcases isCard_or x with ⟨e, _⟩ | ⟨e, c, hc, rfl⟩
  · simp only [es, e, if_true, if_pos m1]; exact ⟨trivial, ⟨vs.2.1, trivial⟩, trivial⟩
  rcases isPlace_or p with ⟨e2, _⟩ | ⟨e2, h1, h2, q, hq, rfl⟩
  · simp only [es, e, e2, if_neg n10, if_true, if_pos m1]; exact ⟨trivial, ⟨vs.2.1, trivial⟩, trivial⟩
  obtain ⟨L, hL, l1, l2, lb, _⟩ := (crdS_to I.com.crd c hc).2 q hq
  have ei : 23 + 11 * ix (nI c) + 1 + 2 + 2 * ix (nI q) = rwC c q := by rw [ix_n (by omega), ix_n (by omega)]; rfl
  have q2 := vs.2.1
  simp only [es, e, e2, if_neg n10, ei, l1, e4cp, ix_n (show 4 * c + q < 2 ^ 31 by omega), l2]
  have nl : ¬ nI L < 0 := nI_pos (by omega)
  simp only [if_neg nl]
  have qb := q_byteOf σ (rwC c q) (N := 48) (by decide) i
  have v1 : vp_in (nI c) 16 := vp_in_nI hc (by decide)
  have v2 : vp_in (nI q) 4 := vp_in_nI hq (by decide)
  have v3 : vp_in (nI (4 * c + q)) 64 := vp_in_nI (by omega) (by decide)
  by_cases hi : i < 0
  · simp only [if_pos hi, byteOf_neg hi]
    exact ⟨⟨v1, v2, qb, trivial⟩, ⟨q2, trivial⟩, trivial⟩
  obtain ⟨m, hm, rfl⟩ := nI_of hi
  simp only [if_neg hi, byteOf_nat hL (show 48 < 2 ^ 31 by decide) l1 hm]
  by_cases hml : m < L
  · have c1 : ¬ nI L ≤ nI m := nI_ge hml (by omega)
    have e48 : (48 : Int32) * nI (4 * c + q) + nI m = nI (48 * (4 * c + q) + m) := by rw [show (48 : Int32) = nI 48 from rfl, pk_mul, nI_add]
    simp only [if_pos hml, if_neg c1, e48, ix_n (show 48 * (4 * c + q) + m < 2 ^ 31 by omega)]
    refine ⟨⟨v1, v2, qb, trivial⟩, ⟨q2, v3, vp_in_nI (by omega) (by decide), trivial⟩, ?_⟩
    rw [(lb m hml).1]; rfl
  · have c1 : nI L ≤ nI m := nI_le (by omega) hm
    simp only [if_neg hml, if_pos c1]
    exact ⟨⟨v1, v2, qb, trivial⟩, ⟨q2, v3, trivial⟩, trivial⟩
theorem v_writable {K n so si t : Nat} {σ τ : gS} {ζ : gQ} (I : IVk K n so si t σ τ ζ) (x v : Int32) (hv : pZ v) : Q_X9_writable σ x v ∧ Q_X10_writable τ x v ∧ (F_X9_writable σ x v).1 = (F_X10_writable τ x v).1 ∧ IVk K n so si t (F_X9_writable σ x v).2 (F_X10_writable τ x v).2 ζ := by
  rw [F_X9_writable_eq, F_X10_writable_eq]
  unfold Q_X9_writable Fr_X9_writable Q_X10_writable Fr_X10_writable
  rw [isCardR]
  rcases isCard_or x with ⟨e, _⟩ | ⟨e, c, hc, rfl⟩
  · simp only [e, if_true]; exact ⟨trivial, trivial, trivial, I⟩
  have v1 : vp_in (nI c) 16 := vp_in_nI hc (by decide)
  simp only [e, if_neg n10, ix_n (show c < 2 ^ 31 by omega)]
  refine ⟨⟨v1, hv, trivial⟩, ⟨v1, hv, trivial⟩, trivial, ?_⟩
  have C := I.com
  have F : ∀ b, b ≠ 23 + 11 * c → pf σ (23 + 11 * c) 2 v b = σ b := fun b h => pf_ne h
  have cr : crd (pf σ (23 + 11 * c) 2 v) (pf τ 212 c v) n := by
    intro c' hc'
    obtain ⟨h1, h2⟩ := crdS_to C.crd c' hc'
    refine ⟨?_, fun p hp => ?_⟩
    · by_cases ec : c' = c
      · subst ec
        rw [pf_s, pf_s]; exact ⟨rfl, hv⟩
      · rw [F (23 + 11 * c') (by omega), pf_i ec]; exact h1
    · have h3 := h2 p hp
      unfold rowE rwR rwC at h3 ⊢
      rw [F _ (by omega), F _ (by omega), F _ (by omega), pf_ne (show 210 ≠ 212 by decide), pf_ne (show 211 ≠ 212 by decide), pf_ne (show 213 ≠ 212 by decide), pf_ne (show 214 ≠ 212 by decide)]
      exact h3
  refine ⟨⟨?_, ?_, ?_, ?_, ?_, ?_, ?_, C.tab, crdS_of cr⟩, ?_, ?_, ?_, ?_⟩
  · rw [F 1 (by omega), F 2 (by omega)]; exact C.tape
  · rw [F 0 (by omega), F 3 (by omega), F 4 (by omega)]; exact C.disk
  · rw [F 0 (by omega), F 15 (by omega)]; exact C.see
  · rw [F 0 (by omega)]; exact C.now
  · rw [F 0 (by omega)]; exact C.ser
  · rw [F 6 (by omega)]; exact C.set
  · rw [F 12 (by omega), F 13 (by omega), F 14 (by omega)]; exact C.key
  · rw [F 18 (by omega), F 0 (by omega)]; exact I.lat
  · rw [F 19 (by omega)]; exact I.out
  · rw [F 21 (by omega)]; exact I.ins
  · rw [F 15 (by omega), F 16 (by omega), F 17 (by omega), F 21 (by omega)]; exact I.jj
/-- a row taken from another -/
theorem c_copyF {σ : gS} {j N j2 N2 L : Nat} (hL : L ≤ N) (hL2 : L ≤ N2) (hN : N < 2 ^ 31) (hj : j ≠ j2 + 1) (e : σ j2 1 = nI L) : Q_X0_copyFrom σ j N j2 N2 ∧ (∀ b, b ≠ j → b ≠ j + 1 → F_X0_copyFrom σ j N j2 N2 b = σ b) ∧ (j ≠ j + 1 → F_X0_copyFrom σ j N j2 N2 j 1 = nI L) ∧ ∀ i, i < L → F_X0_copyFrom σ j N j2 N2 (j + 1) i = σ (j2 + 1) i := by
  rw [F_X0_copyFrom_eq]
  unfold Q_X0_copyFrom Fr_X0_copyFrom
  have c1 : ¬ nI N < nI L := nI_nlt hL hN
  have e2 : ∀ v, pf σ j 1 v (j2 + 1) = σ (j2 + 1) := fun v => pf_ne (fun z => hj z.symm)
  simp only [e, if_neg c1, pf_s, ix0, ix_n (show L < 2 ^ 31 by omega), e2]
  refine ⟨⟨⟨by decide, by decide, nI_pos (by omega), by omega, by omega⟩, trivial⟩, fun b h1 h2 => by rw [vu_n h2, pf_ne h1], fun h => by rw [vu_n h, pf_s], fun i hi => ?_⟩
  rw [vu_s, pk_cpy_in (by omega) (by omega)]
  congr 1; omega
theorem v_disk {K n so si t : Nat} {σ τ : gS} {ζ : gQ} (I : IVk K n so si t σ τ ζ) : Q_X9_disk σ ∧ Q_X10_disk τ ∧ (F_X9_disk σ).1 = (F_X10_disk τ).1 ∧ IVk K n so si t (F_X9_disk σ).2 (F_X10_disk τ).2 ζ := by
  rw [F_X9_disk_eq, F_X10_disk_eq]
  unfold Q_X9_disk Fr_X9_disk Q_X10_disk Fr_X10_disk
  dsimp only
  have C := I.com
  obtain ⟨L, hL, l1, l2, lb⟩ := C.tape
  obtain ⟨qc, f1, f2, f3⟩ := c_copyF (σ := σ) (j := 3) (N := 400) (j2 := 1) (N2 := 400) hL hL (by decide) (by decide) l1
  replace f2 := f2 (by decide)
  generalize F_X0_copyFrom σ 3 400 1 400 = s3 at f1 f2 f3 ⊢
  have a25 : pf (pf τ 199 25 (τ 199 1)) 199 1 0 199 25 = nI L := by rw [pf_i (by decide), pf_s]; exact l2
  have a1 : pf (pf τ 199 25 (τ 199 1)) 199 1 0 199 1 = 0 := pf_s
  have af : ∀ b, b ≠ 199 → pf (pf τ 199 25 (τ 199 1)) 199 1 0 b = τ b := fun b h => by rw [pf_ne h, pf_ne h]
  have ak : ∀ k, k ≠ 25 → k ≠ 1 → pf (pf τ 199 25 (τ 199 1)) 199 1 0 199 k = τ 199 k := fun k h1 h2 => by rw [pf_i h2, pf_i h1]
  generalize pf (pf τ 199 25 (τ 199 1)) 199 1 0 = A at a25 a1 af ak ⊢
  have lp := lpF (fun f d s => QG_X10_disk_L15 f (nI d) s ∧ (G_X10_disk_L15 f (nI d) s).1 = nI L ∧ (∀ b, b ≠ 215 → (G_X10_disk_L15 f (nI d) s).2 b = A b) ∧ ∀ i, i < L → (G_X10_disk_L15 f (nI d) s).2 215 i = (τ 200 i).toInt8.toInt32) (fun d s => (∀ b, b ≠ 215 → s b = A b) ∧ ∀ i, i < d → s 215 i = (τ 200 i).toInt8.toInt32) L (by
    intro f s h
    unfold QG_X10_disk_L15 G_X10_disk_L15
    have s25 : s 199 25 = nI L := by rw [h.1 199 (by decide)]; exact a25
    have c1 : nI L ≤ nI L := nI_le (Nat.le_refl _) (by omega)
    simp only [s25, if_pos c1]
    exact ⟨trivial, trivial, h.1, h.2⟩) (by
    intro f d s hd h k
    unfold QG_X10_disk_L15 G_X10_disk_L15
    have s25 : s 199 25 = nI L := by rw [h.1 199 (by decide)]; exact a25
    have c1 : ¬ nI L ≤ nI d := nI_ge hd (by omega)
    simp only [s25, if_neg c1, nI_i1, ix_n (show d < 2 ^ 31 by omega)]
    have g := k (pf s 215 d (s 200 d).toInt8.toInt32) ⟨fun b hb => (pf_ne hb).trans (h.1 b hb), fun i hi => by
      rw [pf_v]
      by_cases e : i = d
      · subst e; rw [if_pos rfl, h.1 200 (by decide), af 200 (by decide)]
      · rw [if_neg e]; exact h.2 i (by omega)⟩
    exact ⟨⟨vp_in_nI (by omega) (by decide), vp_in_nI (by omega) (by decide), g.1⟩, g.2⟩) 4000 0 A (Nat.zero_le _) (by omega) ⟨fun _ _ => rfl, fun i hi => absurd hi (by omega)⟩
  have lp' : QG_X10_disk_L15 4000 0 A ∧ (G_X10_disk_L15 4000 0 A).1 = nI L ∧ (∀ b, b ≠ 215 → (G_X10_disk_L15 4000 0 A).2 b = A b) ∧ ∀ i, i < L → (G_X10_disk_L15 4000 0 A).2 215 i = (τ 200 i).toInt8.toInt32 := lp
  obtain ⟨g1, g2, g3, g4⟩ := lp'
  generalize G_X10_disk_L15 4000 0 A = G at g2 g3 g4 ⊢
  have e5 : pf (pf s3 0 2 1) 1 1 0 3 1 = nI L := by rw [pf_ne (by decide), pf_ne (by decide)]; exact f2
  simp only [e5]
  refine ⟨⟨qc, trivial⟩, g1, g2.symm, ?_⟩
  have F : ∀ b, b ≠ 0 → b ≠ 1 → b ≠ 3 → b ≠ 4 → pf (pf s3 0 2 1) 1 1 0 b = σ b := fun b h0 h1 h3 h4 => by rw [pf_ne h1, pf_ne h0]; exact f1 b h3 h4
  have F0 : ∀ k, k ≠ 2 → pf (pf s3 0 2 1) 1 1 0 0 k = σ 0 k := fun k hk => by rw [pf_ne (by decide), pf_i hk, f1 0 (by decide) (by decide)]
  have K9 : ∀ k, k ≠ 25 → k ≠ 1 → G.2 199 k = τ 199 k := fun k h1 h2 => by rw [g3 199 (by decide)]; exact ak k h1 h2
  have Gb : ∀ b, b ≠ 199 → b ≠ 215 → G.2 b = τ b := fun b h1 h2 => (g3 b h2).trans (af b h1)
  refine ⟨⟨⟨0, by omega, pf_s, ?_, fun i hi => absurd hi (by omega)⟩, Or.inr ⟨?_, L, hL, e5, ?_, fun i hi => ?_⟩, ?_, ?_, ?_, ?_, ?_, ?_, ?_⟩, ?_, ?_, ?_, ?_⟩
  · rw [g3 199 (by decide)]; exact a1
  · rw [pf_ne (by decide), pf_s]
  · rw [g3 199 (by decide)]; exact a25
  · have b := lb i hi
    have e4 : pf (pf s3 0 2 1) 1 1 0 4 i = σ 2 i := by rw [pf_ne (by decide), pf_ne (by decide)]; exact f3 i hi
    rw [e4, g4 i hi, ← b.1]; exact ⟨b.2.symm, b.2⟩
  · rw [F0 4 (by decide), F0 5 (by decide), F0 6 (by decide), F0 7 (by decide), F0 9 (by decide), F 15 (by decide) (by decide) (by decide) (by decide), K9 20 (by decide) (by decide), K9 21 (by decide) (by decide), K9 22 (by decide) (by decide), K9 23 (by decide) (by decide), K9 26 (by decide) (by decide), K9 27 (by decide) (by decide)]; exact C.see
  · rw [F0 10 (by decide)]; exact C.now
  · rw [F0 11 (by decide)]; exact C.ser
  · rw [F 6 (by decide) (by decide) (by decide) (by decide), Gb 217 (by decide) (by decide)]; exact C.set
  · rw [F 12 (by decide) (by decide) (by decide) (by decide), F 13 (by decide) (by decide) (by decide) (by decide), F 14 (by decide) (by decide) (by decide) (by decide), K9 17 (by decide) (by decide), K9 18 (by decide) (by decide), Gb 213 (by decide) (by decide), Gb 214 (by decide) (by decide)]; exact C.key
  · rw [K9 10 (by decide) (by decide), Gb 202 (by decide) (by decide), Gb 203 (by decide) (by decide)]; exact C.tab
  · have ec : (fun b => pf (pf s3 0 2 1) 1 1 0 (b + 23)) = fun b => σ (b + 23) := funext (fun b => F (b + 23) (by omega) (by omega) (by omega) (by omega))
    rw [ec, Gb 210 (by decide) (by decide), Gb 211 (by decide) (by decide), Gb 212 (by decide) (by decide), Gb 213 (by decide) (by decide), Gb 214 (by decide) (by decide)]; exact C.crd
  · rw [F 18 (by decide) (by decide) (by decide) (by decide), F0 8 (by decide), K9 35 (by decide) (by decide), K9 38 (by decide) (by decide), K9 39 (by decide) (by decide)]; exact I.lat
  · rw [F 19 (by decide) (by decide) (by decide) (by decide), K9 42 (by decide) (by decide), K9 40 (by decide) (by decide), K9 43 (by decide) (by decide), K9 45 (by decide) (by decide)]; exact I.out
  · rw [F 21 (by decide) (by decide) (by decide) (by decide), K9 46 (by decide) (by decide), K9 41 (by decide) (by decide), K9 47 (by decide) (by decide), K9 48 (by decide) (by decide), K9 49 (by decide) (by decide)]; exact I.ins
  · rw [F 15 (by decide) (by decide) (by decide) (by decide), F 16 (by decide) (by decide) (by decide) (by decide), F 17 (by decide) (by decide) (by decide) (by decide), F 21 (by decide) (by decide) (by decide) (by decide), K9 29 (by decide) (by decide), K9 31 (by decide) (by decide), K9 50 (by decide) (by decide), K9 52 (by decide) (by decide), Gb 216 (by decide) (by decide), Gb 218 (by decide) (by decide)]; exact I.jj
