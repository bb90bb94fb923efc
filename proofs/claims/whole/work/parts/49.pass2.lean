/-! A pass is made: the reference; state 4 -/
theorem r_set {τ : gS} {A o a n : Nat} (ho : A + o + n ≤ 3072) (hn : n ≤ 4) (ha : a < 2 ^ 63) : Q_X10_set τ (nI A) (nI o) (lN a) (nI n) ∧ wrt τ 210 (A + o) (A + o + n) (fun i => bN n a (i - (A + o))) (F_X10_set τ (nI A) (nI o) (lN a) (nI n)) := by
  rw [F_X10_set_eq]
  unfold Q_X10_set Fr_X10_set
  exact lpF (fun f d s => QG_X10_set_L3 (nI A) (nI o) (lN a) (nI n) f (nI d) s ∧ wrt τ 210 (A + o) (A + o + n) (fun i => bN n a (i - (A + o))) (G_X10_set_L3 (nI A) (nI o) (lN a) (nI n) f (nI d) s)) (fun d s => wrt τ 210 (A + o) (A + o + d) (fun i => bN n a (i - (A + o))) s) n (by
    intro f s h
    unfold QG_X10_set_L3 G_X10_set_L3
    have c1 : nI n ≤ nI n := nI_le (Nat.le_refl _) (by omega)
    simp only [if_pos c1]
    exact ⟨trivial, h⟩) (by
    intro f d s hd h k
    unfold QG_X10_set_L3 G_X10_set_L3
    have c1 : ¬ nI n ≤ nI d := nI_ge hd (by omega)
    have e1 : nI A + nI o + nI d = nI (A + o + d) := by rw [nI_add, nI_add]
    have e2 : (8 : Int32) * (nI n - 1 - nI d) = nI (8 * (n - 1 - d)) := by rw [nIs (b := 1) (by omega) 1 rfl, pk_sub (by omega)]; exact pk_mul 8 _
    simp only [if_neg c1, e1, e2, nI_i1, ix_n (show A + o + d < 2 ^ 31 by omega), ushl_lN ha (show 8 * (n - 1 - d) < 64 by omega), lN_i, b8_b8]
    have q := k (pf s 210 (A + o + d) (nI (a / 2 ^ (8 * (n - 1 - d)))).toInt8.toInt32) (wrt_s (a := A + o) (i := A + o + d) h (by omega) (show (nI (a / 2 ^ (8 * (n - 1 - d)))).toInt8.toInt32 = bN n a (A + o + d - (A + o)) by rw [Nat.add_sub_cancel_left]; rfl))
    exact ⟨⟨vp_in_nI (by omega) (by decide), q.1⟩, q.2⟩) 4000 0 τ (Nat.zero_le _) (by omega) wrt_0
/-- w bytes of a row written -/
abbrev wpd (A w : Nat) (P : Nat → Int32) (τ s : gS) : Prop := (∀ b, b ≠ 210 → s b = τ b) ∧ (∀ i, (i < A ∨ A + 48 ≤ i) → s 210 i = τ 210 i) ∧ (∀ i, i < w → s 210 (A + i) = P i)
theorem wpd.fr {A w : Nat} {P : Nat → Int32} {τ s : gS} (h : wpd A w P τ s) : ∀ b, b ≠ 210 → s b = τ b := h.1
theorem wpd.ou {A w : Nat} {P : Nat → Int32} {τ s : gS} (h : wpd A w P τ s) : ∀ i, (i < A ∨ A + 48 ≤ i) → s 210 i = τ 210 i := h.2.1
theorem wpd.by_ {A w : Nat} {P : Nat → Int32} {τ s : gS} (h : wpd A w P τ s) : ∀ i, i < w → s 210 (A + i) = P i := h.2.2
theorem wpd_s {A w n : Nat} {P v : Nat → Int32} {τ s u : gS} (h : wpd A w P τ s) (g : wrt s 210 (A + w) (A + w + n) v u) (e : ∀ i, i < n → v (A + w + i) = P (w + i)) (hw : w + n ≤ 48) : wpd A (w + n) P τ u := by
  refine ⟨fun b hb => (g.1 b hb).trans (h.fr b hb), fun i hi => ?_, fun i hi => ?_⟩
  · rw [g.2, if_neg (by omega)]; exact h.ou i hi
  · rw [g.2]
    by_cases z : i < w
    · rw [if_neg (by omega)]; exact h.by_ i z
    · rw [if_pos (by omega)]
      have := e (i - w) (by omega)
      rw [show A + w + (i - w) = A + i by omega, show w + (i - w) = i by omega] at this
      exact this
theorem be2_ext {f g : Nat → Int32} {i : Nat} (h : ∀ k, k < 2 → f (i + k) = g (i + k)) : be2 f i = be2 g i := by
  unfold be2
  rw [show f i = g i from h 0 (by omega), h 1 (by omega)]
abbrev mrd (c se : Nat) (P q : Nat → Int32) (τ V : gS) (ζ z : gQ) : Prop := (∀ b, b ≠ 199 → b ≠ 210 → b ≠ 211 → (b < 201 ∨ 208 < b) → V b = τ b) ∧ (∀ k, k ≠ 10 → k ≠ 42 → k ≠ 40 → V 199 k = τ 199 k) ∧ (V 199 42 = 5 ∧ V 199 40 = 3) ∧ (pTab (V 199 10) (V 202) (V 203)) ∧ (∀ k, V 211 k = if k = 4 * c + 3 then nI 39 else τ 211 k) ∧ (∀ i, (i < 48 * (4 * c + 3) ∨ 48 * (4 * c + 3) + 48 ≤ i) → V 210 i = τ 210 i) ∧ (∀ i, i < 23 → rwR V c 3 i = P i) ∧ (∀ i, i < 16 → rwR V c 3 (23 + i) = (macB q P 23 i).toInt8.toInt32) ∧ (z 53 = lN (se + 1)) ∧ (∀ k, k ≠ 53 → z k = ζ k)
theorem mrd.fr {c se : Nat} {P q : Nat → Int32} {τ V : gS} {ζ z : gQ} (h : mrd c se P q τ V ζ z) : ∀ b, b ≠ 199 → b ≠ 210 → b ≠ 211 → (b < 201 ∨ 208 < b) → V b = τ b := h.1
theorem mrd.fk {c se : Nat} {P q : Nat → Int32} {τ V : gS} {ζ z : gQ} (h : mrd c se P q τ V ζ z) : ∀ k, k ≠ 10 → k ≠ 42 → k ≠ 40 → V 199 k = τ 199 k := h.2.1
theorem mrd.st {c se : Nat} {P q : Nat → Int32} {τ V : gS} {ζ z : gQ} (h : mrd c se P q τ V ζ z) : V 199 42 = 5 ∧ V 199 40 = 3 := h.2.2.1
theorem mrd.tab {c se : Nat} {P q : Nat → Int32} {τ V : gS} {ζ z : gQ} (h : mrd c se P q τ V ζ z) : pTab (V 199 10) (V 202) (V 203) := h.2.2.2.1
theorem mrd.sz {c se : Nat} {P q : Nat → Int32} {τ V : gS} {ζ z : gQ} (h : mrd c se P q τ V ζ z) : ∀ k, V 211 k = if k = 4 * c + 3 then nI 39 else τ 211 k := h.2.2.2.2.1
theorem mrd.ou {c se : Nat} {P q : Nat → Int32} {τ V : gS} {ζ z : gQ} (h : mrd c se P q τ V ζ z) : ∀ i, (i < 48 * (4 * c + 3) ∨ 48 * (4 * c + 3) + 48 ≤ i) → V 210 i = τ 210 i := h.2.2.2.2.2.1
theorem mrd.by1 {c se : Nat} {P q : Nat → Int32} {τ V : gS} {ζ z : gQ} (h : mrd c se P q τ V ζ z) : ∀ i, i < 23 → rwR V c 3 i = P i := h.2.2.2.2.2.2.1
theorem mrd.by2 {c se : Nat} {P q : Nat → Int32} {τ V : gS} {ζ z : gQ} (h : mrd c se P q τ V ζ z) : ∀ i, i < 16 → rwR V c 3 (23 + i) = (macB q P 23 i).toInt8.toInt32 := h.2.2.2.2.2.2.2.1
theorem mrd.ser {c se : Nat} {P q : Nat → Int32} {τ V : gS} {ζ z : gQ} (h : mrd c se P q τ V ζ z) : z 53 = lN (se + 1) := h.2.2.2.2.2.2.2.2.1
theorem mrd.fz {c se : Nat} {P q : Nat → Int32} {τ V : gS} {ζ z : gQ} (h : mrd c se P q τ V ζ z) : ∀ k, k ≠ 53 → z k = ζ k := h.2.2.2.2.2.2.2.2.2
theorem r_make {σ : gS} {ζ : gQ} {n c t se ow ho : Nat} (R : refOk σ n) (hn : 0 < n) (hc : c < 16) (ht : t ≤ 2000000000) (et : ζ 19 = lN t) (es : ζ 53 = lN se) (hse : se < 2 ^ 31) (eo : σ 199 18 = nI ow) (how : ow < 65536) (eh : σ 217 4 = nI ho) (hho : ho ≤ 10000) :
    (let v11 := ((48 : Int32) * (((4 : Int32) * nI c) + (3 : Int32)));
        (Q_X10_set σ v11 (0 : Int32) (4 : Int64) (1 : Int32)) ∧ (let s14 := (F_X10_set σ v11 (0 : Int32) (4 : Int64) (1 : Int32));
        (Q_X10_set s14 v11 (1 : Int32) (s14 199 18).toInt64 (2 : Int32)) ∧ (let s17 := (F_X10_set s14 v11 (1 : Int32) (s14 199 18).toInt64 (2 : Int32));
        (Q_X10_set s17 v11 (3 : Int32) (ζ 53) (4 : Int32)) ∧ (let s20 := (F_X10_set s17 v11 (3 : Int32) (ζ 53) (4 : Int32));
        (Q_X10_field s20 (nI c) (0 : Int32) (1 : Int32) (2 : Int32)) ∧ ((Q_X10_set s20 v11 (7 : Int32) (F_X10_field s20 (nI c) (0 : Int32) (1 : Int32) (2 : Int32)) (2 : Int32)) ∧ (let s25 := (F_X10_set s20 v11 (7 : Int32) (F_X10_field s20 (nI c) (0 : Int32) (1 : Int32) (2 : Int32)) (2 : Int32));
        (Q_X10_field s25 (nI c) (0 : Int32) (3 : Int32) (4 : Int32)) ∧ ((Q_X10_set s25 v11 (9 : Int32) (F_X10_field s25 (nI c) (0 : Int32) (3 : Int32) (4 : Int32)) (4 : Int32)) ∧ (let s30 := (F_X10_set s25 v11 (9 : Int32) (F_X10_field s25 (nI c) (0 : Int32) (3 : Int32) (4 : Int32)) (4 : Int32));
        (Q_X10_set s30 v11 (13 : Int32) (ζ 19) (4 : Int32)) ∧ (let s33 := (F_X10_set s30 v11 (13 : Int32) (ζ 19) (4 : Int32));
        (Q_X10_set s33 v11 (17 : Int32) ((ζ 19) + (s33 217 (ix (4 : Int32))).toInt64) (4 : Int32)) ∧ (let s36 := (F_X10_set s33 v11 (17 : Int32) ((ζ 19) + (s33 217 (ix (4 : Int32))).toInt64) (4 : Int32));
        (Q_X10_field s36 (nI c) (1 : Int32) (21 : Int32) (1 : Int32)) ∧ ((Q_X10_set s36 v11 (21 : Int32) (F_X10_field s36 (nI c) (1 : Int32) (21 : Int32) (1 : Int32)) (1 : Int32)) ∧ (let s41 := (F_X10_set s36 v11 (21 : Int32) (F_X10_field s36 (nI c) (1 : Int32) (21 : Int32) (1 : Int32)) (1 : Int32));
        (Q_X10_field s41 (nI c) (1 : Int32) (22 : Int32) (1 : Int32)) ∧ ((Q_X10_set s41 v11 (22 : Int32) (F_X10_field s41 (nI c) (1 : Int32) (22 : Int32) (1 : Int32)) (1 : Int32)) ∧ (let s46 := (F_X10_set s41 v11 (22 : Int32) (F_X10_field s41 (nI c) (1 : Int32) (22 : Int32) (1 : Int32)) (1 : Int32));
        (Q_X10_sealOf s46 214 112 210 3072 (0 : Int32) v11 (23 : Int32)) ∧ (let s49 := (F_X10_sealOf s46 214 112 210 3072 (0 : Int32) v11 (23 : Int32));
        QG_X10_writes_L224 (nI c) 4000 v11 (0 : Int32) s49 ζ))))))))))))))) ∧
    (let v11 := ((48 : Int32) * (((4 : Int32) * nI c) + (3 : Int32)));
        let s14 := (F_X10_set σ v11 (0 : Int32) (4 : Int64) (1 : Int32));
        let s17 := (F_X10_set s14 v11 (1 : Int32) (s14 199 18).toInt64 (2 : Int32));
        let s20 := (F_X10_set s17 v11 (3 : Int32) (ζ 53) (4 : Int32));
        let s25 := (F_X10_set s20 v11 (7 : Int32) (F_X10_field s20 (nI c) (0 : Int32) (1 : Int32) (2 : Int32)) (2 : Int32));
        let s30 := (F_X10_set s25 v11 (9 : Int32) (F_X10_field s25 (nI c) (0 : Int32) (3 : Int32) (4 : Int32)) (4 : Int32));
        let s33 := (F_X10_set s30 v11 (13 : Int32) (ζ 19) (4 : Int32));
        let s36 := (F_X10_set s33 v11 (17 : Int32) ((ζ 19) + (s33 217 (ix (4 : Int32))).toInt64) (4 : Int32));
        let s41 := (F_X10_set s36 v11 (21 : Int32) (F_X10_field s36 (nI c) (1 : Int32) (21 : Int32) (1 : Int32)) (1 : Int32));
        let s46 := (F_X10_set s41 v11 (22 : Int32) (F_X10_field s41 (nI c) (1 : Int32) (22 : Int32) (1 : Int32)) (1 : Int32));
        let s49 := (F_X10_sealOf s46 214 112 210 3072 (0 : Int32) v11 (23 : Int32));
        mrd c se (psB ow se (be2 (rwR σ c 0) 1) (be4 (rwR σ c 0) 3) t (t + ho) (ub (rwR σ c 1 21)) (ub (rwR σ c 1 22))) (σ 214) σ (G_X10_writes_L224 (nI c) 4000 v11 (0 : Int32) s49 ζ).1 ζ (G_X10_writes_L224 (nI c) 4000 v11 (0 : Int32) s49 ζ).2) := by
  have i4 : ix (4 : Int32) = 4 := ix_n (n := 4) (by decide)
  have ea : (48 : Int32) * (4 * nI c + 3) = nI (48 * (4 * c + 3)) := by
    rw [show (4 : Int32) = nI 4 from rfl, show (48 : Int32) = nI 48 from rfl, show (3 : Int32) = nI 3 from rfl, pk_mul, nI_add, pk_mul]
  simp only [i4, ea, es, et]
  generalize hA : 48 * (4 * c + 3) = A
  have hA2 : A + 48 ≤ 3072 := by omega
  generalize hP : psB ow se (be2 (rwR σ c 0) 1) (be4 (rwR σ c 0) 3) t (t + ho) (ub (rwR σ c 1 21)) (ub (rwR σ c 1 22)) = P
  have hPi : ∀ i, P i = psB ow se (be2 (rwR σ c 0) 1) (be4 (rwR σ c 0) 3) t (t + ho) (ub (rwR σ c 1 21)) (ub (rwR σ c 1 22)) i := fun i => by rw [hP]
  have b2 := be2_lt (rwR σ c 0) 1
  have b4 := be4_lt (rwR σ c 0) 3
  have b5 := ub_lt (rwR σ c 1 21)
  have b6 := ub_lt (rwR σ c 1 22)
  have w0 : wpd A 0 P σ σ := ⟨fun _ _ => rfl, fun _ _ => rfl, fun i hi => absurd hi (by omega)⟩
  have rd : ∀ {s : gS} {w p : Nat}, wpd A w P σ s → p < 3 → ∀ k, k < 48 → rwR s c p k = rwR σ c p k := fun h hp k hk => h.ou _ (by omega)
  -- kind
  obtain ⟨q1, p1⟩ : Q_X10_set σ (nI A) 0 4 1 ∧ wrt σ 210 (A + 0) (A + 0 + 1) (fun i => bN 1 4 (i - (A + 0))) (F_X10_set σ (nI A) 0 4 1) := r_set (o := 0) (n := 1) (a := 4) (by omega) (by omega) (by omega)
  generalize F_X10_set σ (nI A) 0 4 1 = s1 at p1 ⊢
  have w1 := wpd_s w0 p1 (fun i hi => by rw [hPi]; unfold psB; rw [if_pos (by omega)]; show bN 1 4 _ = _; congr 1; omega) (by omega)
  -- own issuer
  have o1 : (s1 199 18).toInt64 = lN ow := by rw [w1.fr 199 (by decide), eo, nI_l (by omega)]
  rw [o1]
  obtain ⟨q2, p2⟩ : Q_X10_set s1 (nI A) 1 (lN ow) 2 ∧ wrt s1 210 (A + 1) (A + 1 + 2) (fun i => bN 2 ow (i - (A + 1))) (F_X10_set s1 (nI A) 1 (lN ow) 2) := r_set (o := 1) (n := 2) (by omega) (by omega) (by omega)
  generalize F_X10_set s1 (nI A) 1 (lN ow) 2 = s2 at p2 ⊢
  have w2 := wpd_s w1 p2 (fun i hi => by rw [hPi]; unfold psB; rw [if_neg (by omega), if_pos (by omega)]; show bN 2 ow _ = _; congr 1; omega) (by omega)
  -- serial
  obtain ⟨q3, p3⟩ : Q_X10_set s2 (nI A) 3 (lN se) 4 ∧ wrt s2 210 (A + 3) (A + 3 + 4) (fun i => bN 4 se (i - (A + 3))) (F_X10_set s2 (nI A) 3 (lN se) 4) := r_set (o := 3) (n := 4) (by omega) (by omega) (by omega)
  generalize F_X10_set s2 (nI A) 3 (lN se) 4 = s3 at p3 ⊢
  have w3 := wpd_s w2 p3 (fun i hi => by rw [hPi]; unfold psB; rw [if_neg (by omega), if_neg (by omega), if_pos (by omega)]; show bN 4 se _ = _; congr 1; omega) (by omega)
  -- holder
  have f4 : Q_X10_field s3 (nI c) 0 1 2 ∧ F_X10_field s3 (nI c) 0 1 2 = lN (be2 (rwR σ c 0) 1) := by
    have := r_field (τ := s3) (p := 0) (i := 1) (n := 2) hc (by omega) (by omega) (by omega)
    rw [beN_2] at this
    rw [← be2_ext (f := rwR s3 c 0) (fun k hk => rd w3 (by omega) (1 + k) (by omega))]; exact this
  rw [f4.2]
  obtain ⟨q4, p4⟩ : Q_X10_set s3 (nI A) 7 (lN (be2 (rwR σ c 0) 1)) 2 ∧ wrt s3 210 (A + 7) (A + 7 + 2) (fun i => bN 2 (be2 (rwR σ c 0) 1) (i - (A + 7))) (F_X10_set s3 (nI A) 7 (lN (be2 (rwR σ c 0) 1)) 2) := r_set (o := 7) (n := 2) (by omega) (by omega) (by omega)
  generalize F_X10_set s3 (nI A) 7 (lN (be2 (rwR σ c 0) 1)) 2 = s4 at p4 ⊢
  have w4 := wpd_s w3 p4 (fun i hi => by rw [hPi]; unfold psB; rw [if_neg (by omega), if_neg (by omega), if_neg (by omega), if_pos (by omega)]; show bN 2 _ _ = _; congr 1; omega) (by omega)
  have f5 : Q_X10_field s4 (nI c) 0 3 4 ∧ F_X10_field s4 (nI c) 0 3 4 = lN (be4 (rwR σ c 0) 3) := by
    have := r_field (τ := s4) (p := 0) (i := 3) (n := 4) hc (by omega) (by omega) (by omega)
    rw [beN_4] at this
    rw [← be4_ext (f := rwR s4 c 0) (fun k hk => rd w4 (by omega) (3 + k) (by omega))]; exact this
  rw [f5.2]
  obtain ⟨q5, p5⟩ : Q_X10_set s4 (nI A) 9 (lN (be4 (rwR σ c 0) 3)) 4 ∧ wrt s4 210 (A + 9) (A + 9 + 4) (fun i => bN 4 (be4 (rwR σ c 0) 3) (i - (A + 9))) (F_X10_set s4 (nI A) 9 (lN (be4 (rwR σ c 0) 3)) 4) := r_set (o := 9) (n := 4) (by omega) (by omega) (by omega)
  generalize F_X10_set s4 (nI A) 9 (lN (be4 (rwR σ c 0) 3)) 4 = s5 at p5 ⊢
  have w5 := wpd_s w4 p5 (fun i hi => by rw [hPi]; unfold psB; rw [if_neg (by omega), if_neg (by omega), if_neg (by omega), if_neg (by omega), if_pos (by omega)]; show bN 4 _ _ = _; congr 1; omega) (by omega)
  -- times
  obtain ⟨q6, p6⟩ : Q_X10_set s5 (nI A) 13 (lN t) 4 ∧ wrt s5 210 (A + 13) (A + 13 + 4) (fun i => bN 4 t (i - (A + 13))) (F_X10_set s5 (nI A) 13 (lN t) 4) := r_set (o := 13) (n := 4) (by omega) (by omega) (by omega)
  generalize F_X10_set s5 (nI A) 13 (lN t) 4 = s6 at p6 ⊢
  have w6 := wpd_s w5 p6 (fun i hi => by rw [hPi]; unfold psB; rw [if_neg (by omega), if_neg (by omega), if_neg (by omega), if_neg (by omega), if_neg (by omega), if_pos (by omega)]; show bN 4 t _ = _; congr 1; omega) (by omega)
  have o6 : lN t + (s6 217 4).toInt64 = lN (t + ho) := by rw [w6.fr 217 (by decide), eh, nI_l (by omega), lN_add]
  rw [o6]
  obtain ⟨q7, p7⟩ : Q_X10_set s6 (nI A) 17 (lN (t + ho)) 4 ∧ wrt s6 210 (A + 17) (A + 17 + 4) (fun i => bN 4 (t + ho) (i - (A + 17))) (F_X10_set s6 (nI A) 17 (lN (t + ho)) 4) := r_set (o := 17) (n := 4) (by omega) (by omega) (by omega)
  generalize F_X10_set s6 (nI A) 17 (lN (t + ho)) 4 = s7 at p7 ⊢
  have w7 := wpd_s w6 p7 (fun i hi => by rw [hPi]; unfold psB; rw [if_neg (by omega), if_neg (by omega), if_neg (by omega), if_neg (by omega), if_neg (by omega), if_neg (by omega), if_pos (by omega)]; show bN 4 (t + ho) _ = _; congr 1; omega) (by omega)
  -- role and class
  have f8 : Q_X10_field s7 (nI c) 1 21 1 ∧ F_X10_field s7 (nI c) 1 21 1 = lN (ub (rwR σ c 1 21)) := by
    have := r_field (τ := s7) (p := 1) (i := 21) (n := 1) hc (by omega) (by omega) (by omega)
    rw [beN_1] at this
    rw [← rd w7 (by omega) 21 (by omega)]; exact this
  rw [f8.2]
  obtain ⟨q8, p8⟩ : Q_X10_set s7 (nI A) 21 (lN (ub (rwR σ c 1 21))) 1 ∧ wrt s7 210 (A + 21) (A + 21 + 1) (fun i => bN 1 (ub (rwR σ c 1 21)) (i - (A + 21))) (F_X10_set s7 (nI A) 21 (lN (ub (rwR σ c 1 21))) 1) := r_set (o := 21) (n := 1) (by omega) (by omega) (by omega)
  generalize F_X10_set s7 (nI A) 21 (lN (ub (rwR σ c 1 21))) 1 = s8 at p8 ⊢
  have w8 := wpd_s w7 p8 (fun i hi => by rw [hPi]; unfold psB; rw [if_neg (by omega), if_neg (by omega), if_neg (by omega), if_neg (by omega), if_neg (by omega), if_neg (by omega), if_neg (by omega), if_pos (by omega)]; show bN 1 _ _ = _; congr 1; omega) (by omega)
  have f9 : Q_X10_field s8 (nI c) 1 22 1 ∧ F_X10_field s8 (nI c) 1 22 1 = lN (ub (rwR σ c 1 22)) := by
    have := r_field (τ := s8) (p := 1) (i := 22) (n := 1) hc (by omega) (by omega) (by omega)
    rw [beN_1] at this
    rw [← rd w8 (by omega) 22 (by omega)]; exact this
  rw [f9.2]
  obtain ⟨q9, p9⟩ : Q_X10_set s8 (nI A) 22 (lN (ub (rwR σ c 1 22))) 1 ∧ wrt s8 210 (A + 22) (A + 22 + 1) (fun i => bN 1 (ub (rwR σ c 1 22)) (i - (A + 22))) (F_X10_set s8 (nI A) 22 (lN (ub (rwR σ c 1 22))) 1) := r_set (o := 22) (n := 1) (by omega) (by omega) (by omega)
  generalize F_X10_set s8 (nI A) 22 (lN (ub (rwR σ c 1 22))) 1 = s9 at p9 ⊢
  have w9 : wpd A 23 P σ s9 := wpd_s w8 p9 (fun i hi => by rw [hPi]; unfold psB; rw [if_neg (by omega), if_neg (by omega), if_neg (by omega), if_neg (by omega), if_neg (by omega), if_neg (by omega), if_neg (by omega), if_neg (by omega)]; show bN 1 _ _ = _; congr 1; omega) (by omega)
  clear p1 p2 p3 p4 p5 p6 p7 p8 p9 w1 w2 w3 w4 w5 w6 w7 w8
  -- the seal
  have T9 : pTab (s9 199 10) (s9 202) (s9 203) := by rw [w9.fr 199 (by decide), w9.fr 202 (by decide), w9.fr 203 (by decide)]; exact R.tab
  obtain ⟨qs, v1, v2, v3, v4⟩ : Q_X10_sealOf s9 214 112 210 3072 0 (nI A) 23 ∧ (∀ b, b ≠ 199 → (b < 201 ∨ 208 < b) → F_X10_sealOf s9 214 112 210 3072 0 (nI A) 23 b = s9 b) ∧ (∀ k, k ≠ 10 → F_X10_sealOf s9 214 112 210 3072 0 (nI A) 23 199 k = s9 199 k) ∧ pTab (F_X10_sealOf s9 214 112 210 3072 0 (nI A) 23 199 10) (F_X10_sealOf s9 214 112 210 3072 0 (nI A) 23 202) (F_X10_sealOf s9 214 112 210 3072 0 (nI A) 23 203) ∧ ∀ k, k < 32 → F_X10_sealOf s9 214 112 210 3072 0 (nI A) 23 207 k = (macB (fun k => s9 214 (0 + k)) (fun k => s9 210 (A + k)) 23 k).toInt8.toInt32 := r_sealOf (τ := s9) (ak := 214) (Nk := 112) (ar := 210) (Nr := 3072) (a := 0) (o := A) (n := 23) T9 (by omega) (by omega) (by omega) (by decide) (by omega) (by decide) (by omega)
  generalize F_X10_sealOf s9 214 112 210 3072 0 (nI A) 23 = sa at v1 v2 v3 v4 ⊢
  have hm : ∀ k, k < 16 → sa 207 k = (macB (σ 214) P 23 k).toInt8.toInt32 := by
    intro k hk
    have e := macB_congr (kb := fun k => s9 214 (0 + k)) (kb' := σ 214) (r := fun k => s9 210 (A + k)) (r' := P) (n := 23) (fun k _ => by show s9 214 (0 + k) &&& 255 = _; rw [w9.fr 214 (by decide), Nat.zero_add]) (fun k z => by show s9 210 (A + k) &&& 255 = _; rw [w9.by_ k z]) (i := k) (by omega)
    rw [v4 k (by omega), e]
  -- its bytes on the card
  have lp := lpF (fun f d s => QG_X10_writes_L224 (nI c) f (nI A) (nI d) s ζ ∧ mrd c se P (σ 214) σ (G_X10_writes_L224 (nI c) f (nI A) (nI d) s ζ).1 ζ (G_X10_writes_L224 (nI c) f (nI A) (nI d) s ζ).2) (fun d s => (∀ b, b ≠ 210 → s b = sa b) ∧ (∀ i, (i < A ∨ A + 48 ≤ i) → s 210 i = σ 210 i) ∧ (∀ i, i < 23 → s 210 (A + i) = P i) ∧ ∀ i, i < d → s 210 (A + (23 + i)) = (macB (σ 214) P 23 i).toInt8.toInt32) 16 (by
    intro f s h
    obtain ⟨h1, h2, h3, h4⟩ := h
    unfold QG_X10_writes_L224 G_X10_writes_L224
    have c1 : (16 : Int32) ≤ nI 16 := nI_le (a := 16) (Nat.le_refl _) (by decide)
    have e3 : (4 : Int32) * nI c + 3 = nI (4 * c + 3) := by rw [show (4 : Int32) = nI 4 from rfl, show (3 : Int32) = nI 3 from rfl, pk_mul, nI_add]
    simp only [if_pos c1, e3, ix_n (show 4 * c + 3 < 2 ^ 31 by omega), oTo, es, lN_1]
    have x199 : ∀ k, k ≠ 10 → s 199 k = σ 199 k := fun k hk => by rw [h1 199 (by decide), v2 k hk, w9.fr 199 (by decide)]
    refine ⟨⟨vp_in_nI (by omega) (by decide), trivial⟩, fun b g1 g2 g3 g4 => ?_, fun k g1 g2 g3 => ?_, ⟨?_, pf_s⟩, ?_, fun k => ?_, fun i hi => ?_, fun i hi => ?_, fun i hi => ?_, pk_uLs, fun k hk => pk_uLn hk⟩
    · rw [pf_ne g1, pf_ne g1, pf_ne g3, h1 b g2, v1 b g1 g4, w9.fr b g2]
    · rw [pf_i g3, pf_i g2, pf_ne (by decide), x199 k g1]
    · rw [pf_i (by decide), pf_s]
    · rw [pf_i (by decide), pf_i (by decide), pf_ne (by decide), pf_ne (by decide), pf_ne (by decide), pf_ne (by decide), pf_ne (by decide), pf_ne (by decide), pf_ne (by decide), h1 199 (by decide), h1 202 (by decide), h1 203 (by decide)]; exact v3
    · rw [pf_ne (by decide), pf_ne (by decide), pf_v, h1 211 (by decide), v1 211 (by decide) (by decide), w9.fr 211 (by decide)]; rfl
    · rw [pf_ne (by decide), pf_ne (by decide), pf_ne (by decide)]; exact h2 i (by omega)
    · show pf _ _ _ _ 210 (48 * (4 * c + 3) + i) = _
      rw [pf_ne (by decide), pf_ne (by decide), pf_ne (by decide), hA]; exact h3 i hi
    · show pf _ _ _ _ 210 (48 * (4 * c + 3) + (23 + i)) = _
      rw [pf_ne (by decide), pf_ne (by decide), pf_ne (by decide), hA]; exact h4 i hi) (by
    intro f d s hd h k
    obtain ⟨h1, h2, h3, h4⟩ := h
    unfold QG_X10_writes_L224 G_X10_writes_L224
    have c1 : ¬ (16 : Int32) ≤ nI d := nI_ge (b := 16) hd (by decide)
    have e1 : nI A + (23 : Int32) + nI d = nI (A + 23 + d) := by rw [show (23 : Int32) = nI 23 from rfl, nI_add, nI_add]
    have e2 : (s 207 d).toInt8.toInt32 = (macB (σ 214) P 23 d).toInt8.toInt32 := by rw [h1 207 (by decide), hm d hd, b8_b8]
    simp only [if_neg c1, e1, nI_i1, ix_n (show A + 23 + d < 2 ^ 31 by omega), ix_n (show d < 2 ^ 31 by omega), e2]
    have q := k (pf s 210 (A + 23 + d) (macB (σ 214) P 23 d).toInt8.toInt32) ⟨fun b hb => (pf_ne hb).trans (h1 b hb), fun i hi => by rw [pf_i (by omega)]; exact h2 i hi, fun i hi => by rw [pf_i (by omega)]; exact h3 i hi, fun i hi => by
      rw [pf_v]
      by_cases z : i = d
      · subst z; rw [if_pos (by omega)]
      · rw [if_neg (by omega)]; exact h4 i (by omega)⟩
    exact ⟨⟨vp_in_nI (by omega) (by decide), vp_in_nI (by omega) (by decide), q.1⟩, q.2⟩) 4000 0 sa (Nat.zero_le _) (by omega) ⟨fun _ _ => rfl, fun i hi => by rw [v1 210 (by decide) (by decide)]; exact w9.ou i hi, fun i hi => by rw [v1 210 (by decide) (by decide)]; exact w9.by_ i hi, fun i hi => absurd hi (by omega)⟩
  exact ⟨⟨q1, q2, q3, f4.1, q4, f5.1, q5, q6, q7, f8.1, q8, f9.1, q9, qs, lp.1⟩, lp.2⟩
