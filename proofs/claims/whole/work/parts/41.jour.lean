/-! Records: rows that grow, both sides -/
/-- byte i of w bytes of a number -/
def bN (w a i : Nat) : Int32 := (nI (a / 2 ^ (8 * (w - 1 - i)))).toInt8.toInt32
theorem ub_b8 {n : Nat} (h : n < 2 ^ 32) : ub (nI n).toInt8.toInt32 = n % 256 := by
  unfold ub
  rw [b8_and, and255_nI h, pk_tn (by omega)]
theorem be4_bN {f : Nat → Int32} {i m : Nat} (h : m < 2 ^ 32) (e : ∀ k, k < 4 → f (i + k) = bN 4 m k) : be4 f i = m := by
  have e0 : f i = bN 4 m 0 := e 0 (by omega)
  have u0 : ub (f i) = m / 16777216 % 256 := by rw [e0]; exact ub_b8 (n := m / 16777216) (by omega)
  have u1 : ub (f (i + 1)) = m / 65536 % 256 := by rw [e 1 (by omega)]; exact ub_b8 (n := m / 65536) (by omega)
  have u2 : ub (f (i + 2)) = m / 256 % 256 := by rw [e 2 (by omega)]; exact ub_b8 (n := m / 256) (by omega)
  have u3 : ub (f (i + 3)) = m % 256 := by
    rw [e 3 (by omega)]
    have := ub_b8 (n := m / 1) (by omega)
    rw [Nat.div_one] at this
    have z : bN 4 m 3 = (nI m).toInt8.toInt32 := by unfold bN; rw [show 8 * (4 - 1 - 3) = 0 from rfl, Nat.pow_zero, Nat.div_one]
    rw [z]; exact this
  unfold be4
  rw [u0, u1, u2, u3]; omega
/-- a row of the class that has grown by m bytes -/
abbrev bap (j L : Nat) (σ s : gS) (m : Nat) (v : Nat → Int32) : Prop := (∀ b, b ≠ j → b ≠ j + 1 → s b = σ b) ∧ (∀ k, k ≠ 1 → s j k = σ j k) ∧ (s j 1 = nI (L + m)) ∧ (∀ i, s (j + 1) i = if L ≤ i ∧ i < L + m then v (i - L) else σ (j + 1) i)
theorem bap.fr {j L : Nat} {σ s : gS} {m : Nat} {v : Nat → Int32} (h : bap j L σ s m v) : ∀ b, b ≠ j → b ≠ j + 1 → s b = σ b := h.1
theorem bap.fk {j L : Nat} {σ s : gS} {m : Nat} {v : Nat → Int32} (h : bap j L σ s m v) : ∀ k, k ≠ 1 → s j k = σ j k := h.2.1
theorem bap.len {j L : Nat} {σ s : gS} {m : Nat} {v : Nat → Int32} (h : bap j L σ s m v) : s j 1 = nI (L + m) := h.2.2.1
theorem bap.by_ {j L : Nat} {σ s : gS} {m : Nat} {v : Nat → Int32} (h : bap j L σ s m v) : ∀ i, s (j + 1) i = if L ≤ i ∧ i < L + m then v (i - L) else σ (j + 1) i := h.2.2.2
theorem bap_0 {j L : Nat} {σ : gS} {v : Nat → Int32} (e : σ j 1 = nI L) : bap j L σ σ 0 v := ⟨fun _ _ _ => rfl, fun _ _ => rfl, e, fun i => by rw [if_neg (by omega)]⟩
theorem bap_t {j L m m' : Nat} {σ s u : gS} {v v' : Nat → Int32} (h : bap j L σ s m v) (g : bap j (L + m) s u m' v') : bap j L σ u (m + m') (fun i => if i < m then v i else v' (i - m)) := by
  refine ⟨fun b h1 h2 => (g.fr b h1 h2).trans (h.fr b h1 h2), fun k hk => (g.fk k hk).trans (h.fk k hk), by rw [g.len, Nat.add_assoc], fun i => ?_⟩
  rw [g.by_, h.by_]
  by_cases h1 : L ≤ i ∧ i < L + (m + m')
  · rw [if_pos h1]
    show _ = if i - L < m then v (i - L) else v' (i - L - m)
    by_cases h2 : i - L < m
    · rw [if_pos h2, if_neg (by omega), if_pos (by omega)]
    · rw [if_neg h2, if_pos (by omega), Nat.sub_add_eq]
  · rw [if_neg h1, if_neg (by omega), if_neg (by omega)]
theorem bap_c {j L m : Nat} {σ s : gS} {v v' : Nat → Int32} (h : bap j L σ s m v) (e : ∀ i, i < m → v i = v' i) : bap j L σ s m v' := ⟨h.fr, h.fk, h.len, fun i => by
  rw [h.by_]
  by_cases h1 : L ≤ i ∧ i < L + m
  · rw [if_pos h1, if_pos h1, e _ (by omega)]
  · rw [if_neg h1, if_neg h1]⟩
theorem c_addB {σ : gS} {j N L : Nat} (hL : L < N) (hN : N < 2 ^ 31) (e : σ j 1 = nI L) (x : Int32) : Q_X0_addByte σ j N x ∧ bap j L σ (F_X0_addByte σ j N x) 1 (fun _ => x.toInt8.toInt32) := by
  rw [F_X0_addByte_eq]
  unfold Q_X0_addByte Fr_X0_addByte
  have c1 : ¬ nI L < 0 := nI_pos (by omega)
  have c2 : ¬ nI N ≤ nI L := nI_ge hL hN
  have ej : ∀ k v, pf σ (j + 1) k v j = σ j := fun k v => pf_ne (by omega)
  simp only [ej, e, if_neg c1, if_neg c2, ix_n (show L < 2 ^ 31 by omega), nI_1, b8_b8]
  refine ⟨⟨vp_in_nI hL hN, trivial⟩, fun b h1 h2 => by rw [pf_ne h1, pf_ne h2], fun k hk => by rw [pf_i hk, ej], pf_s, fun i => ?_⟩
  rw [pf_ne (by omega), pf_v]
  by_cases h : i = L
  · rw [if_pos h, if_pos (by omega)]
  · rw [if_neg h, if_neg (by omega)]
theorem c_addF {σ : gS} {j N L a : Nat} (hL : L + 4 ≤ N) (hN : N < 2 ^ 31) (ha : a < 2 ^ 32) (e : σ j 1 = nI L) : Q_X0_addFour σ j N (nI a) ∧ bap j L σ (F_X0_addFour σ j N (nI a)) 4 (bN 4 a) := by
  rw [F_X0_addFour_eq]
  unfold Q_X0_addFour Fr_X0_addFour
  have c1 : ¬ nI L < 0 := nI_pos (by omega)
  have e3 : nI N - (3 : Int32) = nI (N - 3) := nIs (b := 3) (by omega) 3 rfl
  have c2 : ¬ nI (N - 3) ≤ nI L := nI_ge (by omega) (by omega)
  have ej : ∀ (s : gS) k v, pf s (j + 1) k v j = s j := fun s k v => pf_ne (by omega)
  have a2 : nI L + (2 : Int32) = nI (L + 2) := nI_add L 2
  have a3 : nI L + (3 : Int32) = nI (L + 3) := nI_add L 3
  have a4 : nI L + (4 : Int32) = nI (L + 4) := nI_add L 4
  have u0 : ush (nI a) (24 : Int32) = nI (a / 2 ^ 24) := ush_nI (s := 24) ha (by omega)
  have u1 : ush (nI a) (16 : Int32) = nI (a / 2 ^ 16) := ush_nI (s := 16) ha (by omega)
  have u2 : ush (nI a) (8 : Int32) = nI (a / 2 ^ 8) := ush_nI (s := 8) ha (by omega)
  simp only [ej, e, e3, if_neg c1, if_neg c2, ix_n (show L < 2 ^ 31 by omega), nI_1, a2, a3, a4, ix_n (show L + 1 < 2 ^ 31 by omega), ix_n (show L + 2 < 2 ^ 31 by omega), ix_n (show L + 3 < 2 ^ 31 by omega), b8_b8, u0, u1, u2]
  refine ⟨⟨vp_in_nI (by omega) hN, vp_in_nI (by omega) hN, vp_in_nI (by omega) hN, vp_in_nI (by omega) hN, trivial⟩, fun b h1 h2 => by rw [pf_ne h1, pf_ne h2, pf_ne h2, pf_ne h2, pf_ne h2], fun k hk => by rw [pf_i hk, ej, ej, ej, ej], pf_s, fun i => ?_⟩
  rw [pf_ne (show j + 1 ≠ j by omega), pf_v, pf_v, pf_v, pf_v]
  by_cases h : L ≤ i ∧ i < L + 4
  · rw [if_pos h]
    rcases (show i = L ∨ i = L + 1 ∨ i = L + 2 ∨ i = L + 3 by omega) with rfl | rfl | rfl | rfl
    · rw [if_neg (by omega), if_neg (by omega), if_neg (by omega), if_pos rfl, Nat.sub_self]; rfl
    · rw [if_neg (by omega), if_neg (by omega), if_pos rfl, Nat.add_sub_cancel_left]; rfl
    · rw [if_neg (by omega), if_pos rfl, Nat.add_sub_cancel_left]; rfl
    · rw [if_pos rfl, Nat.add_sub_cancel_left]
      unfold bN; rw [show 8 * (4 - 1 - 3) = 0 from rfl, Nat.pow_zero, Nat.div_one]
  · rw [if_neg h, if_neg (by omega), if_neg (by omega), if_neg (by omega), if_neg (by omega)]
/-- a record's bytes -/
def rcB (m t : Nat) (w b x : Int32) (s : Nat) (i : Nat) : Int32 := if i < 4 then bN 4 m i else if i < 8 then bN 4 t (i - 4) else if i < 9 then w.toInt8.toInt32 else if i < 10 then b.toInt8.toInt32 else if i < 11 then x.toInt8.toInt32 else if i < 12 then (0 : Int32).toInt8.toInt32 else bN 4 s (i - 12)
theorem rcB_b (m t : Nat) (w b x : Int32) (s i : Nat) : isb (rcB m t w b x s i) := by
  unfold rcB
  repeat' split
  all_goals exact isb_mk _
abbrev apd (c m v t : Nat) (w b x : Int32) (s : Nat) (σ u : gS) : Prop := (∀ b, b ≠ 15 → b ≠ 16 → b ≠ 17 → u b = σ b) ∧ (∀ i, u 17 i = if 16 * c ≤ i ∧ i < 16 * c + 16 then rcB m t w b x s (i - 16 * c) else σ 17 i) ∧ (u 16 1 = nI (16 * (c + 1))) ∧ (u 15 1 = nI (c + 1)) ∧ (u 15 2 = nI (m + 1)) ∧ (u 15 3 = σ 15 3) ∧ (u 15 4 = σ 15 4) ∧ (u 15 5 = nI (v + 1)) ∧ (u 15 6 = if nI (v + 1) = σ 15 4 then 0 else 1)
theorem apd.fr {c m v t : Nat} {w b x : Int32} {s : Nat} {σ u : gS} (h : apd c m v t w b x s σ u) : ∀ b, b ≠ 15 → b ≠ 16 → b ≠ 17 → u b = σ b := h.1
theorem apd.by_ {c m v t : Nat} {w b x : Int32} {s : Nat} {σ u : gS} (h : apd c m v t w b x s σ u) : ∀ i, u 17 i = if 16 * c ≤ i ∧ i < 16 * c + 16 then rcB m t w b x s (i - 16 * c) else σ 17 i := h.2.1
theorem apd.len {c m v t : Nat} {w b x : Int32} {s : Nat} {σ u : gS} (h : apd c m v t w b x s σ u) : u 16 1 = nI (16 * (c + 1)) := h.2.2.1
theorem apd.cnt {c m v t : Nat} {w b x : Int32} {s : Nat} {σ u : gS} (h : apd c m v t w b x s σ u) : u 15 1 = nI (c + 1) := h.2.2.2.1
theorem apd.num {c m v t : Nat} {w b x : Int32} {s : Nat} {σ u : gS} (h : apd c m v t w b x s σ u) : u 15 2 = nI (m + 1) := h.2.2.2.2.1
theorem apd.al {c m v t : Nat} {w b x : Int32} {s : Nat} {σ u : gS} (h : apd c m v t w b x s σ u) : u 15 3 = σ 15 3 := h.2.2.2.2.2.1
theorem apd.cut {c m v t : Nat} {w b x : Int32} {s : Nat} {σ u : gS} (h : apd c m v t w b x s σ u) : u 15 4 = σ 15 4 := h.2.2.2.2.2.2.1
theorem apd.wr {c m v t : Nat} {w b x : Int32} {s : Nat} {σ u : gS} (h : apd c m v t w b x s σ u) : u 15 5 = nI (v + 1) := h.2.2.2.2.2.2.2.1
theorem apd.pow {c m v t : Nat} {w b x : Int32} {s : Nat} {σ u : gS} (h : apd c m v t w b x s σ u) : u 15 6 = if nI (v + 1) = σ 15 4 then 0 else 1 := h.2.2.2.2.2.2.2.2
theorem c_append {σ : gS} {c m v t s : Nat} (w b x : Int32) (hc : c < 96) (hm : m < 2 ^ 32) (ht : t < 2 ^ 32) (hs : s < 2 ^ 32) (e1 : σ 15 1 = nI c) (e2 : σ 15 2 = nI m) (e5 : σ 15 5 = nI v) (e6 : σ 16 1 = nI (16 * c)) : Q_X3_append σ (nI t) w b x (nI s) ∧ apd c m v t w b x s σ (F_X3_append σ (nI t) w b x (nI s)) := by
  rw [F_X3_append_eq]
  unfold Q_X3_append Fr_X3_append
  rw [e2]
  dsimp only
  obtain ⟨q1, p1⟩ := c_addF (σ := σ) (j := 16) (N := 1536) (L := 16 * c) (a := m) (by omega) (by decide) hm e6
  generalize F_X0_addFour σ 16 1536 (nI m) = s1 at p1 ⊢
  obtain ⟨q2, p2⟩ := c_addF (σ := s1) (j := 16) (N := 1536) (L := 16 * c + 4) (a := t) (by omega) (by decide) ht p1.len
  generalize F_X0_addFour s1 16 1536 (nI t) = s2 at p2 ⊢
  replace p2 := bap_t p1 p2
  obtain ⟨q3, p3⟩ := c_addB (σ := s2) (j := 16) (N := 1536) (L := 16 * c + (4 + 4)) (by omega) (by decide) p2.len w
  generalize F_X0_addByte s2 16 1536 w = s3 at p3 ⊢
  replace p3 := bap_t p2 p3
  obtain ⟨q4, p4⟩ := c_addB (σ := s3) (j := 16) (N := 1536) (L := 16 * c + (4 + 4 + 1)) (by omega) (by decide) p3.len b
  generalize F_X0_addByte s3 16 1536 b = s4 at p4 ⊢
  replace p4 := bap_t p3 p4
  obtain ⟨q5, p5⟩ := c_addB (σ := s4) (j := 16) (N := 1536) (L := 16 * c + (4 + 4 + 1 + 1)) (by omega) (by decide) p4.len x
  generalize F_X0_addByte s4 16 1536 x = s5 at p5 ⊢
  replace p5 := bap_t p4 p5
  obtain ⟨q6, p6⟩ := c_addB (σ := s5) (j := 16) (N := 1536) (L := 16 * c + (4 + 4 + 1 + 1 + 1)) (by omega) (by decide) p5.len 0
  generalize F_X0_addByte s5 16 1536 0 = s6 at p6 ⊢
  replace p6 := bap_t p5 p6
  obtain ⟨q7, p7⟩ := c_addF (σ := s6) (j := 16) (N := 1536) (L := 16 * c + (4 + 4 + 1 + 1 + 1 + 1)) (a := s) (by omega) (by decide) hs p6.len
  generalize F_X0_addFour s6 16 1536 (nI s) = s7 at p7 ⊢
  replace p7 := bap_t p6 p7
  have p8 : bap 16 (16 * c) σ s7 16 (rcB m t w b x s) := bap_c p7 (fun i hi => by
    unfold rcB
    repeat' split
    all_goals first
      | rfl
      | (exfalso; omega)
      | (congr 1; omega))
  clear p1 p2 p3 p4 p5 p6 p7
  have f15 : s7 15 = σ 15 := p8.fr 15 (by omega) (by omega)
  have k1 : s7 15 1 = nI c := by rw [f15]; exact e1
  have k2 : s7 15 2 = nI m := by rw [f15]; exact e2
  have k5 : s7 15 5 = nI v := by rw [f15]; exact e5
  have r1 : pf s7 15 2 (nI (m + 1)) 15 1 = nI c := by rw [pf_i (by decide), k1]
  have r2 : pf (pf s7 15 2 (nI (m + 1))) 15 1 (nI (c + 1)) 15 5 = nI v := by rw [pf_i (by decide), pf_i (by decide), k5]
  have r3 : pf (pf (pf s7 15 2 (nI (m + 1))) 15 1 (nI (c + 1))) 15 5 (nI (v + 1)) 15 4 = σ 15 4 := by rw [pf_i (by decide), pf_i (by decide), pf_i (by decide), f15]
  simp only [k2, nI_1, r1, r2, pf_s, r3]
  have fin : ∀ z : Int32, z = (if nI (v + 1) = σ 15 4 then 0 else 1) → apd c m v t w b x s σ (pf (pf (pf (pf s7 15 2 (nI (m + 1))) 15 1 (nI (c + 1))) 15 5 (nI (v + 1))) 15 6 z) := by
    intro z hz
    refine ⟨fun b h1 h2 h3 => by rw [pf_ne h1, pf_ne h1, pf_ne h1, pf_ne h1]; exact p8.fr b h2 (by omega), fun i => by rw [pf_ne (by decide), pf_ne (by decide), pf_ne (by decide), pf_ne (by decide)]; exact p8.by_ i, ?_, ?_, ?_, ?_, ?_, ?_, ?_⟩
    · rw [pf_ne (by decide), pf_ne (by decide), pf_ne (by decide), pf_ne (by decide), p8.len]; rfl
    · rw [pf_i (by decide), pf_i (by decide), pf_s]
    · rw [pf_i (by decide), pf_i (by decide), pf_i (by decide), pf_s]
    · rw [pf_i (by decide), pf_i (by decide), pf_i (by decide), pf_i (by decide), f15]
    · rw [pf_i (by decide), pf_i (by decide), pf_i (by decide), pf_i (by decide), f15]
    · rw [pf_i (by decide), pf_s]
    · rw [pf_s, hz]
  by_cases h : nI (v + 1) = σ 15 4
  · simp only [if_pos h]
    exact ⟨⟨q1, q2, q3, q4, q5, q6, q7, trivial⟩, fin 0 (by rw [if_pos h])⟩
  · simp only [if_neg h]
    exact ⟨⟨q1, q2, q3, q4, q5, q6, q7, trivial⟩, fin 1 (by rw [if_neg h])⟩
/-- the oldest records gone -/
abbrev dpd (c g : Nat) (σ u : gS) : Prop := (∀ b, b ≠ 15 → b ≠ 16 → b ≠ 17 → u b = σ b) ∧ (∀ i, i < 16 * (c - g) → u 17 i = σ 17 (i + 16 * g)) ∧ (u 16 1 = nI (16 * (c - g))) ∧ (u 15 1 = nI (c - g)) ∧ (∀ k, k ≠ 1 → u 15 k = σ 15 k)
theorem dpd.fr {c g : Nat} {σ u : gS} (h : dpd c g σ u) : ∀ b, b ≠ 15 → b ≠ 16 → b ≠ 17 → u b = σ b := h.1
theorem dpd.by_ {c g : Nat} {σ u : gS} (h : dpd c g σ u) : ∀ i, i < 16 * (c - g) → u 17 i = σ 17 (i + 16 * g) := h.2.1
theorem dpd.len {c g : Nat} {σ u : gS} (h : dpd c g σ u) : u 16 1 = nI (16 * (c - g)) := h.2.2.1
theorem dpd.cnt {c g : Nat} {σ u : gS} (h : dpd c g σ u) : u 15 1 = nI (c - g) := h.2.2.2.1
theorem dpd.fk {c g : Nat} {σ u : gS} (h : dpd c g σ u) : ∀ k, k ≠ 1 → u 15 k = σ 15 k := h.2.2.2.2
theorem c_drop {σ : gS} {c g : Nat} {p : Int32} (hc : c ≤ 96) (hg : g ≤ c) (e1 : σ 15 1 = nI c) (e6 : σ 16 1 = nI (16 * c)) (hv : (if (0 : Int32) < (if nI c < p then nI c else p) then (if nI c < p then nI c else p) else (0 : Int32)) = nI g) : Q_X3_dropOldest σ p ∧ dpd c g σ (F_X3_dropOldest σ p) := by
  rw [F_X3_dropOldest_eq]
  unfold Q_X3_dropOldest Fr_X3_dropOldest
  rw [e1, hv, e6]
  have e2 : nI g * (16 : Int32) = nI (g * 16) := pk_mul g 16
  have e3 : nI (16 * c) - nI (g * 16) = nI (16 * c - g * 16) := pk_sub (by omega)
  have e4 : nI c - nI g = nI (c - g) := pk_sub hg
  have k1 : ∀ f, (va_up σ 17 f : gS) 16 = σ 16 := fun f => vu_n (by decide)
  have k2 : ∀ f, (va_up σ 17 f : gS) 15 = σ 15 := fun f => vu_n (by decide)
  have k3 : ∀ (s : gS) v, pf s 16 1 v 15 = s 15 := fun s v => pf_ne (by decide)
  simp only [e2, e3, k1, k2, k3, e6, e1, e4, ix_n (show g * 16 < 2 ^ 31 by omega), ix_n (show 16 * c - g * 16 < 2 ^ 31 by omega), ix0]
  refine ⟨⟨⟨nI_pos (by omega), by decide, nI_pos (by omega), by omega, by omega⟩, trivial⟩, fun b h1 h2 h3 => by rw [pf_ne h1, pf_ne h2, vu_n h3], fun i hi => ?_, ?_, pf_s, fun k hk => by rw [pf_i hk, k3, k2]⟩
  · rw [pf_ne (by decide), pf_ne (by decide), vu_s, pk_cpy_in (by omega) (by omega)]
    congr 1; omega
  · rw [pf_ne (by decide), pf_s]; congr 1; omega
theorem c_dropN {σ : gS} {c g : Nat} (hc : c ≤ 96) (hg : g ≤ c) (e1 : σ 15 1 = nI c) (e6 : σ 16 1 = nI (16 * c)) : Q_X3_dropOldest σ (nI g) ∧ dpd c g σ (F_X3_dropOldest σ (nI g)) := by
  refine c_drop hc hg e1 e6 ?_
  have c1 : ¬ nI c < nI g := nI_nlt hg (by omega)
  rw [if_neg c1]
  by_cases h : g = 0
  · subst h; rw [if_neg (by decide)]; rfl
  · have c2 : (0 : Int32) < nI g := nI_lt (a := 0) (by omega) (by omega)
    rw [if_pos c2]
/-! The reference -/
theorem r_write {τ : gS} {c o a n : Nat} (hc : c ≤ 96) (ho : o + n ≤ 16) (hn : n ≤ 4) (ha : a < 2 ^ 63) (e : τ 199 29 = nI c) : Q_X10_write τ (nI o) (lN a) (nI n) ∧ wrt τ 216 (16 * c + o) (16 * c + o + n) (fun i => bN n a (i - (16 * c + o))) (F_X10_write τ (nI o) (lN a) (nI n)) := by
  rw [F_X10_write_eq]
  unfold Q_X10_write Fr_X10_write
  exact lpF (fun f d s => QG_X10_write_L3 (nI o) (lN a) (nI n) f (nI d) s ∧ wrt τ 216 (16 * c + o) (16 * c + o + n) (fun i => bN n a (i - (16 * c + o))) (G_X10_write_L3 (nI o) (lN a) (nI n) f (nI d) s)) (fun d s => wrt τ 216 (16 * c + o) (16 * c + o + d) (fun i => bN n a (i - (16 * c + o))) s) n (by
    intro f s h
    unfold QG_X10_write_L3 G_X10_write_L3
    have c1 : nI n ≤ nI n := nI_le (Nat.le_refl _) (by omega)
    simp only [if_pos c1]
    exact ⟨trivial, h⟩) (by
    intro f d s hd h k
    unfold QG_X10_write_L3 G_X10_write_L3
    have c1 : ¬ nI n ≤ nI d := nI_ge hd (by omega)
    have e0 : s 199 29 = nI c := by rw [h.1 199 (by decide)]; exact e
    have e1 : (16 : Int32) * nI c + nI o + nI d = nI (16 * c + o + d) := by rw [show (16 : Int32) = nI 16 from rfl, pk_mul, nI_add, nI_add]
    have e2 : (8 : Int32) * (nI n - 1 - nI d) = nI (8 * (n - 1 - d)) := by rw [nIs (b := 1) (by omega) 1 rfl, pk_sub (by omega)]; exact pk_mul 8 _
    simp only [if_neg c1, e0, e1, e2, nI_i1, ix_n (show 16 * c + o + d < 2 ^ 31 by omega), ushl_lN ha (show 8 * (n - 1 - d) < 64 by omega), lN_i, b8_b8]
    have q := k (pf s 216 (16 * c + o + d) (nI (a / 2 ^ (8 * (n - 1 - d)))).toInt8.toInt32) (wrt_s (a := 16 * c + o) (i := 16 * c + o + d) h (by omega) (show (nI (a / 2 ^ (8 * (n - 1 - d)))).toInt8.toInt32 = bN n a (16 * c + o + d - (16 * c + o)) by rw [Nat.add_sub_cancel_left]; rfl))
    exact ⟨⟨vp_in_nI (by omega) (by decide), q.1⟩, q.2⟩) 4000 0 τ (Nat.zero_le _) (by omega) wrt_0
abbrev lyd (c m t : Nat) (w b x : Int32) (s : Nat) (τ u : gS) (ζ z : gQ) : Prop := (∀ b, b ≠ 199 → b ≠ 216 → u b = τ b) ∧ (∀ i, u 216 i = if 16 * c ≤ i ∧ i < 16 * c + 16 then rcB m t w b x s (i - 16 * c) else τ 216 i) ∧ (u 199 29 = nI (c + 1)) ∧ (∀ k, k ≠ 29 → u 199 k = τ 199 k) ∧ (z 30 = lN (m + 1)) ∧ (∀ k, k ≠ 30 → z k = ζ k)
theorem lyd.fr {c m t : Nat} {w b x : Int32} {s : Nat} {τ u : gS} {ζ z : gQ} (h : lyd c m t w b x s τ u ζ z) : ∀ b, b ≠ 199 → b ≠ 216 → u b = τ b := h.1
theorem lyd.by_ {c m t : Nat} {w b x : Int32} {s : Nat} {τ u : gS} {ζ z : gQ} (h : lyd c m t w b x s τ u ζ z) : ∀ i, u 216 i = if 16 * c ≤ i ∧ i < 16 * c + 16 then rcB m t w b x s (i - 16 * c) else τ 216 i := h.2.1
theorem lyd.cnt {c m t : Nat} {w b x : Int32} {s : Nat} {τ u : gS} {ζ z : gQ} (h : lyd c m t w b x s τ u ζ z) : u 199 29 = nI (c + 1) := h.2.2.1
theorem lyd.fk {c m t : Nat} {w b x : Int32} {s : Nat} {τ u : gS} {ζ z : gQ} (h : lyd c m t w b x s τ u ζ z) : ∀ k, k ≠ 29 → u 199 k = τ 199 k := h.2.2.2.1
theorem lyd.num {c m t : Nat} {w b x : Int32} {s : Nat} {τ u : gS} {ζ z : gQ} (h : lyd c m t w b x s τ u ζ z) : z 30 = lN (m + 1) := h.2.2.2.2.1
theorem lyd.fz {c m t : Nat} {w b x : Int32} {s : Nat} {τ u : gS} {ζ z : gQ} (h : lyd c m t w b x s τ u ζ z) : ∀ k, k ≠ 30 → z k = ζ k := h.2.2.2.2.2
theorem r_lay {τ : gS} {ζ : gQ} {c m t w b s : Nat} {x : Int32} (hc : c ≤ 96) (hm : m < 2 ^ 63) (ht : t < 2 ^ 63) (hw : w < 2 ^ 31) (hb : b < 2 ^ 31) (hs : s < 2 ^ 63) (hx : pN x) (e : τ 199 29 = nI c) (en : ζ 30 = lN m) (et : ζ 19 = lN t) : Q_X10_lay_ τ ζ (nI w) (nI b) x (lN s) ∧ lyd c m t (nI w) (nI b) x s τ (F_X10_lay_ τ ζ (nI w) (nI b) x (lN s)).1 ζ (F_X10_lay_ τ ζ (nI w) (nI b) x (lN s)).2 := by
  rw [F_X10_lay__eq]
  unfold Q_X10_lay_ Fr_X10_lay_ QJ_X10_lay__53 J_X10_lay__53
  rw [en, et, nI_l hw, nI_l hb]
  dsimp only
  obtain ⟨q1, p1⟩ : Q_X10_write τ 0 (lN m) 4 ∧ wrt τ 216 (16 * c + 0) (16 * c + 0 + 4) (fun i => bN 4 m (i - (16 * c + 0))) (F_X10_write τ 0 (lN m) 4) := r_write (o := 0) (n := 4) hc (by omega) (by omega) hm e
  generalize F_X10_write τ 0 (lN m) 4 = s1 at p1 ⊢
  have e1 : s1 199 29 = nI c := by rw [p1.1 199 (by decide)]; exact e
  obtain ⟨q2, p2⟩ : Q_X10_write s1 4 (lN t) 4 ∧ wrt s1 216 (16 * c + 4) (16 * c + 4 + 4) (fun i => bN 4 t (i - (16 * c + 4))) (F_X10_write s1 4 (lN t) 4) := r_write (o := 4) (n := 4) hc (by omega) (by omega) ht e1
  generalize F_X10_write s1 4 (lN t) 4 = s2 at p2 ⊢
  have e2 : s2 199 29 = nI c := by rw [p2.1 199 (by decide)]; exact e1
  obtain ⟨q3, p3⟩ : Q_X10_write s2 8 (lN w) 1 ∧ wrt s2 216 (16 * c + 8) (16 * c + 8 + 1) (fun i => bN 1 w (i - (16 * c + 8))) (F_X10_write s2 8 (lN w) 1) := r_write (o := 8) (n := 1) hc (by omega) (by omega) (by omega) e2
  generalize F_X10_write s2 8 (lN w) 1 = s3 at p3 ⊢
  have e3 : s3 199 29 = nI c := by rw [p3.1 199 (by decide)]; exact e2
  obtain ⟨q4, p4⟩ : Q_X10_write s3 9 (lN b) 1 ∧ wrt s3 216 (16 * c + 9) (16 * c + 9 + 1) (fun i => bN 1 b (i - (16 * c + 9))) (F_X10_write s3 9 (lN b) 1) := r_write (o := 9) (n := 1) hc (by omega) (by omega) (by omega) e3
  generalize F_X10_write s3 9 (lN b) 1 = s4 at p4 ⊢
  have e4 : s4 199 29 = nI c := by rw [p4.1 199 (by decide)]; exact e3
  have go : ∀ y : Nat, y < 256 → (nI y).toInt8.toInt32 = x.toInt8.toInt32 → ((Q_X10_write s4 10 (lN y) 1) ∧ (Q_X10_write (F_X10_write s4 10 (lN y) 1) 11 0 1) ∧ (Q_X10_write (F_X10_write (F_X10_write s4 10 (lN y) 1) 11 0 1) 12 (lN s) 4) ∧ True) ∧ lyd c m t (nI w) (nI b) x s τ (pf (F_X10_write (F_X10_write (F_X10_write s4 10 (lN y) 1) 11 0 1) 12 (lN s) 4) 199 29 ((F_X10_write (F_X10_write (F_X10_write s4 10 (lN y) 1) 11 0 1) 12 (lN s) 4) 199 29 + 1)) ζ (vp_updL ζ 30 (lN m + 1)) := by
    intro y hy ey
    obtain ⟨q5, p5⟩ : Q_X10_write s4 10 (lN y) 1 ∧ wrt s4 216 (16 * c + 10) (16 * c + 10 + 1) (fun i => bN 1 y (i - (16 * c + 10))) (F_X10_write s4 10 (lN y) 1) := r_write (o := 10) (n := 1) hc (by omega) (by omega) (by omega) e4
    generalize F_X10_write s4 10 (lN y) 1 = s5 at p5 ⊢
    have e5 : s5 199 29 = nI c := by rw [p5.1 199 (by decide)]; exact e4
    obtain ⟨q6, p6⟩ : Q_X10_write s5 11 0 1 ∧ wrt s5 216 (16 * c + 11) (16 * c + 11 + 1) (fun i => bN 1 0 (i - (16 * c + 11))) (F_X10_write s5 11 0 1) := r_write (o := 11) (n := 1) (a := 0) hc (by omega) (by omega) (by omega) e5
    generalize F_X10_write s5 11 0 1 = s6 at p6 ⊢
    have e6 : s6 199 29 = nI c := by rw [p6.1 199 (by decide)]; exact e5
    obtain ⟨q7, p7⟩ : Q_X10_write s6 12 (lN s) 4 ∧ wrt s6 216 (16 * c + 12) (16 * c + 12 + 4) (fun i => bN 4 s (i - (16 * c + 12))) (F_X10_write s6 12 (lN s) 4) := r_write (o := 12) (n := 4) hc (by omega) (by omega) hs e6
    generalize F_X10_write s6 12 (lN s) 4 = s7 at p7 ⊢
    have e7 : s7 199 29 = nI c := by rw [p7.1 199 (by decide)]; exact e6
    have fr : ∀ b, b ≠ 216 → s7 b = τ b := fun b h => by rw [p7.1 b h, p6.1 b h, p5.1 b h, p4.1 b h, p3.1 b h, p2.1 b h, p1.1 b h]
    rw [e7, nI_1, lN_1]
    refine ⟨⟨q5, q6, q7, trivial⟩, fun b h1 h2 => by rw [pf_ne h1, fr b h2], fun i => ?_, pf_s, fun k hk => by rw [pf_i hk, fr 199 (by decide)], pk_uLs, fun k hk => pk_uLn hk⟩
    rw [pf_ne (by decide), p7.2, p6.2, p5.2, p4.2, p3.2, p2.2, p1.2]
    have bw : ∀ q, bN 1 q 0 = (nI q).toInt8.toInt32 := fun q => by unfold bN; rw [show 8 * (1 - 1 - 0) = 0 from rfl, Nat.pow_zero, Nat.div_one]
    by_cases hi : 16 * c ≤ i ∧ i < 16 * c + 16
    · rw [if_pos hi]
      unfold rcB
      by_cases h0 : i < 16 * c + 4
      · rw [if_neg (by omega), if_neg (by omega), if_neg (by omega), if_neg (by omega), if_neg (by omega), if_neg (by omega), if_pos (by omega), if_pos (by omega)]; rfl
      by_cases h1 : i < 16 * c + 8
      · rw [if_neg (by omega), if_neg (by omega), if_neg (by omega), if_neg (by omega), if_neg (by omega), if_pos (by omega), if_neg (by omega), if_pos (by omega)]
        show bN 4 t (i - (16 * c + 4)) = bN 4 t (i - 16 * c - 4)
        rw [Nat.sub_add_eq]
      by_cases h2 : i < 16 * c + 9
      · rw [if_neg (by omega), if_neg (by omega), if_neg (by omega), if_neg (by omega), if_pos (by omega), if_neg (by omega), if_neg (by omega), if_pos (by omega)]
        show bN 1 w (i - (16 * c + 8)) = _
        rw [show i - (16 * c + 8) = 0 by omega, bw]
      by_cases h3 : i < 16 * c + 10
      · rw [if_neg (by omega), if_neg (by omega), if_neg (by omega), if_pos (by omega), if_neg (by omega), if_neg (by omega), if_neg (by omega), if_pos (by omega)]
        show bN 1 b (i - (16 * c + 9)) = _
        rw [show i - (16 * c + 9) = 0 by omega, bw]
      by_cases h4 : i < 16 * c + 11
      · rw [if_neg (by omega), if_neg (by omega), if_pos (by omega), if_neg (by omega), if_neg (by omega), if_neg (by omega), if_neg (by omega), if_pos (by omega)]
        show bN 1 y (i - (16 * c + 10)) = _
        rw [show i - (16 * c + 10) = 0 by omega, bw, ey]
      by_cases h5 : i < 16 * c + 12
      · rw [if_neg (by omega), if_pos (by omega), if_neg (by omega), if_neg (by omega), if_neg (by omega), if_neg (by omega), if_neg (by omega), if_pos (by omega)]
        show bN 1 0 (i - (16 * c + 11)) = _
        rw [show i - (16 * c + 11) = 0 by omega, bw]; rfl
      · rw [if_pos (by omega), if_neg (by omega), if_neg (by omega), if_neg (by omega), if_neg (by omega), if_neg (by omega), if_neg (by omega)]
        show bN 4 s (i - (16 * c + 12)) = bN 4 s (i - 16 * c - 12)
        rw [Nat.sub_add_eq]
    · rw [if_neg hi, if_neg (by omega), if_neg (by omega), if_neg (by omega), if_neg (by omega), if_neg (by omega), if_neg (by omega), if_neg (by omega)]
  rcases hx with rfl | ⟨y, hy, rfl⟩
  · have c1 : ¬ (0 : Int32) ≤ -1 := by decide
    have g := go 255 (by omega) (by decide)
    simp only [if_neg c1]
    exact ⟨⟨q1, q2, q3, q4, g.1⟩, g.2⟩
  · have c1 : (0 : Int32) ≤ nI y := nI_pos' (by omega)
    have g := go y (by omega) rfl
    simp only [if_pos c1]
    rw [nI_l (by omega)]
    exact ⟨⟨q1, q2, q3, q4, g.1⟩, g.2⟩
abbrev rdp (c g : Nat) (τ u : gS) : Prop := (∀ b, b ≠ 199 → b ≠ 216 → u b = τ b) ∧ (∀ i, i < 16 * (c - g) → u 216 i = (τ 216 (i + 16 * g)).toInt8.toInt32) ∧ (u 199 29 = nI (c - g)) ∧ (∀ k, k ≠ 29 → u 199 k = τ 199 k)
theorem rdp.fr {c g : Nat} {τ u : gS} (h : rdp c g τ u) : ∀ b, b ≠ 199 → b ≠ 216 → u b = τ b := h.1
theorem rdp.by_ {c g : Nat} {τ u : gS} (h : rdp c g τ u) : ∀ i, i < 16 * (c - g) → u 216 i = (τ 216 (i + 16 * g)).toInt8.toInt32 := h.2.1
theorem rdp.cnt {c g : Nat} {τ u : gS} (h : rdp c g τ u) : u 199 29 = nI (c - g) := h.2.2.1
theorem rdp.fk {c g : Nat} {τ u : gS} (h : rdp c g τ u) : ∀ k, k ≠ 29 → u 199 k = τ 199 k := h.2.2.2
theorem r_drop {τ : gS} {c g : Nat} (hc : c ≤ 97) (hg : g ≤ c) (e : τ 199 29 = nI c) : Q_X10_drop τ (nI g) ∧ rdp c g τ (F_X10_drop τ (nI g)) := by
  rw [F_X10_drop_eq]
  unfold Q_X10_drop Fr_X10_drop
  rw [e, pk_sub hg]
  have k9 : pf τ 199 29 (nI (c - g)) 199 29 = nI (c - g) := pf_s
  have kf : ∀ b, b ≠ 199 → pf τ 199 29 (nI (c - g)) b = τ b := fun b h => pf_ne h
  have kk : ∀ k, k ≠ 29 → pf τ 199 29 (nI (c - g)) 199 k = τ 199 k := fun k h => pf_i h
  generalize pf τ 199 29 (nI (c - g)) = r at k9 kf kk ⊢
  have lp := lpF (fun f d s => QG_X10_drop_L12 (nI g) f (nI d) s ∧ (∀ b, b ≠ 216 → G_X10_drop_L12 (nI g) f (nI d) s b = r b) ∧ ∀ i, i < 16 * (c - g) → G_X10_drop_L12 (nI g) f (nI d) s 216 i = (τ 216 (i + 16 * g)).toInt8.toInt32) (fun d s => (∀ b, b ≠ 216 → s b = r b) ∧ (∀ i, i < d → s 216 i = (τ 216 (i + 16 * g)).toInt8.toInt32) ∧ ∀ i, d ≤ i → s 216 i = τ 216 i) (16 * (c - g)) (by
    intro f s h
    unfold QG_X10_drop_L12 G_X10_drop_L12
    have e1 : (16 : Int32) * s 199 29 = nI (16 * (c - g)) := by rw [h.1 199 (by decide), k9]; exact pk_mul 16 _
    have c1 : (16 : Int32) * s 199 29 ≤ nI (16 * (c - g)) := by rw [e1]; exact nI_le (Nat.le_refl _) (by omega)
    simp only [if_pos c1]
    exact ⟨trivial, h.1, h.2.1⟩) (by
    intro f d s hd h k
    unfold QG_X10_drop_L12 G_X10_drop_L12
    have e1 : (16 : Int32) * s 199 29 = nI (16 * (c - g)) := by rw [h.1 199 (by decide), k9]; exact pk_mul 16 _
    have c1 : ¬ (16 : Int32) * s 199 29 ≤ nI d := by rw [e1]; exact nI_ge hd (by omega)
    have e2 : nI d + (16 : Int32) * nI g = nI (d + 16 * g) := by rw [show (16 : Int32) = nI 16 from rfl, pk_mul, nI_add]
    simp only [if_neg c1, e2, nI_i1, ix_n (show d < 2 ^ 31 by omega), ix_n (show d + 16 * g < 2 ^ 31 by omega)]
    have q := k (pf s 216 d (s 216 (d + 16 * g)).toInt8.toInt32) ⟨fun b hb => (pf_ne hb).trans (h.1 b hb), fun i hi => by
      rw [pf_v]
      by_cases z : i = d
      · subst z; rw [if_pos rfl, h.2.2 _ (by omega)]
      · rw [if_neg z]; exact h.2.1 i (by omega), fun i hi => by rw [pf_i (by omega)]; exact h.2.2 i (by omega)⟩
    exact ⟨⟨vp_in_nI (by omega) (by decide), vp_in_nI (by omega) (by decide), q.1⟩, q.2⟩) 4000 0 r (Nat.zero_le _) (by omega) ⟨fun _ _ => rfl, fun i hi => absurd hi (by omega), fun i _ => by rw [kf 216 (by decide)]⟩
  refine ⟨lp.1, fun b h1 h2 => (lp.2.1 b h2).trans (kf b h1), lp.2.2, ?_, fun k hk => ?_⟩
  · exact (congrFun (lp.2.1 199 (by decide)) 29).trans k9
  · exact (congrFun (lp.2.1 199 (by decide)) k).trans (kk k hk)
