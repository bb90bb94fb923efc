/-! The constructors. While they run: n places are there; m tells which references are set, κ how far arrays of references are filled -/
abbrev gK : Type := Nat → Nat → Bool
def mset (m : gK) (j k : Nat) : gK := fun a b => if a = j ∧ b = k then true else m a b
def rfm (b : Bool) (r : Nat) : Value := match b with
  | true => .ref r
  | false => .null
def cN1 (m : gK) (κ : Nat → Nat) (σ : gS) (j : Nat) : va_E := match j with
  | 0 => .inr (9, [rfm (m 0 0) 1, rfm (m 0 1) 3, .int (σ 0 2), rfm (m 0 3) 5, .int (σ 0 4), .int (σ 0 5), .int (σ 0 6), .int (σ 0 7), .int (σ 0 8), .int (σ 0 9), .int (σ 0 10), .int (σ 0 11), rfm (m 0 12) 6, rfm (m 0 13) 7, rfm (m 0 14) 12, rfm (m 0 15) 15, rfm (m 0 16) 18, rfm (m 0 17) 19, rfm (m 0 18) 21])
  | 1 => .inr (0, [rfm (m 1 0) 2, .int (σ 1 1)])
  | 2 => .inl (1, 400, .inl (σ 2))
  | 3 => .inr (0, [rfm (m 3 0) 4, .int (σ 3 1)])
  | 4 => .inl (1, 400, .inl (σ 4))
  | 5 => .inl (3, 16, .inr (.inr (.inr (.inr (fun c => if c < κ 5 then some (23 + 11 * c) else none)))))
  | 6 => .inl (0, 9, .inl (σ 6))
  | 7 => .inr (7, [rfm (m 7 0) 8, rfm (m 7 1) 9, rfm (m 7 2) 10, rfm (m 7 3) 11])
  | 8 => .inl (0, 4, .inl (σ 8))
  | 9 => .inl (1, 512, .inl (σ 9))
  | 10 => .inl (0, 64, .inl (σ 10))
  | 11 => .inl (0, 8, .inl (σ 11))
  | 12 => .inr (4, [rfm (m 12 0) 13, rfm (m 12 1) 14, .int (σ 12 2)])
  | 13 => .inl (0, 7, .inl (σ 13))
  | 14 => .inl (0, 28, .inl (σ 14))
  | 15 => .inr (3, [rfm (m 15 0) 16, .int (σ 15 1), .int (σ 15 2), .int (σ 15 3), .int (σ 15 4), .int (σ 15 5), .int (σ 15 6)])
  | 16 => .inr (0, [rfm (m 16 0) 17, .int (σ 16 1)])
  | 17 => .inl (1, 1536, .inl (σ 17))
  | 18 => .inr (5, [.int (σ 18 0), .int (σ 18 1), .int (σ 18 2), .int (σ 18 3)])
  | 19 => .inr (6, [rfm (m 19 0) 20, .int (σ 19 1), .int (σ 19 2), .int (σ 19 3), .int (σ 19 4), .int (σ 19 5)])
  | 20 => .inr (8, [.int (σ 20 0), .int (σ 20 1), .int (σ 20 2), .int (σ 20 3), .int (σ 20 4), .int (σ 20 5), .int (σ 20 6), .int (σ 20 7), .int (σ 20 8)])
  | 21 => .inr (2, [rfm (m 21 0) 22, .int (σ 21 1), .int (σ 21 2), .int (σ 21 3), .int (σ 21 4), .int (σ 21 5), .int (σ 21 6), .int (σ 21 7)])
  | 22 => .inr (8, [.int (σ 22 0), .int (σ 22 1), .int (σ 22 2), .int (σ 22 3), .int (σ 22 4), .int (σ 22 5), .int (σ 22 6), .int (σ 22 7), .int (σ 22 8)])
  | _ => .inr (0, [])
def cN2 (m : gK) (κ : Nat → Nat) (σ : gS) (j r : Nat) : va_E := match r with
  | 0 => .inr (1, [rfm (m j 0) (j + 1), rfm (m j 1) (j + 2), .int (σ j 2)])
  | 1 => .inl (4, 4, .inr (.inr (.inr (.inr (fun p => if p < κ j then some (j + 2 + 2 * p) else none)))))
  | 2 => .inl (0, 4, .inl (σ j))
  | 3 => .inr (0, [rfm (m j 0) (j + 1), .int (σ j 1)])
  | 5 => .inr (0, [rfm (m j 0) (j + 1), .int (σ j 1)])
  | 7 => .inr (0, [rfm (m j 0) (j + 1), .int (σ j 1)])
  | 9 => .inr (0, [rfm (m j 0) (j + 1), .int (σ j 1)])
  | _ => .inl (1, 48, .inl (σ j))
def cN3 (m : gK) (σ : gS) (ζ : gQ) (j : Nat) : va_E := match j with
  | 199 => .inr (10, [rfm (m 199 0) 200, .int (σ 199 1), rfm (m 199 2) 201, rfm (m 199 3) 202, rfm (m 199 4) 203, rfm (m 199 5) 204, rfm (m 199 6) 205, rfm (m 199 7) 206, rfm (m 199 8) 207, rfm (m 199 9) 208, .int (σ 199 10), rfm (m 199 11) 209, rfm (m 199 12) 210, rfm (m 199 13) 211, rfm (m 199 14) 212, rfm (m 199 15) 213, rfm (m 199 16) 214, .int (σ 199 17), .int (σ 199 18), .long (ζ 19), .int (σ 199 20), .int (σ 199 21), .int (σ 199 22), .int (σ 199 23), rfm (m 199 24) 215, .int (σ 199 25), .int (σ 199 26), .int (σ 199 27), rfm (m 199 28) 216, .int (σ 199 29), .long (ζ 30), .int (σ 199 31), .int (σ 199 32), .int (σ 199 33), rfm (m 199 34) 217, .int (σ 199 35), .long (ζ 36), .long (ζ 37), .int (σ 199 38), .int (σ 199 39), .int (σ 199 40), .int (σ 199 41), .int (σ 199 42), .int (σ 199 43), .long (ζ 44), .int (σ 199 45), .int (σ 199 46), .int (σ 199 47), .int (σ 199 48), .int (σ 199 49), .int (σ 199 50), rfm (m 199 51) 218, .int (σ 199 52), .long (ζ 53)])
  | 200 => .inl (1, 400, .inl (σ 200))
  | 201 => .inl (0, 64, .inl (σ 201))
  | 202 => .inl (0, 64, .inl (σ 202))
  | 203 => .inl (0, 8, .inl (σ 203))
  | 204 => .inl (0, 8, .inl (σ 204))
  | 205 => .inl (0, 64, .inl (σ 205))
  | 206 => .inl (1, 64, .inl (σ 206))
  | 207 => .inl (1, 32, .inl (σ 207))
  | 208 => .inl (1, 32, .inl (σ 208))
  | 209 => .inl (1, 16, .inl (σ 209))
  | 210 => .inl (1, 3072, .inl (σ 210))
  | 211 => .inl (0, 64, .inl (σ 211))
  | 212 => .inl (2, 16, .inl (σ 212))
  | 213 => .inl (0, 7, .inl (σ 213))
  | 214 => .inl (1, 112, .inl (σ 214))
  | 215 => .inl (1, 400, .inl (σ 215))
  | 216 => .inl (1, 1552, .inl (σ 216))
  | 217 => .inl (0, 9, .inl (σ 217))
  | 218 => .inl (1, 385, .inl (σ 218))
  | _ => .inr (0, [])
def cN (m : gK) (κ : Nat → Nat) (σ : gS) (ζ : gQ) (j : Nat) : va_E := if j < 23 then cN1 m κ σ j else if j < 199 then cN2 m κ σ j ((j - 23) % 11) else cN3 m σ ζ j
def hq (n : Nat) (m : gK) (κ : Nat → Nat) (σ : gS) (ζ : gQ) : gH := (List.range n).map (cN m κ σ ζ)
theorem hq_at {n : Nat} {m : gK} {κ : Nat → Nat} {σ : gS} {ζ : gQ} {j : Nat} (h : j < n) : (hq n m κ σ ζ)[j]? = some (cN m κ σ ζ j) := by
  unfold hq
  rw [List.getElem?_map, List.getElem?_range h]
  rfl
theorem hq_len (n : Nat) (m : gK) (κ : Nat → Nat) (σ : gS) (ζ : gQ) : (hq n m κ σ ζ).length = n := by unfold hq; rw [List.length_map, List.length_range]
theorem hq_push {n : Nat} {m : gK} {κ : Nat → Nat} {σ : gS} {ζ : gQ} {e : va_E} (he : cN m κ σ ζ n = e) : hq n m κ σ ζ ++ [e] = hq (n + 1) m κ σ ζ := by
  unfold hq
  rw [List.range_succ, List.map_append, List.map_cons, List.map_nil, he]
/-- what place i is doesn't hang on the others -/
theorem cN_ext {m m1 : gK} {κ κ1 : Nat → Nat} {σ σ1 : gS} {ζ ζ1 : gQ} {i : Nat} (hm : m1 i = m i) (hk : κ1 i = κ i) (hs : σ1 i = σ i) (hz : i = 199 → ζ1 = ζ) : cN m1 κ1 σ1 ζ1 i = cN m κ σ ζ i := by
  unfold cN
  by_cases h1 : i < 23
  · rw [if_pos h1, if_pos h1]
    unfold cN1
    split <;> first | rfl | simp only [hm, hk, hs]
  · rw [if_neg h1, if_neg h1]
    by_cases h2 : i < 199
    · rw [if_pos h2, if_pos h2]
      unfold cN2
      split <;> first | rfl | simp only [hm, hk, hs]
    · rw [if_neg h2, if_neg h2]
      unfold cN3
      split <;> first | rfl | (simp only [hm, hs, hz rfl]; done) | (simp only [hm, hs]; done)
theorem hq_set {n : Nat} {m m1 : gK} {κ κ1 : Nat → Nat} {σ σ1 : gS} {ζ ζ1 : gQ} {j : Nat} {e : va_E} (h : j < n) (he : cN m1 κ1 σ1 ζ1 j = e) (ho : ∀ i, i ≠ j → cN m1 κ1 σ1 ζ1 i = cN m κ σ ζ i) : (hq n m κ σ ζ).set j e = hq n m1 κ1 σ1 ζ1 := by
  apply List.ext_getElem?
  intro i
  by_cases hi : i = j
  · subst hi
    rw [List.getElem?_set_self (by rw [hq_len]; exact h), hq_at h, he]
  · rw [List.getElem?_set_ne (Ne.symm hi)]
    by_cases hN : i < n
    · rw [hq_at hN, hq_at hN, ho i hi]
    · rw [List.getElem?_eq_none (by rw [hq_len]; omega), List.getElem?_eq_none (by rw [hq_len]; omega)]
theorem hq_pf {n : Nat} {m : gK} {κ : Nat → Nat} {σ : gS} {ζ : gQ} {j ci k : Nat} {fs : List Value} {x : Int32} (h : j < n) (hr : cN m κ (pf σ j k x) ζ j = .inr (ci, fs.set k (.int x))) : (hq n m κ σ ζ).set j (.inr (ci, fs.set k (.int x))) = hq n m κ (pf σ j k x) ζ := hq_set h hr (fun i hi => cN_ext rfl rfl (vu_n hi) (fun _ => rfl))
theorem hq_pa {n : Nat} {m : gK} {κ : Nat → Nat} {σ : gS} {ζ : gQ} {j t N i : Nat} {x : Int32} (h : j < n) (hr : cN m κ (pf σ j i x) ζ j = .inl (t, N, .inl (upd (σ j) i x))) : (hq n m κ σ ζ).set j (.inl (t, N, .inl (upd (σ j) i x))) = hq n m κ (pf σ j i x) ζ := hq_set h hr (fun i hi => cN_ext rfl rfl (vu_n hi) (fun _ => rfl))
theorem hq_pc {n : Nat} {m : gK} {κ : Nat → Nat} {σ : gS} {ζ : gQ} {j : Nat} {f : Nat → Int32} {e : va_E} (h : j < n) (hr : cN m κ (va_up σ j f) ζ j = e) : (hq n m κ σ ζ).set j e = hq n m κ (va_up σ j f) ζ := hq_set h hr (fun i hi => cN_ext rfl rfl (vu_n hi) (fun _ => rfl))
theorem hq_ms {n : Nat} {m : gK} {κ : Nat → Nat} {σ : gS} {ζ : gQ} {j ci k r : Nat} {fs : List Value} (h : j < n) (hr : cN (mset m j k) κ σ ζ j = .inr (ci, fs.set k (.ref r))) : (hq n m κ σ ζ).set j (.inr (ci, fs.set k (.ref r))) = hq n (mset m j k) κ σ ζ := hq_set h hr (fun i hi => cN_ext (by funext b; unfold mset; rw [if_neg (fun z => hi z.1)]) rfl rfl (fun _ => rfl))
theorem hq_pz {n : Nat} {m : gK} {κ : Nat → Nat} {σ : gS} {ζ : gQ} {k : Nat} {fs : List Value} {x : Int64} (h : 199 < n) (hr : cN m κ σ (vp_updL ζ k x) 199 = .inr (10, fs.set k (.long x))) : (hq n m κ σ ζ).set 199 (.inr (10, fs.set k (.long x))) = hq n m κ σ (vp_updL ζ k x) := hq_set h hr (fun i hi => cN_ext rfl rfl rfl (fun z => absurd z hi))
theorem fill_up {gf : Nat → Nat} {i b : Nat} (hb : gf i = b) : va_up (fun c => if c < i then some (gf c) else none) i (some b) = fun c => if c < i + 1 then some (gf c) else none := by
  funext c
  unfold va_up
  by_cases h : c = i
  · rw [if_pos h, if_pos (by omega), h, hb]
  · rw [if_neg h]
    show (if c < i then some (gf c) else none) = _
    by_cases h2 : c < i
    · rw [if_pos h2, if_pos (by omega)]
    · rw [if_neg h2, if_neg (by omega)]
theorem hq_a5 {n : Nat} {m : gK} {κ : Nat → Nat} {σ : gS} {ζ : gQ} {x : Int32} {i b : Nat} (h : 5 < n) (hx : x.toNatClampNeg = i) (hk : κ 5 = i) (hb : 23 + 11 * i = b) : (hq n m κ σ ζ).set 5 (.inl (3, 16, .inr (.inr (.inr (.inr (va_up (fun c => if c < κ 5 then some (23 + 11 * c) else none) x.toNatClampNeg (some b))))))) = hq n m (va_up κ 5 (i + 1)) σ ζ := by
  rw [hx]
  refine hq_set h ?_ (fun j hj => cN_ext rfl (vu_n hj) rfl (fun _ => rfl))
  rw [hk, fill_up (gf := fun c => 23 + 11 * c) hb]
  rfl
theorem hq_aR {n : Nat} {m : gK} {κ : Nat → Nat} {σ : gS} {ζ : gQ} {x : Int32} {c i b : Nat} (hc : c < 16) (h : 23 + 11 * c + 1 < n) (hx : x.toNatClampNeg = i) (hk : κ (23 + 11 * c + 1) = i) (hb : 23 + 11 * c + 1 + 2 + 2 * i = b) : (hq n m κ σ ζ).set (23 + 11 * c + 1) (.inl (4, 4, .inr (.inr (.inr (.inr (va_up (fun p => if p < κ (23 + 11 * c + 1) then some (23 + 11 * c + 1 + 2 + 2 * p) else none) x.toNatClampNeg (some b))))))) = hq n m (va_up κ (23 + 11 * c + 1) (i + 1)) σ ζ := by
  rw [hx]
  refine hq_set h ?_ (fun j hj => cN_ext rfl (vu_n hj) rfl (fun _ => rfl))
  rw [hk, fill_up (gf := fun p => 23 + 11 * c + 1 + 2 + 2 * p) hb]
  unfold cN
  rw [if_neg (by omega), if_pos (by omega), show (23 + 11 * c + 1 - 23) % 11 = 1 by omega]
  show Sum.inl (4, 4, _) = _
  rw [vu_s]
/-- nothing is set from n on -/
def gfr (n : Nat) (m : gK) (κ : Nat → Nat) (σ : gS) : Prop := ∀ k, n ≤ k → m k = (fun _ => false) ∧ κ k = 0 ∧ σ k = fun _ => 0
theorem gfr_u {n n1 : Nat} {m : gK} {κ : Nat → Nat} {σ : gS} (h : n ≤ n1) (hz : gfr n m κ σ) : gfr n1 m κ σ := fun k hk => hz k (Nat.le_trans h hk)
theorem gfr_m {n j k : Nat} {m : gK} {κ : Nat → Nat} {σ : gS} (h : j < n) (hz : gfr n m κ σ) : gfr n (mset m j k) κ σ := fun i hi => ⟨by funext b; unfold mset; rw [if_neg (fun z => by omega), (hz i hi).1], (hz i hi).2⟩
theorem gfr_k {n j v : Nat} {m : gK} {κ : Nat → Nat} {σ : gS} (h : j < n) (hz : gfr n m κ σ) : gfr n m (va_up κ j v) σ := fun i hi => ⟨(hz i hi).1, by rw [vu_n (by omega)]; exact (hz i hi).2.1, (hz i hi).2.2⟩
theorem gfr_c {n j : Nat} {f : Nat → Int32} {m : gK} {κ : Nat → Nat} {σ : gS} (h : j < n) (hz : gfr n m κ σ) : gfr n m κ (va_up σ j f) := fun i hi => ⟨(hz i hi).1, (hz i hi).2.1, by rw [vu_n (by omega)]; exact (hz i hi).2.2⟩
theorem gfr_p {n j k : Nat} {x : Int32} {m : gK} {κ : Nat → Nat} {σ : gS} (h : j < n) (hz : gfr n m κ σ) : gfr n m κ (pf σ j k x) := gfr_c h hz
theorem cN_new {n : Nat} {m : gK} {κ : Nat → Nat} {σ : gS} {ζ : gQ} {e : va_E} (hz : gfr n m κ σ) (h : n = 199 → ζ = fun _ => 0) (he : cN (fun _ _ => false) (fun _ => 0) (fun _ _ => 0) (fun _ => 0) n = e) : cN m κ σ ζ n = e := by
  rw [← he]
  exact cN_ext (hz n (Nat.le_refl n)).1 (hz n (Nat.le_refl n)).2.1 (hz n (Nat.le_refl n)).2.2 h
theorem g_heq {l : Launch} {g : gE} {M : gM} {R : Room} {Z : gZ} {pc : Nat} {L : List (Nat × Value)} {st st1 : List Value} {h h1 : gH} {c n : Nat} (e : h = h1) (es : st = st1) (k : gG l g M R Z pc L st1 h1 c n) : gG l g M R Z pc L st h c n := by
  subst e; subst es; exact k
abbrev rmc (f c s lo : Nat) : Room := { frames := f, cells := c, slots := s, locals := lo }
theorem nf_X0 (g : gE) : ∀ j, j < 2 → defaultValue (tyX0 j) = vp_V (([.null, .int 0] : List Value).map (gv g)) j := by
  show ∀ j, j < 2 → defaultValue (tyX0 j) = vp_V [.null, .int 0] j
  decide
theorem nf_X1 (g : gE) : ∀ j, j < 3 → defaultValue (tyX1 j) = vp_V (([.null, .null, .int 0] : List Value).map (gv g)) j := by
  show ∀ j, j < 3 → defaultValue (tyX1 j) = vp_V [.null, .null, .int 0] j
  decide
theorem nf_X2 (g : gE) : ∀ j, j < 8 → defaultValue (tyX2 j) = vp_V (([.null, .int 0, .int 0, .int 0, .int 0, .int 0, .int 0, .int 0] : List Value).map (gv g)) j := by
  show ∀ j, j < 8 → defaultValue (tyX2 j) = vp_V [.null, .int 0, .int 0, .int 0, .int 0, .int 0, .int 0, .int 0] j
  decide
theorem nf_X3 (g : gE) : ∀ j, j < 7 → defaultValue (tyX3 j) = vp_V (([.null, .int 0, .int 0, .int 0, .int 0, .int 0, .int 0] : List Value).map (gv g)) j := by
  show ∀ j, j < 7 → defaultValue (tyX3 j) = vp_V [.null, .int 0, .int 0, .int 0, .int 0, .int 0, .int 0] j
  decide
theorem nf_X4 (g : gE) : ∀ j, j < 3 → defaultValue (tyX4 j) = vp_V (([.null, .null, .int 0] : List Value).map (gv g)) j := by
  show ∀ j, j < 3 → defaultValue (tyX4 j) = vp_V [.null, .null, .int 0] j
  decide
theorem nf_X5 (g : gE) : ∀ j, j < 4 → defaultValue (tyX5 j) = vp_V (([.int 0, .int 0, .int 0, .int 0] : List Value).map (gv g)) j := by
  show ∀ j, j < 4 → defaultValue (tyX5 j) = vp_V [.int 0, .int 0, .int 0, .int 0] j
  decide
theorem nf_X6 (g : gE) : ∀ j, j < 6 → defaultValue (tyX6 j) = vp_V (([.null, .int 0, .int 0, .int 0, .int 0, .int 0] : List Value).map (gv g)) j := by
  show ∀ j, j < 6 → defaultValue (tyX6 j) = vp_V [.null, .int 0, .int 0, .int 0, .int 0, .int 0] j
  decide
theorem nf_X7 (g : gE) : ∀ j, j < 4 → defaultValue (tyX7 j) = vp_V (([.null, .null, .null, .null] : List Value).map (gv g)) j := by
  show ∀ j, j < 4 → defaultValue (tyX7 j) = vp_V [.null, .null, .null, .null] j
  decide
theorem nf_X8 (g : gE) : ∀ j, j < 9 → defaultValue (tyX8 j) = vp_V (([.int 0, .int 0, .int 0, .int 0, .int 0, .int 0, .int 0, .int 0, .int 0] : List Value).map (gv g)) j := by
  show ∀ j, j < 9 → defaultValue (tyX8 j) = vp_V [.int 0, .int 0, .int 0, .int 0, .int 0, .int 0, .int 0, .int 0, .int 0] j
  decide
theorem nf_X9 (g : gE) : ∀ j, j < 19 → defaultValue (tyX9 j) = vp_V (([.null, .null, .int 0, .null, .int 0, .int 0, .int 0, .int 0, .int 0, .int 0, .int 0, .int 0, .null, .null, .null, .null, .null, .null, .null] : List Value).map (gv g)) j := by
  show ∀ j, j < 19 → defaultValue (tyX9 j) = vp_V [.null, .null, .int 0, .null, .int 0, .int 0, .int 0, .int 0, .int 0, .int 0, .int 0, .int 0, .null, .null, .null, .null, .null, .null, .null] j
  decide
theorem nf_X10 (g : gE) : ∀ j, j < 54 → defaultValue (tyX10 j) = vp_V (([.null, .int 0, .null, .null, .null, .null, .null, .null, .null, .null, .int 0, .null, .null, .null, .null, .null, .null, .int 0, .int 0, .long 0, .int 0, .int 0, .int 0, .int 0, .null, .int 0, .int 0, .int 0, .null, .int 0, .long 0, .int 0, .int 0, .int 0, .null, .int 0, .long 0, .long 0, .int 0, .int 0, .int 0, .int 0, .int 0, .int 0, .long 0, .int 0, .int 0, .int 0, .int 0, .int 0, .int 0, .null, .int 0, .long 0] : List Value).map (gv g)) j := by
  show ∀ j, j < 54 → defaultValue (tyX10 j) = vp_V [.null, .int 0, .null, .null, .null, .null, .null, .null, .null, .null, .int 0, .null, .null, .null, .null, .null, .null, .int 0, .int 0, .long 0, .int 0, .int 0, .int 0, .int 0, .null, .int 0, .int 0, .int 0, .null, .int 0, .long 0, .int 0, .int 0, .int 0, .null, .int 0, .long 0, .long 0, .int 0, .int 0, .int 0, .int 0, .int 0, .int 0, .long 0, .int 0, .int 0, .int 0, .int 0, .int 0, .int 0, .null, .int 0, .long 0] j
  decide
