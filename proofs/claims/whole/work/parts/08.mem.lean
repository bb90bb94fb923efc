/-! The state: σ, the ints of each place (an object's fields, an array's contents); ζ, the longs of the reference's object. The graph of the objects never changes behind the constructors. -/
abbrev gS : Type := Nat → Nat → Int32
abbrev gQ : Type := Nat → Int64
def cA1 (σ : gS) (ζ : gQ) (j : Nat) : va_E := match j with
  | 0 => .inr (9, [.ref 1, .ref 3, .int (σ 0 2), .ref 5, .int (σ 0 4), .int (σ 0 5), .int (σ 0 6), .int (σ 0 7), .int (σ 0 8), .int (σ 0 9), .int (σ 0 10), .int (σ 0 11), .ref 6, .ref 7, .ref 12, .ref 15, .ref 18, .ref 19, .ref 21])
  | 1 => .inr (0, [.ref 2, .int (σ 1 1)])
  | 2 => .inl (1, 400, .inl (σ 2))
  | 3 => .inr (0, [.ref 4, .int (σ 3 1)])
  | 4 => .inl (1, 400, .inl (σ 4))
  | 5 => .inl (3, 16, .inr (.inr (.inr (.inr (fun c => if c < 16 then some (23 + 11 * c) else none)))))
  | 6 => .inl (0, 9, .inl (σ 6))
  | 7 => .inr (7, [.ref 8, .ref 9, .ref 10, .ref 11])
  | 8 => .inl (0, 4, .inl (σ 8))
  | 9 => .inl (1, 512, .inl (σ 9))
  | 10 => .inl (0, 64, .inl (σ 10))
  | 11 => .inl (0, 8, .inl (σ 11))
  | 12 => .inr (4, [.ref 13, .ref 14, .int (σ 12 2)])
  | 13 => .inl (0, 7, .inl (σ 13))
  | 14 => .inl (0, 28, .inl (σ 14))
  | 15 => .inr (3, [.ref 16, .int (σ 15 1), .int (σ 15 2), .int (σ 15 3), .int (σ 15 4), .int (σ 15 5), .int (σ 15 6)])
  | 16 => .inr (0, [.ref 17, .int (σ 16 1)])
  | 17 => .inl (1, 1536, .inl (σ 17))
  | 18 => .inr (5, [.int (σ 18 0), .int (σ 18 1), .int (σ 18 2), .int (σ 18 3)])
  | 19 => .inr (6, [.ref 20, .int (σ 19 1), .int (σ 19 2), .int (σ 19 3), .int (σ 19 4), .int (σ 19 5)])
  | 20 => .inr (8, [.int (σ 20 0), .int (σ 20 1), .int (σ 20 2), .int (σ 20 3), .int (σ 20 4), .int (σ 20 5), .int (σ 20 6), .int (σ 20 7), .int (σ 20 8)])
  | 21 => .inr (2, [.ref 22, .int (σ 21 1), .int (σ 21 2), .int (σ 21 3), .int (σ 21 4), .int (σ 21 5), .int (σ 21 6), .int (σ 21 7)])
  | 22 => .inr (8, [.int (σ 22 0), .int (σ 22 1), .int (σ 22 2), .int (σ 22 3), .int (σ 22 4), .int (σ 22 5), .int (σ 22 6), .int (σ 22 7), .int (σ 22 8)])
  | _ => .inr (0, [])
def cA2 (σ : gS) (j : Nat) (r : Nat) : va_E := match r with
  | 0 => .inr (1, [.ref (j + 1), .ref (j + 2), .int (σ j 2)])
  | 1 => .inl (4, 4, .inr (.inr (.inr (.inr (fun p => if p < 4 then some (j + 2 + 2 * p) else none)))))
  | 2 => .inl (0, 4, .inl (σ j))
  | 3 => .inr (0, [.ref (j + 1), .int (σ j 1)])
  | 5 => .inr (0, [.ref (j + 1), .int (σ j 1)])
  | 7 => .inr (0, [.ref (j + 1), .int (σ j 1)])
  | 9 => .inr (0, [.ref (j + 1), .int (σ j 1)])
  | _ => .inl (1, 48, .inl (σ j))
def cA3 (σ : gS) (ζ : gQ) (j : Nat) : va_E := match j with
  | 199 => .inr (10, [.ref 200, .int (σ 199 1), .ref 201, .ref 202, .ref 203, .ref 204, .ref 205, .ref 206, .ref 207, .ref 208, .int (σ 199 10), .ref 209, .ref 210, .ref 211, .ref 212, .ref 213, .ref 214, .int (σ 199 17), .int (σ 199 18), .long (ζ 19), .int (σ 199 20), .int (σ 199 21), .int (σ 199 22), .int (σ 199 23), .ref 215, .int (σ 199 25), .int (σ 199 26), .int (σ 199 27), .ref 216, .int (σ 199 29), .long (ζ 30), .int (σ 199 31), .int (σ 199 32), .int (σ 199 33), .ref 217, .int (σ 199 35), .long (ζ 36), .long (ζ 37), .int (σ 199 38), .int (σ 199 39), .int (σ 199 40), .int (σ 199 41), .int (σ 199 42), .int (σ 199 43), .long (ζ 44), .int (σ 199 45), .int (σ 199 46), .int (σ 199 47), .int (σ 199 48), .int (σ 199 49), .int (σ 199 50), .ref 218, .int (σ 199 52), .long (ζ 53)])
  | 200 => .inl (1, 400, .inl (σ 200))
  | 201 => .inl (0, 64, .inl (σ 201))
  | 202 => .inl (0, 64, .inl (σ 202))
  | 203 => .inl (0, 8, .inl (σ 203))
  | 204 => .inl (0, 8, .inl (σ 204))
  | 205 => .inl (0, 64, .inl (σ 205))
  | 206 => .inl (1, 64, .inl (σ 206))
  | 207 => .inl (1, 32, .inl (σ 207))
  | 208 => .inl (1, 32, .inl (σ 208))
  | 209 => .inl (1, 16, .inl (σ 209))
  | 210 => .inl (1, 3072, .inl (σ 210))
  | 211 => .inl (0, 64, .inl (σ 211))
  | 212 => .inl (2, 16, .inl (σ 212))
  | 213 => .inl (0, 7, .inl (σ 213))
  | 214 => .inl (1, 112, .inl (σ 214))
  | 215 => .inl (1, 400, .inl (σ 215))
  | 216 => .inl (1, 1552, .inl (σ 216))
  | 217 => .inl (0, 9, .inl (σ 217))
  | 218 => .inl (1, 385, .inl (σ 218))
  | _ => .inr (0, [])
def cE (σ : gS) (ζ : gQ) (j : Nat) : va_E := if j < 23 then cA1 σ ζ j else if j < 199 then cA2 σ j ((j - 23) % 11) else cA3 σ ζ j
def hp (σ : gS) (ζ : gQ) : gH := (List.range 219).map (cE σ ζ)
theorem hp_at {σ : gS} {ζ : gQ} {j : Nat} (h : j < 219) : (hp σ ζ)[j]? = some (cE σ ζ j) := by
  unfold hp
  rw [List.getElem?_map, List.getElem?_range h]
  rfl
theorem hp_len (σ : gS) (ζ : gQ) : (hp σ ζ).length = 219 := by unfold hp; rw [List.length_map, List.length_range]
theorem cE_ne {σ : gS} {ζ : gQ} {f : Nat → Int32} {j i : Nat} (h : i ≠ j) : cE (va_up σ j f) ζ i = cE σ ζ i := by
  have e : va_up σ j f i = σ i := by unfold va_up; rw [if_neg h]
  unfold cE
  by_cases h1 : i < 23
  · rw [if_pos h1, if_pos h1]
    unfold cA1
    split <;> first | rfl | simp only [e]
  · rw [if_neg h1, if_neg h1]
    by_cases h2 : i < 199
    · rw [if_pos h2, if_pos h2]
      unfold cA2
      split <;> first | rfl | simp only [e]
    · rw [if_neg h2, if_neg h2]
      unfold cA3
      split <;> first | rfl | simp only [e]
theorem cE_z {σ : gS} {ζ ζ1 : gQ} {i : Nat} (h : i ≠ 199) : cE σ ζ1 i = cE σ ζ i := by
  unfold cE
  by_cases h1 : i < 23
  · rw [if_pos h1, if_pos h1]; unfold cA1; split <;> rfl
  · rw [if_neg h1, if_neg h1]
    by_cases h2 : i < 199
    · rw [if_pos h2, if_pos h2]
    · rw [if_neg h2, if_neg h2]; unfold cA3; split <;> first | rfl | exact absurd rfl h
theorem hp_set {σ σ1 : gS} {ζ ζ1 : gQ} {j : Nat} {e : va_E} (h : j < 219) (he : cE σ1 ζ1 j = e) (ho : ∀ i, i ≠ j → cE σ1 ζ1 i = cE σ ζ i) : (hp σ ζ).set j e = hp σ1 ζ1 := by
  apply List.ext_getElem?
  intro i
  by_cases hi : i = j
  · subst hi
    rw [List.getElem?_set_self (by rw [hp_len]; exact h), hp_at h, he]
  · rw [List.getElem?_set_ne (Ne.symm hi)]
    by_cases hN : i < 219
    · rw [hp_at hN, hp_at hN, ho i hi]
    · rw [List.getElem?_eq_none (by rw [hp_len]; omega), List.getElem?_eq_none (by rw [hp_len]; omega)]
theorem hp_put {σ : gS} {ζ : gQ} {j : Nat} {f : Nat → Int32} {e : va_E} (h : j < 219) (he : cE (va_up σ j f) ζ j = e) : (hp σ ζ).set j e = hp (va_up σ j f) ζ := hp_set h he (fun i hi => cE_ne hi)
theorem hp_putz {σ : gS} {ζ ζ1 : gQ} {e : va_E} (he : cE σ ζ1 199 = e) : (hp σ ζ).set 199 e = hp σ ζ1 := hp_set (by decide) he (fun i hi => cE_z hi)
/-- a place that holds a Bytes, its row of N bytes behind it -/
def isB (j N : Nat) : Prop := j + 1 < 219 ∧ ∀ (σ : gS) (ζ : gQ), cE σ ζ j = .inr (0, [.ref (j + 1), .int (σ j 1)]) ∧ cE σ ζ (j + 1) = .inl (1, N, .inl (σ (j + 1)))
theorem isB_tape : isB 1 400 := ⟨by decide, fun _ _ => ⟨rfl, rfl⟩⟩
theorem isB_disk : isB 3 400 := ⟨by decide, fun _ _ => ⟨rfl, rfl⟩⟩
theorem isB_jour : isB 16 1536 := ⟨by decide, fun _ _ => ⟨rfl, rfl⟩⟩
theorem cE_card {σ : gS} {ζ : gQ} {c r : Nat} (hc : c < 16) (hr : r < 11) : cE σ ζ (23 + 11 * c + r) = cA2 σ (23 + 11 * c + r) r := by
  unfold cE
  rw [if_neg (by omega), if_pos (by omega), show (23 + 11 * c + r - 23) % 11 = r by omega]
theorem isB_row {c p : Nat} (hc : c < 16) (hp : p < 4) : isB (23 + 11 * c + (3 + 2 * p)) 48 := by
  refine ⟨by omega, fun σ ζ => ⟨?_, ?_⟩⟩
  · rw [cE_card hc (by omega)]
    unfold cA2
    rcases (show p = 0 ∨ p = 1 ∨ p = 2 ∨ p = 3 by omega) with rfl | rfl | rfl | rfl <;> rfl
  · rw [show 23 + 11 * c + (3 + 2 * p) + 1 = 23 + 11 * c + (4 + 2 * p) by omega, cE_card hc (by omega)]
    unfold cA2
    rcases (show p = 0 ∨ p = 1 ∨ p = 2 ∨ p = 3 by omega) with rfl | rfl | rfl | rfl <;> rfl
abbrev rm (f lo : Nat) : Room := { frames := f, cells := 0, slots := 0, locals := lo }
theorem gz_n {x : Int32} (h : x = 0 ∨ x = 1) : narrow .boolean (.int x) = .int x := by rcases h with rfl | rfl <;> rfl
theorem gz_f {x : Int32} (h : x = 0 ∨ x = 1) : fits .boolean (.int x) = true := by rcases h with rfl | rfl <;> rfl
theorem vu_s {α : Type} (f : Nat → α) (k : Nat) (v : α) : va_up f k v k = v := by unfold va_up; rw [if_pos rfl]
theorem vu_n {α : Type} {f : Nat → α} {k j : Nat} {v : α} (h : j ≠ k) : va_up f k v j = f j := by unfold va_up; rw [if_neg h]
theorem vu_1 {α : Type} (f : Nat → α) (j : Nat) (v : α) : va_up f (j + 1) v j = f j := vu_n (by omega)
theorem vu_2 {α : Type} (f : Nat → α) (j : Nat) (v : α) : va_up f j v (j + 1) = f (j + 1) := vu_n (by omega)
theorem isB.o {j N : Nat} (h : isB j N) (σ : gS) (ζ : gQ) : (hp σ ζ)[j]? = some (.inr (0, [.ref (j + 1), .int (σ j 1)])) := by rw [hp_at (by have := h.1; omega), (h.2 σ ζ).1]
theorem isB.a {j N : Nat} (h : isB j N) (σ : gS) (ζ : gQ) : (hp σ ζ)[j + 1]? = some (.inl (1, N, .inl (σ (j + 1)))) := by rw [hp_at h.1, (h.2 σ ζ).2]
theorem isB.pl {j N : Nat} (h : isB j N) (σ : gS) (ζ : gQ) (v : Int32) : (hp σ ζ).set j (.inr (0, [.ref (j + 1), .int v])) = hp (va_up σ j (upd (σ j) 1 v)) ζ := hp_put (by have := h.1; omega) (by rw [(h.2 _ ζ).1, vu_s]; rfl)
theorem isB.pa {j N : Nat} (h : isB j N) (σ : gS) (ζ : gQ) (f : Nat → Int32) : (hp σ ζ).set (j + 1) (.inl (1, N, .inl f)) = hp (va_up σ (j + 1) f) ζ := hp_put h.1 (by rw [(h.2 _ ζ).2, vu_s])
/-- one int of a place is written -/
def pf (σ : gS) (j k : Nat) (v : Int32) : gS := va_up σ j (upd (σ j) k v)
abbrev ix (x : Int32) : Nat := x.toNatClampNeg
abbrev ush (x y : Int32) : Int32 := (x.toUInt32 >>> (y.toUInt32 &&& Int32.toUInt32 31)).toInt32
abbrev ushl (x : Int64) (y : Int32) : Int64 := (x.toUInt64 >>> (y.toInt64.toUInt64 &&& Int64.toUInt64 63)).toInt64
abbrev rem32 (x y : Int32) : Int32 := x - x / y * y
abbrev rem64 (x y : Int64) : Int64 := x - x / y * y
theorem pf_o {σ : gS} {ζ : gQ} {j ci k : Nat} {fs : List Value} {x : Int32} (h : j < 219) (hr : cE (pf σ j k x) ζ j = .inr (ci, fs.set k (.int x))) : (hp σ ζ).set j (.inr (ci, fs.set k (.int x))) = hp (pf σ j k x) ζ := hp_put h hr
theorem pf_a {σ : gS} {ζ : gQ} {j t N i : Nat} {x : Int32} (h : j < 219) (hr : cE (pf σ j i x) ζ j = .inl (t, N, .inl (upd (σ j) i x))) : (hp σ ζ).set j (.inl (t, N, .inl (upd (σ j) i x))) = hp (pf σ j i x) ζ := hp_put h hr
theorem pz_o {σ : gS} {ζ : gQ} {k : Nat} {fs : List Value} {x : Int64} (hr : cE σ (vp_updL ζ k x) 199 = .inr (10, fs.set k (.long x))) : (hp σ ζ).set 199 (.inr (10, fs.set k (.long x))) = hp σ (vp_updL ζ k x) := hp_putz hr
theorem isB.pfl {j N : Nat} (h : isB j N) {σ : gS} {ζ : gQ} {x : Int32} : (hp σ ζ).set j (.inr (0, [.ref (j + 1), .int (σ j 1)].set 1 (.int x))) = hp (pf σ j 1 x) ζ := h.pl σ ζ x
theorem isB.pi {j N : Nat} (h : isB j N) {σ : gS} {ζ : gQ} {i : Nat} {x : Int32} : (hp σ ζ).set (j + 1) (.inl (1, N, .inl (upd (σ (j + 1)) i x))) = hp (pf σ (j + 1) i x) ζ := h.pa σ ζ _
theorem isB.pc {j N : Nat} (h : isB j N) {σ : gS} {ζ : gQ} {f : Nat → Int32} : (hp σ ζ).set (j + 1) (.inl (1, N, .inl f)) = hp (va_up σ (j + 1) f) ζ := h.pa σ ζ f
theorem ite_p {α : Type} {c : Prop} [Decidable c] {a b f : α} (h : (if c then a else b) = f) (hc : c) : a = f := by rw [if_pos hc] at h; exact h
theorem ite_n {α : Type} {c : Prop} [Decidable c] {a b f : α} (h : (if c then a else b) = f) (hc : ¬ c) : b = f := by rw [if_neg hc] at h; exact h
theorem ite_q {c A B : Prop} [Decidable c] (h : if c then A else B) (hc : c) : A := by rw [if_pos hc] at h; exact h
theorem ite_r {c A B : Prop} [Decidable c] (h : if c then A else B) (hc : ¬ c) : B := by rw [if_neg hc] at h; exact h
theorem g_case {l : Launch} {g : gE} {M : gM} {R : Room} {Z : gZ} {pc : Nat} {L : List (Nat × Value)} {st : List Value} {h : gH} {c n : Nat} {x : Int32} (v : Int32) (kt : x = v → gG l g M R Z pc L (.int v :: st) h c n) (kf : ¬ x = v → gG l g M R Z pc L (.int x :: st) h c n) : gG l g M R Z pc L (.int x :: st) h c n := by
  by_cases hv : x = v
  · have := kt hv
    rw [← hv] at this
    exact this
  · exact kf hv
theorem gt_out {dflt : Int} {lo hi : Nat} {offs : Array Int} {x : Int32} {pc tgt : Nat} (hh : hi < 1000) (h : ∀ k : Nat, lo ≤ k → k ≤ hi → ¬ x = nI k) (ht : (pc : Int) + dflt = (tgt : Int)) : (pc : Int) + gtab dflt lo hi offs x = (tgt : Int) := by
  unfold gtab
  rw [if_pos, ht]
  refine Classical.byContradiction fun hc => ?_
  have h1 : (lo : Int) ≤ x.toInt := by omega
  have h2 : x.toInt ≤ (hi : Int) := by omega
  refine h x.toInt.toNat (by omega) (by omega) (Int32.toInt_inj.mp ?_)
  rw [nI_toInt (by omega)]
  omega
