/-! The static arrays, and loops -/
def tl0 : List Int32 := [15, 10, 20, 10, 200, 0, 12, 0, 999]
def tl1 : List Int32 := [1, 1, 1, 1, 1, 0, 0, 0, 0]
def tl2 : List Int32 := [10000, 10000, 10000, 10000, 10000, 5, 16, 999, 999]
def tl3 : List Int32 := [1, 3, 5, 7, 9, 11, 12, 13, 15]
def tl4 : List Int32 := [1779033703, -1150833019, 1013904242, -1521486534, 1359893119, -1694144372, 528734635, 1541459225]
def tl5 : List Int32 := [1116352408, 1899447441, -1245643825, -373957723, 961987163, 1508970993, -1841331548, -1424204075, -670586216, 310598401, 607225278, 1426881987, 1925078388, -2132889090, -1680079193, -1046744716, -459576895, -272742522, 264347078, 604807628, 770255983, 1249150122, 1555081692, 1996064986, -1740746414, -1473132947, -1341970488, -1084653625, -958395405, -710438585, 113926993, 338241895, 666307205, 773529912, 1294757372, 1396182291, 1695183700, 1986661051, -2117940946, -1838011259, -1564481375, -1474664885, -1035236496, -949202525, -778901479, -694614492, -200395387, 275423344, 430227734, 506948616, 659060556, 883997877, 958139571, 1322822218, 1537002063, 1747873779, 1955562222, 2024104815, -2067236844, -1933114872, -1866530822, -1538233109, -1090935817, -965641998]
def tab (t : Nat) : Nat → Int32 := match t with
  | 0 => fun j => tl0.getD j 0
  | 1 => fun j => tl1.getD j 0
  | 2 => fun j => tl2.getD j 0
  | 3 => fun j => tl3.getD j 0
  | 4 => fun j => tl4.getD j 0
  | 5 => fun j => tl5.getD j 0
  | _ => fun _ => 0
def tlen (t : Nat) : Nat := match t with
  | 4 => 8
  | 5 => 64
  | _ => 9
def gTab (g : gE) : Prop := ∀ t : Nat, t < 6 → g.2.2.2.2 t = (.int, tlen t, tab t)
theorem g_sub {l : Launch} {g : gE} {M : gM} {R : Room} {Z : gZ} {pc : Nat} {L L1 : List (Nat × Value)} {st : List Value} {h : gH} {c n : Nat} (is : List Nat) (hs : is.filterMap (fun i => L[i]?) = L1) (k : gG l g M R Z pc L1 st h c n) : gG l g M R Z pc L st h c n := by
  intro p e s m args below meth cd H locs ls X I S B
  refine k p e s m args below meth cd H locs ls X I S ⟨B.1, B.2.1, fun q hq => B.2.2 q ?_⟩
  obtain ⟨r, hr, rfl⟩ := List.mem_map.mp hq
  rw [← hs] at hr
  obtain ⟨i, -, hi⟩ := List.mem_filterMap.mp hr
  exact List.mem_map.mpr ⟨r, List.mem_of_getElem? hi, rfl⟩
theorem vin_lt {x : Int32} {N : Nat} (h : vp_in x N) : ix x < N := Nat.not_le.mp fun z => h (Or.inr z)
theorem aa16 {x : Int32} (h : vp_in x 16) : va_rf ((fun c : Nat => if c < 16 then some (23 + 11 * c) else none) x.toNatClampNeg) = .ref (23 + 11 * ix x) := by
  show va_rf (if ix x < 16 then some (23 + 11 * ix x) else none) = _
  rw [if_pos (vin_lt h)]; rfl
theorem aa4 {x : Int32} {j : Nat} (h : vp_in x 4) : va_rf ((fun p : Nat => if p < 4 then some (j + 2 + 2 * p) else none) x.toNatClampNeg) = .ref (j + 2 + 2 * ix x) := by
  show va_rf (if ix x < 4 then some (j + 2 + 2 * ix x) else none) = _
  rw [if_pos (vin_lt h)]; rfl
theorem isB_rw {c p : Nat} (hc : c < 16) (hp : p < 4) : isB (23 + 11 * c + 1 + 2 + 2 * p) 48 := by
  have := isB_row hc hp
  rwa [show 23 + 11 * c + (3 + 2 * p) = 23 + 11 * c + 1 + 2 + 2 * p by omega] at this
theorem cE_c0 {σ : gS} {ζ : gQ} {c : Nat} (hc : c < 16) : cE σ ζ (23 + 11 * c) = .inr (1, [.ref (23 + 11 * c + 1), .ref (23 + 11 * c + 2), .int (σ (23 + 11 * c) 2)]) := cE_card (r := 0) hc (by decide)
theorem cE_c1 {σ : gS} {ζ : gQ} {c : Nat} (hc : c < 16) : cE σ ζ (23 + 11 * c + 1) = .inl (4, 4, .inr (.inr (.inr (.inr (fun p => if p < 4 then some (23 + 11 * c + 1 + 2 + 2 * p) else none))))) := cE_card (r := 1) hc (by decide)
theorem cE_c2 {σ : gS} {ζ : gQ} {c : Nat} (hc : c < 16) : cE σ ζ (23 + 11 * c + 2) = .inl (0, 4, .inl (σ (23 + 11 * c + 2))) := cE_card (r := 2) hc (by decide)
theorem card_o {σ : gS} {ζ : gQ} {c : Nat} (hc : c < 16) : (hp σ ζ)[23 + 11 * c]? = some (.inr (1, [.ref (23 + 11 * c + 1), .ref (23 + 11 * c + 2), .int (σ (23 + 11 * c) 2)])) := by rw [hp_at (by omega), cE_c0 hc]
theorem card_r {σ : gS} {ζ : gQ} {c : Nat} (hc : c < 16) : (hp σ ζ)[23 + 11 * c + 1]? = some (.inl (4, 4, .inr (.inr (.inr (.inr (fun p => if p < 4 then some (23 + 11 * c + 1 + 2 + 2 * p) else none)))))) := by rw [hp_at (by omega), cE_c1 hc]
theorem card_s {σ : gS} {ζ : gQ} {c : Nat} (hc : c < 16) : (hp σ ζ)[23 + 11 * c + 2]? = some (.inl (0, 4, .inl (σ (23 + 11 * c + 2)))) := by rw [hp_at (by omega), cE_c2 hc]
theorem card_p {σ : gS} {ζ : gQ} {c : Nat} {x : Int32} (hc : c < 16) : (hp σ ζ).set (23 + 11 * c) (.inr (1, [.ref (23 + 11 * c + 1), .ref (23 + 11 * c + 2), .int (σ (23 + 11 * c) 2)].set 2 (.int x))) = hp (pf σ (23 + 11 * c) 2 x) ζ := hp_put (by omega) (by rw [cE_c0 hc, vu_s]; rfl)
theorem card_q {σ : gS} {ζ : gQ} {c i : Nat} {x : Int32} (hc : c < 16) : (hp σ ζ).set (23 + 11 * c + 2) (.inl (0, 4, .inl (upd (σ (23 + 11 * c + 2)) i x))) = hp (pf σ (23 + 11 * c + 2) i x) ζ := hp_put (by omega) (by rw [cE_c2 hc, vu_s])
/-- a place that holds a Sight -/
def isS (j : Nat) : Prop := j < 219 ∧ ∀ (σ : gS) (ζ : gQ), cE σ ζ j = .inr (8, [.int (σ j 0), .int (σ j 1), .int (σ j 2), .int (σ j 3), .int (σ j 4), .int (σ j 5), .int (σ j 6), .int (σ j 7), .int (σ j 8)])
theorem isS_out : isS 20 := ⟨by decide, fun _ _ => rfl⟩
theorem isS_in : isS 22 := ⟨by decide, fun _ _ => rfl⟩
theorem isS.o {j : Nat} (h : isS j) (σ : gS) (ζ : gQ) : (hp σ ζ)[j]? = some (.inr (8, [.int (σ j 0), .int (σ j 1), .int (σ j 2), .int (σ j 3), .int (σ j 4), .int (σ j 5), .int (σ j 6), .int (σ j 7), .int (σ j 8)])) := by rw [hp_at h.1, h.2]
theorem isS.p0 {j : Nat} (h : isS j) {σ : gS} {ζ : gQ} {x : Int32} : (hp σ ζ).set j (.inr (8, [.int (σ j 0), .int (σ j 1), .int (σ j 2), .int (σ j 3), .int (σ j 4), .int (σ j 5), .int (σ j 6), .int (σ j 7), .int (σ j 8)].set 0 (.int x))) = hp (pf σ j 0 x) ζ := hp_put h.1 (by rw [h.2, vu_s]; rfl)
theorem isS.p1 {j : Nat} (h : isS j) {σ : gS} {ζ : gQ} {x : Int32} : (hp σ ζ).set j (.inr (8, [.int (σ j 0), .int (σ j 1), .int (σ j 2), .int (σ j 3), .int (σ j 4), .int (σ j 5), .int (σ j 6), .int (σ j 7), .int (σ j 8)].set 1 (.int x))) = hp (pf σ j 1 x) ζ := hp_put h.1 (by rw [h.2, vu_s]; rfl)
theorem isS.p2 {j : Nat} (h : isS j) {σ : gS} {ζ : gQ} {x : Int32} : (hp σ ζ).set j (.inr (8, [.int (σ j 0), .int (σ j 1), .int (σ j 2), .int (σ j 3), .int (σ j 4), .int (σ j 5), .int (σ j 6), .int (σ j 7), .int (σ j 8)].set 2 (.int x))) = hp (pf σ j 2 x) ζ := hp_put h.1 (by rw [h.2, vu_s]; rfl)
theorem isS.p3 {j : Nat} (h : isS j) {σ : gS} {ζ : gQ} {x : Int32} : (hp σ ζ).set j (.inr (8, [.int (σ j 0), .int (σ j 1), .int (σ j 2), .int (σ j 3), .int (σ j 4), .int (σ j 5), .int (σ j 6), .int (σ j 7), .int (σ j 8)].set 3 (.int x))) = hp (pf σ j 3 x) ζ := hp_put h.1 (by rw [h.2, vu_s]; rfl)
theorem isS.p4 {j : Nat} (h : isS j) {σ : gS} {ζ : gQ} {x : Int32} : (hp σ ζ).set j (.inr (8, [.int (σ j 0), .int (σ j 1), .int (σ j 2), .int (σ j 3), .int (σ j 4), .int (σ j 5), .int (σ j 6), .int (σ j 7), .int (σ j 8)].set 4 (.int x))) = hp (pf σ j 4 x) ζ := hp_put h.1 (by rw [h.2, vu_s]; rfl)
theorem isS.p5 {j : Nat} (h : isS j) {σ : gS} {ζ : gQ} {x : Int32} : (hp σ ζ).set j (.inr (8, [.int (σ j 0), .int (σ j 1), .int (σ j 2), .int (σ j 3), .int (σ j 4), .int (σ j 5), .int (σ j 6), .int (σ j 7), .int (σ j 8)].set 5 (.int x))) = hp (pf σ j 5 x) ζ := hp_put h.1 (by rw [h.2, vu_s]; rfl)
theorem isS.p6 {j : Nat} (h : isS j) {σ : gS} {ζ : gQ} {x : Int32} : (hp σ ζ).set j (.inr (8, [.int (σ j 0), .int (σ j 1), .int (σ j 2), .int (σ j 3), .int (σ j 4), .int (σ j 5), .int (σ j 6), .int (σ j 7), .int (σ j 8)].set 6 (.int x))) = hp (pf σ j 6 x) ζ := hp_put h.1 (by rw [h.2, vu_s]; rfl)
theorem isS.p7 {j : Nat} (h : isS j) {σ : gS} {ζ : gQ} {x : Int32} : (hp σ ζ).set j (.inr (8, [.int (σ j 0), .int (σ j 1), .int (σ j 2), .int (σ j 3), .int (σ j 4), .int (σ j 5), .int (σ j 6), .int (σ j 7), .int (σ j 8)].set 7 (.int x))) = hp (pf σ j 7 x) ζ := hp_put h.1 (by rw [h.2, vu_s]; rfl)
theorem isS.p8 {j : Nat} (h : isS j) {σ : gS} {ζ : gQ} {x : Int32} : (hp σ ζ).set j (.inr (8, [.int (σ j 0), .int (σ j 1), .int (σ j 2), .int (σ j 3), .int (σ j 4), .int (σ j 5), .int (σ j 6), .int (σ j 7), .int (σ j 8)].set 8 (.int x))) = hp (pf σ j 8 x) ζ := hp_put h.1 (by rw [h.2, vu_s]; rfl)
/-- a place that holds an array of N bytes -/
def isA (j N : Nat) : Prop := j < 219 ∧ ∀ (σ : gS) (ζ : gQ), cE σ ζ j = .inl (1, N, .inl (σ j))
theorem isA.a {j N : Nat} (h : isA j N) (σ : gS) (ζ : gQ) : (hp σ ζ)[j]? = some (.inl (1, N, .inl (σ j))) := by rw [hp_at h.1, h.2]
theorem vinc {x : Int32} {N : Nat} (h : 0 ≤ x.toInt ∧ x.toInt < N) : vp_in x N := vp_in_iff.mpr h
theorem g_istoreL {l : Launch} {g : gE} {M : gM} {R : Room} {Z : gZ} {pc q : Nat} {L L1 : List (Nat × Value)} {st : List Value} {h : gH} {c n : Nat} {x : Int32} {i : Nat} (d : decode M.2.1 pc = .ok (.istore i, 2)) (hn : i < M.2.2.1) (hq : pc + 2 = q) (hL : gset i (.int x) L = L1) (k : gG l g M R Z q L1 st h c n) : gG l g M R Z pc L (.int x :: st) h c n := g_istore d hn hq (fun y e => by subst e; rw [hL]; exact k)
theorem g_istoreL_n {l : Launch} {g : gE} {M : gM} {R : Room} {Z : gZ} {pc q : Nat} {L L1 : List (Nat × Value)} {st : List Value} {h : gH} {c n : Nat} {x : Int32} {j : Fin 4} {i : Nat} (d : decode M.2.1 pc = .ok (.istore_n j, 1)) (hi : (j : Nat) = i) (hn : i < M.2.2.1) (hq : pc + 1 = q) (hL : gset i (.int x) L = L1) (k : gG l g M R Z q L1 st h c n) : gG l g M R Z pc L (.int x :: st) h c n := g_istore_n d hi hn hq (fun y e => by subst e; rw [hL]; exact k)
theorem g_lstoreL {l : Launch} {g : gE} {M : gM} {R : Room} {Z : gZ} {pc q : Nat} {L L1 : List (Nat × Value)} {st : List Value} {h : gH} {c n : Nat} {x : Int64} {i : Nat} (d : decode M.2.1 pc = .ok (.lstore i, 2)) (hn : i + 1 < M.2.2.1) (hq : pc + 2 = q) (hL : gset2 i (.long x) L = L1) (k : gG l g M R Z q L1 st h c n) : gG l g M R Z pc L (.long x :: st) h c n := g_lstore d hn hq (fun y e => by subst e; rw [hL]; exact k)
theorem g_lstoreL_n {l : Launch} {g : gE} {M : gM} {R : Room} {Z : gZ} {pc q : Nat} {L L1 : List (Nat × Value)} {st : List Value} {h : gH} {c n : Nat} {x : Int64} {j : Fin 4} {i : Nat} (d : decode M.2.1 pc = .ok (.lstore_n j, 1)) (hi : (j : Nat) = i) (hn : i + 1 < M.2.2.1) (hq : pc + 1 = q) (hL : gset2 i (.long x) L = L1) (k : gG l g M R Z q L1 st h c n) : gG l g M R Z pc L (.long x :: st) h c n := g_lstore_n d hi hn hq (fun y e => by subst e; rw [hL]; exact k)
theorem g_astoreL {l : Launch} {g : gE} {M : gM} {R : Room} {Z : gZ} {pc q : Nat} {L L1 : List (Nat × Value)} {st : List Value} {h : gH} {c n : Nat} {x : Nat} {i : Nat} (d : decode M.2.1 pc = .ok (.astore i, 2)) (hn : i < M.2.2.1) (hq : pc + 2 = q) (hL : gset i (.ref x) L = L1) (k : gG l g M R Z q L1 st h c n) : gG l g M R Z pc L (.ref x :: st) h c n := g_astore d hn hq (fun y e => by subst e; rw [hL]; exact k)
theorem g_astoreL_n {l : Launch} {g : gE} {M : gM} {R : Room} {Z : gZ} {pc q : Nat} {L L1 : List (Nat × Value)} {st : List Value} {h : gH} {c n : Nat} {x : Nat} {j : Fin 4} {i : Nat} (d : decode M.2.1 pc = .ok (.astore_n j, 1)) (hi : (j : Nat) = i) (hn : i < M.2.2.1) (hq : pc + 1 = q) (hL : gset i (.ref x) L = L1) (k : gG l g M R Z q L1 st h c n) : gG l g M R Z pc L (.ref x :: st) h c n := g_astore_n d hi hn hq (fun y e => by subst e; rw [hL]; exact k)
theorem g_iincL {l : Launch} {g : gE} {M : gM} {R : Room} {Z : gZ} {pc q : Nat} {L L1 : List (Nat × Value)} {st : List Value} {h : gH} {c n : Nat} {i : Nat} {d0 : Int} {x : Int32} (d : decode M.2.1 pc = .ok (.iinc i d0, 3)) (hv : gfind L i = some (.int x)) (hn : i < M.2.2.1) (hq : pc + 3 = q) (hL : gset i (.int (x + Int32.ofInt d0)) L = L1) (k : gG l g M R Z q L1 st h c n) : gG l g M R Z pc L st h c n := g_iinc d hv hn hq (fun y e => by subst e; rw [hL]; exact k)
