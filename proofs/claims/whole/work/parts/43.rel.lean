/-! The relation within a look -/
def crdM (r sz mw is kb : Nat → Int32) : gS := fun b => if b = 210 then r else if b = 211 then sz else if b = 212 then mw else if b = 213 then is else kb
/-- the cards, said of what is read alone -/
def crdS (C : gS) (r sz mw is kb : Nat → Int32) (n : Nat) : Prop := crd (fun b => C (b - 23)) (crdM r sz mw is kb) n
theorem crd_ref {σ τ u : gS} {n : Nat} (h : crd σ τ n) (e0 : u 210 = τ 210) (e1 : u 211 = τ 211) (e2 : u 212 = τ 212) (e3 : u 213 = τ 213) (e4 : u 214 = τ 214) : crd σ u n := by
  intro c hc
  obtain ⟨h1, h2⟩ := h c hc
  rw [e2]
  refine ⟨h1, fun p hp => ?_⟩
  have h3 := h2 p hp
  unfold rowE rwR at h3 ⊢
  rw [e0, e1, e3, e4]; exact h3
theorem crdS_of {σ τ : gS} {n : Nat} (h : crd σ τ n) : crdS (fun b => σ (b + 23)) (τ 210) (τ 211) (τ 212) (τ 213) (τ 214) n :=
  crd_fr (s := fun b => (fun b => σ (b + 23)) (b - 23)) (crd_ref (u := crdM (τ 210) (τ 211) (τ 212) (τ 213) (τ 214)) h rfl rfl rfl rfl rfl) (fun b h1 _ => by show σ (b - 23 + 23) = σ b; rw [Nat.sub_add_cancel h1])
theorem crdS_to {σ τ : gS} {n : Nat} (h : crdS (fun b => σ (b + 23)) (τ 210) (τ 211) (τ 212) (τ 213) (τ 214) n) : crd σ τ n :=
  crd_ref (crd_fr (s := σ) h (fun b h1 _ => by show σ b = σ (b - 23 + 23); rw [Nat.sub_add_cancel h1])) rfl rfl rfl rfl rfl
abbrev RCk (M n t : Nat) (σ τ : gS) (ζ : gQ) : Prop := (pB 400 (σ 1 1) (τ 199 1) (σ 2) (τ 200)) ∧ (pD (σ 0 2) (σ 3 1) (τ 199 25) (σ 4) (τ 215)) ∧ (pSee (σ 0 4) (τ 199 20) (σ 0 5) (τ 199 21) (σ 0 6) (τ 199 22) (σ 0 7) (τ 199 23) (σ 0 9) (τ 199 26) (σ 15 4) (τ 199 27)) ∧ (t ≤ 2000000000 ∧ σ 0 10 = nI t ∧ ζ 19 = lN t) ∧ (∃ s : Nat, s ≤ M ∧ σ 0 11 = nI (s + 1) ∧ ζ 53 = lN (s + 1)) ∧ (pSet (σ 6) (τ 217)) ∧ (pKey n (σ 12 2) (τ 199 17) (τ 199 18) (σ 13) (τ 213) (σ 14) (τ 214)) ∧ (pTab (τ 199 10) (τ 202) (τ 203)) ∧ (crdS (fun b => σ (b + 23)) (τ 210) (τ 211) (τ 212) (τ 213) (τ 214) n)
theorem RCk.tape {M n t : Nat} {σ τ : gS} {ζ : gQ} (h : RCk M n t σ τ ζ) : pB 400 (σ 1 1) (τ 199 1) (σ 2) (τ 200) := h.1
theorem RCk.disk {M n t : Nat} {σ τ : gS} {ζ : gQ} (h : RCk M n t σ τ ζ) : pD (σ 0 2) (σ 3 1) (τ 199 25) (σ 4) (τ 215) := h.2.1
theorem RCk.see {M n t : Nat} {σ τ : gS} {ζ : gQ} (h : RCk M n t σ τ ζ) : pSee (σ 0 4) (τ 199 20) (σ 0 5) (τ 199 21) (σ 0 6) (τ 199 22) (σ 0 7) (τ 199 23) (σ 0 9) (τ 199 26) (σ 15 4) (τ 199 27) := h.2.2.1
theorem RCk.now {M n t : Nat} {σ τ : gS} {ζ : gQ} (h : RCk M n t σ τ ζ) : t ≤ 2000000000 ∧ σ 0 10 = nI t ∧ ζ 19 = lN t := h.2.2.2.1
theorem RCk.ser {M n t : Nat} {σ τ : gS} {ζ : gQ} (h : RCk M n t σ τ ζ) : ∃ s : Nat, s ≤ M ∧ σ 0 11 = nI (s + 1) ∧ ζ 53 = lN (s + 1) := h.2.2.2.2.1
theorem RCk.set {M n t : Nat} {σ τ : gS} {ζ : gQ} (h : RCk M n t σ τ ζ) : pSet (σ 6) (τ 217) := h.2.2.2.2.2.1
theorem RCk.key {M n t : Nat} {σ τ : gS} {ζ : gQ} (h : RCk M n t σ τ ζ) : pKey n (σ 12 2) (τ 199 17) (τ 199 18) (σ 13) (τ 213) (σ 14) (τ 214) := h.2.2.2.2.2.2.1
theorem RCk.tab {M n t : Nat} {σ τ : gS} {ζ : gQ} (h : RCk M n t σ τ ζ) : pTab (τ 199 10) (τ 202) (τ 203) := h.2.2.2.2.2.2.2.1
theorem RCk.crd {M n t : Nat} {σ τ : gS} {ζ : gQ} (h : RCk M n t σ τ ζ) : crdS (fun b => σ (b + 23)) (τ 210) (τ 211) (τ 212) (τ 213) (τ 214) n := h.2.2.2.2.2.2.2.2
abbrev RLk (M n so si t d : Nat) (σ τ : gS) (ζ : gQ) : Prop := (RCk M n t σ τ ζ) ∧ (pLat (σ 18 0) (τ 199 35) (σ 18 3) (τ 199 38) (σ 18 1) (ζ 36) (σ 18 2) (ζ 37) (σ 0 8) (τ 199 39)) ∧ (pOut so (σ 19 1) (τ 199 42) (σ 19 2) (τ 199 40) (σ 19 3) (τ 199 43) (σ 19 4) (τ 199 45) (σ 19 5) (ζ 44)) ∧ (pIn si n (σ 21 1) (τ 199 46) (σ 21 2) (τ 199 41) (σ 21 3) (τ 199 47) (σ 21 4) (τ 199 48) (σ 21 5) (τ 199 49)) ∧ (∃ c m w : Nat, jrn M si d σ τ ζ c m w)
theorem RLk.com {M n so si t d : Nat} {σ τ : gS} {ζ : gQ} (h : RLk M n so si t d σ τ ζ) : RCk M n t σ τ ζ := h.1
theorem RLk.lat {M n so si t d : Nat} {σ τ : gS} {ζ : gQ} (h : RLk M n so si t d σ τ ζ) : pLat (σ 18 0) (τ 199 35) (σ 18 3) (τ 199 38) (σ 18 1) (ζ 36) (σ 18 2) (ζ 37) (σ 0 8) (τ 199 39) := h.2.1
theorem RLk.out {M n so si t d : Nat} {σ τ : gS} {ζ : gQ} (h : RLk M n so si t d σ τ ζ) : pOut so (σ 19 1) (τ 199 42) (σ 19 2) (τ 199 40) (σ 19 3) (τ 199 43) (σ 19 4) (τ 199 45) (σ 19 5) (ζ 44) := h.2.2.1
theorem RLk.ins {M n so si t d : Nat} {σ τ : gS} {ζ : gQ} (h : RLk M n so si t d σ τ ζ) : pIn si n (σ 21 1) (τ 199 46) (σ 21 2) (τ 199 41) (σ 21 3) (τ 199 47) (σ 21 4) (τ 199 48) (σ 21 5) (τ 199 49) := h.2.2.2.1
theorem RLk.jr {M n so si t d : Nat} {σ τ : gS} {ζ : gQ} (h : RLk M n so si t d σ τ ζ) : ∃ c m w : Nat, jrn M si d σ τ ζ c m w := h.2.2.2.2
/-- what lasts without power -/
abbrev RPk (M n t d : Nat) (σ τ : gS) (ζ : gQ) : Prop := (RCk M n t σ τ ζ) ∧ (∃ c m w : Nat, jrn M 0 d σ τ ζ c m w)
theorem RPk.com {M n t d : Nat} {σ τ : gS} {ζ : gQ} (h : RPk M n t d σ τ ζ) : RCk M n t σ τ ζ := h.1
theorem RPk.jr {M n t d : Nat} {σ τ : gS} {ζ : gQ} (h : RPk M n t d σ τ ζ) : ∃ c m w : Nat, jrn M 0 d σ τ ζ c m w := h.2
theorem pArc_n {s c m : Nat} {fc mc mm wm : Int32} {a w : Nat → Int32} (h : s ≠ 6) : pArc s c m fc mc mm wm a w := fun z => absurd z h
theorem jrn_n {M si s d : Nat} {σ τ : gS} {ζ : gQ} {c m w : Nat} (h : jrn M si d σ τ ζ c m w) (hs : s ≠ 6) : jrn M s d σ τ ζ c m w := ⟨h.1, h.2.1, pArc_n hs⟩
theorem RLk.toRP {M n so si t d : Nat} {σ τ : gS} {ζ : gQ} (R : RLk M n so si t d σ τ ζ) : RPk M n t d σ τ ζ := ⟨R.com, by obtain ⟨c, m, w, J⟩ := R.jr; exact ⟨c, m, w, jrn_n J (by decide)⟩⟩
theorem RC_mono {M M' n t : Nat} {σ τ : gS} {ζ : gQ} (R : RCk M n t σ τ ζ) (h : M ≤ M') : RCk M' n t σ τ ζ := ⟨R.tape, R.disk, R.see, R.now, by obtain ⟨s, h1, h2⟩ := R.ser; exact ⟨s, by omega, h2⟩, R.set, R.key, R.tab, R.crd⟩
theorem RL_mono {M M' n so si t d : Nat} {σ τ : gS} {ζ : gQ} (R : RLk M n so si t d σ τ ζ) (h : M ≤ M') : RLk M' n so si t d σ τ ζ := ⟨RC_mono R.com h, R.lat, R.out, R.ins, by obtain ⟨c, m, w, J⟩ := R.jr; exact ⟨c, m, w, jrn_mono J h⟩⟩
theorem RP_mono {M M' n t d : Nat} {σ τ : gS} {ζ : gQ} (R : RPk M n t d σ τ ζ) (h : M ≤ M') : RPk M' n t d σ τ ζ := ⟨RC_mono R.com h, by obtain ⟨c, m, w, J⟩ := R.jr; exact ⟨c, m, w, jrn_mono J h⟩⟩
/-- the keys and rows of the reference, the class's too -/
theorem RCk.ref {M n t : Nat} {σ τ : gS} {ζ : gQ} (R : RCk M n t σ τ ζ) : refOk τ n := by
  obtain ⟨k1, k2, k3, k4, k5, k6⟩ := R.key
  refine ⟨R.tab, k1, k3, fun i hi => ?_, ⟨k4, fun h => by rw [k5 h]; exact (k6 0 h).1.1⟩, fun c p hc hp => ?_⟩
  · obtain ⟨⟨a, v, b, e⟩, _⟩ := k6 i hi
    exact ⟨v, b, by rw [← a]; exact e⟩
  · obtain ⟨L, hL, e1, e2, hb, _⟩ := ((crdS_to R.crd) c hc).2 p hp
    exact ⟨L, hL, e2, fun i hi => (hb i hi).2⟩
theorem RCk.cok {M n t : Nat} {σ τ : gS} {ζ : gQ} (R : RCk M n t σ τ ζ) : cOk σ τ n := by
  obtain ⟨k1, k2, k3, k4, k5, k6⟩ := R.key
  exact ⟨⟨k1, k2, fun i hi => (k6 i hi).1.1, fun i hi => (k6 i hi).2⟩, ⟨k4, k5⟩, crdS_to R.crd⟩
/-- only the hash's places have changed -/
theorem RC_scr {M n t : Nat} {σ τ u : gS} {ζ : gQ} (R : RCk M n t σ τ ζ) (h : scr τ u) : RCk M n t σ u ζ := by
  have f := fun b h1 h2 => h.1 b h1 h2
  have k := h.2.1
  refine ⟨?_, ?_, ?_, R.now, R.ser, ?_, ?_, h.2.2, ?_⟩
  · rw [k 1 (by omega), f 200 (by omega) (by omega)]; exact R.tape
  · rw [k 25 (by omega), f 215 (by omega) (by omega)]; exact R.disk
  · rw [k 20 (by omega), k 21 (by omega), k 22 (by omega), k 23 (by omega), k 26 (by omega), k 27 (by omega)]; exact R.see
  · rw [f 217 (by omega) (by omega)]; exact R.set
  · rw [k 17 (by omega), k 18 (by omega), f 213 (by omega) (by omega), f 214 (by omega) (by omega)]; exact R.key
  · rw [f 210 (by omega) (by omega), f 211 (by omega) (by omega), f 212 (by omega) (by omega), f 213 (by omega) (by omega), f 214 (by omega) (by omega)]; exact R.crd
theorem jrn_scr {M si d : Nat} {σ τ u : gS} {ζ : gQ} {c m w : Nat} (J : jrn M si d σ τ ζ c m w) (h : scr τ u) : jrn M si d σ u ζ c m w := by
  have k := h.2.1
  unfold jrn
  rw [k 29 (by omega), k 31 (by omega), k 32 (by omega), k 33 (by omega), k 27 (by omega), k 50 (by omega), k 52 (by omega), h.1 216 (by omega) (by omega), h.1 218 (by omega) (by omega)]; exact J
theorem RL_scr {M n so si t d : Nat} {σ τ u : gS} {ζ : gQ} (R : RLk M n so si t d σ τ ζ) (h : scr τ u) : RLk M n so si t d σ u ζ := by
  have k := h.2.1
  refine ⟨RC_scr R.com h, ?_, ?_, ?_, ?_⟩
  · rw [k 35 (by omega), k 38 (by omega), k 39 (by omega)]; exact R.lat
  · rw [k 42 (by omega), k 40 (by omega), k 43 (by omega), k 45 (by omega)]; exact R.out
  · rw [k 46 (by omega), k 41 (by omega), k 47 (by omega), k 48 (by omega), k 49 (by omega)]; exact R.ins
  · obtain ⟨c, m, w, J⟩ := R.jr; exact ⟨c, m, w, jrn_scr J h⟩
/-- the sights are read: places of the hash, sights and seals -/
theorem RL_read {M n so si t d : Nat} {σ s τ : gS} {ζ : gQ} (R : RLk M n so si t d σ τ ζ) (h : ∀ b, (b < 8 ∨ 11 < b) → b < 23 → b ≠ 20 → b ≠ 22 → s b = σ b) (O : cOk s τ n) : RLk M n so si t d s τ ζ := by
  have f := fun b h1 h2 h3 h4 => h b h1 h2 h3 h4
  have C := R.com
  refine ⟨⟨?_, ?_, ?_, ?_, ?_, ?_, ?_, C.tab, crdS_of O.crd⟩, ?_, ?_, ?_, ?_⟩
  · rw [f 1 (by omega) (by omega) (by omega) (by omega), f 2 (by omega) (by omega) (by omega) (by omega)]; exact C.tape
  · rw [f 0 (by omega) (by omega) (by omega) (by omega), f 3 (by omega) (by omega) (by omega) (by omega), f 4 (by omega) (by omega) (by omega) (by omega)]; exact C.disk
  · rw [f 0 (by omega) (by omega) (by omega) (by omega), f 15 (by omega) (by omega) (by omega) (by omega)]; exact C.see
  · rw [f 0 (by omega) (by omega) (by omega) (by omega)]; exact C.now
  · rw [f 0 (by omega) (by omega) (by omega) (by omega)]; exact C.ser
  · rw [f 6 (by omega) (by omega) (by omega) (by omega)]; exact C.set
  · rw [f 12 (by omega) (by omega) (by omega) (by omega), f 13 (by omega) (by omega) (by omega) (by omega), f 14 (by omega) (by omega) (by omega) (by omega)]; exact C.key
  · rw [f 18 (by omega) (by omega) (by omega) (by omega), f 0 (by omega) (by omega) (by omega) (by omega)]; exact R.lat
  · rw [f 19 (by omega) (by omega) (by omega) (by omega)]; exact R.out
  · rw [f 21 (by omega) (by omega) (by omega) (by omega)]; exact R.ins
  · unfold jrn
    rw [f 15 (by omega) (by omega) (by omega) (by omega), f 16 (by omega) (by omega) (by omega) (by omega), f 17 (by omega) (by omega) (by omega) (by omega), f 21 (by omega) (by omega) (by omega) (by omega)]; exact R.jr
/-- behind a put -/
theorem RC_put {M n t : Nat} {σ τ u V : gS} {ζ z : gQ} (R : RCk M n t σ τ ζ) (h : cfr σ u) (e : u 15 4 = σ 15 4) (g : rfr τ ζ V z) (T : pTab (V 199 10) (V 202) (V 203)) : RCk M n t u V z := by
  have f := fun b h1 h2 h3 => h b h1 h2 h3
  obtain ⟨a, k, y⟩ := g
  refine ⟨?_, ?_, ?_, ?_, ?_, ?_, ?_, T, ?_⟩
  · rw [f 1 (by omega) (by omega) (by omega), f 2 (by omega) (by omega) (by omega), k 1 (by omega) (by omega) (by omega) (by omega) (by omega), a 200 (by omega) (by omega) (by omega)]; exact R.tape
  · rw [f 0 (by omega) (by omega) (by omega), f 3 (by omega) (by omega) (by omega), f 4 (by omega) (by omega) (by omega), k 25 (by omega) (by omega) (by omega) (by omega) (by omega), a 215 (by omega) (by omega) (by omega)]; exact R.disk
  · rw [f 0 (by omega) (by omega) (by omega), e, k 20 (by omega) (by omega) (by omega) (by omega) (by omega), k 21 (by omega) (by omega) (by omega) (by omega) (by omega), k 22 (by omega) (by omega) (by omega) (by omega) (by omega), k 23 (by omega) (by omega) (by omega) (by omega) (by omega), k 26 (by omega) (by omega) (by omega) (by omega) (by omega), k 27 (by omega) (by omega) (by omega) (by omega) (by omega)]; exact R.see
  · rw [f 0 (by omega) (by omega) (by omega), y 19 (by omega)]; exact R.now
  · rw [f 0 (by omega) (by omega) (by omega), y 53 (by omega)]; exact R.ser
  · rw [f 6 (by omega) (by omega) (by omega), a 217 (by omega) (by omega) (by omega)]; exact R.set
  · rw [f 12 (by omega) (by omega) (by omega), f 13 (by omega) (by omega) (by omega), f 14 (by omega) (by omega) (by omega), k 17 (by omega) (by omega) (by omega) (by omega) (by omega), k 18 (by omega) (by omega) (by omega) (by omega) (by omega), a 213 (by omega) (by omega) (by omega), a 214 (by omega) (by omega) (by omega)]; exact R.key
  · have ec : (fun b => u (b + 23)) = fun b => σ (b + 23) := funext (fun b => f (b + 23) (by omega) (by omega) (by omega))
    rw [ec, a 210 (by omega) (by omega) (by omega), a 211 (by omega) (by omega) (by omega), a 212 (by omega) (by omega) (by omega), a 213 (by omega) (by omega) (by omega), a 214 (by omega) (by omega) (by omega)]; exact R.crd
theorem RL_put {M M' n so si t d : Nat} {σ τ u V : gS} {ζ z : gQ} (R : RLk M n so si t d σ τ ζ) (hM : M ≤ M') (h : cfr σ u) (e : u 15 4 = σ 15 4) (g : rfr τ ζ V z) (T : pTab (V 199 10) (V 202) (V 203)) (J : ∃ c m w : Nat, jrn M' si d u V z c m w) : RLk M' n so si t d u V z := by
  obtain ⟨a, k, y⟩ := g
  refine ⟨RC_mono (RC_put R.com h e ⟨a, k, y⟩ T) hM, ?_, ?_, ?_, J⟩
  · rw [h 18 (by omega) (by omega) (by omega), h 0 (by omega) (by omega) (by omega), k 35 (by omega) (by omega) (by omega) (by omega) (by omega), k 38 (by omega) (by omega) (by omega) (by omega) (by omega), k 39 (by omega) (by omega) (by omega) (by omega) (by omega), y 36 (by omega), y 37 (by omega)]; exact R.lat
  · rw [h 19 (by omega) (by omega) (by omega), k 42 (by omega) (by omega) (by omega) (by omega) (by omega), k 40 (by omega) (by omega) (by omega) (by omega) (by omega), k 43 (by omega) (by omega) (by omega) (by omega) (by omega), k 45 (by omega) (by omega) (by omega) (by omega) (by omega), y 44 (by omega)]; exact R.out
  · rw [h 21 (by omega) (by omega) (by omega), k 46 (by omega) (by omega) (by omega) (by omega) (by omega), k 41 (by omega) (by omega) (by omega) (by omega) (by omega), k 47 (by omega) (by omega) (by omega) (by omega) (by omega), k 48 (by omega) (by omega) (by omega) (by omega) (by omega), k 49 (by omega) (by omega) (by omega) (by omega) (by omega)]; exact R.ins
/-- a small number -/
def sm (x : Int32) : Prop := ∃ n : Nat, n < 2 ^ 31 ∧ x = nI n
/-- the card of a record, and the serial number that goes with it -/
def sre (τ : gS) (n t : Nat) (x v : Int32) : Prop := (x = -1 ∧ v = 0) ∨ ∃ c, c < 16 ∧ x = nI c ∧ ((goodC τ n t c 0 ∧ v = nI (be4 (rwR τ c 0) 3)) ∨ (¬ goodC τ n t c 0 ∧ v = 0))
theorem sgt_sre {σ τ : gS} {n t j : Nat} {x : Int32} (S : sgt σ τ n t j x) : sre τ n t x (σ j 1) := by
  rcases S.2 with ⟨h1, h2, _⟩ | ⟨c, hc, h1, h2⟩
  · exact Or.inl ⟨h1, h2⟩
  · exact Or.inr ⟨c, hc, h1, h2.ser⟩
/-- what a put does: the word that it answers, both states behind it -/
def putE (M n so si t d : Nat) (σ τ : gS) (ζ : gQ) (r : Int32) (u V : gS) (z : gQ) : Prop := (r = 1 ∨ (r = 0 ∧ u 15 6 = 0)) ∧ RLk M n so si t d u V z ∧ cfr σ u ∧ rfr τ ζ V z
theorem s_pt {M n so si t d : Nat} {σ τ : gS} {ζ : gQ} (R : RLk M n so si t d σ τ ζ) (hp : σ 15 6 = 1) (hM : M < 2 ^ 20 - 2) {a b : Int32} (ha : sm a) (hb : sm b) {x v : Int32} (hx : sre τ n t x v) :
    ∃ r u V z, F_X3_write σ (σ 0 10) a b x v = (r, u) ∧ F_X10_put_ τ ζ a b x = (r, V, z) ∧ Q_X3_write σ (σ 0 10) a b x v ∧ Q_X10_put_ τ ζ a b x ∧ putE (M + 2) n so si t d σ τ ζ r u V z := by
  obtain ⟨an, ha1, rfl⟩ := ha
  obtain ⟨bn, hb1, rfl⟩ := hb
  obtain ⟨ht, et, ez⟩ := R.com.now
  obtain ⟨c, m, w, J⟩ := R.jr
  have h33 := pPow_on J.2.1 hp
  rw [et]
  have core : ∀ (s : Nat) (u : gS), s < 2 ^ 32 → v = nI s → pN x → scr τ u → ∃ r U V z, F_X3_write σ (nI t) (nI an) (nI bn) x v = (r, U) ∧ J_X10_put__34 (nI an) (nI bn) x (lN s) u ζ = (r, V, z) ∧ Q_X3_write σ (nI t) (nI an) (nI bn) x v ∧ QJ_X10_put__34 (nI an) (nI bn) x (lN s) u ζ ∧ putE (M + 2) n so si t d σ τ ζ r U V z := by
    intro s u hs ev px sc
    rw [ev]
    obtain ⟨q1, q2, h, ⟨c', m', w', J', _⟩, f1, f2, f3, f4, f5⟩ := s_put34 (jrn_scr J sc) hp hM (by omega) hs ha1 hb1 px ez
    generalize F_X3_write σ (nI t) (nI an) (nI bn) x (nI s) = F at h J' f1 f2 ⊢
    generalize J_X10_put__34 (nI an) (nI bn) x (lN s) u ζ = G at h J' f3 f4 f5 ⊢
    have er : F.1 = G.1 := by rcases h with ⟨h1, h2⟩ | ⟨h1, h2, _⟩ <;> rw [h1, h2]
    have g : rfr τ ζ G.2.1 G.2.2 := ⟨fun b h1 h2 h3 => (f3 b h1 h2).trans (sc.1 b h1 h3), fun k h1 h2 h3 h4 h5 => (f4 k h2 h3 h4 h5).trans (sc.2.1 k h1), f5⟩
    refine ⟨F.1, F.2, G.2.1, G.2.2, rfl, by rw [er], q1, q2, ?_, ?_, f1, g⟩
    · rcases h with ⟨h1, h2⟩ | ⟨h1, h2, h3⟩
      · exact Or.inl h1
      · exact Or.inr ⟨h1, h3⟩
    · refine RL_put R (by omega) f1 f2 g ?_ ⟨c', m', w', J'⟩
      rw [f4 10 (by omega) (by omega) (by omega) (by omega), f3 202 (by omega) (by omega), f3 203 (by omega) (by omega)]; exact sc.2.2
  rw [F_X10_put__eq]
  unfold Q_X10_put_ Fr_X10_put_ QJ_X10_put__33 J_X10_put__33
  rw [if_pos h33, if_pos h33]
  rcases hx with ⟨rfl, ev⟩ | ⟨c, hc, rfl, hg⟩
  · have c1 : (-1 : Int32) < 0 := by decide
    rw [if_pos c1, if_pos c1]
    exact core 0 τ (by decide) ev (Or.inl rfl) (scr_r R.com.tab)
  · have c1 : ¬ nI c < 0 := nI_pos (by omega)
    rw [if_neg c1, if_neg c1]
    obtain ⟨q, g, sc⟩ : Q_X10_isGood τ ζ (nI c) 0 ∧ (((F_X10_isGood τ ζ (nI c) 0).1 = 1 ∧ goodC τ n t c 0) ∨ ((F_X10_isGood τ ζ (nI c) 0).1 = 0 ∧ ¬ goodC τ n t c 0)) ∧ scr τ (F_X10_isGood τ ζ (nI c) 0).2 := r_good (p := 0) R.com.ref hc (by omega) (by omega) ez
    generalize F_X10_isGood τ ζ (nI c) 0 = G at g sc ⊢
    rcases g with ⟨e1, g1⟩ | ⟨e1, g1⟩
    · have n1 : ¬ G.1 = 0 := by rw [e1]; decide
      have ev : v = nI (be4 (rwR τ c 0) 3) := by
        rcases hg with ⟨_, z⟩ | ⟨z, _⟩
        · exact z
        · exact absurd g1 z
      have f : Q_X10_field G.2 (nI c) 0 3 4 ∧ F_X10_field G.2 (nI c) 0 3 4 = lN (be4 (rwR τ c 0) 3) := by
        have := r_field (τ := G.2) (p := 0) (i := 3) (n := 4) hc (by omega) (by omega) (by omega)
        rw [beN_4] at this
        have e := rwR_same (sameR_scr sc) c 0
        unfold rwR at e
        rw [e] at this; exact this
      obtain ⟨r, U, V, z, h1, h2, h3, h4, h5⟩ := core _ G.2 (be4_lt _ _) ev (Or.inr ⟨c, hc, rfl⟩) sc
      simp only [if_neg n1, f.2]
      exact ⟨r, U, V, z, h1, h2, h3, ⟨q, f.1, h4⟩, h5⟩
    · have ev : v = 0 := by
        rcases hg with ⟨z, _⟩ | ⟨_, z⟩
        · exact absurd z g1
        · exact z
      obtain ⟨r, U, V, z, h1, h2, h3, h4, h5⟩ := core 0 G.2 (by decide) ev (Or.inr ⟨c, hc, rfl⟩) sc
      simp only [if_pos e1]
      exact ⟨r, U, V, z, h1, h2, h3, ⟨q, h4⟩, h5⟩
/-- without power nothing is put -/
theorem s_pt0 {M n t d : Nat} {σ τ : gS} {ζ : gQ} (R : RPk M n t d σ τ ζ) (hp : ¬ σ 15 6 = 1) (a b x v y : Int32) : (F_X3_write σ y a b x v = (0, σ) ∧ Q_X3_write σ y a b x v) ∧ F_X10_put_ τ ζ a b x = (0, τ, ζ) ∧ Q_X10_put_ τ ζ a b x := by
  obtain ⟨c, m, w, J⟩ := R.jr
  obtain ⟨h0, h33⟩ := pPow_off J.2.1 hp
  have n33 : ¬ τ 199 33 = 0 := by rw [h33]; decide
  rw [F_X3_write_eq, F_X10_put__eq]
  unfold Q_X3_write Fr_X3_write Q_X10_put_ Fr_X10_put_
  simp only [if_pos h0, if_neg n33]
  exact ⟨⟨trivial, trivial⟩, trivial, trivial⟩
/-! The class's ways to a put -/
theorem s_wri {M n so si t d : Nat} {σ τ : gS} {ζ : gQ} (R : RLk M n so si t d σ τ ζ) (hp : σ 15 6 = 1) (hM : M < 2 ^ 20 - 2) {a b : Int32} (ha : sm a) (hb : sm b) :
    ∃ r u V z, F_X9_write σ a b = (r, u) ∧ F_X10_put_ τ ζ a b (-1) = (r, V, z) ∧ Q_X9_write σ a b ∧ Q_X10_put_ τ ζ a b (-1) ∧ putE (M + 2) n so si t d σ τ ζ r u V z := by
  obtain ⟨r, u, V, z, e1, e2, q1, q2, E⟩ := s_pt R hp hM ha hb (x := -1) (v := 0) (Or.inl ⟨rfl, rfl⟩)
  refine ⟨r, u, V, z, ?_, e2, ?_, q2, E⟩
  · rw [F_X9_write_eq]; unfold Fr_X9_write; simp only [e1]
  · unfold Q_X9_write; simp only [e1]
    exact ⟨q1, E.1.elim (fun h => Or.inr h) (fun h => Or.inl h.1), trivial⟩
theorem s_writeOf {M n so si t d j : Nat} {σ τ : gS} {ζ : gQ} {x : Int32} (R : RLk M n so si t d σ τ ζ) (hp : σ 15 6 = 1) (hM : M < 2 ^ 20 - 2) (S : sgt σ τ n t j x) {a b : Int32} (ha : sm a) (hb : sm b) :
    ∃ r u V z, F_X9_writeOf σ j a b = (r, u) ∧ F_X10_put_ τ ζ a b x = (r, V, z) ∧ Q_X9_writeOf σ j a b ∧ Q_X10_put_ τ ζ a b x ∧ putE (M + 2) n so si t d σ τ ζ r u V z := by
  obtain ⟨r, u, V, z, e1, e2, q1, q2, E⟩ := s_pt R hp hM ha hb (sgt_sre S)
  refine ⟨r, u, V, z, ?_, e2, ?_, q2, E⟩
  · rw [F_X9_writeOf_eq]; unfold Fr_X9_writeOf; rw [S.1]; simp only [e1]
  · unfold Q_X9_writeOf; rw [S.1]; simp only [e1]
    exact ⟨q1, E.1.elim (fun h => Or.inr h) (fun h => Or.inl h.1), trivial⟩
theorem s_stepO {M n so si t d : Nat} {σ τ : gS} {ζ : gQ} {x : Int32} (R : RLk M n so si t d σ τ ζ) (hp : σ 15 6 = 1) (hM : M < 2 ^ 20 - 2) (S : sgt σ τ n t 20 x) {a b : Int32} (ha : sm a) (hb : sm b) (p q : Int32) :
    ∃ r u V z, F_X9_stepOutside σ a b p q = (r, if r = 0 then u else pf (pf u 19 1 p) 19 2 q) ∧ F_X10_put_ τ ζ a b x = (r, V, z) ∧ Q_X9_stepOutside σ a b p q ∧ Q_X10_put_ τ ζ a b x ∧ putE (M + 2) n so si t d σ τ ζ r u V z := by
  obtain ⟨r, u, V, z, e1, e2, q1, q2, E⟩ := s_pt R hp hM ha hb (sgt_sre S)
  refine ⟨r, u, V, z, ?_, e2, ?_, q2, E⟩
  · rw [F_X9_stepOutside_eq]; unfold Fr_X9_stepOutside; rw [S.1]; simp only [e1]
    rcases E.1 with h | ⟨h, _⟩
    · have n : ¬ r = 0 := by rw [h]; decide
      rw [if_neg n, if_neg n, h]
    · rw [if_pos h, if_pos h, h]
  · unfold Q_X9_stepOutside; rw [S.1]; simp only [e1]
    refine ⟨q1, ?_⟩
    rcases E.1 with h | ⟨h, _⟩
    · have n : ¬ r = 0 := by rw [h]; decide
      rw [if_neg n]; trivial
    · rw [if_pos h]; trivial
theorem s_stepI {M n so si t d : Nat} {σ τ : gS} {ζ : gQ} {x : Int32} (R : RLk M n so si t d σ τ ζ) (hp : σ 15 6 = 1) (hM : M < 2 ^ 20 - 2) (S : sgt σ τ n t 22 x) {a b : Int32} (ha : sm a) (hb : sm b) (p q : Int32) :
    ∃ r u V z, F_X9_stepInside σ a b p q = (r, if r = 0 then u else pf (pf u 21 1 p) 21 2 q) ∧ F_X10_put_ τ ζ a b x = (r, V, z) ∧ Q_X9_stepInside σ a b p q ∧ Q_X10_put_ τ ζ a b x ∧ putE (M + 2) n so si t d σ τ ζ r u V z := by
  obtain ⟨r, u, V, z, e1, e2, q1, q2, E⟩ := s_pt R hp hM ha hb (sgt_sre S)
  refine ⟨r, u, V, z, ?_, e2, ?_, q2, E⟩
  · rw [F_X9_stepInside_eq]; unfold Fr_X9_stepInside; rw [S.1]; simp only [e1]
    rcases E.1 with h | ⟨h, _⟩
    · have n : ¬ r = 0 := by rw [h]; decide
      rw [if_neg n, if_neg n, h]
    · rw [if_pos h, if_pos h, h]
  · unfold Q_X9_stepInside; rw [S.1]; simp only [e1]
    refine ⟨q1, ?_⟩
    rcases E.1 with h | ⟨h, _⟩
    · have n : ¬ r = 0 := by rw [h]; decide
      rw [if_neg n]; trivial
    · rw [if_pos h]; trivial
