/-! The tables that the reference computes: its prepare() -/
noncomputable def rtG (p0 : Int32) (p1 : Int32) : Nat → Int64 → Int64 → Int32
  | 0, _, _ => 0
  | n + 1, y2, y4 =>
    if (lg_cmp (y4 - y2) (1 : Int64)) ≤ 0 then y2.toInt32
    else if (Fr_X10_isNotAbove ((y2 + y4) >>> ((1 : Int32).toInt64 &&& 63)) p0 p1) = 0 then rtG p0 p1 n y2 ((y2 + y4) >>> ((1 : Int32).toInt64 &&& 63))
      else rtG p0 p1 n ((y2 + y4) >>> ((1 : Int32).toInt64 &&& 63)) y4
noncomputable def rtB (p0 : Int32) (p1 : Int32) : Nat → Int64 → Int64 → Bool
  | 0, _, _ => false
  | n + 1, y2, y4 =>
    if (lg_cmp (y4 - y2) (1 : Int64)) ≤ 0 then true
    else if (Fr_X10_isNotAbove ((y2 + y4) >>> ((1 : Int32).toInt64 &&& 63)) p0 p1) = 0 then rtB p0 p1 n y2 ((y2 + y4) >>> ((1 : Int32).toInt64 &&& 63))
      else rtB p0 p1 n ((y2 + y4) >>> ((1 : Int32).toInt64 &&& 63)) y4
theorem rtG_eq (p0 p1 : Int32) : ∀ (n m : Nat) (a b : Int64), n ≤ m → rtB p0 p1 n a b = true → G_X10_rootOf_L7 p0 p1 m a b = rtG p0 p1 n a b ∧ QG_X10_rootOf_L7 p0 p1 m a b := by
  intro n
  induction n with
  | zero => intro m a b _ h; unfold rtB at h; exact absurd h (by decide)
  | succ n ih =>
    intro m a b hm h
    obtain ⟨m, rfl⟩ : ∃ m', m = m' + 1 := ⟨m - 1, by omega⟩
    unfold rtB at h
    unfold G_X10_rootOf_L7 rtG QG_X10_rootOf_L7
    rw [F_X10_isNotAbove_eq]
    by_cases h1 : (lg_cmp (b - a) (1 : Int64)) ≤ 0
    · simp only [if_pos h1]; exact ⟨trivial, trivial⟩
    · rw [if_neg h1] at h
      simp only [if_neg h1]
      by_cases h2 : (Fr_X10_isNotAbove ((a + b) >>> ((1 : Int32).toInt64 &&& 63)) p0 p1) = 0
      · rw [if_pos h2] at h
        simp only [if_pos h2]
        exact ih m _ _ (by omega) h
      · rw [if_neg h2] at h
        simp only [if_neg h2]
        exact ih m _ _ (by omega) h
def prL : List Nat := [2, 3, 5, 7, 11, 13, 17, 19, 23, 29, 31, 37, 41, 43, 47, 53, 59, 61, 67, 71, 73, 79, 83, 89, 97, 101, 103, 107, 109, 113, 127, 131, 137, 139, 149, 151, 157, 163, 167, 173, 179, 181, 191, 193, 197, 199, 211, 223, 227, 229, 233, 239, 241, 251, 257, 263, 269, 271, 277, 281, 283, 293, 307, 311]
def prP (k : Nat) : Nat := prL.getD k 0
def prN (k : Nat) : Nat := match k with | 0 => 2 | k + 1 => prP k + 1
/-- no smaller prime from i to k divides n -/
def prF (n k : Nat) : Nat → Bool
  | 0 => true
  | d + 1 => prF n k d && (decide (n % prP (k - (d + 1)) ≠ 0))
theorem prP_pos : ∀ k, k < 64 → 0 < prP k ∧ prP k < 400 ∧ prN k ≤ prP k := by decide +kernel
theorem prP_yes : ∀ k, k < 64 → prF (prP k) k k = true := by decide +kernel
theorem prP_no : ∀ k, k < 64 → ∀ d, d < 20 → prN k + d < prP k → prF (prN k + d) k k = false := by decide +kernel
theorem prP_gap : ∀ k, k < 64 → prP k < prN k + 20 := by decide +kernel
set_option maxRecDepth 100000 in
theorem pr5 : ∀ k, k < 64 → rtB (nI (prP k)) 1 60 0 137438953472 = true ∧ rtG (nI (prP k)) 1 60 0 137438953472 = tab 5 k := by decide +kernel
set_option maxRecDepth 100000 in
theorem pr4 : ∀ k, k < 8 → rtB (nI (prP k)) 0 60 0 137438953472 = true ∧ rtG (nI (prP k)) 0 60 0 137438953472 = tab 4 k := by decide +kernel
theorem root5 {k : Nat} (h : k < 64) : F_X10_rootOf (nI (prP k)) 1 = tab 5 k ∧ Q_X10_rootOf (nI (prP k)) 1 := by
  have a := pr5 k h
  have b := rtG_eq (nI (prP k)) 1 60 4000 0 137438953472 (by decide) a.1
  rw [F_X10_rootOf_eq]
  exact ⟨b.1.trans a.2, b.2⟩
theorem root4 {k : Nat} (h : k < 8) : F_X10_rootOf (nI (prP k)) 0 = tab 4 k ∧ Q_X10_rootOf (nI (prP k)) 0 := by
  have a := pr4 k h
  have b := rtG_eq (nI (prP k)) 0 60 4000 0 137438953472 (by decide) a.1
  rw [F_X10_rootOf_eq]
  exact ⟨b.1.trans a.2, b.2⟩
def bI (b : Bool) : Int32 := if b then 1 else 0
/-- the flag from index i on, behind the flag so far -/
theorem prep21 {σ : gS} {k n : Nat} (hk : k < 64) (hn : n < 400) (hs : ∀ j, j < k → σ 201 j = nI (prP j)) (K : Int32 → Int32 → Int32 → gS → gS) (q : Int32 → Int32 → Int32 → gS → Prop) : ∀ (d f : Nat) (b : Bool), d ≤ k → d < f → prF n k k = (b && prF n k d) → G_X10_prepare_L21 K f (nI n) (nI k) (bI b) (nI (k - d)) σ = K (nI (n + if prF n k k then 0 else 1)) (nI k) (bI (prF n k k)) σ ∧ (q (nI (n + if prF n k k then 0 else 1)) (nI k) (bI (prF n k k)) σ → QG_X10_prepare_L21 q f (nI n) (nI k) (bI b) (nI (k - d)) σ) := by
  intro d
  induction d with
  | zero =>
    intro f b _ hf hb
    obtain ⟨f, rfl⟩ : ∃ m', f = m' + 1 := ⟨f - 1, by omega⟩
    unfold G_X10_prepare_L21 QG_X10_prepare_L21
    rw [show k - 0 = k from rfl]
    simp only [if_pos (nI_le (Nat.le_refl k) (by omega))]
    have e : prF n k k = b := by rw [hb]; show (b && true) = b; simp
    rw [e]
    cases b
    · simp only [bI, if_false, Bool.false_eq_true, if_true]
      rw [nI_1]
      exact ⟨rfl, id⟩
    · simp only [bI, if_true]
      rw [if_neg (by decide), if_neg (by decide), show (0 : Int32) = nI 0 from rfl, nI_add]
      exact ⟨rfl, id⟩
  | succ d ih =>
    intro f b hd hf hb
    obtain ⟨f, rfl⟩ : ∃ m', f = m' + 1 := ⟨f - 1, by omega⟩
    unfold G_X10_prepare_L21 QG_X10_prepare_L21
    have h1 : ¬ nI k ≤ nI (k - (d + 1)) := nI_ge (by omega) (by omega)
    have h2 : nI (k - (d + 1)) + Int32.ofInt 1 = nI (k - d) := by rw [nI_i1]; congr 1; omega
    have h3 : prF n k (d + 1) = (prF n k d && decide (n % prP (k - (d + 1)) ≠ 0)) := rfl
    simp only [if_neg h1, h2]
    cases b
    · simp only [show bI false = 0 from rfl, if_true]
      exact ih f false (by omega) (by omega) (by rw [hb, h3]; simp)
    · have hp := prP_pos (k - (d + 1)) (by omega)
      rw [if_neg (show ¬ bI true = 0 by decide), if_neg (show ¬ bI true = 0 by decide)]
      rw [ix_n (by omega), hs _ (by omega)]
      have hr : rem32 (nI n) (nI (prP (k - (d + 1)))) = nI (n % prP (k - (d + 1))) := pk_rem (by omega) hp.1 (by omega)
      have hz : ¬ nI (prP (k - (d + 1))) = 0 := nI_ne0 hp.1 (by omega)
      have hin : vp_in (nI (k - (d + 1))) 64 := vp_in_nI (by omega) (by decide)
      rw [hr]
      have hlt := Nat.mod_lt n hp.1
      by_cases h4 : n % prP (k - (d + 1)) = 0
      · have h5 : nI (n % prP (k - (d + 1))) = 0 := by rw [h4]; rfl
        rw [if_pos h5, if_pos h5]
        have := ih f false (by omega) (by omega) (by rw [hb, h3]; simp [h4])
        exact ⟨this.1, fun z => ⟨hin, hz, this.2 z⟩⟩
      · have h5 : ¬ nI (n % prP (k - (d + 1))) = 0 := nI_ne0 (by omega) (by omega)
        rw [if_neg h5, if_neg h5]
        have := ih f true (by omega) (by omega) (by rw [hb, h3]; simp [h4])
        exact ⟨this.1, fun z => ⟨hin, hz, this.2 z⟩⟩
/-- the state behind the k-th prime -/
def prS (k : Nat) (σ : gS) : gS := if k < 8 then pf (pf (pf σ 201 k (nI (prP k))) 202 k (tab 5 k)) 203 k (tab 4 k) else pf (pf σ 201 k (nI (prP k))) 202 k (tab 5 k)
theorem prep12 {σ : gS} {k : Nat} (hk : k < 64) (hs : ∀ j, j < k → σ 201 j = nI (prP j)) (K : Int32 → Int32 → gS → gS) (q : Int32 → Int32 → gS → Prop) : ∀ (g f d : Nat), prN k + d + g = prP k → 2 * g + 2 < f → G_X10_prepare_L12 K f (nI (prN k + d)) (nI k) 0 σ = K (nI (prP k + 1)) (nI (k + 1)) (prS k σ) ∧ (q (nI (prP k + 1)) (nI (k + 1)) (prS k σ) → QG_X10_prepare_L12 q f (nI (prN k + d)) (nI k) 0 σ) := by
  intro g
  have hp := prP_pos k hk
  have hgap := prP_gap k hk
  induction g with
  | zero =>
    intro f d hd hf
    obtain ⟨f, rfl⟩ : ∃ m', f = m' + 2 := ⟨f - 2, by omega⟩
    have e : prN k + d = prP k := by omega
    have y := prP_yes k hk
    rw [e]
    have a := prep21 (σ := σ) (k := k) (n := prP k) hk hp.2.1 hs (G_X10_prepare_L12 K (f + 1)) (QG_X10_prepare_L12 q (f + 1)) k 4000 true (Nat.le_refl _) (by omega) (by simp)
    rw [y, Nat.sub_self] at a
    unfold G_X10_prepare_L12 QG_X10_prepare_L12
    rw [if_pos rfl, if_pos rfl]
    have a1 : G_X10_prepare_L21 (G_X10_prepare_L12 K (f + 1)) 4000 (nI (prP k)) (nI k) 1 0 σ = _ := a.1
    rw [a1]
    have b : G_X10_prepare_L12 K (f + 1) (nI (prP k + 0)) (nI k) 1 σ = K (nI (prP k + 1)) (nI (k + 1)) (prS k σ) ∧ (q (nI (prP k + 1)) (nI (k + 1)) (prS k σ) → QG_X10_prepare_L12 q (f + 1) (nI (prP k + 0)) (nI k) 1 σ) := by
      unfold G_X10_prepare_L12 QG_X10_prepare_L12
      have r5 := root5 hk
      simp only [if_neg (show ¬ (1 : Int32) = 0 by decide), Nat.add_zero, ix_n (show k < 2 ^ 31 by omega), nI_i1, r5.1]
      have hin : vp_in (nI k) 64 := vp_in_nI hk (by decide)
      by_cases h8 : k < 8
      · have r4 := root4 h8
        have c : ¬ (8 : Int32) ≤ nI k := nI_ge (b := 8) h8 (by decide)
        simp only [if_neg c, r4.1]
        unfold prS
        rw [if_pos h8]
        exact ⟨rfl, fun z => ⟨hin, r5.2, hin, r4.2, vp_in_nI h8 (by decide), z⟩⟩
      · have c : (8 : Int32) ≤ nI k := nI_le (a := 8) (by omega) (by omega)
        simp only [if_pos c]
        unfold prS
        rw [if_neg h8]
        exact ⟨rfl, fun z => ⟨hin, r5.2, hin, z⟩⟩
    exact ⟨b.1, fun z => a.2 (b.2 z)⟩
  | succ g ih =>
    intro f d hd hf
    obtain ⟨f, rfl⟩ : ∃ m', f = m' + 1 := ⟨f - 1, by omega⟩
    have y := prP_no k hk d (by omega) (by omega)
    have a := prep21 (σ := σ) (k := k) (n := prN k + d) hk (by omega) hs (G_X10_prepare_L12 K f) (QG_X10_prepare_L12 q f) k 4000 true (Nat.le_refl _) (by omega) (by simp)
    rw [y, Nat.sub_self] at a
    have i := ih f (d + 1) (by omega) (by omega)
    unfold G_X10_prepare_L12 QG_X10_prepare_L12
    rw [if_pos rfl, if_pos rfl]
    have a1 : G_X10_prepare_L21 (G_X10_prepare_L12 K f) 4000 (nI (prN k + d)) (nI k) 1 0 σ = _ := a.1
    rw [a1]
    exact ⟨i.1, fun z => a.2 (i.2 z)⟩
/-- tables filled up to k -/
def prI (σ : gS) (k : Nat) (s : gS) : Prop := (∀ b, b ≠ 201 → b ≠ 202 → b ≠ 203 → s b = σ b) ∧ ∀ j, j < k → s 201 j = nI (prP j) ∧ s 202 j = tab 5 j ∧ (j < 8 → s 203 j = tab 4 j)
theorem prI_s {σ s : gS} {k : Nat} (h : prI σ k s) : prI σ (k + 1) (prS k s) := by
  refine ⟨fun b h1 h2 h3 => ?_, fun j hj => ?_⟩
  · rw [← h.1 b h1 h2 h3]
    unfold prS
    by_cases h8 : k < 8
    · rw [if_pos h8, pf_ne h3, pf_ne h2, pf_ne h1]
    · rw [if_neg h8, pf_ne h2, pf_ne h1]
  · have n1 : ∀ (t : gS) (v : Int32), (pf t 202 k v) 201 = t 201 := fun _ _ => pf_ne (by decide)
    have n2 : ∀ (t : gS) (v : Int32), (pf t 203 k v) 201 = t 201 := fun _ _ => pf_ne (by decide)
    have n3 : ∀ (t : gS) (v : Int32), (pf t 203 k v) 202 = t 202 := fun _ _ => pf_ne (by decide)
    have n4 : ∀ (t : gS) (v : Int32), (pf t 201 k v) 202 = t 202 := fun _ _ => pf_ne (by decide)
    have n5 : ∀ (t : gS) (v : Int32), (pf t 202 k v) 203 = t 203 := fun _ _ => pf_ne (by decide)
    have n6 : ∀ (t : gS) (v : Int32), (pf t 201 k v) 203 = t 203 := fun _ _ => pf_ne (by decide)
    unfold prS
    by_cases e : j = k
    · subst e
      by_cases h8 : j < 8
      · rw [if_pos h8, n2, n1, pf_s, n3, pf_s, pf_s]; exact ⟨rfl, rfl, fun _ => rfl⟩
      · rw [if_neg h8, n1, pf_s, pf_s]; exact ⟨rfl, rfl, fun z => absurd z h8⟩
    · have q := h.2 j (by omega)
      by_cases h8 : k < 8
      · rw [if_pos h8, n2, n1, pf_i e, n3, pf_i e, n4, pf_i e, n5, n6]; exact q
      · rw [if_neg h8, n1, pf_i e, pf_i e, n4, n5, n6]; exact q
theorem prep4 {σ : gS} : ∀ (g f k : Nat) (s : gS), k + g = 64 → g < f → prI σ k s → ∃ t, prI σ 64 t ∧ G_X10_prepare_L4 f (nI (prN k)) (nI k) s = pf t 199 10 1 ∧ QG_X10_prepare_L4 f (nI (prN k)) (nI k) s := by
  intro g
  induction g with
  | zero =>
    intro f k s hk hf h
    obtain ⟨f, rfl⟩ : ∃ m', f = m' + 1 := ⟨f - 1, by omega⟩
    have : k = 64 := by omega
    subst this
    unfold G_X10_prepare_L4 QG_X10_prepare_L4
    exact ⟨s, h, rfl, trivial⟩
  | succ g ih =>
    intro f k s hk hf h
    obtain ⟨f, rfl⟩ : ∃ m', f = m' + 1 := ⟨f - 1, by omega⟩
    have hp := prP_pos k (by omega)
    have hgap := prP_gap k (by omega)
    obtain ⟨t, ht, e1, e2⟩ := ih f (k + 1) (prS k s) (by omega) (by omega) (prI_s h)
    have a := prep12 (σ := s) (k := k) (by omega) (fun j hj => (h.2 j hj).1) (G_X10_prepare_L4 f) (QG_X10_prepare_L4 f) (prP k - prN k) 4000 0 (by omega) (by omega)
    have c : ¬ (64 : Int32) ≤ nI k := nI_ge (b := 64) (by omega) (by decide)
    unfold G_X10_prepare_L4 QG_X10_prepare_L4
    rw [if_neg c, if_neg c]
    exact ⟨t, ht, a.1.trans e1, a.2 e2⟩
/-- the reference's tables: not there yet, or right -/
def pTab (r : Int32) (a b : Nat → Int32) : Prop := r = 0 ∨ (r = 1 ∧ (∀ j, j < 64 → a j = tab 5 j) ∧ ∀ j, j < 8 → b j = tab 4 j)
theorem s_prepare (σ : gS) : Q_X10_prepare σ ∧ (∀ b, b ≠ 199 → b ≠ 201 → b ≠ 202 → b ≠ 203 → F_X10_prepare σ b = σ b) ∧ (∀ k, k ≠ 10 → F_X10_prepare σ 199 k = σ 199 k) ∧ F_X10_prepare σ 199 10 = 1 ∧ (∀ j, j < 64 → F_X10_prepare σ 202 j = tab 5 j) ∧ ∀ j, j < 8 → F_X10_prepare σ 203 j = tab 4 j := by
  obtain ⟨t, ht, e1, e2⟩ := prep4 (σ := σ) 64 4000 0 σ rfl (by decide) ⟨fun _ _ _ _ => rfl, fun j hj => absurd hj (by omega)⟩
  have e : F_X10_prepare σ = pf t 199 10 1 := by rw [F_X10_prepare_eq]; exact e1
  rw [e]
  refine ⟨e2, fun b h1 h2 h3 h4 => ?_, fun k hk => ?_, ?_, fun j hj => ?_, fun j hj => ?_⟩
  · rw [pf_ne h1, ht.1 b h2 h3 h4]
  · rw [pf_i hk, ht.1 199 (by decide) (by decide) (by decide)]
  · exact pf_s
  · rw [pf_ne (show 202 ≠ 199 by decide)]; exact (ht.2 j hj).2.1
  · rw [pf_ne (show 203 ≠ 199 by decide)]; exact (ht.2 j (by omega)).2.2 hj
