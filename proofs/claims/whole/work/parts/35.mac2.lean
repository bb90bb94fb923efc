/-! The seal: the reference's side -/
theorem r_hash {τ : gS} {ak Nk ar Nr a o n : Nat} {pad : Int32} (hT : pTab (τ 199 10) (τ 202) (τ 203)) (hak : 208 ≤ ak) (har : ar = 200 ∨ 208 ≤ ar) (hk : a + 16 ≤ Nk) (hNk : Nk < 2 ^ 31) (hr : o + n ≤ Nr) (hNr : Nr < 2 ^ 31) (hn : n ≤ 400) (hp : pad &&& 255 = pad) :
    Q_X10_hash τ ak Nk ar Nr (nI a) pad (nI o) (nI n) ∧ (∀ b, b ≠ 199 → (b < 201 ∨ 207 < b) → F_X10_hash τ ak Nk ar Nr (nI a) pad (nI o) (nI n) b = τ b) ∧ (∀ k, k ≠ 10 → F_X10_hash τ ak Nk ar Nr (nI a) pad (nI o) (nI n) 199 k = τ 199 k) ∧ pTab (F_X10_hash τ ak Nk ar Nr (nI a) pad (nI o) (nI n) 199 10) (F_X10_hash τ ak Nk ar Nr (nI a) pad (nI o) (nI n) 202) (F_X10_hash τ ak Nk ar Nr (nI a) pad (nI o) (nI n) 203) ∧ ∀ k, k < 32 → F_X10_hash τ ak Nk ar Nr (nI a) pad (nI o) (nI n) 207 k = (bW (shaB (txt (fun k => τ ak (a + k)) pad (fun k => τ ar (o + k)) n) (tab 4) (nbl n) (k / 4)) (k % 4)).toInt8.toInt32 := by
  -- behind prepare
  have core : ∀ σ : gS, (∀ b, b ≠ 199 → (b < 201 ∨ 207 < b) → σ b = τ b) → (∀ k, k ≠ 10 → σ 199 k = τ 199 k) → σ 199 10 = 1 → (∀ j, j < 64 → σ 202 j = tab 5 j) → (∀ j, j < 8 → σ 203 j = tab 4 j) → QJ_X10_hash_11 ak Nk ar Nr (nI a) pad (nI o) (nI n) σ ∧ (∀ b, b ≠ 199 → (b < 201 ∨ 207 < b) → J_X10_hash_11 ak Nk ar Nr (nI a) pad (nI o) (nI n) σ b = τ b) ∧ (∀ k, k ≠ 10 → J_X10_hash_11 ak Nk ar Nr (nI a) pad (nI o) (nI n) σ 199 k = τ 199 k) ∧ pTab (J_X10_hash_11 ak Nk ar Nr (nI a) pad (nI o) (nI n) σ 199 10) (J_X10_hash_11 ak Nk ar Nr (nI a) pad (nI o) (nI n) σ 202) (J_X10_hash_11 ak Nk ar Nr (nI a) pad (nI o) (nI n) σ 203) ∧ ∀ k, k < 32 → J_X10_hash_11 ak Nk ar Nr (nI a) pad (nI o) (nI n) σ 207 k = (bW (shaB (txt (fun k => τ ak (a + k)) pad (fun k => τ ar (o + k)) n) (tab 4) (nbl n) (k / 4)) (k % 4)).toInt8.toInt32 := by
    intro σ g1 g2 g3 g4 g5
    have gak : σ ak = τ ak := g1 ak (by omega) (by omega)
    have gar : σ ar = τ ar := g1 ar (by omega) (by omega)
    generalize hTx : txt (fun k => τ ak (a + k)) pad (fun k => τ ar (o + k)) n = T
    -- what a state must be like, and what then is true of it
    generalize hB : (fun s : gS => ∀ b, b ≠ 204 → b ≠ 205 → b ≠ 206 → b ≠ 207 → s b = σ b) = B
    have post : ∀ s : gS, B s → (∀ k, k < 32 → s 207 k = (bW (shaB T (tab 4) (nbl n) (k / 4)) (k % 4)).toInt8.toInt32) → (∀ b, b ≠ 199 → (b < 201 ∨ 207 < b) → s b = τ b) ∧ (∀ k, k ≠ 10 → s 199 k = τ 199 k) ∧ pTab (s 199 10) (s 202) (s 203) ∧ ∀ k, k < 32 → s 207 k = (bW (shaB T (tab 4) (nbl n) (k / 4)) (k % 4)).toInt8.toInt32 := by
      intro s hs h7
      subst hB
      refine ⟨fun b h1 h2 => ?_, fun k hk => ?_, ?_, h7⟩
      · rw [hs b (by omega) (by omega) (by omega) (by omega)]; exact g1 b h1 h2
      · rw [hs 199 (by omega) (by omega) (by omega) (by omega)]; exact g2 k hk
      · rw [hs 199 (by omega) (by omega) (by omega) (by omega), hs 202 (by omega) (by omega) (by omega) (by omega), hs 203 (by omega) (by omega) (by omega) (by omega)]
        exact Or.inr ⟨g3, g4, g5⟩
    generalize hP : (fun s : gS => (∀ b, b ≠ 199 → (b < 201 ∨ 207 < b) → s b = τ b) ∧ (∀ k, k ≠ 10 → s 199 k = τ 199 k) ∧ pTab (s 199 10) (s 202) (s 203) ∧ ∀ k, k < 32 → s 207 k = (bW (shaB T (tab 4) (nbl n) (k / 4)) (k % 4)).toInt8.toInt32) = P
    have post' : ∀ s : gS, B s → (∀ k, k < 32 → s 207 k = (bW (shaB T (tab 4) (nbl n) (k / 4)) (k % 4)).toInt8.toInt32) → P s := by
      intro s h1 h2; rw [← hP]; exact post s h1 h2
    have goal : QJ_X10_hash_11 ak Nk ar Nr (nI a) pad (nI o) (nI n) σ ∧ P (J_X10_hash_11 ak Nk ar Nr (nI a) pad (nI o) (nI n) σ) := by
      have Bpf : ∀ (s : gS) (k : Nat) (v : Int32) (j : Nat), (j = 204 ∨ j = 206 ∨ j = 207) → B s → B (pf s j k v) := by
        intro s k v j hj hs
        subst hB
        intro b h1 h2 h3 h4
        rw [pf_ne (by omega)]; exact hs b h1 h2 h3 h4
      have B202 : ∀ s : gS, B s → ∀ i, i < 64 → s 202 i = tab 5 i := by
        intro s hs i hi
        subst hB
        rw [hs 202 (by omega) (by omega) (by omega) (by omega)]; exact g4 i hi
      have B0 : B σ := by subst hB; exact fun _ _ _ _ _ => rfl
      have Ban : ∀ s : gS, B s → s ar = τ ar ∧ s ak = τ ak ∧ s 203 = σ 203 := by
        intro s hs
        subst hB
        exact ⟨(hs ar (by omega) (by omega) (by omega) (by omega)).trans gar, (hs ak (by omega) (by omega) (by omega) (by omega)).trans gak, hs 203 (by omega) (by omega) (by omega) (by omega)⟩
      have Beat : ∀ s : gS, B s → B (F_X10_eat s) := by
        intro s hs
        have e := r_eat (B202 s hs)
        subst hB
        intro b h1 h2 h3 h4
        rw [e.2.1 b h2 h1]; exact hs b h1 h2 h3 h4
      -- the digest's bytes
      have l227 : ∀ (y7 : Int32) (y8 : Int64) (s : gS), B s → (∀ i, i < 8 → s 204 i = shaB T (tab 4) (nbl n) i) → QG_X10_hash_L227 ak Nk ar Nr (nI a) pad (nI o) (nI n) 4000 y7 y8 0 s ∧ P (G_X10_hash_L227 ak Nk ar Nr (nI a) pad (nI o) (nI n) 4000 y7 y8 0 s) := by
        intro y7 y8 s hs h4
        refine lpF (fun f i s => QG_X10_hash_L227 ak Nk ar Nr (nI a) pad (nI o) (nI n) f y7 y8 (nI i) s ∧ P (G_X10_hash_L227 ak Nk ar Nr (nI a) pad (nI o) (nI n) f y7 y8 (nI i) s)) (fun i s => B s ∧ (∀ i, i < 8 → s 204 i = shaB T (tab 4) (nbl n) i) ∧ ∀ k, k < i → s 207 k = (bW (shaB T (tab 4) (nbl n) (k / 4)) (k % 4)).toInt8.toInt32) 32 ?_ ?_ 4000 0 s (by decide) (by decide) ⟨hs, h4, fun k hk => absurd hk (by omega)⟩
        · intro m s h
          unfold QG_X10_hash_L227 G_X10_hash_L227
          have c : (32 : Int32) ≤ nI 32 := by decide
          simp only [if_pos c]
          exact ⟨trivial, post' s h.1 h.2.2⟩
        · intro m i s hi h k
          unfold QG_X10_hash_L227 G_X10_hash_L227
          have c : ¬ (32 : Int32) ≤ nI i := nI_ge (b := 32) hi (by decide)
          have ed : nI i / 4 = nI (i / 4) := pk_div (d := 4) (by omega) (by decide) (by decide)
          have er : rem32 (nI i) 4 = nI (i % 4) := pk_rem (d := 4) (by omega) (by decide) (by decide)
          simp only [if_neg c, ed, er, nI_i1, ix_n (show i < 2 ^ 31 by omega), ix_n (show i / 4 < 2 ^ 31 by omega), b8_b8]
          have q := k (pf s 207 i ((s 204 (i / 4)) >>> (((24 : Int32) - ((8 : Int32) * nI (i % 4))) &&& 31)).toInt8.toInt32) ⟨Bpf s _ _ _ (by omega) h.1, fun t ht => by rw [pf_ne (show 204 ≠ 207 by decide)]; exact h.2.1 t ht, fun t ht => by
            by_cases e : t = i
            · subst e
              rw [pf_s, ← b8_of_and, bW_s _ (by omega), h.2.1 (t / 4) (by omega)]
            · rw [pf_i e]; exact h.2.2 t (by omega)⟩
          exact ⟨⟨vp_in_nI (by omega) (by decide), vp_in_nI (by omega) (by decide), q.1⟩, q.2⟩
      -- the text's blocks
      have all : ((nI n + 9 + 63) / 64 * 64 : Int32) = nI (64 * ((n + 72) / 64)) := by
        rw [show (nI n + 9 + 63 : Int32) = nI (n + 72) from ?_, show (64 : Int32) = nI 64 from rfl, pk_div (by omega) (by omega) (by omega), pk_mul, Nat.mul_comm]
        rw [show (9 : Int32) = nI 9 from rfl, show (63 : Int32) = nI 63 from rfl, nI_add, nI_add]
      have bits : ((8 : Int64) * ((64 : Int32) + nI n).toInt64) = lN (8 * (64 + n)) := by
        rw [show (64 : Int32) = nI 64 from rfl, nI_add, nI_l (by omega), show (8 : Int64) = lN 8 from rfl, lN_mul]
      generalize hA : (n + 72) / 64 = A at all
      have hA1 : n + 9 ≤ 64 * A := by omega
      have hA2 : 64 * A < n + 73 := by omega
      have hA3 : nbl n = 1 + A := by unfold nbl; omega
      have l123 : ∀ s : gS, B s → (∀ i, i < 8 → s 204 i = shaB T (tab 4) 1 i) → QG_X10_hash_L123 ak Nk ar Nr (nI a) pad (nI o) (nI n) 4000 (nI (64 * A)) (lN (8 * (64 + n))) 0 s ∧ P (G_X10_hash_L123 ak Nk ar Nr (nI a) pad (nI o) (nI n) 4000 (nI (64 * A)) (lN (8 * (64 + n))) 0 s) := by
        intro s hs h4
        refine lpF (fun f i s => QG_X10_hash_L123 ak Nk ar Nr (nI a) pad (nI o) (nI n) f (nI (64 * A)) (lN (8 * (64 + n))) (nI i) s ∧ P (G_X10_hash_L123 ak Nk ar Nr (nI a) pad (nI o) (nI n) f (nI (64 * A)) (lN (8 * (64 + n))) (nI i) s)) (fun i s => B s ∧ (∀ t, t < 8 → s 204 t = shaB T (tab 4) (1 + i / 64) t) ∧ ∀ q, q < i % 64 → s 206 q &&& 255 = T (64 * (1 + i / 64) + q) &&& 255) (64 * A) ?_ ?_ 4000 0 s (by omega) (by omega) ⟨hs, h4, fun k hk => absurd hk (by omega)⟩
        · intro m s h
          unfold QG_X10_hash_L123 G_X10_hash_L123
          have c : nI (64 * A) ≤ nI (64 * A) := nI_le (Nat.le_refl _) (by omega)
          simp only [if_pos c]
          have := h.2.1
          rw [show 1 + 64 * A / 64 = nbl n by rw [hA3]; omega] at this
          exact l227 _ _ s h.1 this
        · intro m i s hi h k
          unfold QG_X10_hash_L123 G_X10_hash_L123
          have c : ¬ nI (64 * A) ≤ nI i := nI_ge hi (by omega)
          have er : rem32 (nI i) 64 = nI (i % 64) := pk_rem (d := 64) (by omega) (by decide) (by decide)
          have hin : vp_in (nI (i % 64)) 64 := vp_in_nI (by omega) (by decide)
          simp only [if_neg c, er, nI_i1, ix_n (show i % 64 < 2 ^ 31 by omega), b8_b8]
          -- one byte laid
          have key : ∀ v : Int32, v &&& 255 = T (64 + i) &&& 255 → (if nI (i % 64) = 63 then Q_X10_eat (pf s 206 (i % 64) v) ∧ QG_X10_hash_L123 ak Nk ar Nr (nI a) pad (nI o) (nI n) m (nI (64 * A)) (lN (8 * (64 + n))) (nI (i + 1)) (F_X10_eat (pf s 206 (i % 64) v)) else QG_X10_hash_L123 ak Nk ar Nr (nI a) pad (nI o) (nI n) m (nI (64 * A)) (lN (8 * (64 + n))) (nI (i + 1)) (pf s 206 (i % 64) v)) ∧ P (if nI (i % 64) = 63 then G_X10_hash_L123 ak Nk ar Nr (nI a) pad (nI o) (nI n) m (nI (64 * A)) (lN (8 * (64 + n))) (nI (i + 1)) (F_X10_eat (pf s 206 (i % 64) v)) else G_X10_hash_L123 ak Nk ar Nr (nI a) pad (nI o) (nI n) m (nI (64 * A)) (lN (8 * (64 + n))) (nI (i + 1)) (pf s 206 (i % 64) v)) := by
            intro v hv
            have h6 : ∀ q, q < i % 64 + 1 → (pf s 206 (i % 64) v) 206 q &&& 255 = T (64 * (1 + i / 64) + q) &&& 255 := by
              intro q hq
              by_cases e : q = i % 64
              · subst e; rw [pf_s, hv]; congr 2; omega
              · rw [pf_i e]; exact h.2.2 q (by omega)
            have h44 : (pf s 206 (i % 64) v) 204 = s 204 := pf_ne (by decide)
            have hB2 := Bpf s (i % 64) v 206 (by omega) h.1
            by_cases e63 : i % 64 = 63
            · have c2 : nI (i % 64) = 63 := by rw [e63]; rfl
              rw [if_pos c2, if_pos c2]
              have e := r_eat (B202 _ hB2)
              have q := k (F_X10_eat (pf s 206 (i % 64) v)) ⟨Beat _ hB2, fun t ht => by
                rw [e.2.2, show 1 + (i + 1) / 64 = (1 + i / 64) + 1 by omega]
                exact cmp8_congr (fun j hj => by rw [h44]; exact h.2.1 j hj) (wdO_congr (fun q hq => by rw [Nat.zero_add]; exact h6 q (by omega))) t ht, fun q hq => absurd hq (by omega)⟩
              exact ⟨⟨e.1, q.1⟩, q.2⟩
            · have c2 : ¬ nI (i % 64) = 63 := fun z => e63 ((nI_eq (b := 63) (by omega) (by decide)).mp z)
              rw [if_neg c2, if_neg c2]
              exact k (pf s 206 (i % 64) v) ⟨hB2, fun t ht => by rw [h44, show 1 + (i + 1) / 64 = 1 + i / 64 by omega]; exact h.2.1 t ht, fun q hq => by
                rw [show 1 + (i + 1) / 64 = 1 + i / 64 by omega]; exact h6 q (by omega)⟩
          have hTi : T (64 + i) = if i < n then τ ar (o + i) else if i = n then 128 else if i + 4 < 64 * A then 0 else bW (nI (8 * (64 + n))) (i + 4 - 64 * A) := by
            rw [← hTx]
            unfold txt
            rw [if_neg (by omega), if_neg (by omega), hA3]
            by_cases i1 : i < n
            · rw [if_pos (by omega), if_pos i1]; congr 2; omega
            · rw [if_neg (by omega), if_neg i1]
              by_cases i2 : i = n
              · rw [if_pos (by omega), if_pos i2]
              · rw [if_neg (by omega), if_neg i2]
                by_cases i3 : i + 4 < 64 * A
                · rw [if_pos (by omega), if_pos i3]
                · rw [if_neg (by omega), if_neg i3]; congr 1; omega
          by_cases i1 : i < n
          · have c1 : ¬ nI n ≤ nI i := nI_ge i1 (by omega)
            have eo : nI o + nI i = nI (o + i) := nI_add o i
            simp only [if_neg c1, eo, ix_n (show o + i < 2 ^ 31 by omega)]
            have q := key (s ar (o + i)).toInt8.toInt32 (by rw [b8_and, hTi, if_pos i1, (Ban s h.1).1])
            exact ⟨⟨vp_in_nI (by omega) hNr, hin, q.1⟩, q.2⟩
          · have c1 : nI n ≤ nI i := nI_le (by omega) (by omega)
            simp only [if_pos c1]
            by_cases i2 : i = n
            · have c2 : nI i = nI n := by rw [i2]
              simp only [if_pos c2]
              have q := key (128 : Int32).toInt8.toInt32 (by rw [b8_and, hTi, if_neg i1, if_pos i2])
              exact ⟨⟨hin, q.1⟩, q.2⟩
            · have c2 : ¬ nI i = nI n := fun z => i2 ((nI_eq (by omega) (by omega)).mp z)
              have e8 : nI (64 * A) - 8 = nI (64 * A - 8) := nIs (a := 64 * A) (b := 8) (by omega) 8 rfl
              simp only [if_neg c2, e8]
              by_cases i3 : i < 64 * A - 8
              · have c3 : nI i < nI (64 * A - 8) := nI_lt i3 (by omega)
                simp only [if_pos c3]
                have q := key (0 : Int32).toInt8.toInt32 (by rw [b8_and, hTi, if_neg i1, if_neg i2, if_pos (by omega)])
                exact ⟨⟨hin, q.1⟩, q.2⟩
              · have c3 : ¬ nI i < nI (64 * A - 8) := nI_nlt (by omega) (by omega)
                have e1 : (8 : Int32) * (nI (64 * A) - 1 - nI i) = nI (8 * (64 * A - 1 - i)) := by
                  rw [nIs (a := 64 * A) (b := 1) (by omega) 1 rfl, pk_sub (by omega), show (8 : Int32) = nI 8 from rfl, pk_mul]
                simp only [if_neg c3, e1]
                rw [ushl_lN (by omega) (by omega), lN_i]
                have q := key (nI (8 * (64 + n) / 2 ^ (8 * (64 * A - 1 - i)))).toInt8.toInt32 (by
                  rw [b8_and, hTi, if_neg i1, if_neg i2]
                  by_cases i4 : i + 4 < 64 * A
                  · rw [if_pos i4]
                    have hz : 8 * (64 + n) / 2 ^ (8 * (64 * A - 1 - i)) = 0 := by
                      apply Nat.div_eq_of_lt
                      have : 2 ^ 32 ≤ 2 ^ (8 * (64 * A - 1 - i)) := Nat.pow_le_pow_right (by decide) (by omega)
                      omega
                    rw [hz]; rfl
                  · rw [if_neg i4, bW_nI (by omega) (by omega), and255_nI (Nat.lt_of_le_of_lt (Nat.div_le_self _ _) (by omega)), and255_nI (by have := Nat.mod_lt (8 * (64 + n) / 2 ^ (24 - 8 * (i + 4 - 64 * A))) (show 0 < 256 by decide); omega), Nat.mod_mod]
                    congr 4
                    omega)
                exact ⟨⟨hin, q.1⟩, q.2⟩
      -- the key's block
      have l44 : ∀ s : gS, B s → (∀ i, i < 8 → s 204 i = tab 4 i) → QG_X10_hash_L44 ak Nk ar Nr (nI a) pad (nI o) (nI n) 4000 0 s ∧ P (G_X10_hash_L44 ak Nk ar Nr (nI a) pad (nI o) (nI n) 4000 0 s) := by
        intro s hs h4
        refine lpF (fun f i s => QG_X10_hash_L44 ak Nk ar Nr (nI a) pad (nI o) (nI n) f (nI i) s ∧ P (G_X10_hash_L44 ak Nk ar Nr (nI a) pad (nI o) (nI n) f (nI i) s)) (fun i s => B s ∧ (∀ t, t < 8 → s 204 t = tab 4 t) ∧ ∀ q, q < i → s 206 q &&& 255 = T q &&& 255) 64 ?_ ?_ 4000 0 s (by decide) (by decide) ⟨hs, h4, fun k hk => absurd hk (by omega)⟩
        · intro m s h
          unfold QG_X10_hash_L44 G_X10_hash_L44
          have c : (64 : Int32) ≤ nI 64 := by decide
          simp only [if_pos c, all, bits]
          have e := r_eat (B202 s h.1)
          have q := l123 (F_X10_eat s) (Beat s h.1) (fun t ht => by
            rw [e.2.2]
            exact cmp8_congr h.2.1 (wdO_congr (fun q hq => by rw [Nat.mul_zero, Nat.zero_add]; exact h.2.2 q hq)) t ht)
          exact ⟨⟨e.1, q.1⟩, q.2⟩
        · intro m i s hi h k
          unfold QG_X10_hash_L44 G_X10_hash_L44
          have c : ¬ (64 : Int32) ≤ nI i := nI_ge (b := 64) hi (by decide)
          have step : ∀ v : Int32, v &&& 255 = T i &&& 255 → B (pf s 206 i v) ∧ (∀ t, t < 8 → (pf s 206 i v) 204 t = tab 4 t) ∧ ∀ q, q < i + 1 → (pf s 206 i v) 206 q &&& 255 = T q &&& 255 := fun v hv => ⟨Bpf s i v 206 (by omega) h.1, fun t ht => by rw [pf_ne (show 204 ≠ 206 by decide)]; exact h.2.1 t ht, fun q hq => by
            by_cases e : q = i
            · subst e; rw [pf_s, hv]
            · rw [pf_i e]; exact h.2.2 q (by omega)⟩
          by_cases h16 : i < 16
          · have c2 : ¬ (16 : Int32) ≤ nI i := nI_ge (b := 16) h16 (by decide)
            have ea : nI a + nI i = nI (a + i) := nI_add a i
            simp only [if_neg c, if_neg c2, ea, nI_i1, ix_n (show i < 2 ^ 31 by omega), ix_n (show a + i < 2 ^ 31 by omega), b8_b8]
            have q := k _ (step (s ak (a + i) ^^^ pad).toInt8.toInt32 (by
              rw [and255_key _ _ hp, ← hTx]
              unfold txt
              rw [if_pos h16, (Ban s h.1).2.1]))
            exact ⟨⟨vp_in_nI (by omega) hNk, vp_in_nI hi (by decide), q.1⟩, q.2⟩
          · have c2 : (16 : Int32) ≤ nI i := nI_le (a := 16) (by omega) (by omega)
            simp only [if_neg c, if_pos c2, nI_i1, ix_n (show i < 2 ^ 31 by omega), b8_b8]
            have q := k _ (step ((0 : Int32) ^^^ pad).toInt8.toInt32 (by
              rw [b8_and, ← hTx]
              unfold txt
              rw [if_neg h16, if_pos hi]
              congr 1; simp))
            exact ⟨⟨vp_in_nI hi (by decide), q.1⟩, q.2⟩
      -- the state's start
      unfold QJ_X10_hash_11 J_X10_hash_11
      refine lpF (fun f i s => QG_X10_hash_L14 ak Nk ar Nr (nI a) pad (nI o) (nI n) f (nI i) s ∧ P (G_X10_hash_L14 ak Nk ar Nr (nI a) pad (nI o) (nI n) f (nI i) s)) (fun i s => B s ∧ ∀ t, t < i → s 204 t = tab 4 t) 8 ?_ ?_ 4000 0 σ (by decide) (by decide) ⟨B0, fun k hk => absurd hk (by omega)⟩
      · intro m s h
        unfold QG_X10_hash_L14 G_X10_hash_L14
        have c : (8 : Int32) ≤ nI 8 := by decide
        simp only [if_pos c]
        exact l44 s h.1 h.2
      · intro m i s hi h k
        unfold QG_X10_hash_L14 G_X10_hash_L14
        have c : ¬ (8 : Int32) ≤ nI i := nI_ge (b := 8) hi (by decide)
        simp only [if_neg c, nI_i1, ix_n (show i < 2 ^ 31 by omega)]
        have q := k (pf s 204 i (s 203 i)) ⟨Bpf s _ _ _ (by omega) h.1, fun t ht => by
          by_cases e : t = i
          · subst e; rw [pf_s, (Ban s h.1).2.2]; exact g5 t hi
          · rw [pf_i e]; exact h.2 t (by omega)⟩
        exact ⟨⟨vp_in_nI hi (by decide), vp_in_nI hi (by decide), q.1⟩, q.2⟩
    rw [← hP] at goal
    exact goal
  rw [F_X10_hash_eq]
  unfold Q_X10_hash Fr_X10_hash
  rcases hT with h0 | ⟨h1, h5, h4⟩
  · have p := s_prepare τ
    simp only [if_pos h0]
    have q := core (F_X10_prepare τ) (fun b h1 h2 => p.2.1 b h1 (by omega) (by omega) (by omega)) p.2.2.1 p.2.2.2.1 p.2.2.2.2.1 p.2.2.2.2.2
    exact ⟨⟨p.1, q.1⟩, q.2⟩
  · have c : ¬ τ 199 10 = 0 := by rw [h1]; decide
    simp only [if_neg c]
    exact core τ (fun _ _ _ => rfl) (fun _ _ => rfl) h1 h5 h4
theorem r_sealOf {τ : gS} {ak Nk ar Nr a o n : Nat} (hT : pTab (τ 199 10) (τ 202) (τ 203)) (hak : 209 ≤ ak) (har : ar = 200 ∨ 209 ≤ ar) (hk : a + 16 ≤ Nk) (hNk : Nk < 2 ^ 31) (hr : o + n ≤ Nr) (hNr : Nr < 2 ^ 31) (hn : n ≤ 400) :
    Q_X10_sealOf τ ak Nk ar Nr (nI a) (nI o) (nI n) ∧ (∀ b, b ≠ 199 → (b < 201 ∨ 208 < b) → F_X10_sealOf τ ak Nk ar Nr (nI a) (nI o) (nI n) b = τ b) ∧ (∀ k, k ≠ 10 → F_X10_sealOf τ ak Nk ar Nr (nI a) (nI o) (nI n) 199 k = τ 199 k) ∧ pTab (F_X10_sealOf τ ak Nk ar Nr (nI a) (nI o) (nI n) 199 10) (F_X10_sealOf τ ak Nk ar Nr (nI a) (nI o) (nI n) 202) (F_X10_sealOf τ ak Nk ar Nr (nI a) (nI o) (nI n) 203) ∧ ∀ k, k < 32 → F_X10_sealOf τ ak Nk ar Nr (nI a) (nI o) (nI n) 207 k = (macB (fun k => τ ak (a + k)) (fun k => τ ar (o + k)) n k).toInt8.toInt32 := by
  rw [F_X10_sealOf_eq]
  unfold Q_X10_sealOf Fr_X10_sealOf
  have p54 : (54 : Int32) &&& 255 = 54 := by decide
  have p92 : (92 : Int32) &&& 255 = 92 := by decide
  have h1 := r_hash (τ := τ) (ak := ak) (Nk := Nk) (ar := ar) (Nr := Nr) (a := a) (o := o) (n := n) (pad := 54) hT (by omega) (by omega) hk hNk hr hNr hn p54
  generalize hs3 : F_X10_hash τ ak Nk ar Nr (nI a) 54 (nI o) (nI n) = s3 at h1
  have lp := lpF (fun f i s => QG_X10_sealOf_L16 ak Nk ar Nr (nI a) (nI o) (nI n) f (nI i) s ∧ (∀ b, b ≠ 199 → (b < 201 ∨ 208 < b) → G_X10_sealOf_L16 ak Nk ar Nr (nI a) (nI o) (nI n) f (nI i) s b = τ b) ∧ (∀ k, k ≠ 10 → G_X10_sealOf_L16 ak Nk ar Nr (nI a) (nI o) (nI n) f (nI i) s 199 k = τ 199 k) ∧ pTab (G_X10_sealOf_L16 ak Nk ar Nr (nI a) (nI o) (nI n) f (nI i) s 199 10) (G_X10_sealOf_L16 ak Nk ar Nr (nI a) (nI o) (nI n) f (nI i) s 202) (G_X10_sealOf_L16 ak Nk ar Nr (nI a) (nI o) (nI n) f (nI i) s 203) ∧ ∀ k, k < 32 → G_X10_sealOf_L16 ak Nk ar Nr (nI a) (nI o) (nI n) f (nI i) s 207 k = (macB (fun k => τ ak (a + k)) (fun k => τ ar (o + k)) n k).toInt8.toInt32) (fun i s => wrt s3 208 0 i (fun k => s3 207 k) s) 32 (by
    intro m s g
    unfold QG_X10_sealOf_L16 G_X10_sealOf_L16
    have c : (32 : Int32) ≤ nI 32 := by decide
    simp only [if_pos c]
    have eak : s ak = τ ak := by
      by_cases e : ak = 208
      · omega
      · rw [g.1 ak e]; exact h1.2.1 ak (by omega) (by omega)
    have h2 := r_hash (τ := s) (ak := ak) (Nk := Nk) (ar := 208) (Nr := 32) (a := a) (o := 0) (n := 32) (pad := 92) (by rw [g.1 199 (by decide), g.1 202 (by decide), g.1 203 (by decide)]; exact h1.2.2.2.1) (by omega) (by omega) hk hNk (by decide) (by decide) (by decide) p92
    refine ⟨⟨h2.1, trivial⟩, fun b b1 b2 => ?_, fun k hk => ?_, h2.2.2.2.1, fun k hk => ?_⟩
    · exact (h2.2.1 b b1 (by omega)).trans ((g.1 b (by omega)).trans (h1.2.1 b b1 (by omega)))
    · exact (h2.2.2.1 k hk).trans ((congrFun (g.1 199 (by decide)) k).trans (h1.2.2.1 k hk))
    · refine (h2.2.2.2.2 k hk).trans ?_
      have hm : shaB (txt (fun k => s ak (a + k)) 92 (fun k => s 208 (0 + k)) 32) (tab 4) (nbl 32) (k / 4) = macH (fun k => τ ak (a + k)) (fun k => τ ar (o + k)) n (k / 4) := by
        unfold macH
        rw [show nbl 32 = 2 from rfl]
        refine shaB_congr (fun _ _ => rfl) 2 (fun t _ => txt_congr (fun q hq => ?_) (fun q hq => ?_) t) (k / 4) (by omega)
        · rw [eak]
        · have e1 : s 208 (0 + q) = s3 207 q := by rw [Nat.zero_add, g.2 q, if_pos ⟨Nat.zero_le _, hq⟩]
          rw [e1, h1.2.2.2.2 q hq, b8_and]
          unfold macI
          rfl
      rw [hm]
      unfold macB
      rfl) (by
    intro m i s hi g k
    unfold QG_X10_sealOf_L16 G_X10_sealOf_L16
    have c : ¬ (32 : Int32) ≤ nI i := nI_ge (b := 32) hi (by decide)
    simp only [if_neg c, nI_i1, ix_n (show i < 2 ^ 31 by omega)]
    have hv : (s 207 i).toInt8.toInt32 = s3 207 i := by
      rw [g.1 207 (by decide), h1.2.2.2.2 i hi]; exact b8_b8 _
    have q := k (pf s 208 i (s 207 i).toInt8.toInt32) (wrt_s g (Nat.zero_le _) hv)
    exact ⟨⟨vp_in_nI hi (by decide), vp_in_nI hi (by decide), q.1⟩, q.2⟩) 4000 0 s3 (by decide) (by decide) wrt_0
  exact ⟨⟨h1.1, lp.1⟩, lp.2⟩
