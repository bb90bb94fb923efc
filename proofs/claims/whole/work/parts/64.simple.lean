/-! The simple calls, with cards and tables -/
def Inv1 (k : Nat) (σ : gS) (ζ : gQ) : Prop := ∃ n so si t : Nat, IVk (1 + 20 * k) n so si t σ σ ζ
theorem Inv1.A {k : Nat} {σ : gS} {ζ : gQ} (I : Inv1 k σ ζ) : InvA k σ ζ := by
  obtain ⟨n, so, si, t, I⟩ := I
  obtain ⟨c, m, J, A⟩ := I.jj
  have C := I.com
  exact ⟨n, so, si, c, m, C.tape, C.disk, C.see, ⟨⟨t, C.now⟩, C.ser⟩, C.set, C.key, I.lat, I.out, I.ins, J, A⟩
theorem inv_A {k : Nat} {σ s : gS} {ζ z : gQ} (I : Inv1 k σ ζ) (A : InvA k s z) (fr : ∀ b, b ≠ 0 → b ≠ 1 → b ≠ 3 → b ≠ 15 → b ≠ 199 → s b = σ b) (f10 : s 199 10 = σ 199 10) : Inv1 k s z := by
  obtain ⟨n0, _, _, _, I⟩ := I
  obtain ⟨n, so, si, c, m, a1, a2, a3, ⟨⟨t, a4⟩, a5⟩, a6, a7, a8, a9, a10, a11, a12⟩ := A
  have C := I.com
  have e12 : s 12 = σ 12 := fr 12 (by decide) (by decide) (by decide) (by decide) (by decide)
  have en : n = n0 := by
    have h1 := a7.2.1
    rw [e12, C.key.2.1] at h1
    exact (nI_inj31 (by have := C.key.1; omega) (by have := a7.1; omega) h1).symm
  subst en
  refine ⟨n, so, si, t, ⟨a1, a2, a3, a4, a5, a6, a7, ?_, ?_⟩, a8, a9, a10, c, m, a11, a12⟩
  · rw [f10, fr 202 (by decide) (by decide) (by decide) (by decide) (by decide), fr 203 (by decide) (by decide) (by decide) (by decide) (by decide)]; exact C.tab
  · have ec : ∀ b, 23 ≤ b → b < 199 → s b = σ b := fun b h1 h2 => fr b (by omega) (by omega) (by omega) (by omega) (by omega)
    exact crdS_of (crd_ref (crd_fr (crdS_to C.crd) ec) (fr 210 (by decide) (by decide) (by decide) (by decide) (by decide)) (fr 211 (by decide) (by decide) (by decide) (by decide) (by decide)) (fr 212 (by decide) (by decide) (by decide) (by decide) (by decide)) (fr 213 (by decide) (by decide) (by decide) (by decide) (by decide)) (fr 214 (by decide) (by decide) (by decide) (by decide) (by decide)))
theorem cf_finger (σ : gS) (f : Int32) : ∀ b, b ≠ 0 → (F_X9_finger σ f).2 b = σ b := by
  intro b h0
  rw [F_X9_finger_eq]; unfold Fr_X9_finger
  (repeat' split) <;> first | rfl | exact pf_ne h0
theorem rf_finger (σ : gS) (f : Int32) : (∀ b, b ≠ 199 → (F_X10_finger σ f).2 b = σ b) ∧ (F_X10_finger σ f).2 199 10 = σ 199 10 := by
  rw [F_X10_finger_eq]; unfold Fr_X10_finger
  refine ⟨fun b h => ?_, ?_⟩ <;> (repeat' split) <;> first | rfl | exact pf_ne h
theorem cf_door (σ : gS) (f : Int32) : ∀ b, b ≠ 0 → (F_X9_door σ f) b = σ b := by
  intro b h0
  rw [F_X9_door_eq]; unfold Fr_X9_door
  exact pf_ne h0
theorem rf_door (σ : gS) (f : Int32) : (∀ b, b ≠ 199 → (F_X10_door σ f) b = σ b) ∧ (F_X10_door σ f) 199 10 = σ 199 10 := by
  rw [F_X10_door_eq]; unfold Fr_X10_door
  exact ⟨fun b h => pf_ne h, rfl⟩
theorem cf_key (σ : gS) (f : Int32) : ∀ b, b ≠ 0 → (F_X9_key σ f).2 b = σ b := by
  intro b h0
  rw [F_X9_key_eq]; unfold Fr_X9_key
  (repeat' split) <;> first | rfl | exact pf_ne h0
theorem rf_key (σ : gS) (f : Int32) : (∀ b, b ≠ 199 → (F_X10_key σ f).2 b = σ b) ∧ (F_X10_key σ f).2 199 10 = σ 199 10 := by
  rw [F_X10_key_eq]; unfold Fr_X10_key
  refine ⟨fun b h => ?_, ?_⟩ <;> (repeat' split) <;> first | rfl | exact pf_ne h
theorem cf_cutAt (σ : gS) (f : Int32) : ∀ b, b ≠ 15 → (F_X9_cutAt σ f).2 b = σ b := by
  intro b h0
  rw [F_X9_cutAt_eq]; unfold Fr_X9_cutAt
  (repeat' split) <;> first | rfl | exact pf_ne h0
theorem rf_cutAt (σ : gS) (f : Int32) : (∀ b, b ≠ 199 → (F_X10_cutAt σ f).2 b = σ b) ∧ (F_X10_cutAt σ f).2 199 10 = σ 199 10 := by
  rw [F_X10_cutAt_eq]; unfold Fr_X10_cutAt
  refine ⟨fun b h => ?_, ?_⟩ <;> (repeat' split) <;> first | rfl | exact pf_ne h
theorem cf_noDisk (σ : gS) : ∀ b, b ≠ 0 → b ≠ 3 → (F_X9_noDisk σ).2 b = σ b := by
  intro b h0 h3
  rw [F_X9_noDisk_eq]; unfold Fr_X9_noDisk
  exact (pf_ne h3).trans (pf_ne h0)
theorem rf_noDisk (σ : gS) : (∀ b, b ≠ 199 → (F_X10_noDisk σ).2 b = σ b) ∧ (F_X10_noDisk σ).2 199 10 = σ 199 10 := by
  rw [F_X10_noDisk_eq]; unfold Fr_X10_noDisk
  refine ⟨fun b h => ?_, ?_⟩ <;> (repeat' split) <;> first | rfl | exact pf_ne h
theorem cf_cut (σ : gS) (f : Int32) : ∀ b, b ≠ 1 → (F_X9_cut σ f).2 b = σ b := by
  intro b h0
  rw [F_X9_cut_eq]; unfold Fr_X9_cut
  (repeat' split) <;> first | rfl | exact pf_ne h0
theorem rf_cut (σ : gS) (f : Int32) : (∀ b, b ≠ 199 → (F_X10_cut σ f).2 b = σ b) ∧ (F_X10_cut σ f).2 199 10 = σ 199 10 := by
  rw [F_X10_cut_eq]; unfold Fr_X10_cut
  refine ⟨fun b h => ?_, ?_⟩ <;> (repeat' split) <;> first | rfl | exact pf_ne h
theorem cf_tick (σ : gS) (f : Int32) : ∀ b, b ≠ 0 → (F_X9_tick σ f).2 b = σ b := by
  intro b h0
  rw [F_X9_tick_eq]; unfold Fr_X9_tick
  (repeat' split) <;> first | rfl | exact pf_ne h0
theorem cf_put (σ : gS) (f g : Int32) : ∀ b, b ≠ 0 → (F_X9_put σ f g).2 b = σ b := by
  intro b h0
  rw [F_X9_put_eq]; unfold Fr_X9_put J_X9_put_14 J_X9_put_38
  (repeat' split) <;> first | rfl | exact pf_ne h0
theorem rf_put (σ : gS) (f g : Int32) : (∀ b, b ≠ 199 → (F_X10_put σ f g).2 b = σ b) ∧ (F_X10_put σ f g).2 199 10 = σ 199 10 := by
  rw [F_X10_put_eq]; unfold Fr_X10_put J_X10_put_9 J_X10_put_21 J_X10_put_25 J_X10_put_26 J_X10_put_51 J_X10_put_57
  refine ⟨fun b h => ?_, ?_⟩ <;> (repeat' split) <;> first | rfl | exact pf_ne h
theorem t_finger {k : Nat} {σ : gS} {ζ : gQ} (f : Int32) (I : Inv1 k σ ζ) : (F_X9_finger σ f).1 = (F_X10_finger (F_X9_finger σ f).2 f).1 ∧ Inv1 k (F_X10_finger (F_X9_finger σ f).2 f).2 ζ := by
  have A := s_finger f I.A
  have r := rf_finger (F_X9_finger σ f).2 f
  have c := cf_finger σ f
  exact ⟨A.1, inv_A I A.2 (fun b h0 h1 h3 h15 h199 => (r.1 b h199).trans (c b h0)) (r.2.trans (by rw [c 199 (by decide)]))⟩
theorem t_door {k : Nat} {σ : gS} {ζ : gQ} (d : Int32) (hd : pZ d) (I : Inv1 k σ ζ) : Q_X9_door σ d ∧ Q_X10_door (F_X9_door σ d) d ∧ Inv1 k (F_X10_door (F_X9_door σ d) d) ζ := by
  have A := s_door d hd I.A
  have r := rf_door (F_X9_door σ d) d
  have c := cf_door σ d
  exact ⟨A.1, A.2.1, inv_A I A.2.2 (fun b h0 h1 h3 h15 h199 => (r.1 b h199).trans (c b h0)) (r.2.trans (by rw [c 199 (by decide)]))⟩
theorem t_key {k : Nat} {σ : gS} {ζ : gQ} (f : Int32) (I : Inv1 k σ ζ) : (F_X9_key σ f).1 = (F_X10_key (F_X9_key σ f).2 f).1 ∧ Inv1 k (F_X10_key (F_X9_key σ f).2 f).2 ζ := by
  have A := s_key f I.A
  have r := rf_key (F_X9_key σ f).2 f
  have c := cf_key σ f
  exact ⟨A.1, inv_A I A.2 (fun b h0 h1 h3 h15 h199 => (r.1 b h199).trans (c b h0)) (r.2.trans (by rw [c 199 (by decide)]))⟩
theorem t_cutAt {k : Nat} {σ : gS} {ζ : gQ} (f : Int32) (I : Inv1 k σ ζ) : (F_X9_cutAt σ f).1 = (F_X10_cutAt (F_X9_cutAt σ f).2 f).1 ∧ Inv1 k (F_X10_cutAt (F_X9_cutAt σ f).2 f).2 ζ := by
  have A := s_cutAt f I.A
  have r := rf_cutAt (F_X9_cutAt σ f).2 f
  have c := cf_cutAt σ f
  exact ⟨A.1, inv_A I A.2 (fun b h0 h1 h3 h15 h199 => (r.1 b h199).trans (c b h15)) (r.2.trans (by rw [c 199 (by decide)]))⟩
theorem t_noDisk {k : Nat} {σ : gS} {ζ : gQ} (I : Inv1 k σ ζ) : Q_X9_noDisk σ ∧ (F_X9_noDisk σ).1 = (F_X10_noDisk (F_X9_noDisk σ).2).1 ∧ Inv1 k (F_X10_noDisk (F_X9_noDisk σ).2).2 ζ := by
  have A := s_noDisk I.A
  have r := rf_noDisk (F_X9_noDisk σ).2
  have c := cf_noDisk σ
  exact ⟨A.1, A.2.1, inv_A I A.2.2 (fun b h0 h1 h3 h15 h199 => (r.1 b h199).trans (c b h0 h3)) (r.2.trans (by rw [c 199 (by decide) (by decide)]))⟩
theorem t_cut {k : Nat} {σ : gS} {ζ : gQ} (f : Int32) (I : Inv1 k σ ζ) : (F_X9_cut σ f).1 = (F_X10_cut (F_X9_cut σ f).2 f).1 ∧ Inv1 k (F_X10_cut (F_X9_cut σ f).2 f).2 ζ := by
  have A := s_cut f I.A
  have r := rf_cut (F_X9_cut σ f).2 f
  have c := cf_cut σ f
  exact ⟨A.1, inv_A I A.2 (fun b h0 h1 h3 h15 h199 => (r.1 b h199).trans (c b h1)) (r.2.trans (by rw [c 199 (by decide)]))⟩
theorem t_tick {k : Nat} {σ : gS} {ζ : gQ} (f : Int32) (I : Inv1 k σ ζ) : (F_X9_tick σ f).1 = (F_X10_tick (F_X9_tick σ f).2 ζ f).1 ∧ Inv1 k (F_X9_tick σ f).2 (F_X10_tick (F_X9_tick σ f).2 ζ f).2 := by
  have A := s_tick f I.A
  have c := cf_tick σ f
  exact ⟨A.1, inv_A I A.2 (fun b h0 h1 h3 h15 h199 => c b h0) (by rw [c 199 (by decide)])⟩
theorem t_put {k : Nat} {σ : gS} {ζ : gQ} (r x : Int32) (I : Inv1 k σ ζ) : Q_X9_put σ r x ∧ Q_X10_put (F_X9_put σ r x).2 r x ∧ (F_X9_put σ r x).1 = (F_X10_put (F_X9_put σ r x).2 r x).1 ∧ Inv1 k (F_X10_put (F_X9_put σ r x).2 r x).2 ζ := by
  have A := s_put r x I.A
  have q := rf_put (F_X9_put σ r x).2 r x
  have c := cf_put σ r x
  exact ⟨A.1, A.2.1, A.2.2.1, inv_A I A.2.2.2 (fun b h0 h1 h3 h15 h199 => (q.1 b h199).trans (c b h0)) (q.2.trans (by rw [c 199 (by decide)]))⟩
/-! From two states to one -/
theorem IV_ref {K n so si t : Nat} {σ τ u : gS} {ζ : gQ} (I : IVk K n so si t σ τ ζ) (h : ∀ b, 199 ≤ b → u b = τ b) : IVk K n so si t σ u ζ := by
  have C := I.com
  have e := fun b (hb : 199 ≤ b) => h b hb
  refine ⟨⟨?_, ?_, ?_, C.now, C.ser, ?_, ?_, ?_, ?_⟩, ?_, ?_, ?_, ?_⟩
  · rw [e 199 (by decide), e 200 (by decide)]; exact C.tape
  · rw [e 199 (by decide), e 215 (by decide)]; exact C.disk
  · rw [e 199 (by decide)]; exact C.see
  · rw [e 217 (by decide)]; exact C.set
  · rw [e 199 (by decide), e 213 (by decide), e 214 (by decide)]; exact C.key
  · rw [e 199 (by decide), e 202 (by decide), e 203 (by decide)]; exact C.tab
  · rw [e 210 (by decide), e 211 (by decide), e 212 (by decide), e 213 (by decide), e 214 (by decide)]; exact C.crd
  · rw [e 199 (by decide)]; exact I.lat
  · rw [e 199 (by decide)]; exact I.out
  · rw [e 199 (by decide)]; exact I.ins
  · rw [e 199 (by decide), e 216 (by decide), e 218 (by decide)]; exact I.jj
theorem IV_cls {K n so si t : Nat} {σ τ u : gS} {ζ : gQ} (I : IVk K n so si t σ τ ζ) (h : ∀ b, b < 199 → u b = σ b) : IVk K n so si t u τ ζ := by
  have C := I.com
  have e := fun b (hb : b < 199) => h b hb
  refine ⟨⟨?_, ?_, ?_, ?_, ?_, ?_, ?_, C.tab, ?_⟩, ?_, ?_, ?_, ?_⟩
  · rw [e 1 (by decide), e 2 (by decide)]; exact C.tape
  · rw [e 0 (by decide), e 3 (by decide), e 4 (by decide)]; exact C.disk
  · rw [e 0 (by decide), e 15 (by decide)]; exact C.see
  · rw [e 0 (by decide)]; exact C.now
  · rw [e 0 (by decide)]; exact C.ser
  · rw [e 6 (by decide)]; exact C.set
  · rw [e 12 (by decide), e 13 (by decide), e 14 (by decide)]; exact C.key
  · exact crdS_of (crd_fr (crdS_to C.crd) (fun b _ h2 => e b h2))
  · rw [e 18 (by decide), e 0 (by decide)]; exact I.lat
  · rw [e 19 (by decide)]; exact I.out
  · rw [e 21 (by decide)]; exact I.ins
  · rw [e 15 (by decide), e 16 (by decide), e 17 (by decide), e 21 (by decide)]; exact I.jj
/-- both sides, one behind the other -/
theorem two_one {K n so si t K' : Nat} {σ s1 s2 : gS} {ζ z : gQ} (I : IVk K n so si t σ σ ζ) (h1 : ∀ b, 199 ≤ b → s1 b = σ b) (P : IVk K n so si t σ s1 ζ → ∃ n' so' si' t', IVk K' n' so' si' t' s1 s2 z) (h2 : ∀ b, b < 199 → s2 b = s1 b) : ∃ n' so' si' t', IVk K' n' so' si' t' s2 s2 z := by
  obtain ⟨n', so', si', t', I'⟩ := P (IV_ref I h1)
  exact ⟨n', so', si', t', IV_cls I' h2⟩
