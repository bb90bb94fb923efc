/-! Rules: making cells, copying, the library, calls. -/
section GC
variable {l : Launch} {g : gE} {M : gM} {R : Room} {Z : gZ} {pc q : Nat} {L : List (Nat × Value)} {st : List Value} {h : gH} {c n : Nat}
theorem g_new {C : String} {T : u_T} {N ci idx : Nat} {ty : Nat → FieldType} {fs : List Value} (hC : gCl ci C T N ty) (hl : Cond.classLink M.1.cls idx C ∈ gWG) (hi : Cond.instantiable C N ∈ gWG) (ho : Cond.initialized C ∈ gWG) (hfs : ∀ j, j < N → defaultValue (ty j) = vp_V (fs.map (gv g)) j) (hb : h.length < gBig) (hc : c + 1 ≤ R.cells) (hn : n + N ≤ R.slots) (d : decode M.2.1 pc = .ok (.new idx, 3)) (hq : pc + 3 = q)
    (k : gG l g M R Z q L (.ref h.length :: st) (h ++ [.inr (ci, fs)]) (c + 1) (n + N)) : gG l g M R Z pc L st h c n := by
  subst hq; intro p e s m args below meth cd H locs ls X I S B
  have hts := X.2.2.2.2.2.1
  have hKn := I.2.2.2.1.1 ci _ hC.1
  refine W.newcK X.1 X.2.1 X.2.2.2.2.1 (hts _ hl) (hts _ hi) (hts _ ho) rfl d hc hn hKn.2.1 I.1 fun H1 kC hkC e1 z1 o1 => ?_
  have hI : gI g s H1 (h ++ [.inr (ci, fs)]) := I.push hb (by rw [z1, I.1]) ⟨_, hC.1, (u_born ty hts hC.2.1 hKn hkC e1 hC.2.2.1).to hfs⟩ (fun q hq => o1 q (by rw [← I.1]; exact hq)) trivial
  have hS : va_S (gA g) s.heap H1 locs := ⟨Nat.le_trans S.1 (by rw [z1, I.1]; omega), fun x h1 h2 => (o1 x (by rw [← I.1]; exact Nat.lt_of_lt_of_le h1 S.1)).trans (S.2.1 x h1 h2), S.2.2⟩
  refine W.eq ?_ (k p e s m args below meth cd H1 locs ls X hI hS B)
  show _ = F0 m (pc + 3) ls (.ref (gad g h.length) :: st.map (gv g))
  unfold gad
  rw [if_pos hb]
theorem g_newa {at_ : ArrayType} {t : Nat} {ty : FieldType} {x : Int32} {N : Nat} (hty : newarray.typeOf at_ = ty) (ht : (gtys g)[t]? = some (g.2.2.2.1 t, ty)) (hA : Cond.arrayClass ty ∈ gWG) (hdef : defaultValue ty = .int 0) (hx : ¬ x < 0) (hN : x.toNatClampNeg = N) (hby : N * componentBytes ty ≤ 536870912) (hb : h.length < gBig) (hc : c + 1 ≤ R.cells) (hn : n + N ≤ R.slots) (hty2 : ∀ C, ty ≠ .object C) (d : decode M.2.1 pc = .ok (.newarray at_, 2)) (hq : pc + 2 = q)
    (k : gG l g M R Z q L (.ref h.length :: st) (h ++ [.inl (t, N, .inl (fun _ => 0))]) (c + 1) (n + N)) : gG l g M R Z pc L (.int x :: st) h c n := by
  subst hq; subst hty; intro p e s m args below meth cd H locs ls X I S B
  have hts := X.2.2.2.2.2.1
  refine va_newaK X.1 X.2.1 (hts _ hA) rfl d rfl hx hN hby hc hn I.1 fun H1 cA e1 z1 o1 hAr hNm => ?_
  have hcA : cA = g.2.2.2.1 t := by
    have h2 := (I.2.2.2.1.2 t _ ht).2
    have h3 : s.vm.findClass ("[" ++ (newarray.typeOf at_).toString) = some (g.2.2.2.1 t) := by
      revert h2 hty2
      generalize newarray.typeOf at_ = ty
      intro hty2 h2
      cases ty with
      | object C => exact absurd rfl (hty2 C)
      | _ => exact h2
    exact Option.some.inj (hNm.symm.trans h3)
  have hI : gI g s H1 (h ++ [.inl (t, N, .inl (fun _ => 0))]) := by
    refine I.push hb (by rw [z1, I.1]) ?_ (fun q hq => o1 q (by rw [← I.1]; exact hq)) (fun _ _ => rfl)
    show H1[g.1 + h.length]? = some (vp_cell (g.2.2.2.1 t) (N, .inl (fun _ => 0)))
    rw [e1, vp_cell_i, hdef, hcA]
  have hS : va_S (gA g) s.heap H1 locs := ⟨Nat.le_trans S.1 (by rw [z1, I.1]; omega), fun x h1 h2 => (o1 x (by rw [← I.1]; exact Nat.lt_of_lt_of_le h1 S.1)).trans (S.2.1 x h1 h2), S.2.2⟩
  refine W.eq ?_ (k p e s m args below meth cd H1 locs ls X hI hS B)
  show _ = F0 m (pc + 2) ls (.ref (gad g h.length) :: st.map (gv g))
  unfold gad
  rw [if_pos hb]
theorem g_newq {idx t : Nat} {C : String} {x : Int32} {N : Nat} (ht : (gtys g)[t]? = some (g.2.2.2.1 t, .object C)) (hl : Cond.classLink M.1.cls idx C ∈ gWG) (hA : C = RX1 ∨ C = RX0) (hx : ¬ x < 0) (hN : x.toNatClampNeg = N) (hby : N * 4 ≤ 536870912) (hb : h.length < gBig) (hc : c + 1 ≤ R.cells) (hn : n + N ≤ R.slots) (d : decode M.2.1 pc = .ok (.anewarray idx, 3)) (hq : pc + 3 = q)
    (k : gG l g M R Z q L (.ref h.length :: st) (h ++ [.inl (t, N, .inr (.inr (.inr (.inr (fun _ => none)))))]) (c + 1) (n + N)) : gG l g M R Z pc L (.int x :: st) h c n := by
  subst hq; subst hN; intro p e s m args below meth cd H locs ls X I S B
  have hts := X.2.2.2.2.2.1
  have hAO : va_AO C s := by
    rcases hA with rfl | rfl
    · exact X.2.2.2.2.2.2.2.2.1.2.1
    · exact X.2.2.2.2.2.2.2.2.1.2.2
  refine W.anew X.1 X.2.1 X.2.2.2.2.1 (hts _ hl) (va_AO.use hAO) rfl d rfl hx hby hc hn fun cA kA comp f1 f2 f3 f4 => ?_
  have hcA : cA = g.2.2.2.1 t := by
    obtain ⟨kA2, comp2, -, -, -, h3⟩ := (I.2.2.2.1.2 t _ ht).2
    exact Option.some.inj (f1.symm.trans h3)
  generalize hH1 : H.push ({ cls := cA, slots := Array.replicate x.toNatClampNeg .null, vm := .none } : Cell) = H1
  have z1 : H1.size = H.size + 1 := by rw [← hH1, Array.size_push]
  have e1 : H1[H.size]? = some (arrV cA x.toNatClampNeg (fun _ => .null)) := by rw [← hH1, Array.getElem?_push_size, ← arrV_new]
  have o1 : ∀ q : Nat, q < H.size → H1[q]? = H[q]? := fun q hq => by rw [← hH1, Array.getElem?_push, if_neg (Nat.ne_of_lt hq)]
  have hI : gI g s H1 (h ++ [.inl (t, x.toNatClampNeg, .inr (.inr (.inr (.inr (fun _ => none)))))]) := by
    refine I.push hb z1 ?_ o1 trivial
    show H1[g.1 + h.length]? = some (vp_cell (g.2.2.2.1 t) (x.toNatClampNeg, .inr (.inr (.inr (.inr (fun _ => none))))))
    rw [← I.1, e1, vp_cell_q, hcA]
    rfl
  have hS : va_S (gA g) s.heap H1 locs := ⟨Nat.le_trans S.1 (by rw [z1]; omega), fun x h1 h2 => (o1 x (Nat.lt_of_lt_of_le h1 S.1)).trans (S.2.1 x h1 h2), S.2.2⟩
  refine W.eq ?_ (k p e s m args below meth cd H1 locs ls X hI hS B)
  show F0 m (pc + 3) ls (.ref H.size :: st.map (gv g)) = F0 m (pc + 3) ls (.ref (gad g h.length) :: st.map (gv g))
  unfold gad
  rw [if_pos hb, I.1]
theorem gsum (g : gE) : ∀ st : List Value, ((st.map (gv g)).map fun v => v.category).sum = (st.map fun v => v.category).sum
  | [] => rfl
  | v :: vs => by
    have := gsum g vs
    simp only [List.map_cons, List.sum_cons, gv_cat, this]
theorem g_obj {a idx : Nat} (hl : Cond.methodLink M.1.cls idx Lib.objectInit ∈ gWG) (hi : Cond.instanceMethod Lib.objectInit ∈ gWG) (hc : Cond.code Lib.objectInit ⟨#[0xb1]⟩ 1 none ∈ gWG) (hfr : 1 ≤ R.frames) (hlo : (st.map fun v => v.category).sum + 12 ≤ R.locals) (d : decode M.2.1 pc = .ok (.invokespecial idx, 3)) (hq : pc + 3 = q)
    (k : gG l g M R Z q L st h c n) : gG l g M R Z pc L (.ref a :: st) h c n := by
  subst hq; intro p e s m args below meth cd H locs ls X I S B
  have hts := X.2.2.2.2.2.1
  exact W.objInit X.1 X.2.1 X.2.2.2.2.1 (hts _ hl) (hts _ hi) (hts _ hc) (g := F0 m pc ls (.ref (gad g a) :: st.map (gv g))) rfl (by rw [X.2.2.1]; exact B.1) rfl d hfr (by show 2 * 0 + _ + 12 ≤ _; rw [gsum]; omega) (k p e s m args below meth cd H locs ls X I S B)
theorem g_max {idx : Nat} {x y : Int32} (hl : Cond.methodLink M.1.cls idx Lib.Math.max.name ∈ gWG) (hs : Cond.static Lib.Math.max.name ∈ gWG) (hi : Cond.initialized "java/lang/Math" ∈ gWG) (hc : Cond.code Lib.Math.max.name Lib.Math.max.code 2 (some .int) ∈ gWG) (hfr : 1 ≤ R.frames) (hlo : (st.map fun v => v.category).sum + 13 ≤ R.locals) (hcc : c ≤ R.cells) (hnn : n ≤ R.slots) (d : decode M.2.1 pc = .ok (.invokestatic idx, 3)) (hq : pc + 3 = q)
    (k : gG l g M R Z q L (.int (if x < y then y else x) :: st) h c n) : gG l g M R Z pc L (.int y :: .int x :: st) h c n := by
  subst hq; intro p e s m args below meth cd H locs ls X I S B
  have hts := X.2.2.2.2.2.1
  exact va_mmax X.1 X.2.1 (by rw [X.2.2.1, B.1]) X.2.2.2.2.1 (hts _ hl) (hts _ hs) (hts _ hi) (hts _ hc) hfr (by rw [gsum]; exact hlo) hcc hnn d (k p e s m args below meth cd H locs ls X I S B)
theorem g_min {idx : Nat} {x y : Int32} (hl : Cond.methodLink M.1.cls idx Lib.Math.min.name ∈ gWG) (hs : Cond.static Lib.Math.min.name ∈ gWG) (hi : Cond.initialized "java/lang/Math" ∈ gWG) (hc : Cond.code Lib.Math.min.name Lib.Math.min.code 2 (some .int) ∈ gWG) (hfr : 1 ≤ R.frames) (hlo : (st.map fun v => v.category).sum + 13 ≤ R.locals) (hcc : c ≤ R.cells) (hnn : n ≤ R.slots) (d : decode M.2.1 pc = .ok (.invokestatic idx, 3)) (hq : pc + 3 = q)
    (k : gG l g M R Z q L (.int (if y < x then y else x) :: st) h c n) : gG l g M R Z pc L (.int y :: .int x :: st) h c n := by
  subst hq; intro p e s m args below meth cd H locs ls X I S B
  have hts := X.2.2.2.2.2.1
  exact va_mmin X.1 X.2.1 (by rw [X.2.2.1, B.1]) X.2.2.2.2.1 (hts _ hl) (hts _ hs) (hts _ hi) (hts _ hc) hfr (by rw [gsum]; exact hlo) hcc hnn d (k p e s m args below meth cd H locs ls X I S B)
/-- the words of System.arraycopy -/
def gcpw (own : String) (idx : Nat) : Prop := Cond.methodLink own idx arraycopyName ∈ gWG ∧ Cond.native arraycopyName ∈ gWG ∧ Cond.static arraycopyName ∈ gWG ∧ Cond.initialized "java/lang/System" ∈ gWG
theorem gnn (z : Int32) (hz : ¬ z < 0) : z.toInt = (z.toNatClampNeg : Int) := by
  have hz0 : (0 : Int) ≤ z.toInt := by
    have := Int32.not_lt.mp hz
    simpa using Int32.le_iff_toInt_le.mp this
  show z.toInt = ((z.toInt.toNat : Nat) : Int)
  omega
/-- copying bytes within the heap -/
theorem g_cpyb {a b idx n0 n1 : Nat} {f f1 : Nat → Int32} {sp dp x : Int32} {h1 : gH} (hw : gcpw M.1.cls idx) (ha : h[a]? = some (.inl (1, n0, .inl f))) (hb : h[b]? = some (.inl (1, n1, .inl f1))) (h1' : ¬ sp < 0) (h2' : ¬ dp < 0) (h3' : ¬ x < 0) (h4' : sp.toNatClampNeg + x.toNatClampNeg ≤ n0) (h5' : dp.toNatClampNeg + x.toNatClampNeg ≤ n1)
    (hh : h.set b (.inl (1, n1, .inl (va_cpy f f1 sp.toNatClampNeg dp.toNatClampNeg x.toNatClampNeg))) = h1) (hfr : 1 ≤ R.frames) (hlo : (st.map fun v => v.category).sum + (nativeFrameWords "java/lang/System" "arraycopy" 5 + 11) ≤ R.locals) (d : decode M.2.1 pc = .ok (.invokestatic idx, 3)) (hq : pc + 3 = q)
    (k : gG l g M R Z q L st h1 c n) : gG l g M R Z pc L (.int x :: .int dp :: .ref b :: .int sp :: .ref a :: st) h c n := by
  subst hq; intro p e s m args below meth cd H locs ls X I S B
  have hts := X.2.2.2.2.2.1
  have hpa := I.pl ha
  have hpb := I.pl hb
  refine W.eq (g2 := F0 m pc ls (.int x :: .int dp :: .ref (g.1 + b) :: .int sp :: .ref (g.1 + a) :: st.map (gv g))) (by rw [← hpa, ← hpb]; rfl) ?_
  intro T hT XX
  have hc0 : H[g.1 + a]? = some (vp_cell (g.2.2.2.1 1) (n0, .inl f)) := I.at ha
  have hc1 : H[g.1 + b]? = some (vp_cell (g.2.2.2.1 1) (n1, .inl f1)) := I.at hb
  obtain ⟨hs6, k0, hk0, cm0, hkk0⟩ := (I.2.2.2.1.2 1 _ rfl).1 n0 (fun j => .int (f j))
  obtain ⟨-, k1, hk1, cm1, hkk1⟩ := (I.2.2.2.1.2 1 _ rfl).1 n1 (fun j => .int (f1 j))
  obtain ⟨vm', X', step⟩ := XX.arraycopy X.1 X.2.2.2.2.1 (hts _ hw.1) (hts _ hw.2.1) (hts _ hw.2.2.1) (hts _ hw.2.2.2) (src := g.1 + a) (dst := g.1 + b) (cs := vp_cell (g.2.2.2.1 1) (n0, .inl f)) (cd := vp_cell (g.2.2.2.1 1) (n1, .inl f1)) (srcPos := sp) (destPos := dp) (n := x) (by rw [hT]; exact hc0) (by rw [hT]; exact hc1)
    hs6 (fun _ h => by cases h) (fun h => by cases h) (fun h => by cases h) hk0 hk1 hkk0 hkk1 (by simp [refKind]) h1' h2' h3'
    (by rw [gnn sp h1', gnn x h3']; show ¬ _ > ((arrV (g.2.2.2.1 1) n0 (fun j => .int (f j))).slots.size : Int); rw [arrV_size]; omega)
    (by rw [gnn dp h2', gnn x h3']; show ¬ _ > ((arrV (g.2.2.2.1 1) n1 (fun j => .int (f1 j))).slots.size : Int); rw [arrV_size]; omega)
    (fun vm₁ _ i hi => by
      have e : (vp_cell (g.2.2.2.1 1) (n0, .inl f)).slots.getD (sp.toNatClampNeg + i) .null = .int (f (sp.toNatClampNeg + i)) := by
        rw [vp_cell_i, Array.getD_eq_getD_getElem?, arrV_read _ _ (by omega)]
        rfl
      refine ⟨?_, ?_⟩
      · rw [e]
        exact I.2.2.2.2 a _ ha rfl _
      · rw [e]
        exact trivial)
    (g := F0 m pc ls (.int x :: .int dp :: .ref (g.1 + b) :: .int sp :: .ref (g.1 + a) :: st.map (gv g))) rfl (by rw [X.2.2.1]; exact B.1) (rest := st.map (gv g)) rfl (by rw [X.2.1]; exact d) hfr (by show 2 * 0 + _ + _ ≤ _; rw [gsum]; omega)
  have e1 : copied (vp_cell (g.2.2.2.1 1) (n0, .inl f)) (vp_cell (g.2.2.2.1 1) (n1, .inl f1)) sp dp x = vp_cell (g.2.2.2.1 1) (n1, .inl (va_cpy f f1 sp.toNatClampNeg dp.toNatClampNeg x.toNatClampNeg)) := va_copied (fun z => .int z) (g.2.2.2.1 1) (g.2.2.2.1 1) f f1 h4'
  rw [e1] at X' step
  have hl : g.1 + b < H.size := (Array.getElem?_eq_some_iff.mp hc1).1
  generalize hH1 : H.setIfInBounds (g.1 + b) (vp_cell (g.2.2.2.1 1) (n1, .inl (va_cpy f f1 sp.toNatClampNeg dp.toNatClampNeg x.toNatClampNeg))) = H1
  have hheap : ((T.setVm vm').setCell (g.1 + b) (vp_cell (g.2.2.2.1 1) (n1, .inl (va_cpy f f1 sp.toNatClampNeg dp.toNatClampNeg x.toNatClampNeg)))).heap = H1 := by rw [← hH1, ← hT]; rfl
  have hat : H1[g.1 + b]? = some (vp_cell (g.2.2.2.1 1) (n1, .inl (va_cpy f f1 sp.toNatClampNeg dp.toNatClampNeg x.toNatClampNeg))) := by rw [← hH1]; simp [Array.getElem?_setIfInBounds, hl]
  have hz : H1.size = H.size := by rw [← hH1]; simp
  have oq : ∀ q : Nat, q ≠ g.1 + b → H1[q]? = H[q]? := fun q hq => by rw [← hH1]; simp [Array.getElem?_setIfInBounds, Ne.symm hq]
  have hI : gI g s H1 h1 := by
    subst hh
    refine I.set hb hz hat oq (fun _ j => ?_)
    unfold va_cpy
    split
    · exact I.2.2.2.2 a _ ha rfl _
    · exact I.2.2.2.2 b _ hb rfl _
  obtain ⟨t, a1, b1⟩ := k p e s m args below meth cd H1 _ ls X hI ⟨by rw [hz]; exact S.1, fun q g1 g2 => by
      rw [oq q (fun e => g2 (by rw [e]; exact Nat.le_add_right _ _))]
      exact S.2.1 q g1 g2, fun q hq => by
      rcases List.mem_append.mp hq with h | h
      · exact S.2.2 q h
      · obtain ⟨z, -, hz⟩ := List.mem_map.mp h
        rw [← hz]
        exact Nat.le_add_right _ _⟩ B _ hheap X'
  exact ⟨t, step t a1, b1⟩
/-- copying a table's ints to the heap -/
theorem g_cpyt {t b idx n0 n1 : Nat} {f f1 : Nat → Int32} {sp dp x : Int32} {h1 : gH} (hw : gcpw M.1.cls idx) (ht : t < 7) (he : g.2.2.2.2 t = (.int, n0, f)) (hb : h[b]? = some (.inl (0, n1, .inl f1))) (h1' : ¬ sp < 0) (h2' : ¬ dp < 0) (h3' : ¬ x < 0) (h4' : sp.toNatClampNeg + x.toNatClampNeg ≤ n0) (h5' : dp.toNatClampNeg + x.toNatClampNeg ≤ n1)
    (hh : h.set b (.inl (0, n1, .inl (va_cpy f f1 sp.toNatClampNeg dp.toNatClampNeg x.toNatClampNeg))) = h1) (hfr : 1 ≤ R.frames) (hlo : (st.map fun v => v.category).sum + (nativeFrameWords "java/lang/System" "arraycopy" 5 + 11) ≤ R.locals) (d : decode M.2.1 pc = .ok (.invokestatic idx, 3)) (hq : pc + 3 = q)
    (k : gG l g M R Z q L st h1 c n) : gG l g M R Z pc L (.int x :: .int dp :: .ref b :: .int sp :: .ref (gBig + t) :: st) h c n := by
  subst hq; intro p e s m args below meth cd H locs ls X I S B
  have hts := X.2.2.2.2.2.1
  have hpb := I.pl hb
  have hX := X.2.2.2.2.2.2.2.1.2 t ht
  rw [he] at hX
  refine W.eq (g2 := F0 m pc ls (.int x :: .int dp :: .ref (g.1 + b) :: .int sp :: .ref (g.2.1 t) :: st.map (gv g))) (by rw [← gad_low, ← hpb]; rfl) ?_
  intro T hT XX
  obtain ⟨scr, hs1, hs2, hs3, hs4, -, hs5, hs7⟩ := hX
  have hc0 : H[g.2.1 t]? = some scr := by rw [S.2.1 _ (Array.getElem?_eq_some_iff.mp hs1).1 hs7]; exact hs1
  have hc1 : H[g.1 + b]? = some (vp_cell (g.2.2.2.1 0) (n1, .inl f1)) := I.at hb
  obtain ⟨hs6, k0, hk0, cm0, hkk0⟩ := hs2
  obtain ⟨-, k1, hk1, cm1, hkk1⟩ := (I.2.2.2.1.2 0 _ rfl).1 n1 (fun j => .int (f1 j))
  obtain ⟨vm', X', step⟩ := XX.arraycopy X.1 X.2.2.2.2.1 (hts _ hw.1) (hts _ hw.2.1) (hts _ hw.2.2.1) (hts _ hw.2.2.2) (src := g.2.1 t) (dst := g.1 + b) (cs := scr) (cd := vp_cell (g.2.2.2.1 0) (n1, .inl f1)) (srcPos := sp) (destPos := dp) (n := x) (by rw [hT]; exact hc0) (by rw [hT]; exact hc1)
    hs6 (fun _ h => by cases h) hs3 (fun h => by cases h) hk0 hk1 hkk0 hkk1 (by simp [refKind]) h1' h2' h3'
    (by rw [gnn sp h1', gnn x h3']; have hs4 : n0 ≤ scr.slots.size := hs4; omega)
    (by rw [gnn dp h2', gnn x h3']; show ¬ _ > ((arrV (g.2.2.2.1 0) n1 (fun j => .int (f1 j))).slots.size : Int); rw [arrV_size]; omega)
    (fun vm₁ _ i hi => by
      have e : scr.slots.getD (sp.toNatClampNeg + i) .null = .int (f (sp.toNatClampNeg + i)) := by
        rw [Array.getD_eq_getD_getElem?, hs5 _ (by show _ < n0; omega)]
        rfl
      refine ⟨?_, ?_⟩
      · rw [e]
        rfl
      · rw [e]
        exact trivial)
    (g := F0 m pc ls (.int x :: .int dp :: .ref (g.1 + b) :: .int sp :: .ref (g.2.1 t) :: st.map (gv g))) rfl (by rw [X.2.2.1]; exact B.1) (rest := st.map (gv g)) rfl (by rw [X.2.1]; exact d) hfr (by show 2 * 0 + _ + _ ≤ _; rw [gsum]; omega)
  have e1 : copied scr (vp_cell (g.2.2.2.1 0) (n1, .inl f1)) sp dp x = vp_cell (g.2.2.2.1 0) (n1, .inl (va_cpy f f1 sp.toNatClampNeg dp.toNatClampNeg x.toNatClampNeg)) := va_copiedX (fun z => .int z) scr (g.2.2.2.1 0) f f1 hs5 h4'
  rw [e1] at X' step
  have hl : g.1 + b < H.size := (Array.getElem?_eq_some_iff.mp hc1).1
  generalize hH1 : H.setIfInBounds (g.1 + b) (vp_cell (g.2.2.2.1 0) (n1, .inl (va_cpy f f1 sp.toNatClampNeg dp.toNatClampNeg x.toNatClampNeg))) = H1
  have hheap : ((T.setVm vm').setCell (g.1 + b) (vp_cell (g.2.2.2.1 0) (n1, .inl (va_cpy f f1 sp.toNatClampNeg dp.toNatClampNeg x.toNatClampNeg)))).heap = H1 := by rw [← hH1, ← hT]; rfl
  have hat : H1[g.1 + b]? = some (vp_cell (g.2.2.2.1 0) (n1, .inl (va_cpy f f1 sp.toNatClampNeg dp.toNatClampNeg x.toNatClampNeg))) := by rw [← hH1]; simp [Array.getElem?_setIfInBounds, hl]
  have hz : H1.size = H.size := by rw [← hH1]; simp
  have oq : ∀ q : Nat, q ≠ g.1 + b → H1[q]? = H[q]? := fun q hq => by rw [← hH1]; simp [Array.getElem?_setIfInBounds, Ne.symm hq]
  have hI : gI g s H1 h1 := by
    subst hh
    exact I.set hb hz hat oq (fun hz => by cases hz)
  obtain ⟨t, a1, b1⟩ := k p e s m args below meth cd H1 _ ls X hI ⟨by rw [hz]; exact S.1, fun q g1 g2 => by
      rw [oq q (fun e => g2 (by rw [e]; exact Nat.le_add_right _ _))]
      exact S.2.1 q g1 g2, fun q hq => by
      rcases List.mem_append.mp hq with h | h
      · exact S.2.2 q h
      · obtain ⟨z, -, hz⟩ := List.mem_map.mp h
        rw [← hz]
        exact Nat.le_add_right _ _⟩ B _ hheap X'
  exact ⟨t, step t a1, b1⟩
end GC
/-! calls -/
theorem gPc_blind (g : gE) (a : List Value) (h : gH) : FrameBlind (gPc g a h) := by
  intro av U fr mk hq
  obtain ⟨h1, h2, h3, h4⟩ := hq
  exact ⟨h1, ⟨h2.1, h2.2.1, h2.2.2.1, va_K.moved (u := U) (U := U.calling fr mk av) (Vm.Alike.refl U.vm) h2.2.2.2.1, h2.2.2.2.2⟩, gL.later h3 (U := U.calling fr mk av) (Vm.Alike.refl U.vm) (fun _ _ _ => rfl), ⟨fun x hx => va_Nw.same (w := .methodLinkNest x.1 x.2.1 x.2.2.1 x.2.2.2) rfl (u := U) (U := U.calling fr mk av) rfl (h4.1 x hx), h4.2.1.moved (U := U.calling fr mk av) (Vm.Alike.refl U.vm), h4.2.2.moved (U := U.calling fr mk av) (Vm.Alike.refl U.vm)⟩⟩
section GK
variable {p : Program} {l : Launch} {e : Env} {R : Room} {s : State} {m : MethodId} {args : Array Value} {below : List Frame} {meth : Method} {cd : Code} {H : Heap} {locs : List Loc} {c n : Nat} {Q : State → Prop} {g : gE} {pc : Nat} {ls : Array Slot} {rest st0 : List Value} {a : Array Value} {mc ms : Nat} {P : Option Value → gH → Prop}
theorem g_after (hr : va_Run p l e R s m args below meth cd H locs c n mc ms (F0 m pc ls st0) rest (gQc g P a) (gA g)) (hS : va_S (gA g) s.heap H locs)
    (kk : ∀ (r : Option Value) (h1 : gH) (H1 : Heap) (locs1 : List Loc), P r h1 → gI g s H1 h1 → va_S (gA g) s.heap H1 locs1 → W p l e R s m args below meth cd H1 locs1 (c + mc) (n + ms) Q (F0 m (pc + 3) ls ((r.map (gv g)).toList ++ rest))) : W p l e R s m args below meth cd H locs c n Q (F0 m pc ls st0) := by
  intro T hT X
  obtain ⟨v, st₀, t, T', L, h0, X', hL, e1, e2, ⟨⟨r, h1, hv, hp, hi⟩, hz, hk⟩, st⟩ := hr T hT X
  cases hv
  rw [h0] at hz hk
  have hal : s.vm.Alike t.vm := by rw [← e2]; exact X'.warmed.alike
  obtain ⟨t2, a1, b1⟩ := kk r h1 T'.heap (locs ++ L) hp (by rw [e1]; exact hi.moved hal.symm)
    ⟨Nat.le_trans hS.1 (by rw [e1]; exact hz), fun q h1 h2 => by rw [e1, hk q (Nat.lt_of_lt_of_le h1 hS.1) h2]; exact hS.2.1 q h1 h2, fun q hq => by
      rcases List.mem_append.mp hq with h | h
      · exact hS.2.2 q h
      · exact hL q h⟩ T' rfl X'
  exact ⟨t2, st t2 a1, b1⟩
end GK
/-- what the tables say of a method that is called -/
def gMt (M : gM) (np : Nat) : Prop := Cond.code M.1 M.2.1 M.2.2.1 M.2.2.2 ∈ gWG ∧ Cond.initialized M.1.cls ∈ gWG ∧ (M.1.cls ≠ "java/lang/invoke/MethodHandle" ∧ M.1.cls ≠ "java/lang/invoke/VarHandle" ∧ (parseMethodDescriptor M.1.desc).map (fun d => d.parameters.length) = some np)
def gMv (M : gM) (np : Nat) : Prop := gMt M np ∧ Cond.instanceMethod M.1 ∈ gWG ∧ Cond.selects M.1.cls M.1 M.1 ∈ gWG
theorem gMt.good {M : gM} {np : Nat} (h : gMt M np) : ∀ w ∈ gws M, w ∈ gWG := fun w hw => (List.mem_cons.mp hw).elim (fun e => by rw [e]; exact h.1) id
section GL
variable {l : Launch} {g : gE} {M : gM} {R : Room} {Z : gZ} {pc q : Nat} {L : List (Nat × Value)} {st stk : List Value} {h : gH} {c n : Nat}
theorem g_pre {p : Program} {s : State} {m : MethodId} {args : Array Value} {meth : Method} {cd : Code} {H : Heap} {locs : List Loc} (a : List Value) (X : gX g M p s m args meth cd) (I : gI g s H h) (S : va_S (gA g) s.heap H locs) : ∀ U : State, U.heap = H → s.WarmedH U.vm → gPc g a h (a.map (gv g)).toArray U := fun U hU hW =>
  ⟨rfl, by rw [hU]; exact I.moved hW.alike, X.2.2.2.2.2.2.2.1.later hW.alike (fun q h1 h2 => by rw [hU]; exact S.2.1 q h1 h2), X.2.2.2.2.2.2.2.2.1.warm hW⟩
/-- a call of an instance method (invokevirtual, private ones too) -/
theorem g_callv {M1 : gM} {R1 : Room} {np idx b ci NN : Nat} {T : u_T} {As : List Value} {P : Option Value → gH → Prop} {fs : List Value} (hm : gMv M1 np) (hl : Cond.methodLink M.1.cls idx M1.1 ∈ gWG) (hC : gC l g M1 R1 (.ref b :: As) h P) (hb : h[b]? = some (.inr (ci, fs))) (hc : gcl[ci]? = some (M1.1.cls, T, NN)) (hnp : As.length = np) (hfr : R1.frames + 1 ≤ R.frames) (hlo : 8 + (M1.2.2.1 + 11) + R1.locals ≤ R.locals) (hcc : c + R1.cells ≤ R.cells) (hnn : n + R1.slots ≤ R.slots) (hst : stk = As.reverse ++ .ref b :: st) (hsm : (st.map fun v => v.category).sum ≤ 8) (d : decode M.2.1 pc = .ok (.invokevirtual idx, 3)) (hq : pc + 3 = q)
    (k : ∀ (r : Option Value) (h1 : gH), P r h1 → gG l g M R Z q L (r.toList ++ st) h1 (c + R1.cells) (n + R1.slots)) : gG l g M R Z pc L stk h c n := by
  subst hq; subst hst; intro p e s m args below meth cd H locs ls X I S B
  have hts := X.2.2.2.2.2.1
  have hp := I.pl hb
  have hG : GoodIn gWG (wsV M.1.cls idx M1.1.cls M1.1 (gws M1)) := ggoodIn (fun w hw => by
    unfold wsV at hw
    rcases List.mem_append.mp hw with hw | hw
    · simp only [List.mem_cons, List.not_mem_nil, or_false] at hw
      rcases hw with rfl | rfl | rfl | rfl
      · exact hl
      · exact hm.2.1
      · exact hm.2.2
      · exact hm.1.2.1
    · exact hm.1.good w hw)
  have hrun := va_runV (rest := st.map (gv g)) (As := As.map (gv g)) (b := gad g b) (g := F0 m pc ls ((As.reverse ++ .ref b :: st).map (gv g))) (below := below) (e := e) (meth := meth) (locs := locs) (H := H) (cells := c) (slots := n) ⟨X.1, X.2.1, X.2.2.1, X.2.2.2.2.1, hts⟩ hC (cwV np hts hG rfl rfl rfl ⟨rfl, hm.1.2.2⟩ ⟨hfr, hlo⟩)
    ⟨gPc_blind g _ h, by rw [hp]; exact va_recv I.2.2.2.1 I.2.2.1 hc (gw_get hb), g_pre (.ref b :: As) X I S⟩ rfl (by rw [List.length_map]; exact hnp) B.1 (by show List.map (gv g) (As.reverse ++ .ref b :: st) = _; rw [List.map_append, List.map_reverse]; rfl) (by show 2 * 0 + _ ≤ 8; rw [gsum]; omega) d ⟨hcc, hnn⟩
  refine g_after hrun S (fun r h1 H1 locs1 hP hI hS => ?_)
  refine W.eq ?_ (k r h1 hP p e s m args below meth cd H1 locs1 ls X hI hS B)
  cases r <;> rfl
/-- a call of a static method -/
theorem g_calls {M1 : gM} {R1 : Room} {np idx : Nat} {As : List Value} {P : Option Value → gH → Prop} (hm : gMt M1 np) (hs : Cond.static M1.1 ∈ gWG) (hl : Cond.methodLink M.1.cls idx M1.1 ∈ gWG) (hC : gC l g M1 R1 As h P) (hnp : As.length = np) (hfr : R1.frames + 1 ≤ R.frames) (hlo : 8 + (M1.2.2.1 + 11) + R1.locals ≤ R.locals) (hcc : c + R1.cells ≤ R.cells) (hnn : n + R1.slots ≤ R.slots) (hst : stk = As.reverse ++ st) (hsm : (st.map fun v => v.category).sum ≤ 8) (d : decode M.2.1 pc = .ok (.invokestatic idx, 3)) (hq : pc + 3 = q)
    (k : ∀ (r : Option Value) (h1 : gH), P r h1 → gG l g M R Z q L (r.toList ++ st) h1 (c + R1.cells) (n + R1.slots)) : gG l g M R Z pc L stk h c n := by
  subst hq; subst hst; intro p e s m args below meth cd H locs ls X I S B
  have hts := X.2.2.2.2.2.1
  have hG : GoodIn gWG (va_wsS M.1.cls idx M1.1 (gws M1)) := ggoodIn (fun w hw => by
    unfold va_wsS at hw
    rcases List.mem_append.mp hw with hw | hw
    · simp only [List.mem_cons, List.not_mem_nil, or_false] at hw
      rcases hw with rfl | rfl | rfl
      · exact hl
      · exact hs
      · exact hm.2.1
    · exact hm.good w hw)
  have hrun := va_runS (rest := st.map (gv g)) (As := As.map (gv g)) (g := F0 m pc ls ((As.reverse ++ st).map (gv g))) (below := below) (e := e) (meth := meth) (locs := locs) (H := H) (cells := c) (slots := n) ⟨X.1, X.2.1, X.2.2.1, X.2.2.2.2.1, hts⟩ hC (va_cwS np hts hG rfl rfl rfl hm.2.2 ⟨hfr, hlo⟩)
    ⟨gPc_blind g _ h, g_pre As X I S⟩ rfl (by rw [List.length_map]; exact hnp) B.1 (by show List.map (gv g) (As.reverse ++ st) = _; rw [List.map_append, List.map_reverse]) (by show 2 * 0 + _ ≤ 8; rw [gsum]; omega) d ⟨hcc, hnn⟩
  refine g_after hrun S (fun r h1 H1 locs1 hP hI hS => ?_)
  refine W.eq ?_ (k r h1 hP p e s m args below meth cd H1 locs1 ls X hI hS B)
  cases r <;> rfl
/-- a call of a constructor -/
theorem g_calli {M1 : gM} {R1 : Room} {np idx b : Nat} {As : List Value} {P : Option Value → gH → Prop} (hm : gMt M1 np) (hi : Cond.instanceMethod M1.1 ∈ gWG) (hnm : M1.1.name = "<init>") (hret : M1.2.2.2 = none) (hl : Cond.methodLink M.1.cls idx M1.1 ∈ gWG) (hC : gC l g M1 R1 (.ref b :: As) h P) (hnp : As.length = np) (hfr : R1.frames + 1 ≤ R.frames) (hlo : 8 + (M1.2.2.1 + 11) + R1.locals ≤ R.locals) (hcc : c + R1.cells ≤ R.cells) (hnn : n + R1.slots ≤ R.slots) (hst : stk = As.reverse ++ .ref b :: st) (hsm : (st.map fun v => v.category).sum ≤ 8) (d : decode M.2.1 pc = .ok (.invokespecial idx, 3)) (hq : pc + 3 = q)
    (k : ∀ (r : Option Value) (h1 : gH), P r h1 → gG l g M R Z q L (r.toList ++ st) h1 (c + R1.cells) (n + R1.slots)) : gG l g M R Z pc L stk h c n := by
  subst hq; subst hst; intro p e s m args below meth cd H locs ls X I S B
  have hts := X.2.2.2.2.2.1
  have hrun := va_runI (bytes := M1.2.1) (maxL := M1.2.2.1) (n := np) (mc := R1.cells) (ms := R1.slots) (rm := R1) (ws := gws M1) (rest := st.map (gv g)) (As := As.map (gv g)) (b := gad g b) (g := F0 m pc ls ((As.reverse ++ .ref b :: st).map (gv g))) (below := below) (e := e) (meth := meth) (locs := locs) (H := H) (cells := c) (slots := n) ⟨X.1, X.2.1, X.2.2.1, X.2.2.2.2.1, hts⟩ hC (cwI np hts (ggoodIn hm.good) (by unfold gws; rw [hret]) rfl rfl (hts _ hm.2.1) (hts _ hl) (hts _ hi) hnm hm.2.2 ⟨hfr, hlo⟩)
    ⟨gPc_blind g _ h, g_pre (.ref b :: As) X I S⟩ rfl (by rw [List.length_map]; exact hnp) B.1 (by show List.map (gv g) (As.reverse ++ .ref b :: st) = _; rw [List.map_append, List.map_reverse]; rfl) (by show 2 * 0 + _ ≤ 8; rw [gsum]; omega) d ⟨hcc, hnn⟩
  refine g_after hrun S (fun r h1 H1 locs1 hP hI hS => ?_)
  refine W.eq ?_ (k r h1 hP p e s m args below meth cd H1 locs1 ls X hI hS B)
  cases r <;> rfl
/-- the same, of nest mates -/
theorem g_calliN {M1 : gM} {R1 : Room} {np idx b j : Nat} {hostn : String} {As : List Value} {P : Option Value → gH → Prop} (hm : gMt M1 np) (hi : Cond.instanceMethod M1.1 ∈ gWG) (hnm : M1.1.name = "<init>") (hret : M1.2.2.2 = none) (hl : gnest[j]? = some (M.1.cls, idx, M1.1, hostn)) (hC : gC l g M1 R1 (.ref b :: As) h P) (hnp : As.length = np) (hfr : R1.frames + 1 ≤ R.frames) (hlo : 8 + (M1.2.2.1 + 11) + R1.locals ≤ R.locals) (hcc : c + R1.cells ≤ R.cells) (hnn : n + R1.slots ≤ R.slots) (hst : stk = As.reverse ++ .ref b :: st) (hsm : (st.map fun v => v.category).sum ≤ 8) (d : decode M.2.1 pc = .ok (.invokespecial idx, 3)) (hq : pc + 3 = q)
    (k : ∀ (r : Option Value) (h1 : gH), P r h1 → gG l g M R Z q L (r.toList ++ st) h1 (c + R1.cells) (n + R1.slots)) : gG l g M R Z pc L stk h c n := by
  subst hq; subst hst; intro p e s m args below meth cd H locs ls X I S B
  have hts := X.2.2.2.2.2.1
  have hnest := X.2.2.2.2.2.2.2.2.1.1 _ (List.mem_of_getElem? hl)
  have hrun := va_runIN (bytes := M1.2.1) (maxL := M1.2.2.1) (n := np) (mc := R1.cells) (ms := R1.slots) (rm := R1) (ws := gws M1) (host := hostn) (rest := st.map (gv g)) (As := As.map (gv g)) (b := gad g b) (g := F0 m pc ls ((As.reverse ++ .ref b :: st).map (gv g))) (below := below) (e := e) (meth := meth) (locs := locs) (H := H) (cells := c) (slots := n) ⟨X.1, X.2.1, X.2.2.1, X.2.2.2.2.1, hts⟩ hC ⟨va_cnB np hts (ggoodIn hm.good) (by unfold gws; rw [hret]) rfl rfl hnest (hts _ hm.2.1) hm.2.2 ⟨hfr, hlo⟩, hnm, hts _ hi⟩
    ⟨gPc_blind g _ h, g_pre (.ref b :: As) X I S⟩ rfl (by rw [List.length_map]; exact hnp) B.1 (by show List.map (gv g) (As.reverse ++ .ref b :: st) = _; rw [List.map_append, List.map_reverse]; rfl) (by show 2 * 0 + _ ≤ 8; rw [gsum]; omega) d ⟨hcc, hnn⟩
  refine g_after hrun S (fun r h1 H1 locs1 hP hI hS => ?_)
  refine W.eq ?_ (k r h1 hP p e s m args below meth cd H1 locs1 ls X hI hS B)
  cases r <;> rfl
theorem g_callsN {M1 : gM} {R1 : Room} {np idx j : Nat} {hostn : String} {As : List Value} {P : Option Value → gH → Prop} (hm : gMt M1 np) (hs : Cond.static M1.1 ∈ gWG) (hl : gnest[j]? = some (M.1.cls, idx, M1.1, hostn)) (hC : gC l g M1 R1 As h P) (hnp : As.length = np) (hfr : R1.frames + 1 ≤ R.frames) (hlo : 8 + (M1.2.2.1 + 11) + R1.locals ≤ R.locals) (hcc : c + R1.cells ≤ R.cells) (hnn : n + R1.slots ≤ R.slots) (hst : stk = As.reverse ++ st) (hsm : (st.map fun v => v.category).sum ≤ 8) (d : decode M.2.1 pc = .ok (.invokestatic idx, 3)) (hq : pc + 3 = q)
    (k : ∀ (r : Option Value) (h1 : gH), P r h1 → gG l g M R Z q L (r.toList ++ st) h1 (c + R1.cells) (n + R1.slots)) : gG l g M R Z pc L stk h c n := by
  subst hq; subst hst; intro p e s m args below meth cd H locs ls X I S B
  have hts := X.2.2.2.2.2.1
  have hnest := X.2.2.2.2.2.2.2.2.1.1 _ (List.mem_of_getElem? hl)
  have hrun := va_runSN (bytes := M1.2.1) (maxL := M1.2.2.1) (ret := M1.2.2.2) (n := np) (mc := R1.cells) (ms := R1.slots) (rm := R1) (ws := gws M1) (host := hostn) (rest := st.map (gv g)) (As := As.map (gv g)) (g := F0 m pc ls ((As.reverse ++ st).map (gv g))) (below := below) (e := e) (meth := meth) (locs := locs) (H := H) (cells := c) (slots := n) ⟨X.1, X.2.1, X.2.2.1, X.2.2.2.2.1, hts⟩ hC ⟨va_cnB np hts (ggoodIn hm.good) rfl rfl rfl hnest (hts _ hm.2.1) hm.2.2 ⟨hfr, hlo⟩, hts _ hs, trivial⟩
    ⟨gPc_blind g _ h, g_pre As X I S⟩ rfl (by rw [List.length_map]; exact hnp) B.1 (by show List.map (gv g) (As.reverse ++ st) = _; rw [List.map_append, List.map_reverse]) (by show 2 * 0 + _ ≤ 8; rw [gsum]; omega) d ⟨hcc, hnn⟩
  refine g_after hrun S (fun r h1 H1 locs1 hP hI hS => ?_)
  refine W.eq ?_ (k r h1 hP p e s m args below meth cd H1 locs1 ls X hI hS B)
  cases r <;> rfl
end GL
