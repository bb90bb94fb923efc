/-! Rules: one an instruction, for the walk gG over the abstract heap. -/
def gfind (L : List (Nat × Value)) (i : Nat) : Option Value := match L with
  | [] => none
  | q :: L => if q.1 = i then some q.2 else gfind L i
def gkeep (i : Nat) (q : Nat × Value) : Bool := !(q.1 == i) && !(q.1 + 1 == i && q.2.category == 2)
def gkeep2 (i : Nat) (q : Nat × Value) : Bool := !(q.1 == i) && (!(q.1 == i + 1) && !(q.1 + 1 == i && q.2.category == 2))
def gset (i : Nat) (v : Value) (L : List (Nat × Value)) : List (Nat × Value) := match L with
  | [] => [(i, v)]
  | q :: L => if q.1 < i then (if gkeep i q then q :: gset i v L else gset i v L) else (i, v) :: (q :: L).filter (gkeep i)
def gset2 (i : Nat) (v : Value) (L : List (Nat × Value)) : List (Nat × Value) := match L with
  | [] => [(i, v)]
  | q :: L => if q.1 < i then (if gkeep2 i q then q :: gset2 i v L else gset2 i v L) else (i, v) :: (q :: L).filter (gkeep2 i)
theorem gfind_mem : ∀ {L : List (Nat × Value)} {i : Nat} {v : Value}, gfind L i = some v → (i, v) ∈ L
  | [], _, _, h => by cases h
  | q :: L, i, v, h => by
    unfold gfind at h
    by_cases hq : q.1 = i
    · rw [if_pos hq] at h
      cases h; subst hq
      exact List.mem_cons_self
    · rw [if_neg hq] at h
      exact List.mem_cons_of_mem _ (gfind_mem h)
theorem gset_mem (i : Nat) (v : Value) : ∀ (L : List (Nat × Value)) (q : Nat × Value), q ∈ gset i v L → q ∈ (i, v) :: L.filter (gkeep i)
  | [], q, h => h
  | r :: L, q, h => by
    unfold gset at h
    by_cases hr : r.1 < i
    · rw [if_pos hr] at h
      by_cases hk : gkeep i r = true
      · rw [if_pos hk] at h
        rcases List.mem_cons.mp h with rfl | h
        · exact List.mem_cons_of_mem _ (List.mem_filter.mpr ⟨List.mem_cons_self, hk⟩)
        · rcases List.mem_cons.mp (gset_mem i v L q h) with rfl | h2
          · exact List.mem_cons_self
          · exact List.mem_cons_of_mem _ (List.mem_filter.mpr ⟨List.mem_cons_of_mem _ (List.mem_filter.mp h2).1, (List.mem_filter.mp h2).2⟩)
      · rw [if_neg hk] at h
        rcases List.mem_cons.mp (gset_mem i v L q h) with rfl | h2
        · exact List.mem_cons_self
        · exact List.mem_cons_of_mem _ (List.mem_filter.mpr ⟨List.mem_cons_of_mem _ (List.mem_filter.mp h2).1, (List.mem_filter.mp h2).2⟩)
    · rw [if_neg hr] at h
      exact h
theorem gset2_mem (i : Nat) (v : Value) : ∀ (L : List (Nat × Value)) (q : Nat × Value), q ∈ gset2 i v L → q ∈ (i, v) :: L.filter (gkeep2 i)
  | [], q, h => h
  | r :: L, q, h => by
    unfold gset2 at h
    by_cases hr : r.1 < i
    · rw [if_pos hr] at h
      by_cases hk : gkeep2 i r = true
      · rw [if_pos hk] at h
        rcases List.mem_cons.mp h with rfl | h
        · exact List.mem_cons_of_mem _ (List.mem_filter.mpr ⟨List.mem_cons_self, hk⟩)
        · rcases List.mem_cons.mp (gset2_mem i v L q h) with rfl | h2
          · exact List.mem_cons_self
          · exact List.mem_cons_of_mem _ (List.mem_filter.mpr ⟨List.mem_cons_of_mem _ (List.mem_filter.mp h2).1, (List.mem_filter.mp h2).2⟩)
      · rw [if_neg hk] at h
        rcases List.mem_cons.mp (gset2_mem i v L q h) with rfl | h2
        · exact List.mem_cons_self
        · exact List.mem_cons_of_mem _ (List.mem_filter.mpr ⟨List.mem_cons_of_mem _ (List.mem_filter.mp h2).1, (List.mem_filter.mp h2).2⟩)
    · rw [if_neg hr] at h
      exact h
theorem gkeep_v (g : gE) (i : Nat) (q : Nat × Value) : gkeep i (q.1, gv g q.2) = gkeep i q := by simp only [gkeep, gv_cat]
theorem gkeep2_v (g : gE) (i : Nat) (q : Nat × Value) : gkeep2 i (q.1, gv g q.2) = gkeep2 i q := by simp only [gkeep2, gv_cat]
theorem gLv_set {g : gE} {ls : Array Slot} {nL i : Nat} {v : Value} {L : List (Nat × Value)} (h : lv_has ls nL ((i, gv g v) :: (gLv g L).filter (gkeep i))) : lv_has ls nL (gLv g (gset i v L)) := by
  refine ⟨h.1, h.2.1, fun q hq => h.2.2 q ?_⟩
  obtain ⟨r, hr, rfl⟩ := List.mem_map.mp hq
  rcases List.mem_cons.mp (gset_mem i v L r hr) with rfl | h2
  · exact List.mem_cons_self
  · exact List.mem_cons_of_mem _ (List.mem_filter.mpr ⟨List.mem_map.mpr ⟨r, (List.mem_filter.mp h2).1, rfl⟩, by rw [gkeep_v]; exact (List.mem_filter.mp h2).2⟩)
theorem gLv_set2 {g : gE} {ls : Array Slot} {nL i : Nat} {v : Value} {L : List (Nat × Value)} (h : lv_has ls nL ((i, gv g v) :: (gLv g L).filter (gkeep2 i))) : lv_has ls nL (gLv g (gset2 i v L)) := by
  refine ⟨h.1, h.2.1, fun q hq => h.2.2 q ?_⟩
  obtain ⟨r, hr, rfl⟩ := List.mem_map.mp hq
  rcases List.mem_cons.mp (gset2_mem i v L r hr) with rfl | h2
  · exact List.mem_cons_self
  · exact List.mem_cons_of_mem _ (List.mem_filter.mpr ⟨List.mem_map.mpr ⟨r, (List.mem_filter.mp h2).1, rfl⟩, by rw [gkeep2_v]; exact (List.mem_filter.mp h2).2⟩)
theorem gLv_at {g : gE} {ls : Array Slot} {nL i : Nat} {v : Value} {L : List (Nat × Value)} (h : lv_has ls nL (gLv g L)) (hf : gfind L i = some v) : ls[i]? = some (.val (gv g v)) := h.2.2 (i, gv g v) (List.mem_map.mpr ⟨(i, v), gfind_mem hf, rfl⟩)
section GR
variable {l : Launch} {g : gE} {M : gM} {R : Room} {Z : gZ} {pc q : Nat} {L : List (Nat × Value)} {st : List Value} {h : gH} {c n : Nat}
theorem g_iadd {x y : Int32} (d : decode M.2.1 pc = .ok (.iadd, 1)) (hq : pc + 1 = q) (k : gG l g M R Z q L (.int (x + y) :: st) h c n) : gG l g M R Z pc L (.int y :: .int x :: st) h c n := by
  subst hq; intro p e s m args below meth cd H locs ls X I S B
  exact lv_iadd X.1 X.2.1 d (k p e s m args below meth cd H locs ls X I S B)
theorem g_isub {x y : Int32} (d : decode M.2.1 pc = .ok (.isub, 1)) (hq : pc + 1 = q) (k : gG l g M R Z q L (.int (x - y) :: st) h c n) : gG l g M R Z pc L (.int y :: .int x :: st) h c n := by
  subst hq; intro p e s m args below meth cd H locs ls X I S B
  exact lv_isub X.1 X.2.1 d (k p e s m args below meth cd H locs ls X I S B)
theorem g_imul {x y : Int32} (d : decode M.2.1 pc = .ok (.imul, 1)) (hq : pc + 1 = q) (k : gG l g M R Z q L (.int (x * y) :: st) h c n) : gG l g M R Z pc L (.int y :: .int x :: st) h c n := by
  subst hq; intro p e s m args below meth cd H locs ls X I S B
  exact lv_imul X.1 X.2.1 d (k p e s m args below meth cd H locs ls X I S B)
theorem g_iand {x y : Int32} (d : decode M.2.1 pc = .ok (.iand, 1)) (hq : pc + 1 = q) (k : gG l g M R Z q L (.int (x &&& y) :: st) h c n) : gG l g M R Z pc L (.int y :: .int x :: st) h c n := by
  subst hq; intro p e s m args below meth cd H locs ls X I S B
  exact lv_iand X.1 X.2.1 d (k p e s m args below meth cd H locs ls X I S B)
theorem g_ior {x y : Int32} (d : decode M.2.1 pc = .ok (.ior, 1)) (hq : pc + 1 = q) (k : gG l g M R Z q L (.int (x ||| y) :: st) h c n) : gG l g M R Z pc L (.int y :: .int x :: st) h c n := by
  subst hq; intro p e s m args below meth cd H locs ls X I S B
  exact lv_ior X.1 X.2.1 d (k p e s m args below meth cd H locs ls X I S B)
theorem g_ixor {x y : Int32} (d : decode M.2.1 pc = .ok (.ixor, 1)) (hq : pc + 1 = q) (k : gG l g M R Z q L (.int (x ^^^ y) :: st) h c n) : gG l g M R Z pc L (.int y :: .int x :: st) h c n := by
  subst hq; intro p e s m args below meth cd H locs ls X I S B
  exact lv_ixor X.1 X.2.1 d (k p e s m args below meth cd H locs ls X I S B)
theorem g_ishl {x y : Int32} (d : decode M.2.1 pc = .ok (.ishl, 1)) (hq : pc + 1 = q) (k : gG l g M R Z q L (.int (x <<< (y &&& 31)) :: st) h c n) : gG l g M R Z pc L (.int y :: .int x :: st) h c n := by
  subst hq; intro p e s m args below meth cd H locs ls X I S B
  exact lv_ishl X.1 X.2.1 d (k p e s m args below meth cd H locs ls X I S B)
theorem g_ishr {x y : Int32} (d : decode M.2.1 pc = .ok (.ishr, 1)) (hq : pc + 1 = q) (k : gG l g M R Z q L (.int (x >>> (y &&& 31)) :: st) h c n) : gG l g M R Z pc L (.int y :: .int x :: st) h c n := by
  subst hq; intro p e s m args below meth cd H locs ls X I S B
  exact lv_ishr X.1 X.2.1 d (k p e s m args below meth cd H locs ls X I S B)
theorem g_iushr {x y : Int32} (d : decode M.2.1 pc = .ok (.iushr, 1)) (hq : pc + 1 = q) (k : gG l g M R Z q L (.int ((x.toUInt32 >>> (y.toUInt32 &&& Int32.toUInt32 31)).toInt32) :: st) h c n) : gG l g M R Z pc L (.int y :: .int x :: st) h c n := by
  subst hq; intro p e s m args below meth cd H locs ls X I S B
  exact lv_iushr X.1 X.2.1 d rfl (k p e s m args below meth cd H locs ls X I S B)
theorem g_idiv {x y : Int32} (d : decode M.2.1 pc = .ok (.idiv, 1)) (hne : ¬ y = 0) (hq : pc + 1 = q) (k : gG l g M R Z q L (.int (x / y) :: st) h c n) : gG l g M R Z pc L (.int y :: .int x :: st) h c n := by
  subst hq; intro p e s m args below meth cd H locs ls X I S B
  exact lv_idiv X.1 X.2.1 d hne (k p e s m args below meth cd H locs ls X I S B)
theorem g_irem {x y : Int32} (d : decode M.2.1 pc = .ok (.irem, 1)) (hne : ¬ y = 0) (hq : pc + 1 = q) (k : gG l g M R Z q L (.int (x - x / y * y) :: st) h c n) : gG l g M R Z pc L (.int y :: .int x :: st) h c n := by
  subst hq; intro p e s m args below meth cd H locs ls X I S B
  exact lv_irem X.1 X.2.1 d hne (k p e s m args below meth cd H locs ls X I S B)
theorem g_ladd {x y : Int64} (d : decode M.2.1 pc = .ok (.ladd, 1)) (hq : pc + 1 = q) (k : gG l g M R Z q L (.long (x + y) :: st) h c n) : gG l g M R Z pc L (.long y :: .long x :: st) h c n := by
  subst hq; intro p e s m args below meth cd H locs ls X I S B
  exact lv_ladd X.1 X.2.1 d (k p e s m args below meth cd H locs ls X I S B)
theorem g_lsub {x y : Int64} (d : decode M.2.1 pc = .ok (.lsub, 1)) (hq : pc + 1 = q) (k : gG l g M R Z q L (.long (x - y) :: st) h c n) : gG l g M R Z pc L (.long y :: .long x :: st) h c n := by
  subst hq; intro p e s m args below meth cd H locs ls X I S B
  exact lv_lsub X.1 X.2.1 d (k p e s m args below meth cd H locs ls X I S B)
theorem g_lmul {x y : Int64} (d : decode M.2.1 pc = .ok (.lmul, 1)) (hq : pc + 1 = q) (k : gG l g M R Z q L (.long (x * y) :: st) h c n) : gG l g M R Z pc L (.long y :: .long x :: st) h c n := by
  subst hq; intro p e s m args below meth cd H locs ls X I S B
  exact lv_lmul X.1 X.2.1 d (k p e s m args below meth cd H locs ls X I S B)
theorem g_land {x y : Int64} (d : decode M.2.1 pc = .ok (.land, 1)) (hq : pc + 1 = q) (k : gG l g M R Z q L (.long (x &&& y) :: st) h c n) : gG l g M R Z pc L (.long y :: .long x :: st) h c n := by
  subst hq; intro p e s m args below meth cd H locs ls X I S B
  exact lv_land X.1 X.2.1 d (k p e s m args below meth cd H locs ls X I S B)
theorem g_lor {x y : Int64} (d : decode M.2.1 pc = .ok (.lor, 1)) (hq : pc + 1 = q) (k : gG l g M R Z q L (.long (x ||| y) :: st) h c n) : gG l g M R Z pc L (.long y :: .long x :: st) h c n := by
  subst hq; intro p e s m args below meth cd H locs ls X I S B
  exact lv_lor X.1 X.2.1 d (k p e s m args below meth cd H locs ls X I S B)
theorem g_lxor {x y : Int64} (d : decode M.2.1 pc = .ok (.lxor, 1)) (hq : pc + 1 = q) (k : gG l g M R Z q L (.long (x ^^^ y) :: st) h c n) : gG l g M R Z pc L (.long y :: .long x :: st) h c n := by
  subst hq; intro p e s m args below meth cd H locs ls X I S B
  exact lv_lxor X.1 X.2.1 d (k p e s m args below meth cd H locs ls X I S B)
theorem g_lrem {x y : Int64} (d : decode M.2.1 pc = .ok (.lrem, 1)) (hne : ¬ y = 0) (hq : pc + 1 = q) (k : gG l g M R Z q L (.long (x - x / y * y) :: st) h c n) : gG l g M R Z pc L (.long y :: .long x :: st) h c n := by
  subst hq; intro p e s m args below meth cd H locs ls X I S B
  exact lv_lrem X.1 X.2.1 d hne (k p e s m args below meth cd H locs ls X I S B)
theorem g_lshl {x : Int64} {y : Int32} (d : decode M.2.1 pc = .ok (.lshl, 1)) (hq : pc + 1 = q) (k : gG l g M R Z q L (.long (x <<< (y.toInt64 &&& 63)) :: st) h c n) : gG l g M R Z pc L (.int y :: .long x :: st) h c n := by
  subst hq; intro p e s m args below meth cd H locs ls X I S B
  exact lv_lshl X.1 X.2.1 d rfl (k p e s m args below meth cd H locs ls X I S B)
theorem g_lshr {x : Int64} {y : Int32} (d : decode M.2.1 pc = .ok (.lshr, 1)) (hq : pc + 1 = q) (k : gG l g M R Z q L (.long (x >>> (y.toInt64 &&& 63)) :: st) h c n) : gG l g M R Z pc L (.int y :: .long x :: st) h c n := by
  subst hq; intro p e s m args below meth cd H locs ls X I S B
  exact lv_lshr X.1 X.2.1 d rfl (k p e s m args below meth cd H locs ls X I S B)
theorem g_lushr {x : Int64} {y : Int32} (d : decode M.2.1 pc = .ok (.lushr, 1)) (hq : pc + 1 = q) (k : gG l g M R Z q L (.long ((x.toUInt64 >>> (y.toInt64.toUInt64 &&& Int64.toUInt64 63)).toInt64) :: st) h c n) : gG l g M R Z pc L (.int y :: .long x :: st) h c n := by
  subst hq; intro p e s m args below meth cd H locs ls X I S B
  exact lv_lushr X.1 X.2.1 d rfl (k p e s m args below meth cd H locs ls X I S B)
theorem g_lcmp {x y : Int64} (d : decode M.2.1 pc = .ok (.lcmp, 1)) (hq : pc + 1 = q) (k : gG l g M R Z q L (.int (lg_cmp x y) :: st) h c n) : gG l g M R Z pc L (.long y :: .long x :: st) h c n := by
  subst hq; intro p e s m args below meth cd H locs ls X I S B
  exact W.lcmp X.1 X.2.1 d (k p e s m args below meth cd H locs ls X I S B)
theorem g_i2l {x : Int32} (d : decode M.2.1 pc = .ok (.i2l, 1)) (hq : pc + 1 = q) (k : gG l g M R Z q L (.long (x.toInt64) :: st) h c n) : gG l g M R Z pc L (.int x :: st) h c n := by
  subst hq; intro p e s m args below meth cd H locs ls X I S B
  exact lv_i2l X.1 X.2.1 d rfl (k p e s m args below meth cd H locs ls X I S B)
theorem g_l2i {x : Int64} (d : decode M.2.1 pc = .ok (.l2i, 1)) (hq : pc + 1 = q) (k : gG l g M R Z q L (.int (x.toInt32) :: st) h c n) : gG l g M R Z pc L (.long x :: st) h c n := by
  subst hq; intro p e s m args below meth cd H locs ls X I S B
  exact lv_l2i X.1 X.2.1 d rfl (k p e s m args below meth cd H locs ls X I S B)
theorem g_i2b {x : Int32} (d : decode M.2.1 pc = .ok (.i2b, 1)) (hq : pc + 1 = q) (k : gG l g M R Z q L (.int (x.toInt8.toInt32) :: st) h c n) : gG l g M R Z pc L (.int x :: st) h c n := by
  subst hq; intro p e s m args below meth cd H locs ls X I S B
  exact lv_i2b X.1 X.2.1 d rfl (k p e s m args below meth cd H locs ls X I S B)
theorem g_iconst {i : Int} {v : Int32} (d : decode M.2.1 pc = .ok (.iconst i, 1)) (hv : Int32.ofInt i = v) (hq : pc + 1 = q) (k : gG l g M R Z q L (.int v :: st) h c n) : gG l g M R Z pc L st h c n := by
  subst hq; intro p e s m args below meth cd H locs ls X I S B
  exact lv_iconst X.1 X.2.1 d hv (k p e s m args below meth cd H locs ls X I S B)
theorem g_bipush {i : Int} {v : Int32} (d : decode M.2.1 pc = .ok (.bipush i, 2)) (hv : (Int8.ofInt i).toInt32 = v) (hq : pc + 2 = q) (k : gG l g M R Z q L (.int v :: st) h c n) : gG l g M R Z pc L st h c n := by
  subst hq; intro p e s m args below meth cd H locs ls X I S B
  exact lv_bipush X.1 X.2.1 d hv (k p e s m args below meth cd H locs ls X I S B)
theorem g_sipush {i : Int} {v : Int32} (d : decode M.2.1 pc = .ok (.sipush i, 3)) (hv : (Int16.ofInt i).toInt32 = v) (hq : pc + 3 = q) (k : gG l g M R Z q L (.int v :: st) h c n) : gG l g M R Z pc L st h c n := by
  subst hq; intro p e s m args below meth cd H locs ls X I S B
  exact lv_sipush X.1 X.2.1 d hv (k p e s m args below meth cd H locs ls X I S B)
theorem g_lconst {i : Fin 2} {v : Int64} (d : decode M.2.1 pc = .ok (.lconst i, 1)) (hv : Int64.ofNat (i : Nat) = v) (hq : pc + 1 = q) (k : gG l g M R Z q L (.long v :: st) h c n) : gG l g M R Z pc L st h c n := by
  subst hq; intro p e s m args below meth cd H locs ls X I S B
  exact lv_lconst X.1 X.2.1 d hv (k p e s m args below meth cd H locs ls X I S B)
theorem g_ldc {i : Nat} {v : Int32} (hc : Cond.constant M.1.cls i v ∈ gWG) (d : decode M.2.1 pc = .ok (.ldc i, 2)) (hq : pc + 2 = q) (k : gG l g M R Z q L (.int v :: st) h c n) : gG l g M R Z pc L st h c n := by
  subst hq; intro p e s m args below meth cd H locs ls X I S B
  exact lv_ldc X.1 X.2.1 X.2.2.2.2.1 (X.2.2.2.2.2.1 _ hc) d (k p e s m args below meth cd H locs ls X I S B)
theorem g_ldcw {i : Nat} {v : Int32} (hc : Cond.constant M.1.cls i v ∈ gWG) (d : decode M.2.1 pc = .ok (.ldc_w i, 3)) (hq : pc + 3 = q) (k : gG l g M R Z q L (.int v :: st) h c n) : gG l g M R Z pc L st h c n := by
  subst hq; intro p e s m args below meth cd H locs ls X I S B
  exact lv_ldcw X.1 X.2.1 X.2.2.2.2.1 (X.2.2.2.2.2.1 _ hc) d (k p e s m args below meth cd H locs ls X I S B)
theorem g_ldc2 {i : Nat} {v : Int64} (hc : Cond.constantLong M.1.cls i v ∈ gWG) (d : decode M.2.1 pc = .ok (.ldc2_w i, 3)) (hq : pc + 3 = q) (k : gG l g M R Z q L (.long v :: st) h c n) : gG l g M R Z pc L st h c n := by
  subst hq; intro p e s m args below meth cd H locs ls X I S B
  exact lv_ldc2 X.1 X.2.1 X.2.2.2.2.1 (X.2.2.2.2.2.1 _ hc) d (k p e s m args below meth cd H locs ls X I S B)
theorem g_null (d : decode M.2.1 pc = .ok (.aconst_null, 1)) (hq : pc + 1 = q) (k : gG l g M R Z q L (.null :: st) h c n) : gG l g M R Z pc L st h c n := by
  subst hq; intro p e s m args below meth cd H locs ls X I S B
  exact lv_null X.1 X.2.1 d (k p e s m args below meth cd H locs ls X I S B)
theorem g_iload_n {j : Fin 4} {i : Nat} {x : Int32} (d : decode M.2.1 pc = .ok (.iload_n j, 1)) (hi : (j : Nat) = i) (hv : gfind L i = some (.int x)) (hq : pc + 1 = q) (k : gG l g M R Z q L (.int x :: st) h c n) : gG l g M R Z pc L st h c n := by
  subst hq; intro p e s m args below meth cd H locs ls X I S B
  exact lv_iload_n X.1 X.2.1 d hi (gLv_at B hv) (k p e s m args below meth cd H locs ls X I S B)
theorem g_iload {i : Nat} {x : Int32} (d : decode M.2.1 pc = .ok (.iload i, 2)) (hv : gfind L i = some (.int x)) (hq : pc + 2 = q) (k : gG l g M R Z q L (.int x :: st) h c n) : gG l g M R Z pc L st h c n := by
  subst hq; intro p e s m args below meth cd H locs ls X I S B
  exact lv_iload X.1 X.2.1 d (gLv_at B hv) (k p e s m args below meth cd H locs ls X I S B)
theorem g_lload_n {j : Fin 4} {i : Nat} {x : Int64} (d : decode M.2.1 pc = .ok (.lload_n j, 1)) (hi : (j : Nat) = i) (hv : gfind L i = some (.long x)) (hq : pc + 1 = q) (k : gG l g M R Z q L (.long x :: st) h c n) : gG l g M R Z pc L st h c n := by
  subst hq; intro p e s m args below meth cd H locs ls X I S B
  exact lv_lload_n X.1 X.2.1 d hi (gLv_at B hv) (k p e s m args below meth cd H locs ls X I S B)
theorem g_lload {i : Nat} {x : Int64} (d : decode M.2.1 pc = .ok (.lload i, 2)) (hv : gfind L i = some (.long x)) (hq : pc + 2 = q) (k : gG l g M R Z q L (.long x :: st) h c n) : gG l g M R Z pc L st h c n := by
  subst hq; intro p e s m args below meth cd H locs ls X I S B
  exact lv_lload X.1 X.2.1 d (gLv_at B hv) (k p e s m args below meth cd H locs ls X I S B)
theorem g_aload_n {j : Fin 4} {i : Nat} {x : Nat} (d : decode M.2.1 pc = .ok (.aload_n j, 1)) (hi : (j : Nat) = i) (hv : gfind L i = some (.ref x)) (hq : pc + 1 = q) (k : gG l g M R Z q L (.ref x :: st) h c n) : gG l g M R Z pc L st h c n := by
  subst hq; intro p e s m args below meth cd H locs ls X I S B
  exact lv_aload_n X.1 X.2.1 d hi (gLv_at B hv) (k p e s m args below meth cd H locs ls X I S B)
theorem g_aload {i : Nat} {x : Nat} (d : decode M.2.1 pc = .ok (.aload i, 2)) (hv : gfind L i = some (.ref x)) (hq : pc + 2 = q) (k : gG l g M R Z q L (.ref x :: st) h c n) : gG l g M R Z pc L st h c n := by
  subst hq; intro p e s m args below meth cd H locs ls X I S B
  exact lv_aload X.1 X.2.1 d (gLv_at B hv) (k p e s m args below meth cd H locs ls X I S B)
theorem g_aloadN_n {j : Fin 4} {i : Nat} (d : decode M.2.1 pc = .ok (.aload_n j, 1)) (hi : (j : Nat) = i) (hv : gfind L i = some .null) (hq : pc + 1 = q) (k : gG l g M R Z q L (.null :: st) h c n) : gG l g M R Z pc L st h c n := by
  subst hq; intro p e s m args below meth cd H locs ls X I S B
  exact lv_aload_nN X.1 X.2.1 d hi (gLv_at B hv) (k p e s m args below meth cd H locs ls X I S B)
theorem g_aloadN {i : Nat} (d : decode M.2.1 pc = .ok (.aload i, 2)) (hv : gfind L i = some .null) (hq : pc + 2 = q) (k : gG l g M R Z q L (.null :: st) h c n) : gG l g M R Z pc L st h c n := by
  subst hq; intro p e s m args below meth cd H locs ls X I S B
  exact lv_aloadN X.1 X.2.1 d (gLv_at B hv) (k p e s m args below meth cd H locs ls X I S B)
theorem g_istore_n {x : Int32} {j : Fin 4} {i : Nat} (d : decode M.2.1 pc = .ok (.istore_n j, 1)) (hi : (j : Nat) = i) (hn : i < M.2.2.1) (hq : pc + 1 = q) (k : ∀ y : Int32, y = x → gG l g M R Z q (gset i (.int y) L) st h c n) : gG l g M R Z pc L (.int x :: st) h c n := by
  subst hq; intro p e s m args below meth cd H locs ls X I S B
  exact lv_istore_n X.1 X.2.1 d hi B hn rfl (fun ls1 B1 => k x rfl p e s m args below meth cd H locs ls1 X I S (gLv_set (v := .int x) B1))
theorem g_istore {x : Int32} {i : Nat} (d : decode M.2.1 pc = .ok (.istore i, 2)) (hn : i < M.2.2.1) (hq : pc + 2 = q) (k : ∀ y : Int32, y = x → gG l g M R Z q (gset i (.int y) L) st h c n) : gG l g M R Z pc L (.int x :: st) h c n := by
  subst hq; intro p e s m args below meth cd H locs ls X I S B
  exact lv_istore X.1 X.2.1 d  B hn rfl (fun ls1 B1 => k x rfl p e s m args below meth cd H locs ls1 X I S (gLv_set (v := .int x) B1))
theorem g_lstore_n {x : Int64} {j : Fin 4} {i : Nat} (d : decode M.2.1 pc = .ok (.lstore_n j, 1)) (hi : (j : Nat) = i) (hn : i + 1 < M.2.2.1) (hq : pc + 1 = q) (k : ∀ y : Int64, y = x → gG l g M R Z q (gset2 i (.long y) L) st h c n) : gG l g M R Z pc L (.long x :: st) h c n := by
  subst hq; intro p e s m args below meth cd H locs ls X I S B
  exact lv_lstore_n X.1 X.2.1 d hi B hn rfl (fun ls1 B1 => k x rfl p e s m args below meth cd H locs ls1 X I S (gLv_set2 (v := .long x) B1))
theorem g_lstore {x : Int64} {i : Nat} (d : decode M.2.1 pc = .ok (.lstore i, 2)) (hn : i + 1 < M.2.2.1) (hq : pc + 2 = q) (k : ∀ y : Int64, y = x → gG l g M R Z q (gset2 i (.long y) L) st h c n) : gG l g M R Z pc L (.long x :: st) h c n := by
  subst hq; intro p e s m args below meth cd H locs ls X I S B
  exact lv_lstore X.1 X.2.1 d  B hn rfl (fun ls1 B1 => k x rfl p e s m args below meth cd H locs ls1 X I S (gLv_set2 (v := .long x) B1))
theorem g_astore_n {x : Nat} {j : Fin 4} {i : Nat} (d : decode M.2.1 pc = .ok (.astore_n j, 1)) (hi : (j : Nat) = i) (hn : i < M.2.2.1) (hq : pc + 1 = q) (k : ∀ y : Nat, y = x → gG l g M R Z q (gset i (.ref y) L) st h c n) : gG l g M R Z pc L (.ref x :: st) h c n := by
  subst hq; intro p e s m args below meth cd H locs ls X I S B
  exact lv_astore_n X.1 X.2.1 d hi B hn rfl (fun ls1 B1 => k x rfl p e s m args below meth cd H locs ls1 X I S (gLv_set (v := .ref x) B1))
theorem g_astore {x : Nat} {i : Nat} (d : decode M.2.1 pc = .ok (.astore i, 2)) (hn : i < M.2.2.1) (hq : pc + 2 = q) (k : ∀ y : Nat, y = x → gG l g M R Z q (gset i (.ref y) L) st h c n) : gG l g M R Z pc L (.ref x :: st) h c n := by
  subst hq; intro p e s m args below meth cd H locs ls X I S B
  exact lv_astore X.1 X.2.1 d  B hn rfl (fun ls1 B1 => k x rfl p e s m args below meth cd H locs ls1 X I S (gLv_set (v := .ref x) B1))
theorem g_astoreN {i : Nat} (d : decode M.2.1 pc = .ok (.astore i, 2)) (hn : i < M.2.2.1) (hq : pc + 2 = q) (k : gG l g M R Z q (gset i .null L) st h c n) : gG l g M R Z pc L (.null :: st) h c n := by
  subst hq; intro p e s m args below meth cd H locs ls X I S B
  exact lv_astoreN X.1 X.2.1 d B hn rfl (fun ls1 B1 => k p e s m args below meth cd H locs ls1 X I S (gLv_set (v := .null) B1))
theorem gLv_idx {g : gE} {L : List (Nat × Value)} {i : Nat} {v : Value} (hf : gfind L i = some v) : ∃ k : Nat, (gLv g L)[k]? = some (i, gv g v) := by
  obtain ⟨k, hk⟩ := List.getElem?_of_mem (gfind_mem hf)
  exact ⟨k, by unfold gLv; rw [List.getElem?_map, hk]; rfl⟩
theorem g_iinc {i : Nat} {d0 : Int} {x : Int32} (d : decode M.2.1 pc = .ok (.iinc i d0, 3)) (hv : gfind L i = some (.int x)) (hn : i < M.2.2.1) (hq : pc + 3 = q) (k : ∀ y : Int32, y = x + Int32.ofInt d0 → gG l g M R Z q (gset i (.int y) L) st h c n) : gG l g M R Z pc L st h c n := by
  subst hq; intro p e s m args below meth cd H locs ls X I S B
  obtain ⟨j, hj⟩ := gLv_idx (g := g) hv
  exact lv_iinc X.1 X.2.1 d B (k := j) hj rfl hn rfl (fun ls1 B1 => k _ rfl p e s m args below meth cd H locs ls1 X I S (gLv_set (v := .int (x + Int32.ofInt d0)) B1))
theorem g_topi {x : Int32} (k : ∀ y : Int32, y = x → gG l g M R Z pc L (.int y :: st) h c n) : gG l g M R Z pc L (.int x :: st) h c n := k x rfl
theorem g_topl {x : Int64} (k : ∀ y : Int64, y = x → gG l g M R Z pc L (.long y :: st) h c n) : gG l g M R Z pc L (.long x :: st) h c n := k x rfl
theorem g_dup {v : Value} (d : decode M.2.1 pc = .ok (.dup, 1)) (hv : v.category = 1) (hq : pc + 1 = q) (k : gG l g M R Z q L (v :: v :: st) h c n) : gG l g M R Z pc L (v :: st) h c n := by
  subst hq; intro p e s m args below meth cd H locs ls X I S B
  exact lv_dup X.1 X.2.1 d (by rw [gv_cat]; exact hv) (k p e s m args below meth cd H locs ls X I S B)
theorem g_pop {v : Value} (d : decode M.2.1 pc = .ok (.pop, 1)) (hv : v.category = 1) (hq : pc + 1 = q) (k : gG l g M R Z q L st h c n) : gG l g M R Z pc L (v :: st) h c n := by
  subst hq; intro p e s m args below meth cd H locs ls X I S B
  exact lv_pop X.1 X.2.1 d (by rw [gv_cat]; exact hv) (k p e s m args below meth cd H locs ls X I S B)
theorem g_dup2 {v u : Value} (d : decode M.2.1 pc = .ok (.dup2, 1)) (hv : v.category = 1) (hu : u.category = 1) (hq : pc + 1 = q) (k : gG l g M R Z q L (v :: u :: v :: u :: st) h c n) : gG l g M R Z pc L (v :: u :: st) h c n := by
  subst hq; intro p e s m args below meth cd H locs ls X I S B
  exact lv_dup2_11 X.1 X.2.1 d (by rw [gv_cat]; exact hv) (by rw [gv_cat]; exact hu) (k p e s m args below meth cd H locs ls X I S B)
theorem g_dup2l {v : Value} (d : decode M.2.1 pc = .ok (.dup2, 1)) (hv : v.category = 2) (hq : pc + 1 = q) (k : gG l g M R Z q L (v :: v :: st) h c n) : gG l g M R Z pc L (v :: st) h c n := by
  subst hq; intro p e s m args below meth cd H locs ls X I S B
  exact lv_dup2_2 X.1 X.2.1 d (by rw [gv_cat]; exact hv) (k p e s m args below meth cd H locs ls X I S B)
theorem g_dupx1 {v u : Value} (d : decode M.2.1 pc = .ok (.dup_x1, 1)) (hv : v.category = 1) (hu : u.category = 1) (hq : pc + 1 = q) (k : gG l g M R Z q L (v :: u :: v :: st) h c n) : gG l g M R Z pc L (v :: u :: st) h c n := by
  subst hq; intro p e s m args below meth cd H locs ls X I S B
  exact lv_dup_x1 X.1 X.2.1 d (by rw [gv_cat]; exact hv) (by rw [gv_cat]; exact hu) (k p e s m args below meth cd H locs ls X I S B)
theorem g_goto {off : Int} {tgt : Nat} (d : decode M.2.1 pc = .ok (.goto off, 3)) (ht : (pc : Int) + off = (tgt : Int)) (k : gG l g M R Z tgt L st h c n) : gG l g M R Z pc L st h c n := by
  intro p e s m args below meth cd H locs ls X I S B
  exact lv_goto X.1 X.2.1 d ht (k p e s m args below meth cd H locs ls X I S B)
theorem g_ifnonnull {x : Nat} {off : Int} {tgt : Nat} (d : decode M.2.1 pc = .ok (.ifnonnull off, 3)) (ht : (pc : Int) + off = (tgt : Int)) (k : gG l g M R Z tgt L st h c n) : gG l g M R Z pc L (.ref x :: st) h c n := by
  intro p e s m args below meth cd H locs ls X I S B
  exact lv_ifnonnull X.1 X.2.1 d ht (k p e s m args below meth cd H locs ls X I S B)
theorem g_ifnonnullN {off : Int} (d : decode M.2.1 pc = .ok (.ifnonnull off, 3)) (hq : pc + 3 = q) (k : gG l g M R Z q L st h c n) : gG l g M R Z pc L (.null :: st) h c n := by
  subst hq; intro p e s m args below meth cd H locs ls X I S B
  exact lv_ifnonnullN X.1 X.2.1 d (k p e s m args below meth cd H locs ls X I S B)
theorem g_ifnull {x : Nat} {off : Int} (d : decode M.2.1 pc = .ok (.ifnull off, 3)) (hq : pc + 3 = q) (k : gG l g M R Z q L st h c n) : gG l g M R Z pc L (.ref x :: st) h c n := by
  subst hq; intro p e s m args below meth cd H locs ls X I S B
  exact lv_ifnull X.1 X.2.1 d (k p e s m args below meth cd H locs ls X I S B)
theorem g_ifnullN {off : Int} {tgt : Nat} (d : decode M.2.1 pc = .ok (.ifnull off, 3)) (ht : (pc : Int) + off = (tgt : Int)) (k : gG l g M R Z tgt L st h c n) : gG l g M R Z pc L (.null :: st) h c n := by
  intro p e s m args below meth cd H locs ls X I S B
  exact lv_ifnullN X.1 X.2.1 d ht (k p e s m args below meth cd H locs ls X I S B)
theorem g_ifeq {x : Int32} {off : Int} {tgt : Nat} (d : decode M.2.1 pc = .ok (.ifCond .eq off, 3)) (ht : (pc : Int) + off = (tgt : Int)) (hq : pc + 3 = q) (kt : x = 0 → gG l g M R Z tgt L st h c n) (kf : ¬ x = 0 → gG l g M R Z q L st h c n) : gG l g M R Z pc L (.int x :: st) h c n := by
  subst hq; intro p e s m args below meth cd H locs ls X I S B
  exact lv_if_eq X.1 X.2.1 d ht (fun z => kt z p e s m args below meth cd H locs ls X I S B) (fun z => kf z p e s m args below meth cd H locs ls X I S B)
theorem g_icmpeq {x y : Int32} {off : Int} {tgt : Nat} (d : decode M.2.1 pc = .ok (.if_icmp .eq off, 3)) (ht : (pc : Int) + off = (tgt : Int)) (hq : pc + 3 = q) (kt : x = y → gG l g M R Z tgt L st h c n) (kf : ¬ x = y → gG l g M R Z q L st h c n) : gG l g M R Z pc L (.int y :: .int x :: st) h c n := by
  subst hq; intro p e s m args below meth cd H locs ls X I S B
  exact lv_icmp_eq X.1 X.2.1 d ht (fun z => kt z p e s m args below meth cd H locs ls X I S B) (fun z => kf z p e s m args below meth cd H locs ls X I S B)
theorem g_ifne {x : Int32} {off : Int} {tgt : Nat} (d : decode M.2.1 pc = .ok (.ifCond .ne off, 3)) (ht : (pc : Int) + off = (tgt : Int)) (hq : pc + 3 = q) (kt : ¬ x = 0 → gG l g M R Z tgt L st h c n) (kf : x = 0 → gG l g M R Z q L st h c n) : gG l g M R Z pc L (.int x :: st) h c n := by
  subst hq; intro p e s m args below meth cd H locs ls X I S B
  exact lv_if_ne X.1 X.2.1 d ht (fun z => kt z p e s m args below meth cd H locs ls X I S B) (fun z => kf z p e s m args below meth cd H locs ls X I S B)
theorem g_icmpne {x y : Int32} {off : Int} {tgt : Nat} (d : decode M.2.1 pc = .ok (.if_icmp .ne off, 3)) (ht : (pc : Int) + off = (tgt : Int)) (hq : pc + 3 = q) (kt : ¬ x = y → gG l g M R Z tgt L st h c n) (kf : x = y → gG l g M R Z q L st h c n) : gG l g M R Z pc L (.int y :: .int x :: st) h c n := by
  subst hq; intro p e s m args below meth cd H locs ls X I S B
  exact lv_icmp_ne X.1 X.2.1 d ht (fun z => kt z p e s m args below meth cd H locs ls X I S B) (fun z => kf z p e s m args below meth cd H locs ls X I S B)
theorem g_iflt {x : Int32} {off : Int} {tgt : Nat} (d : decode M.2.1 pc = .ok (.ifCond .lt off, 3)) (ht : (pc : Int) + off = (tgt : Int)) (hq : pc + 3 = q) (kt : x < 0 → gG l g M R Z tgt L st h c n) (kf : ¬ x < 0 → gG l g M R Z q L st h c n) : gG l g M R Z pc L (.int x :: st) h c n := by
  subst hq; intro p e s m args below meth cd H locs ls X I S B
  exact lv_if_lt X.1 X.2.1 d ht (fun z => kt z p e s m args below meth cd H locs ls X I S B) (fun z => kf z p e s m args below meth cd H locs ls X I S B)
theorem g_icmplt {x y : Int32} {off : Int} {tgt : Nat} (d : decode M.2.1 pc = .ok (.if_icmp .lt off, 3)) (ht : (pc : Int) + off = (tgt : Int)) (hq : pc + 3 = q) (kt : x < y → gG l g M R Z tgt L st h c n) (kf : ¬ x < y → gG l g M R Z q L st h c n) : gG l g M R Z pc L (.int y :: .int x :: st) h c n := by
  subst hq; intro p e s m args below meth cd H locs ls X I S B
  exact lv_icmp_lt X.1 X.2.1 d ht (fun z => kt z p e s m args below meth cd H locs ls X I S B) (fun z => kf z p e s m args below meth cd H locs ls X I S B)
theorem g_ifge {x : Int32} {off : Int} {tgt : Nat} (d : decode M.2.1 pc = .ok (.ifCond .ge off, 3)) (ht : (pc : Int) + off = (tgt : Int)) (hq : pc + 3 = q) (kt : 0 ≤ x → gG l g M R Z tgt L st h c n) (kf : ¬ 0 ≤ x → gG l g M R Z q L st h c n) : gG l g M R Z pc L (.int x :: st) h c n := by
  subst hq; intro p e s m args below meth cd H locs ls X I S B
  exact lv_if_ge X.1 X.2.1 d ht (fun z => kt z p e s m args below meth cd H locs ls X I S B) (fun z => kf z p e s m args below meth cd H locs ls X I S B)
theorem g_icmpge {x y : Int32} {off : Int} {tgt : Nat} (d : decode M.2.1 pc = .ok (.if_icmp .ge off, 3)) (ht : (pc : Int) + off = (tgt : Int)) (hq : pc + 3 = q) (kt : y ≤ x → gG l g M R Z tgt L st h c n) (kf : ¬ y ≤ x → gG l g M R Z q L st h c n) : gG l g M R Z pc L (.int y :: .int x :: st) h c n := by
  subst hq; intro p e s m args below meth cd H locs ls X I S B
  exact lv_icmp_ge X.1 X.2.1 d ht (fun z => kt z p e s m args below meth cd H locs ls X I S B) (fun z => kf z p e s m args below meth cd H locs ls X I S B)
theorem g_ifgt {x : Int32} {off : Int} {tgt : Nat} (d : decode M.2.1 pc = .ok (.ifCond .gt off, 3)) (ht : (pc : Int) + off = (tgt : Int)) (hq : pc + 3 = q) (kt : 0 < x → gG l g M R Z tgt L st h c n) (kf : ¬ 0 < x → gG l g M R Z q L st h c n) : gG l g M R Z pc L (.int x :: st) h c n := by
  subst hq; intro p e s m args below meth cd H locs ls X I S B
  exact lv_if_gt X.1 X.2.1 d ht (fun z => kt z p e s m args below meth cd H locs ls X I S B) (fun z => kf z p e s m args below meth cd H locs ls X I S B)
theorem g_icmpgt {x y : Int32} {off : Int} {tgt : Nat} (d : decode M.2.1 pc = .ok (.if_icmp .gt off, 3)) (ht : (pc : Int) + off = (tgt : Int)) (hq : pc + 3 = q) (kt : y < x → gG l g M R Z tgt L st h c n) (kf : ¬ y < x → gG l g M R Z q L st h c n) : gG l g M R Z pc L (.int y :: .int x :: st) h c n := by
  subst hq; intro p e s m args below meth cd H locs ls X I S B
  exact lv_icmp_gt X.1 X.2.1 d ht (fun z => kt z p e s m args below meth cd H locs ls X I S B) (fun z => kf z p e s m args below meth cd H locs ls X I S B)
theorem g_ifle {x : Int32} {off : Int} {tgt : Nat} (d : decode M.2.1 pc = .ok (.ifCond .le off, 3)) (ht : (pc : Int) + off = (tgt : Int)) (hq : pc + 3 = q) (kt : x ≤ 0 → gG l g M R Z tgt L st h c n) (kf : ¬ x ≤ 0 → gG l g M R Z q L st h c n) : gG l g M R Z pc L (.int x :: st) h c n := by
  subst hq; intro p e s m args below meth cd H locs ls X I S B
  exact lv_if_le X.1 X.2.1 d ht (fun z => kt z p e s m args below meth cd H locs ls X I S B) (fun z => kf z p e s m args below meth cd H locs ls X I S B)
theorem g_icmple {x y : Int32} {off : Int} {tgt : Nat} (d : decode M.2.1 pc = .ok (.if_icmp .le off, 3)) (ht : (pc : Int) + off = (tgt : Int)) (hq : pc + 3 = q) (kt : x ≤ y → gG l g M R Z tgt L st h c n) (kf : ¬ x ≤ y → gG l g M R Z q L st h c n) : gG l g M R Z pc L (.int y :: .int x :: st) h c n := by
  subst hq; intro p e s m args below meth cd H locs ls X I S B
  exact lv_icmp_le X.1 X.2.1 d ht (fun z => kt z p e s m args below meth cd H locs ls X I S B) (fun z => kf z p e s m args below meth cd H locs ls X I S B)
/-- a switch: the offset that x picks -/
def gtab (dflt lo hi : Int) (offs : Array Int) (x : Int32) : Int := if x.toInt < lo ∨ hi < x.toInt then dflt else (offs[(x.toInt - lo).toNat]?).getD dflt
theorem g_table {dflt lo hi : Int} {offs : Array Int} {len : Nat} {x : Int32} {tgt : Nat} (d : decode M.2.1 pc = .ok (.tableswitch dflt lo hi offs, len)) (hs : (hi - lo).toNat < offs.size) (ht : (pc : Int) + gtab dflt lo hi offs x = (tgt : Int)) (k : gG l g M R Z tgt L st h c n) : gG l g M R Z pc L (.int x :: st) h c n := by
  intro p e s m args below meth cd H locs ls X I S B
  unfold gtab at ht
  by_cases hr : x.toInt < lo ∨ hi < x.toInt
  · rw [if_pos hr] at ht
    exact lv_tableOut X.1 X.2.1 d hr ht (k p e s m args below meth cd H locs ls X I S B)
  · rw [if_neg hr] at ht
    have h1 : ¬ x.toInt < lo := fun z => hr (Or.inl z)
    have h2 : ¬ hi < x.toInt := fun z => hr (Or.inr z)
    have h3 : (x.toInt - lo).toNat < offs.size := by omega
    rw [Array.getElem?_eq_getElem h3, Option.getD_some] at ht
    exact lv_tableIn X.1 X.2.1 d h1 h2 (Array.getElem?_eq_getElem h3) ht (k p e s m args below meth cd H locs ls X I S B)
theorem g_lookup {dflt : Int} {ps : Array (Int × Int)} {len : Nat} {x : Int32} {tgt : Nat} (d : decode M.2.1 pc = .ok (.lookupswitch dflt ps, len)) (hp : (ps.toList.zip (ps.toList.drop 1)).all (fun (a, next) => a.1 < next.1) = true) (ht : (pc : Int) + Op.lookupswitch.offset ps.toList dflt x.toInt = (tgt : Int)) (k : gG l g M R Z tgt L st h c n) : gG l g M R Z pc L (.int x :: st) h c n := by
  intro p e s m args below meth cd H locs ls X I S B
  exact lv_lookup X.1 X.2.1 d hp rfl ht (k p e s m args below meth cd H locs ls X I S B)
/-- a class of the tables: its place, name, fields, types -/
def gCl (ci : Nat) (C : String) (T : u_T) (N : Nat) (ty : Nat → FieldType) : Prop := gcl[ci]? = some (C, T, N) ∧ (∀ w ∈ u_ws C T N, w ∈ gWG) ∧ (∀ k, k < N → parseFieldDescriptor (T k).2.2.1 = some (ty k)) ∧ (∀ a, a < N → ∀ b, b < N → a ≠ b → (T a).2.1 ≠ (T b).2.1)
theorem ge_obj (g : gE) (ci : Nat) (fs : List Value) : ge g (.inr (ci, fs)) = .inr (ci, fs.map (gv g)) := rfl
theorem g_get {C : String} {T : u_T} {N ci idx : Nat} {ty : Nat → FieldType} {a : Nat} {fs : List Value} {v : Value} (hC : gCl ci C T N ty) (kf : Nat) (hk : kf < N) (hl : Cond.fieldLink M.1.cls idx (T kf).1 (T kf).2.1 (T kf).2.2.1 ∈ gWG) (d : decode M.2.1 pc = .ok (.getfield idx, 3)) (he : h[a]? = some (.inr (ci, fs))) (hv : fs[kf]? = some v) (hq : pc + 3 = q) (k : gG l g M R Z q L (v :: st) h c n) : gG l g M R Z pc L (.ref a :: st) h c n := by
  subst hq; intro p e s m args below meth cd H locs ls X I S B
  have hp := I.pl he
  refine W.eq (g2 := F0 m pc ls (.ref (g.1 + a) :: st.map (gv g))) (by rw [← hp]; rfl) ?_
  exact va_get (D := g.2.2.1) (ci := ci) (v := gv g v) (fs := fs.map (gv g)) (C := C) (T := T) (N := N) X.1 X.2.1 X.2.2.2.2.2.1 hC.2.1 X.2.2.2.2.1 I.2.2.2.1 I.2.2.1 a (gw_get he) hC.1 kf hk (X.2.2.2.2.2.1 _ hl) (fun _ z => z) (by rw [List.getElem?_map, hv]; rfl) d (k p e s m args below meth cd H locs ls X I S B)
theorem g_put {C : String} {T : u_T} {N ci idx : Nat} {ty : Nat → FieldType} {a : Nat} {fs : List Value} {v : Value} {h1 : gH} (hC : gCl ci C T N ty) (kf : Nat) (hk : kf < N) (hl : Cond.fieldLink M.1.cls idx (T kf).1 (T kf).2.1 (T kf).2.2.1 ∈ gWG) (hfin : (T kf).2.2.2 = false) (d : decode M.2.1 pc = .ok (.putfield idx, 3)) (he : h[a]? = some (.inr (ci, fs))) (hn : narrow (ty kf) (gv g v) = gv g v) (hf : fits (ty kf) (gv g v) = true) (hlen : kf < fs.length) (hh : h.set a (.inr (ci, fs.set kf v)) = h1) (hq : pc + 3 = q) (k : gG l g M R Z q L st h1 c n) : gG l g M R Z pc L (v :: .ref a :: st) h c n := by
  subst hq; intro p e s m args below meth cd H locs ls X I S B
  have hp := I.pl he
  refine W.eq (g2 := F0 m pc ls (gv g v :: .ref (g.1 + a) :: st.map (gv g))) (by rw [← hp]; rfl) ?_
  have hts := X.2.2.2.2.2.1
  have hK := I.2.2.2.1
  have hc := hC.1
  have hin := hC.2.1
  have hap := va_apart (own := M.1.cls) hts hin ty hC.2.2.1 hC.2.2.2 hK hc
  obtain ⟨r, g1, cell, q1, q2, q3, q4⟩ := I.at he
  have hr : r = (C, T, N) := Option.some.inj (g1.symm.trans hc)
  subst hr
  obtain ⟨hS, hfc, kC, hkC, hkind⟩ := hK.1 ci _ hc
  obtain ⟨cf, kf0, fi, f, hi, hsl⟩ := hS kf hk
  have hlay := hts _ (hin _ (u_in_lay hk))
  unfold u_lay at hlay
  rw [if_neg (by rw [hfin]; decide)] at hlay
  have hst := (u_facts hfc hkC (u_lays hts hin hk) hi).1
  have h6 := u_store hfc hkC hkind hlay hi (hC.2.2.1 kf hk) hn hf
  refine W.putK X.1 X.2.1 (f := f) ⟨X.2.2.2.2.1, hts _ hl, ⟨_, _, _, hi⟩, hst⟩ (by rw [q2]; exact h6) q1 q3 (by rw [hsl]; exact k2_hasslot (q4 kf hk)) rfl rfl d fun H' e1 e2 e3 => ?_
  rw [hsl] at e1 ⊢
  refine k p e s m args below meth cd H' _ ls X ?_ (S.put e2 e3 (Nat.le_add_right _ _)) B
  subst hh
  refine I.set he e2 ⟨_, hc, t_OB.to (V := updV (vp_V (fs.map (gv g))) kf (gv g v)) ⟨_, e1, q2, q3, t_set q4 hap hk (gv g v)⟩ (fun j _ => ?_)⟩ e3 trivial
  rw [vp_updV_set (by rw [List.length_map]; exact hlen) (gv g v) j, List.map_set]
theorem g_putF {C : String} {T : u_T} {N ci idx : Nat} {ty : Nat → FieldType} {a : Nat} {fs : List Value} {v : Value} {h1 : gH} (hC : gCl ci C T N ty) (kf : Nat) (hk : kf < N) (hl : Cond.fieldLink M.1.cls idx (T kf).1 (T kf).2.1 (T kf).2.2.1 ∈ gWG) (hfin : (T kf).2.2.2 = true) (hdecl : (T kf).1 = M.1.cls) (hini : M.1.name = "<init>") (d : decode M.2.1 pc = .ok (.putfield idx, 3)) (he : h[a]? = some (.inr (ci, fs))) (hn : narrow (ty kf) (gv g v) = gv g v) (hf : fits (ty kf) (gv g v) = true) (hlen : kf < fs.length) (hh : h.set a (.inr (ci, fs.set kf v)) = h1) (hq : pc + 3 = q) (k : gG l g M R Z q L st h1 c n) : gG l g M R Z pc L (v :: .ref a :: st) h c n := by
  subst hq; intro p e s m args below meth cd H locs ls X I S B
  have hp := I.pl he
  refine W.eq (g2 := F0 m pc ls (gv g v :: .ref (g.1 + a) :: st.map (gv g))) (by rw [← hp]; rfl) ?_
  have hts := X.2.2.2.2.2.1
  have hK := I.2.2.2.1
  have hc := hC.1
  have hin := hC.2.1
  have hap := va_apart (own := M.1.cls) hts hin ty hC.2.2.1 hC.2.2.2 hK hc
  obtain ⟨r, g1, cell, q1, q2, q3, q4⟩ := I.at he
  have hr : r = (C, T, N) := Option.some.inj (g1.symm.trans hc)
  subst hr
  obtain ⟨hS, hfc, kC, hkC, hkind⟩ := hK.1 ci _ hc
  obtain ⟨cf, kf0, fi, f, hi, hsl⟩ := hS kf hk
  have hlay := hts _ (hin _ (u_in_lay hk))
  unfold u_lay at hlay
  rw [if_pos hfin] at hlay
  have hst := (u_facts hfc hkC (u_lays hts hin hk) hi).1
  have hcf : m.cls = cf := by
    obtain ⟨_, _, c', _, _, _, -, -, hf', -, -, -, hown2, -⟩ := Cond.laysFinal_spec hlay
    have e1 : c' = cf := by have := hi.symm.trans hf'; simp at this; exact this.1.symm
    rw [hdecl] at hown2
    rw [← e1]; exact Option.some.inj (X.2.2.2.2.1.symm.trans hown2)
  have h6 := u_fits hfc hkC hkind (Or.inr hlay) hi (hC.2.2.1 kf hk) hn hf
  refine W.putFinK X.1 X.2.1 X.2.2.2.2.1 (hts _ hl) hi hst hcf (X.2.2.2.2.2.2.2.2.2.trans hini) (by rw [q2]; exact h6) q1 q3 (by rw [hsl]; exact k2_hasslot (q4 kf hk)) rfl rfl d fun H' e1 e2 e3 => ?_
  rw [hsl] at e1 ⊢
  refine k p e s m args below meth cd H' _ ls X ?_ (S.put e2 e3 (Nat.le_add_right _ _)) B
  subst hh
  refine I.set he e2 ⟨_, hc, t_OB.to (V := updV (vp_V (fs.map (gv g))) kf (gv g v)) ⟨_, e1, q2, q3, t_set q4 hap hk (gv g v)⟩ (fun j _ => ?_)⟩ e3 trivial
  rw [vp_updV_set (by rw [List.length_map]; exact hlen) (gv g v) j, List.map_set]
theorem g_iald {a N : Nat} {f : Nat → Int32} {i : Int32} (he : h[a]? = some (.inl (0, N, .inl f))) (hin : vp_in i N) (d : decode M.2.1 pc = .ok (.iaload, 1)) (hq : pc + 1 = q) (k : gG l g M R Z q L (.int (f i.toNatClampNeg) :: st) h c n) : gG l g M R Z pc L (.int i :: .ref a :: st) h c n := by
  subst hq; intro p e s m args below meth cd H locs ls X I S B
  have hp := I.pl he
  refine W.eq (g2 := F0 m pc ls (.int i :: .ref (g.1 + a) :: st.map (gv g))) (by rw [← hp]; rfl) ?_
  exact va_iald (D := g.2.2.1) (cl := gcl) X.1 X.2.1 I.2.2.2.1 I.2.2.1 a 0 (gw_get he) rfl hin d (k p e s m args below meth cd H locs ls X I S B)
theorem g_bald {a N : Nat} {f : Nat → Int32} {i : Int32} (he : h[a]? = some (.inl (1, N, .inl f))) (hin : vp_in i N) (d : decode M.2.1 pc = .ok (.baload, 1)) (hq : pc + 1 = q) (k : gG l g M R Z q L (.int (f i.toNatClampNeg) :: st) h c n) : gG l g M R Z pc L (.int i :: .ref a :: st) h c n := by
  subst hq; intro p e s m args below meth cd H locs ls X I S B
  have hp := I.pl he
  refine W.eq (g2 := F0 m pc ls (.int i :: .ref (g.1 + a) :: st.map (gv g))) (by rw [← hp]; rfl) ?_
  exact va_bald (D := g.2.2.1) (cl := gcl) X.1 X.2.1 I.2.2.2.1 I.2.2.1 a 1 (gw_get he) rfl hin d (k p e s m args below meth cd H locs ls X I S B)
theorem g_zald {a N : Nat} {f : Nat → Int32} {i : Int32} (he : h[a]? = some (.inl (2, N, .inl f))) (hin : vp_in i N) (d : decode M.2.1 pc = .ok (.baload, 1)) (hq : pc + 1 = q) (k : gG l g M R Z q L (.int (f i.toNatClampNeg) :: st) h c n) : gG l g M R Z pc L (.int i :: .ref a :: st) h c n := by
  subst hq; intro p e s m args below meth cd H locs ls X I S B
  have hp := I.pl he
  refine W.eq (g2 := F0 m pc ls (.int i :: .ref (g.1 + a) :: st.map (gv g))) (by rw [← hp]; rfl) ?_
  exact va_zald (D := g.2.2.1) (cl := gcl) X.1 X.2.1 I.2.2.2.1 I.2.2.1 a 2 (gw_get he) rfl hin d (k p e s m args below meth cd H locs ls X I S B)
theorem g_iast {a N : Nat} {f : Nat → Int32} {i x : Int32} {h1 : gH} (he : h[a]? = some (.inl (0, N, .inl f))) (hin : vp_in i N) (hh : h.set a (.inl (0, N, .inl (upd f i.toNatClampNeg (x)))) = h1) (d : decode M.2.1 pc = .ok (.iastore, 1)) (hq : pc + 1 = q) (k : gG l g M R Z q L st h1 c n) : gG l g M R Z pc L (.int x :: .int i :: .ref a :: st) h c n := by
  subst hq; intro p e s m args below meth cd H locs ls X I S B
  have hp := I.pl he
  refine W.eq (g2 := F0 m pc ls (.int x :: .int i :: .ref (g.1 + a) :: st.map (gv g))) (by rw [← hp]; rfl) ?_
  refine W.iast X.1 X.2.1 (I.at he) ((I.2.2.2.1.2 0 _ rfl).1 N (fun j => .int (f j))) (fun z => by cases z) (by show ¬ (i < 0 ∨ (arrV _ _ _).slots.size ≤ _); rw [arrV_size]; exact hin) rfl rfl d fun H1 e1 z oq => ?_
  refine k p e s m args below meth cd H1 _ ls X ?_ (S.put z oq (Nat.le_add_right _ _)) B
  subst hh
  refine I.set he z ?_ oq ?_
  · show H1[g.1 + a]? = some (vp_cell _ (N, .inl (upd f i.toNatClampNeg _)))
    rw [e1]
    show some (Cell.setSlot (vp_cell _ (N, .inl f)) _ _) = _
    rw [vp_cell_i, vp_cell_i, arrV_store]
    congr 2
    funext j
    by_cases hj : j = i.toNatClampNeg
    · subst hj
      simp [updV, upd]
      try rfl
    · simp [updV, upd, hj]
  · intro hz; cases hz
theorem g_bast {a N : Nat} {f : Nat → Int32} {i x : Int32} {h1 : gH} (he : h[a]? = some (.inl (1, N, .inl f))) (hin : vp_in i N) (hh : h.set a (.inl (1, N, .inl (upd f i.toNatClampNeg (x.toInt8.toInt32)))) = h1) (d : decode M.2.1 pc = .ok (.bastore, 1)) (hq : pc + 1 = q) (k : gG l g M R Z q L st h1 c n) : gG l g M R Z pc L (.int x :: .int i :: .ref a :: st) h c n := by
  subst hq; intro p e s m args below meth cd H locs ls X I S B
  have hp := I.pl he
  refine W.eq (g2 := F0 m pc ls (.int x :: .int i :: .ref (g.1 + a) :: st.map (gv g))) (by rw [← hp]; rfl) ?_
  refine W.bast X.1 X.2.1 (I.at he) ((I.2.2.2.1.2 1 _ rfl).1 N (fun j => .int (f j))) (fun z => by cases z) (by show ¬ (i < 0 ∨ (arrV _ _ _).slots.size ≤ _); rw [arrV_size]; exact hin) rfl rfl d fun H1 e1 z oq => ?_
  refine k p e s m args below meth cd H1 _ ls X ?_ (S.put z oq (Nat.le_add_right _ _)) B
  subst hh
  refine I.set he z ?_ oq ?_
  · show H1[g.1 + a]? = some (vp_cell _ (N, .inl (upd f i.toNatClampNeg _)))
    rw [e1]
    show some (Cell.setSlot (vp_cell _ (N, .inl f)) _ _) = _
    rw [vp_cell_i, vp_cell_i, arrV_store]
    congr 2
    funext j
    by_cases hj : j = i.toNatClampNeg
    · subst hj
      simp [updV, upd]
      try rfl
    · simp [updV, upd, hj]
  · intro _ j
    by_cases hj : j = i.toNatClampNeg
    · subst hj
      simp only [upd, if_true]
      exact pk_fb x
    · simp only [upd, if_neg hj]
      exact I.2.2.2.2 a _ he rfl j
theorem g_zast {a N : Nat} {f : Nat → Int32} {i x : Int32} {h1 : gH} (he : h[a]? = some (.inl (2, N, .inl f))) (hin : vp_in i N) (hx : narrow .boolean (.int x) = .int x) (hh : h.set a (.inl (2, N, .inl (upd f i.toNatClampNeg x))) = h1) (d : decode M.2.1 pc = .ok (.bastore, 1)) (hq : pc + 1 = q) (k : gG l g M R Z q L st h1 c n) : gG l g M R Z pc L (.int x :: .int i :: .ref a :: st) h c n := by
  subst hq; intro p e s m args below meth cd H locs ls X I S B
  have hp := I.pl he
  refine W.eq (g2 := F0 m pc ls (.int x :: .int i :: .ref (g.1 + a) :: st.map (gv g))) (by rw [← hp]; rfl) ?_
  refine W.zast X.1 X.2.1 (I.at he) ((I.2.2.2.1.2 2 _ rfl).1 N (fun j => .int (f j))) (fun z => by cases z) (by show ¬ (i < 0 ∨ (arrV _ _ _).slots.size ≤ _); rw [arrV_size]; exact hin) rfl rfl d fun H1 e1 z oq => ?_
  refine k p e s m args below meth cd H1 _ ls X ?_ (S.put z oq (Nat.le_add_right _ _)) B
  subst hh
  rw [hx] at e1
  refine I.set he z ?_ oq ?_
  · show H1[g.1 + a]? = some (vp_cell _ (N, .inl (upd f i.toNatClampNeg _)))
    rw [e1]
    show some (Cell.setSlot (vp_cell _ (N, .inl f)) _ _) = _
    rw [vp_cell_i, vp_cell_i, arrV_store]
    congr 2
    funext j
    by_cases hj : j = i.toNatClampNeg
    · subst hj
      simp [updV, upd]
    · simp [updV, upd, hj]
  · intro hz; cases hz
theorem g_aald3 {a N : Nat} {f : Nat → Option Nat} {i : Int32} {r : Value} (he : h[a]? = some (.inl (3, N, .inr (.inr (.inr (.inr f)))))) (hin : vp_in i N) (hr : va_rf (f i.toNatClampNeg) = r) (d : decode M.2.1 pc = .ok (.aaload, 1)) (hq : pc + 1 = q) (k : gG l g M R Z q L (r :: st) h c n) : gG l g M R Z pc L (.int i :: .ref a :: st) h c n := by
  subst hq; intro p e s m args below meth cd H locs ls X I S B
  have hp := I.pl he
  refine W.eq (g2 := F0 m pc ls (.int i :: .ref (g.1 + a) :: st.map (gv g))) (by rw [← hp]; rfl) ?_
  refine va_aldq (D := g.2.2.1) (cl := gcl) X.1 X.2.1 I.2.2.2.1 I.2.2.1 a 3 (gw_get he) rfl hin d ?_
  subst hr
  refine W.eq ?_ (k p e s m args below meth cd H locs ls X I S B)
  have : va_rf ((f i.toNatClampNeg).map (gad g)) = gv g (va_rf (f i.toNatClampNeg)) := by cases f i.toNatClampNeg <;> rfl
  rw [List.map_cons, ← this]
theorem g_aast3 {a b N ci : Nat} {f : Nat → Option Nat} {i : Int32} {fs : List Value} {T : u_T} {NN : Nat} {h1 : gH} (he : h[a]? = some (.inl (3, N, .inr (.inr (.inr (.inr f)))))) (hb : h[b]? = some (.inr (ci, fs))) (hc : gcl[ci]? = some (RX1, T, NN)) (hin : vp_in i N) (hh : h.set a (.inl (3, N, .inr (.inr (.inr (.inr (va_up f i.toNatClampNeg (some b))))))) = h1) (d : decode M.2.1 pc = .ok (.aastore, 1)) (hq : pc + 1 = q) (k : gG l g M R Z q L st h1 c n) : gG l g M R Z pc L (.ref b :: .int i :: .ref a :: st) h c n := by
  subst hq; intro p e s m args below meth cd H locs ls X I S B
  have hp := I.pl he
  have hpb := I.pl hb
  refine W.eq (g2 := F0 m pc ls (.ref (g.1 + b) :: .int i :: .ref (g.1 + a) :: st.map (gv g))) (by rw [← hp, ← hpb]; rfl) ?_
  have hlt : i.toNatClampNeg < N := Nat.not_le.mp fun z => hin (Or.inr z)
  have h0 : ¬ i < 0 := fun z => hin (Or.inl z)
  obtain ⟨r', hr', cellV, g1, g2, g3, -⟩ := I.at hb
  have hcls := (I.2.2.2.1.1 ci _ hc).2
  obtain ⟨kA, comp, k1, k2, k3, -⟩ := (I.2.2.2.1.2 3 _ rfl).2
  have hcomp : comp = g.2.2.1.1 ci := Option.some.inj (k3.symm.trans hcls.1)
  subst hcomp
  obtain ⟨kC, hkC, -⟩ := hcls.2
  refine W.aast X.1 X.2.1 (I.at he) (fun z y => by cases y) (fun y => by cases y) k1 k2 rfl hkC ⟨h0, by show _ < (arrV _ _ _).slots.size; rw [arrV_size]; exact hlt⟩ g1 (fun z y => by rw [g3] at y; cases y) (by rw [g2]; exact hkC) (by rw [g2]; exact va_assign hcls) rfl rfl d fun H1 e1 z oq => ?_
  refine k p e s m args below meth cd H1 _ ls X ?_ (S.put z oq (Nat.le_add_right _ _)) B
  subst hh
  refine I.set he z ?_ oq trivial
  show H1[g.1 + a]? = some (vp_cell _ (N, .inr (.inr (.inr (.inr (fun j => (va_up f i.toNatClampNeg (some b) j).map (gad g)))))))
  rw [e1]
  show some (Cell.setSlot (vp_cell _ (N, .inr (.inr (.inr (.inr (fun j => (f j).map (gad g))))))) _ _) = _
  rw [vp_cell_q, vp_cell_q, arrV_store]
  congr 2
  funext j
  by_cases hj : j = i.toNatClampNeg
  · subst hj
    simp [updV, va_up, va_rf, hpb]
  · simp [updV, va_up, hj]
theorem g_aald4 {a N : Nat} {f : Nat → Option Nat} {i : Int32} {r : Value} (he : h[a]? = some (.inl (4, N, .inr (.inr (.inr (.inr f)))))) (hin : vp_in i N) (hr : va_rf (f i.toNatClampNeg) = r) (d : decode M.2.1 pc = .ok (.aaload, 1)) (hq : pc + 1 = q) (k : gG l g M R Z q L (r :: st) h c n) : gG l g M R Z pc L (.int i :: .ref a :: st) h c n := by
  subst hq; intro p e s m args below meth cd H locs ls X I S B
  have hp := I.pl he
  refine W.eq (g2 := F0 m pc ls (.int i :: .ref (g.1 + a) :: st.map (gv g))) (by rw [← hp]; rfl) ?_
  refine va_aldq (D := g.2.2.1) (cl := gcl) X.1 X.2.1 I.2.2.2.1 I.2.2.1 a 4 (gw_get he) rfl hin d ?_
  subst hr
  refine W.eq ?_ (k p e s m args below meth cd H locs ls X I S B)
  have : va_rf ((f i.toNatClampNeg).map (gad g)) = gv g (va_rf (f i.toNatClampNeg)) := by cases f i.toNatClampNeg <;> rfl
  rw [List.map_cons, ← this]
theorem g_aast4 {a b N ci : Nat} {f : Nat → Option Nat} {i : Int32} {fs : List Value} {T : u_T} {NN : Nat} {h1 : gH} (he : h[a]? = some (.inl (4, N, .inr (.inr (.inr (.inr f)))))) (hb : h[b]? = some (.inr (ci, fs))) (hc : gcl[ci]? = some (RX0, T, NN)) (hin : vp_in i N) (hh : h.set a (.inl (4, N, .inr (.inr (.inr (.inr (va_up f i.toNatClampNeg (some b))))))) = h1) (d : decode M.2.1 pc = .ok (.aastore, 1)) (hq : pc + 1 = q) (k : gG l g M R Z q L st h1 c n) : gG l g M R Z pc L (.ref b :: .int i :: .ref a :: st) h c n := by
  subst hq; intro p e s m args below meth cd H locs ls X I S B
  have hp := I.pl he
  have hpb := I.pl hb
  refine W.eq (g2 := F0 m pc ls (.ref (g.1 + b) :: .int i :: .ref (g.1 + a) :: st.map (gv g))) (by rw [← hp, ← hpb]; rfl) ?_
  have hlt : i.toNatClampNeg < N := Nat.not_le.mp fun z => hin (Or.inr z)
  have h0 : ¬ i < 0 := fun z => hin (Or.inl z)
  obtain ⟨r', hr', cellV, g1, g2, g3, -⟩ := I.at hb
  have hcls := (I.2.2.2.1.1 ci _ hc).2
  obtain ⟨kA, comp, k1, k2, k3, -⟩ := (I.2.2.2.1.2 4 _ rfl).2
  have hcomp : comp = g.2.2.1.1 ci := Option.some.inj (k3.symm.trans hcls.1)
  subst hcomp
  obtain ⟨kC, hkC, -⟩ := hcls.2
  refine W.aast X.1 X.2.1 (I.at he) (fun z y => by cases y) (fun y => by cases y) k1 k2 rfl hkC ⟨h0, by show _ < (arrV _ _ _).slots.size; rw [arrV_size]; exact hlt⟩ g1 (fun z y => by rw [g3] at y; cases y) (by rw [g2]; exact hkC) (by rw [g2]; exact va_assign hcls) rfl rfl d fun H1 e1 z oq => ?_
  refine k p e s m args below meth cd H1 _ ls X ?_ (S.put z oq (Nat.le_add_right _ _)) B
  subst hh
  refine I.set he z ?_ oq trivial
  show H1[g.1 + a]? = some (vp_cell _ (N, .inr (.inr (.inr (.inr (fun j => (va_up f i.toNatClampNeg (some b) j).map (gad g)))))))
  rw [e1]
  show some (Cell.setSlot (vp_cell _ (N, .inr (.inr (.inr (.inr (fun j => (f j).map (gad g))))))) _ _) = _
  rw [vp_cell_q, vp_cell_q, arrV_store]
  congr 2
  funext j
  by_cases hj : j = i.toNatClampNeg
  · subst hj
    simp [updV, va_up, va_rf, hpb]
  · simp [updV, va_up, hj]
theorem g_alen {a t N : Nat} {x : (Nat → Int32) ⊕ (Nat → Int64) ⊕ (Nat → UInt32) ⊕ (Nat → UInt64) ⊕ (Nat → Option Nat)} {ty : FieldType} (he : h[a]? = some (.inl (t, N, x))) (ht : (gtys g)[t]? = some (g.2.2.2.1 t, ty)) (d : decode M.2.1 pc = .ok (.arraylength, 1)) (hq : pc + 1 = q) (k : gG l g M R Z q L (.int (nI N) :: st) h c n) : gG l g M R Z pc L (.ref a :: st) h c n := by
  subst hq; intro p e s m args below meth cd H locs ls X I S B
  have hp := I.pl he
  refine W.eq (g2 := F0 m pc ls (.ref (g.1 + a) :: st.map (gv g))) (by rw [← hp]; rfl) ?_
  exact va_alen (D := g.2.2.1) (cl := gcl) X.1 X.2.1 I.2.2.2.1 I.2.2.1 a t (gw_get he) ht rfl d (k p e s m args below meth cd H locs ls X I S B)
theorem gad_low (g : gE) (i : Nat) : gad g (gBig + i) = g.2.1 i := by
  unfold gad
  rw [if_neg (by omega), Nat.add_sub_cancel_left]
theorem g_gets {i idx : Nat} {qs : String × String × String} (hs : gst[i]? = some qs) (hl : Cond.fieldLink M.1.cls idx qs.1 qs.2.1 qs.2.2 ∈ gWG) (d : decode M.2.1 pc = .ok (.getstatic idx, 3)) (hq : pc + 3 = q) (k : gG l g M R Z q L (.ref (gBig + i) :: st) h c n) : gG l g M R Z pc L st h c n := by
  subst hq; intro p e s m args below meth cd H locs ls X I S B
  refine va_gets X.1 X.2.1 (X.2.2.2.2.2.2.2.1.1 i qs hs) S X.2.2.2.2.1 (X.2.2.2.2.2.1 _ hl) (fun _ z => z) d (W.eq ?_ (k p e s m args below meth cd H locs ls X I S B))
  rw [List.map_cons]
  show _ = F0 m (pc + 3) ls (.ref (gad g (gBig + i)) :: st.map (gv g))
  rw [gad_low]
theorem g_tld {t N : Nat} {f : Nat → Int32} {i : Int32} (ht : t < 7) (he : g.2.2.2.2 t = (.int, N, f)) (hin : vp_in i N) (d : decode M.2.1 pc = .ok (.iaload, 1)) (hq : pc + 1 = q) (k : gG l g M R Z q L (.int (f i.toNatClampNeg) :: st) h c n) : gG l g M R Z pc L (.int i :: .ref (gBig + t) :: st) h c n := by
  subst hq; intro p e s m args below meth cd H locs ls X I S B
  have hT := X.2.2.2.2.2.2.2.1.2 t ht
  rw [he] at hT
  refine W.eq (g2 := F0 m pc ls (.int i :: .ref (g.2.1 t) :: st.map (gv g))) (by rw [← gad_low]; rfl) ?_
  exact va_ti X.1 X.2.1 hT S hin rfl d (k p e s m args below meth cd H locs ls X I S B)
theorem g_tlen {t N : Nat} {f : Nat → Int32} (ht : t < 7) (he : g.2.2.2.2 t = (.int, N, f)) (d : decode M.2.1 pc = .ok (.arraylength, 1)) (hq : pc + 1 = q) (k : gG l g M R Z q L (.int (nI N) :: st) h c n) : gG l g M R Z pc L (.ref (gBig + t) :: st) h c n := by
  subst hq; intro p e s m args below meth cd H locs ls X I S B
  have hT := X.2.2.2.2.2.2.2.1.2 t ht
  rw [he] at hT
  refine W.eq (g2 := F0 m pc ls (.ref (g.2.1 t) :: st.map (gv g))) (by rw [← gad_low]; rfl) ?_
  exact va_tlen X.1 X.2.1 hT S rfl d (k p e s m args below meth cd H locs ls X I S B)
theorem g_iret {P : Option Value → gH → Prop} {v : Int32} (hr : M.2.2.2 = some .int) (d : decode M.2.1 pc = .ok (.ireturn, 1)) (hc : c ≤ R.cells) (hn : n ≤ R.slots) (hP : P (some (.int v)) h) : gG l g M R (gZm g R P) pc L [.int v] h c n := by
  intro p e s m args below meth cd H locs ls X I S B
  refine W.widen hc hn ?_
  exact W.iret X.1 X.2.1 (X.2.2.2.1.trans hr) (fun t ht hW => ⟨⟨some (.int v), h, rfl, hP, by rw [ht]; exact I.moved hW.alike⟩, S.F ht⟩) S.2.2 d X.2.2.2.2.2.2.1
theorem g_lret {P : Option Value → gH → Prop} {v : Int64} (hr : M.2.2.2 = some .long) (d : decode M.2.1 pc = .ok (.lreturn, 1)) (hc : c ≤ R.cells) (hn : n ≤ R.slots) (hP : P (some (.long v)) h) : gG l g M R (gZm g R P) pc L [.long v] h c n := by
  intro p e s m args below meth cd H locs ls X I S B
  refine W.widen hc hn ?_
  exact W.lret X.1 X.2.1 (X.2.2.2.1.trans hr) (fun t ht hW => ⟨⟨some (.long v), h, rfl, hP, by rw [ht]; exact I.moved hW.alike⟩, S.F ht⟩) S.2.2 d X.2.2.2.2.2.2.1
theorem g_zret {P : Option Value → gH → Prop} {v : Int32} (hr : M.2.2.2 = some .boolean) (d : decode M.2.1 pc = .ok (.ireturn, 1)) (hz : narrow .boolean (.int v) = .int v) (hc : c ≤ R.cells) (hn : n ≤ R.slots) (hP : P (some (.int v)) h) : gG l g M R (gZm g R P) pc L [.int v] h c n := by
  intro p e s m args below meth cd H locs ls X I S B
  refine W.widen hc hn ?_
  exact W.zret X.1 X.2.1 (X.2.2.2.1.trans hr) hz (fun t ht hW => ⟨⟨some (.int v), h, rfl, hP, by rw [ht]; exact I.moved hW.alike⟩, S.F ht⟩) S.2.2 d X.2.2.2.2.2.2.1
theorem g_vret {P : Option Value → gH → Prop} (hr : M.2.2.2 = none) (d : decode M.2.1 pc = .ok (.return_, 1)) (hc : c ≤ R.cells) (hn : n ≤ R.slots) (hP : P none h) : gG l g M R (gZm g R P) pc L [] h c n := by
  intro p e s m args below meth cd H locs ls X I S B
  refine W.widen hc hn ?_
  exact W.vret X.1 X.2.1 (X.2.2.2.1.trans hr) (fun t ht hW => ⟨⟨none, h, rfl, hP, by rw [ht]; exact I.moved hW.alike⟩, S.F ht⟩) S.2.2 d X.2.2.2.2.2.2.1
theorem g_aret {P : Option Value → gH → Prop} {v : Nat} {C : String} (hr : M.2.2.2 = some (.object C)) (d : decode M.2.1 pc = .ok (.areturn, 1)) (hc : c ≤ R.cells) (hn : n ≤ R.slots) (hP : P (some (.ref v)) h) : gG l g M R (gZm g R P) pc L [.ref v] h c n := by
  intro p e s m args below meth cd H locs ls X I S B
  refine W.widen hc hn ?_
  exact W.aret X.1 X.2.1 (X.2.2.2.1.trans hr) (Or.inl ⟨C, rfl⟩) (Or.inr ⟨_, rfl⟩) (fun t ht hW => ⟨⟨some (.ref v), h, rfl, hP, by rw [ht]; exact I.moved hW.alike⟩, S.F ht⟩) S.2.2 d X.2.2.2.2.2.2.1
end GR
