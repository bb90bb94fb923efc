/-! The abstract heap: a list of cells; the cell of place k lies at base + k. References are places (below gBig), or tables (from gBig on): static arrays and the script. -/
abbrev gE : Type := Nat × (Nat → Nat) × va_G × (Nat → ClassId) × (Nat → FieldType × Nat × (Nat → Int32))
abbrev gM : Type := MethodName × ByteArray × Nat × Option FieldType
abbrev gH : Type := List va_E
def gBig : Nat := 1000000000
def gA (g : gE) : Nat → Prop := fun q => g.1 ≤ q
def gad (g : gE) (k : Nat) : Nat := if k < gBig then g.1 + k else g.2.1 (k - gBig)
def gv (g : gE) (v : Value) : Value := match v with
  | .ref k => .ref (gad g k)
  | v => v
def ga (g : gE) (a : vp_A) : vp_A := (a.1, match a.2 with
  | .inr (.inr (.inr (.inr f))) => .inr (.inr (.inr (.inr (fun j => (f j).map (gad g)))))
  | x => x)
def ge (g : gE) (e : va_E) : va_E := match e with
  | .inl q => .inl (g.2.2.2.1 q.1, ga g q.2)
  | .inr q => .inr (q.1, q.2.map (gv g))
def gw (g : gE) (h : gH) : va_W := h.mapIdx (fun k e => (g.1 + k, ge g e))
theorem gw_at (g : gE) (h : gH) (k : Nat) : (gw g h)[k]? = (h[k]?).map (fun e => (g.1 + k, ge g e)) := by
  unfold gw; rw [List.getElem?_mapIdx]
theorem gw_get {g : gE} {h : gH} {k : Nat} {e : va_E} (he : h[k]? = some e) : (gw g h)[k]? = some (g.1 + k, ge g e) := by
  rw [gw_at, he]; rfl
theorem gw_inv {g : gE} {h : gH} {k : Nat} {q : Nat × va_E} (hq : (gw g h)[k]? = some q) : ∃ e, h[k]? = some e ∧ q = (g.1 + k, ge g e) := by
  rw [gw_at] at hq
  cases he : h[k]? with
  | none => rw [he] at hq; cases hq
  | some e => rw [he] at hq; exact ⟨e, rfl, (Option.some.inj hq).symm⟩
theorem gw_D (g : gE) (h : gH) : va_D (gA g) (gw g h) := by
  refine ⟨fun i j p q hi hj hpq => ?_, fun k q hk => ?_⟩
  · obtain ⟨e1, -, rfl⟩ := gw_inv hi
    obtain ⟨e2, -, rfl⟩ := gw_inv hj
    have : g.1 + i = g.1 + j := hpq
    omega
  · obtain ⟨e1, -, rfl⟩ := gw_inv hk
    exact Nat.le_add_right _ _
/-- a byte array holds bytes -/
def gfit (e : va_E) : Prop := match e with
  | .inl (t, _, .inl f) => t = 1 → ∀ j : Nat, fits .byte (.int (f j)) = true
  | _ => True
def gcl : List vw_C := [(RX0, TX0, 2), (RX1, TX1, 3), (RX2, TX2, 8), (RX3, TX3, 7), (RX4, TX4, 3), (RX5, TX5, 4), (RX6, TX6, 6), (RX7, TX7, 4), (RX8, TX8, 9), (RX9, TX9, 19), (RX10, TX10, 54)]
def gtys (g : gE) : List (ClassId × FieldType) := [(g.2.2.2.1 0, .int), (g.2.2.2.1 1, .byte), (g.2.2.2.1 2, .boolean), (g.2.2.2.1 3, .object RX1), (g.2.2.2.1 4, .object RX0)]
/-- the machine's heap H holds the abstract heap h -/
def gI (g : gE) (U : State) (H : Heap) (h : gH) : Prop := H.size = g.1 + h.length ∧ h.length ≤ gBig ∧ va_P g.2.2.1 gcl (gw g h) H ∧ va_K g.2.2.1 gcl (gtys g) U ∧ ∀ (k : Nat) (e : va_E), h[k]? = some e → gfit e
theorem gI.moved {g : gE} {u U : State} {H : Heap} {h : gH} (hvm : u.vm.Alike U.vm) (I : gI g u H h) : gI g U H h := ⟨I.1, I.2.1, I.2.2.1, va_K.moved hvm I.2.2.2.1, I.2.2.2.2⟩
theorem gI.pl {g : gE} {U : State} {H : Heap} {h : gH} (I : gI g U H h) {k : Nat} {e : va_E} (hk : h[k]? = some e) : gad g k = g.1 + k := by
  have h1 : k < h.length := (List.getElem?_eq_some_iff.mp hk).1
  have h2 := I.2.1
  unfold gad
  rw [if_pos (by omega)]
theorem gI.at {g : gE} {U : State} {H : Heap} {h : gH} (I : gI g U H h) {k : Nat} {e : va_E} (hk : h[k]? = some e) : va_at g.2.2.1 gcl (g.1 + k, ge g e) H := I.2.2.1 k _ (gw_get hk)
theorem gI.set {g : gE} {U : State} {H H1 : Heap} {h : gH} (I : gI g U H h) {k : Nat} {e e1 : va_E} (hk : h[k]? = some e) (hz : H1.size = H.size) (hat : va_at g.2.2.1 gcl (g.1 + k, ge g e1) H1) (oq : ∀ q : Nat, q ≠ g.1 + k → H1[q]? = H[q]?) (hf : gfit e1) : gI g U H1 (h.set k e1) := by
  have hl : k < h.length := (List.getElem?_eq_some_iff.mp hk).1
  refine ⟨by rw [hz, I.1, List.length_set], by rw [List.length_set]; exact I.2.1, fun j q hj => ?_, I.2.2.2.1, fun j e' hj => ?_⟩
  · obtain ⟨e', he', rfl⟩ := gw_inv hj
    by_cases hjk : j = k
    · subst hjk
      rw [List.getElem?_set_self hl] at he'
      cases he'
      exact hat
    · rw [List.getElem?_set_ne (Ne.symm hjk)] at he'
      exact (I.at he').kept (oq _ (by show g.1 + j ≠ g.1 + k; omega))
  · by_cases hjk : j = k
    · subst hjk
      rw [List.getElem?_set_self hl] at hj
      cases hj
      exact hf
    · rw [List.getElem?_set_ne (Ne.symm hjk)] at hj
      exact I.2.2.2.2 j e' hj
theorem gI.push {g : gE} {U : State} {H H1 : Heap} {h : gH} (I : gI g U H h) {e1 : va_E} (hb : h.length < gBig) (hz : H1.size = H.size + 1) (hat : va_at g.2.2.1 gcl (g.1 + h.length, ge g e1) H1) (oq : ∀ q : Nat, q < H.size → H1[q]? = H[q]?) (hf : gfit e1) : gI g U H1 (h ++ [e1]) := by
  have key : ∀ (j : Nat) (e' : va_E), (h ++ [e1])[j]? = some e' → (h[j]? = some e' ∧ j < h.length) ∨ (j = h.length ∧ e' = e1) := by
    intro j e' hj
    by_cases hl : j < h.length
    · rw [List.getElem?_append_left hl] at hj
      exact Or.inl ⟨hj, hl⟩
    · rw [List.getElem?_append_right (by omega)] at hj
      have hz1 : j - h.length < 1 := (List.getElem?_eq_some_iff.mp hj).1
      rw [show j - h.length = 0 by omega] at hj
      exact Or.inr ⟨by omega, (Option.some.inj hj).symm⟩
  refine ⟨by rw [hz, I.1, List.length_append]; rfl, by rw [List.length_append]; exact hb, fun j q hj => ?_, I.2.2.2.1, fun j e' hj => ?_⟩
  · obtain ⟨e', he', rfl⟩ := gw_inv hj
    rcases key j e' he' with ⟨h1, h2⟩ | ⟨rfl, rfl⟩
    · exact (I.at h1).kept (oq _ (by show g.1 + j < H.size; rw [I.1]; omega))
    · exact hat
  · rcases key j e' hj with ⟨h1, h2⟩ | ⟨rfl, rfl⟩
    · exact I.2.2.2.2 j e' h1
    · exact hf
/-- the static arrays, by class, name, descriptor; table i is static i; the table behind the last is the script -/
def gst : List (String × String × String) := [(RX9, "FIRST_SETTINGS", "[I"), (RX9, "LEAST_SETTINGS", "[I"), (RX9, "MOST_SETTINGS", "[I"), (RX9, "SETTING_PLACES", "[I"), (RX7, "START", "[I"), (RX7, "ROUNDS", "[I")]
def gL (g : gE) (U : State) : Prop := (∀ (i : Nat) (q : String × String × String), gst[i]? = some q → va_Z q.1 q.2.1 q.2.2 (.ref (g.2.1 i)) (gA g) U U.heap) ∧ ∀ i : Nat, i < 7 → va_T (g.2.2.2.2 i).1 (g.2.1 i) (g.2.2.2.2 i).2.1 (fun j => .int ((g.2.2.2.2 i).2.2 j)) (gA g) U U.heap
/-- the tables stand in a later state -/
theorem gL.later {g : gE} {u U : State} (h : gL g u) (hvm : u.vm.Alike U.vm) (hq : ∀ a : Nat, a < u.heap.size → ¬ gA g a → U.heap[a]? = u.heap[a]?) : gL g U :=
  ⟨fun i q hi => va_Z.moved hvm (va_Z.kept (h.1 i q hi) hq), fun i hi => va_T.moved hvm (va_T.kept (h.2 i hi) hq)⟩
def gnest : List (String × Nat × MethodName × String) := [("StationHouse", 46, ⟨"StationHouse$Sealer", "<init>", "()V"⟩, "StationHouse"), ("StationHouse", 53, ⟨"StationHouse$Keys", "<init>", "()V"⟩, "StationHouse"), ("StationHouse", 60, ⟨"StationHouse$Journal", "<init>", "()V"⟩, "StationHouse"), ("StationHouse", 67, ⟨"StationHouse$Latch", "<init>", "()V"⟩, "StationHouse"), ("StationHouse", 74, ⟨"StationHouse$Outside", "<init>", "()V"⟩, "StationHouse"), ("StationHouse$Outside", 11, ⟨"StationHouse$Sight", "<init>", "()V"⟩, "StationHouse"), ("StationHouse", 81, ⟨"StationHouse$Inside", "<init>", "()V"⟩, "StationHouse"), ("StationHouse$Inside", 11, ⟨"StationHouse$Sight", "<init>", "()V"⟩, "StationHouse"), ("StationHouse$Card", 36, ⟨"StationHouse", "isPlace", "(I)Z"⟩, "StationHouse"), ("StationHouse$Sight", 76, ⟨"StationHouse", "isPlace", "(I)Z"⟩, "StationHouse")]
/-- private members of nest mates: own class, entry, method, host -/
def gN (U : State) : Prop := (∀ q ∈ gnest, va_Nw (.methodLinkNest q.1 q.2.1 q.2.2.1 q.2.2.2) U) ∧ va_AO RX1 U ∧ va_AO RX0 U
theorem gN.warm {s U : State} (hW : s.WarmedH U.vm) (h : gN s) : gN U := ⟨fun q hq => va_Nw.warmM hW (h.1 q hq), h.2.1.moved hW.alike, h.2.2.moved hW.alike⟩
def gWG : List Cond := lw_tbl.filter goodWord
theorem gpos {w : Cond} (i : Nat) (h : lw_tbl[i]? = some w) (hg : goodWord w = true) : w ∈ gWG := List.mem_filter.mpr ⟨List.mem_of_getElem? h, hg⟩
theorem ggood {w : Cond} (h : w ∈ gWG) : (w.onTables && w.keeps) = true ∨ ∃ ty, w = .arrayClass ty := good_of_word (List.mem_filter.mp h).2
theorem ggoodIn {ws : List Cond} (h : ∀ w ∈ ws, w ∈ gWG) : GoodIn gWG ws := fun w hw => ⟨h w hw, ggood (h w hw)⟩
theorem gws_in {C : String} {T : u_T} {N : Nat} (ps : List Nat) (h : u_ws C T N = ps.filterMap (fun i => lw_tbl[i]?)) (hg : (u_ws C T N).all goodWord = true) : ∀ w ∈ u_ws C T N, w ∈ gWG := by
  intro w hw
  refine List.mem_filter.mpr ⟨?_, List.all_eq_true.mp hg w hw⟩
  rw [h] at hw
  obtain ⟨i, -, hi⟩ := List.mem_filterMap.mp hw
  exact List.mem_of_getElem? hi
/-- a method's words: its own code, and all the tables say -/
def gws (M : gM) : List Cond := Cond.code M.1 M.2.1 M.2.2.1 M.2.2.2 :: gWG
def gPc (g : gE) (a : List Value) (h : gH) : Array Value → State → Prop := va_Pc (a.map (gv g)) (fun U => gI g U U.heap h ∧ gL g U ∧ gN U)
def gQc (g : gE) (P : Option Value → gH → Prop) : Array Value → State → Outcome → State → Prop := fun _ st oc t => (∃ (r : Option Value) (h' : gH), oc = .returned (r.map (gv g)) ∧ P r h' ∧ gI g t t.heap h') ∧ va_F (gA g) st t
/-- THE CONTRACT: called with a over h, the method returns r and leaves h', with P r h' -/
def gC (l : Launch) (g : gE) (M : gM) (R : Room) (a : List Value) (h : gH) (P : Option Value → gH → Prop) : Prop := Met l M.1 (gws M) R (gPc g a h) (gQc g P) R.cells R.slots (gA g)
/-- what holds all through a method's body -/
def gX (g : gE) (M : gM) (p : Program) (s : State) (m : MethodId) (args : Array Value) (meth : Method) (c : Code) : Prop :=
  p.tables.exec = Jvm.exec ∧ c.code = M.2.1 ∧ c.maxLocals = M.2.2.1 ∧ meth.sig.returnType = M.2.2.2 ∧ s.vm.findClass M.1.cls = some m.cls ∧ (∀ w ∈ gWG, w.before args s = true) ∧ meth.locks = false ∧ gL g s ∧ gN s ∧ meth.name = M.1.name
def gLv (g : gE) (L : List (Nat × Value)) : List (Nat × Value) := L.map (fun q => (q.1, gv g q.2))
abbrev gZ : Type := Array Value → State → List Frame → State → Prop
/-- THE WALK: at pc with locals L, stack st, heap h, the body comes to an end with Z -/
def gG (l : Launch) (g : gE) (M : gM) (R : Room) (Z : gZ) (pc : Nat) (L : List (Nat × Value)) (st : List Value) (h : gH) (c n : Nat) : Prop :=
  ∀ (p : Program) (e : Env) (s : State) (m : MethodId) (args : Array Value) (below : List Frame) (meth : Method) (cd : Code) (H : Heap) (locs : List Loc) (ls : Array Slot),
    gX g M p s m args meth cd → gI g s H h → va_S (gA g) s.heap H locs → lv_has ls M.2.2.1 (gLv g L) →
      W p l e R s m args below meth cd H locs c n (Z args s below) (F0 m pc ls (st.map (gv g)))
def gZm (g : gE) (R : Room) (P : Option Value → gH → Prop) : gZ := fun args s below => MQ below (gQc g P) args s R.cells R.slots (gA g)
theorem gv_cat (g : gE) (v : Value) : (gv g v).category = v.category := by cases v <;> rfl
theorem glv_args (g : gE) : ∀ (a : List Value) (i : Nat), lv_args i (a.map (gv g)) = gLv g (lv_args i a)
  | [], _ => rfl
  | v :: vs, i => by
    show (i, gv g v) :: lv_args (if (gv g v).category = 2 then i + 2 else i + 1) (vs.map (gv g)) = (i, gv g v) :: gLv g (lv_args (if v.category = 2 then i + 2 else i + 1) vs)
    rw [gv_cat, glv_args g vs]
theorem glg_len (g : gE) : ∀ a : List Value, (lg_sl (a.map (gv g))).length = (lg_sl a).length
  | [] => rfl
  | v :: vs => by
    have ih := glg_len g vs
    unfold lg_sl at ih ⊢
    rw [List.map_cons, List.flatMap_cons, List.flatMap_cons, List.length_append, List.length_append, ih, gv_cat]
    by_cases h : v.category = 2 <;> simp [h]
theorem gC_of {l : Launch} {g : gE} {M : gM} {R : Room} {a : List Value} {h : gH} {P : Option Value → gH → Prop} (hy : plainName M.1.cls = true) (hlen : (lg_sl a).length ≤ M.2.2.1)
    (k : gG l g M R (gZm g R P) 0 (lv_args 0 a) [] h 0 0) : gC l g M R a h P := by
  refine Met.ofW (cc := M.2.1) (maxL := M.2.2.1) (ret := M.2.2.2) hy rfl ?_
  intro p e s m args below meth c s₁ B hml hv
  obtain ⟨rfl, hI, hL, hN⟩ := hv
  have hts := atoms_spec (ws := gws M) B.pre
  have hl := lv_entry (a.map (gv g)) (n := M.2.2.1) (by rw [glg_len]; exact hlen)
  rw [lg_entry_eq]
  generalize (lg_sl (a.map (gv g)) ++ List.replicate (M.2.2.1 - (lg_sl (a.map (gv g))).length) Slot.unset).toArray = ls at hl ⊢
  rw [glv_args] at hl
  exact k p e s m (a.map (gv g)).toArray below meth c s.heap [] ls ⟨B.exec, B.bytes, hml, B.returns, findClass_of_methodNamed B.named, fun w hw => hts w (List.mem_cons_of_mem _ hw), B.notSynchronized, hL, hN, (name_of_methodNamed B.named B.method).1⟩ hI va_S.rf hl
