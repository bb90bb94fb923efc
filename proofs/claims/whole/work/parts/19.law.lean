/-! The law: its loop, by program -/
def R_law : String := "StationHouseLaw"
def lw_P (b : Addr) (xs : List Int32) (args : Array Value) (s : State) : Prop := args = #[.ref b] ∧ s.IntsAt b xs ∧ xs.length ≤ 384 ∧ (Jvm.Cond.and given_1 narrow_1).before args s = true
def lw_Q (_ : Array Value) (s : State) (o : Outcome) (t : State) : Prop := o = .returned (some (.int 1)) ∧ Framed s o t [] 600000 7302250
def lw_Z (below : List Frame) (a : Array Value) (s : State) : State → Prop := fun t => ∃ o, t.status = .running ∧ Ended t below o ∧ lw_Q a s o t
/-- the law's own end, with 1 on the stack, nothing written that was there before, its room as the claim has it -/
theorem lw_ret {p : Program} {l : Launch} {e : Env} {s : State} {m : MethodId} {below : List Frame} {meth : Method} {c : Code} {b : Nat} (hx : p.tables.exec = Jvm.exec) (hb : c.code = code) (hr : meth.sig.returnType = ret) (hlocks : meth.locks = false) {pc : Nat} {H : Heap} {ls : Array Slot} (hdg : decode code pc = .ok (.ireturn, 1)) : W p l e room_1 s m #[Value.ref b] below meth c H [] 600000 7302250 (lw_Z below #[Value.ref b] s) (F0 m pc ls [.int 1]) := by
  intro T hT X
  obtain ⟨fs, hret, hrun, hended, hW, hframe⟩ := X.leave (v := some (.int 1)) (hlocks := hlocks) (fun h => by rw [hr] at h; cases h)
  have hmeth' : T.vm.method? m = some meth := X.method'
  refine ⟨T.setFrames fs, ?_, .returned (some (.int 1)), hrun, hended, rfl, ⟨_, rfl⟩, hW, hframe⟩
  jvm_step X.here [X.here.top, hx, hb, hdg, hmeth', hr, ret, narrow_b1]
  (try refine ⟨rfl, ?_⟩); (try refine ⟨rfl, ?_⟩)
  first | (intro acts; rw [hret _ acts rfl rfl rfl]) | rw [hret _ _ rfl rfl rfl]
  exact Steps.refl _
/-- what holds at the law's entry: the machine, the code, the tables' words (any of lw_tbl by 'hts w (by decide +kernel)'), the script of L ints xs at the cell b, what the Statement gives of the start (any of its parts by flat_of_before) -/
def lw_At (p : Program) (s : State) (m : MethodId) (meth : Method) (c : Code) (b L : Nat) (xs : Nat → Int32) : Prop :=
  p.tables.exec = Jvm.exec ∧ c.code = code ∧ meth.sig.returnType = ret ∧ c.maxLocals = 4 ∧ s.vm.findClass R_law = some m.cls ∧ (∀ w ∈ lw_tbl, w.before #[Value.ref b] s = true) ∧ va_X b L xs s s.heap ∧ b < s.heap.size ∧ meth.locks = false ∧ (Jvm.Cond.and given_1 narrow_1).before #[Value.ref b] s = true
/-- the law's end: as the claim asks, if nothing below the base was there to be written -/
def gZl (g : gE) : gZ := fun args s below t => s.heap.size ≤ g.1 → lw_Z below args s t
theorem g_lawret {l : Launch} {g : gE} {pc : Nat} {L : List (Nat × Value)} {h : gH} {c n : Nat} (d : decode mL_law.2.1 pc = .ok (.ireturn, 1)) (hc : c ≤ 600000) (hn : n ≤ 7302250) : gG l g mL_law room_1 (gZl g) pc L [.int 1] h c n := by
  intro p e s m args below meth cd H locs ls X I S B
  by_cases hs : s.heap.size ≤ g.1
  · refine W.widen hc hn (va_forget (fun q hq => Nat.le_trans hs (S.2.2 q hq)) ?_)
    intro T hT XX
    have hlocks := X.2.2.2.2.2.2.1
    have hr : meth.sig.returnType = some .boolean := X.2.2.2.1
    have hx := X.1
    have hb : cd.code = code := X.2.1
    have hdg : decode code pc = .ok (.ireturn, 1) := d
    obtain ⟨fs, hret, hrun, hended, hW, hframe⟩ := XX.leave (v := some (.int 1)) (hlocks := hlocks) (fun h => by rw [hr] at h; cases h)
    have hmeth' : T.vm.method? m = some meth := XX.method'
    refine ⟨T.setFrames fs, ?_, fun _ => ⟨.returned (some (.int 1)), hrun, hended, rfl, ⟨_, rfl⟩, hW, hframe⟩⟩
    show Steps _ _ _ (T.setTop (F0 m pc ls [.int 1])) _
    jvm_step XX.here [XX.here.top, hx, hb, hdg, hmeth', hr, narrow_b1]
    (try refine ⟨rfl, ?_⟩); (try refine ⟨rfl, ?_⟩)
    first | (intro acts; rw [hret _ acts rfl rfl rfl]) | rw [hret _ _ rfl rfl rfl]
    exact Steps.refl _
  · intro T hT XX
    exact ⟨_, Steps.refl _, fun h => absurd h hs⟩
noncomputable def G_L_law_L18 (L : Nat) (xs : Nat → Int32) : Nat → Int32 → gS → gQ → Int32
  | 0, _, _, _ => 0
  | n + 1, y3, σ, ζ =>
    if ((nI L) - (6 : Int32)) < y3 then
      (1 : Int32)
    else
      if ((xs (ix y3)) &&& (31 : Int32)) = 0 then
        let f11 := (F_X9_feed σ (xs (ix (y3 + (1 : Int32)))) (xs (ix (y3 + (2 : Int32)))) (xs (ix (y3 + (3 : Int32)))) (xs (ix (y3 + (4 : Int32)))) (xs (ix (y3 + (5 : Int32)))))
        let f19 := (F_X10_feed f11.2 (xs (ix (y3 + (1 : Int32)))) (xs (ix (y3 + (2 : Int32)))) (xs (ix (y3 + (3 : Int32)))) (xs (ix (y3 + (4 : Int32)))) (xs (ix (y3 + (5 : Int32)))))
        if f11.1 = f19.1 then
          G_L_law_L18 L xs n (y3 + Int32.ofInt (6)) f19.2 ζ
        else
          (0 : Int32)
      else
        if ((xs (ix y3)) &&& (31 : Int32)) = 1 then
          let f24 := (F_X9_cut σ (xs (ix (y3 + (1 : Int32)))))
          let f27 := (F_X10_cut f24.2 (xs (ix (y3 + (1 : Int32)))))
          if f24.1 = f27.1 then
            G_L_law_L18 L xs n (y3 + Int32.ofInt (6)) f27.2 ζ
          else
            (0 : Int32)
        else
          if ((xs (ix y3)) &&& (31 : Int32)) = 2 then
            let f36 := (F_X9_seal σ (xs (ix (y3 + (1 : Int32)))) (xs (ix (y3 + (2 : Int32)))) (xs (ix (y3 + (3 : Int32)))) (xs (ix (y3 + (4 : Int32)))))
            let f43 := (F_X10_seal f36.2 (xs (ix (y3 + (1 : Int32)))) (xs (ix (y3 + (2 : Int32)))) (xs (ix (y3 + (3 : Int32)))) (xs (ix (y3 + (4 : Int32)))))
            if f36.1 = f43.1 then
              G_L_law_L18 L xs n (y3 + Int32.ofInt (6)) f43.2 ζ
            else
              (0 : Int32)
          else
            if ((xs (ix y3)) &&& (31 : Int32)) = 3 then
              let f50 := (F_X9_card σ (xs (ix (y3 + (1 : Int32)))) (xs (ix (y3 + (2 : Int32)))))
              let f55 := (F_X10_card f50.2 (xs (ix (y3 + (1 : Int32)))) (xs (ix (y3 + (2 : Int32)))))
              if f50.1 = f55.1 then
                G_L_law_L18 L xs n (y3 + Int32.ofInt (6)) f55.2 ζ
              else
                (0 : Int32)
            else
              if ((xs (ix y3)) &&& (31 : Int32)) = 4 then
                if (xs (ix (y3 + (2 : Int32)))) = 0 then
                  let f63 := (F_X9_writable σ (xs (ix (y3 + (1 : Int32)))) (0 : Int32))
                  if (xs (ix (y3 + (2 : Int32)))) = 0 then
                    let f69 := (F_X10_writable f63.2 (xs (ix (y3 + (1 : Int32)))) (0 : Int32))
                    if f63.1 = f69.1 then
                      G_L_law_L18 L xs n (y3 + Int32.ofInt (6)) f69.2 ζ
                    else
                      (0 : Int32)
                  else
                    let f73 := (F_X10_writable f63.2 (xs (ix (y3 + (1 : Int32)))) (1 : Int32))
                    if f63.1 = f73.1 then
                      G_L_law_L18 L xs n (y3 + Int32.ofInt (6)) f73.2 ζ
                    else
                      (0 : Int32)
                else
                  let f77 := (F_X9_writable σ (xs (ix (y3 + (1 : Int32)))) (1 : Int32))
                  if (xs (ix (y3 + (2 : Int32)))) = 0 then
                    let f83 := (F_X10_writable f77.2 (xs (ix (y3 + (1 : Int32)))) (0 : Int32))
                    if f77.1 = f83.1 then
                      G_L_law_L18 L xs n (y3 + Int32.ofInt (6)) f83.2 ζ
                    else
                      (0 : Int32)
                  else
                    let f87 := (F_X10_writable f77.2 (xs (ix (y3 + (1 : Int32)))) (1 : Int32))
                    if f77.1 = f87.1 then
                      G_L_law_L18 L xs n (y3 + Int32.ofInt (6)) f87.2 ζ
                    else
                      (0 : Int32)
              else
                if ((xs (ix y3)) &&& (31 : Int32)) = 5 then
                  let f94 := (F_X9_put σ (xs (ix (y3 + (1 : Int32)))) (xs (ix (y3 + (2 : Int32)))))
                  let f99 := (F_X10_put f94.2 (xs (ix (y3 + (1 : Int32)))) (xs (ix (y3 + (2 : Int32)))))
                  if f94.1 = f99.1 then
                    G_L_law_L18 L xs n (y3 + Int32.ofInt (6)) f99.2 ζ
                  else
                    (0 : Int32)
                else
                  if ((xs (ix y3)) &&& (31 : Int32)) = 6 then
                    let f104 := (F_X9_finger σ (xs (ix (y3 + (1 : Int32)))))
                    let f107 := (F_X10_finger f104.2 (xs (ix (y3 + (1 : Int32)))))
                    if f104.1 = f107.1 then
                      G_L_law_L18 L xs n (y3 + Int32.ofInt (6)) f107.2 ζ
                    else
                      (0 : Int32)
                  else
                    if ((xs (ix y3)) &&& (31 : Int32)) = 7 then
                      if (xs (ix (y3 + (1 : Int32)))) = 0 then
                        let s114 := (F_X9_door σ (0 : Int32))
                        if (xs (ix (y3 + (1 : Int32)))) = 0 then
                          let s119 := (F_X10_door s114 (0 : Int32))
                          G_L_law_L18 L xs n (y3 + Int32.ofInt (6)) s119 ζ
                        else
                          let s122 := (F_X10_door s114 (1 : Int32))
                          G_L_law_L18 L xs n (y3 + Int32.ofInt (6)) s122 ζ
                      else
                        let s125 := (F_X9_door σ (1 : Int32))
                        if (xs (ix (y3 + (1 : Int32)))) = 0 then
                          let s130 := (F_X10_door s125 (0 : Int32))
                          G_L_law_L18 L xs n (y3 + Int32.ofInt (6)) s130 ζ
                        else
                          let s133 := (F_X10_door s125 (1 : Int32))
                          G_L_law_L18 L xs n (y3 + Int32.ofInt (6)) s133 ζ
                    else
                      if ((xs (ix y3)) &&& (31 : Int32)) = 8 then
                        let f137 := (F_X9_disk σ )
                        let f140 := (F_X10_disk f137.2 )
                        if f137.1 = f140.1 then
                          G_L_law_L18 L xs n (y3 + Int32.ofInt (6)) f140.2 ζ
                        else
                          (0 : Int32)
                      else
                        if ((xs (ix y3)) &&& (31 : Int32)) = 9 then
                          let f145 := (F_X9_noDisk σ )
                          let f147 := (F_X10_noDisk f145.2 )
                          if f145.1 = f147.1 then
                            G_L_law_L18 L xs n (y3 + Int32.ofInt (6)) f147.2 ζ
                          else
                            (0 : Int32)
                        else
                          if ((xs (ix y3)) &&& (31 : Int32)) = 10 then
                            let f152 := (F_X9_key σ (xs (ix (y3 + (1 : Int32)))))
                            let f155 := (F_X10_key f152.2 (xs (ix (y3 + (1 : Int32)))))
                            if f152.1 = f155.1 then
                              G_L_law_L18 L xs n (y3 + Int32.ofInt (6)) f155.2 ζ
                            else
                              (0 : Int32)
                          else
                            if ((xs (ix y3)) &&& (31 : Int32)) = 11 then
                              let f160 := (F_X9_tick σ (xs (ix (y3 + (1 : Int32)))))
                              let f163 := (F_X10_tick f160.2 ζ (xs (ix (y3 + (1 : Int32)))))
                              if f160.1 = f163.1 then
                                G_L_law_L18 L xs n (y3 + Int32.ofInt (6)) f160.2 f163.2
                              else
                                (0 : Int32)
                            else
                              if ((xs (ix y3)) &&& (31 : Int32)) = 12 then
                                let f168 := (F_X9_cutAt σ (xs (ix (y3 + (1 : Int32)))))
                                let f171 := (F_X10_cutAt f168.2 (xs (ix (y3 + (1 : Int32)))))
                                if f168.1 = f171.1 then
                                  G_L_law_L18 L xs n (y3 + Int32.ofInt (6)) f171.2 ζ
                                else
                                  (0 : Int32)
                              else
                                if ((xs (ix y3)) &&& (31 : Int32)) = 13 then
                                  let f176 := (F_X9_poll σ )
                                  let f179 := (F_X10_poll f176.2 ζ )
                                  if f176.1 = f179.1 then
                                    G_L_law_L18 L xs n (y3 + Int32.ofInt (6)) f179.2.1 f179.2.2
                                  else
                                    (0 : Int32)
                                else
                                  if ((xs (ix y3)) &&& (31 : Int32)) = 14 then
                                    if (F_X9_show σ (xs (ix (y3 + (1 : Int32))))) = (F_X10_show σ ζ (xs (ix (y3 + (1 : Int32))))) then
                                      G_L_law_L18 L xs n (y3 + Int32.ofInt (6)) σ ζ
                                    else
                                      (0 : Int32)
                                  else
                                    if ((xs (ix y3)) &&& (31 : Int32)) = 15 then
                                      if (F_X9_record σ (xs (ix (y3 + (1 : Int32)))) (xs (ix (y3 + (2 : Int32))))) = (F_X10_record σ (xs (ix (y3 + (1 : Int32)))) (xs (ix (y3 + (2 : Int32))))) then
                                        G_L_law_L18 L xs n (y3 + Int32.ofInt (6)) σ ζ
                                      else
                                        (0 : Int32)
                                    else
                                      if ((xs (ix y3)) &&& (31 : Int32)) = 16 then
                                        if (F_X9_size σ (xs (ix (y3 + (1 : Int32)))) (xs (ix (y3 + (2 : Int32))))) = (F_X10_size σ (xs (ix (y3 + (1 : Int32)))) (xs (ix (y3 + (2 : Int32))))) then
                                          G_L_law_L18 L xs n (y3 + Int32.ofInt (6)) σ ζ
                                        else
                                          (0 : Int32)
                                      else
                                        if ((xs (ix y3)) &&& (31 : Int32)) = 17 then
                                          if (F_X9_at σ (xs (ix (y3 + (1 : Int32)))) (xs (ix (y3 + (2 : Int32)))) (xs (ix (y3 + (3 : Int32))))) = (F_X10_at σ (xs (ix (y3 + (1 : Int32)))) (xs (ix (y3 + (2 : Int32)))) (xs (ix (y3 + (3 : Int32))))) then
                                            G_L_law_L18 L xs n (y3 + Int32.ofInt (6)) σ ζ
                                          else
                                            (0 : Int32)
                                        else
                                          if ((xs (ix y3)) &&& (31 : Int32)) = 18 then
                                            if (F_X9_diskAt σ (xs (ix (y3 + (1 : Int32))))) = (F_X10_diskAt σ (xs (ix (y3 + (1 : Int32))))) then
                                              G_L_law_L18 L xs n (y3 + Int32.ofInt (6)) σ ζ
                                            else
                                              (0 : Int32)
                                          else
                                            G_L_law_L18 L xs n (y3 + Int32.ofInt (6)) σ ζ
def QG_L_law_L18 (L : Nat) (xs : Nat → Int32) : Nat → Int32 → gS → gQ → Prop
  | 0, _, _, _ => False
  | n + 1, y3, σ, ζ =>
    if ((nI L) - (6 : Int32)) < y3 then
      (True)
    else
      (vp_in y3 L ∧ (if ((xs (ix y3)) &&& (31 : Int32)) = 0 then
        (vp_in (y3 + (1 : Int32)) L ∧ (vp_in (y3 + (2 : Int32)) L ∧ (vp_in (y3 + (3 : Int32)) L ∧ (vp_in (y3 + (4 : Int32)) L ∧ (vp_in (y3 + (5 : Int32)) L ∧ ((Q_X9_feed σ (xs (ix (y3 + (1 : Int32)))) (xs (ix (y3 + (2 : Int32)))) (xs (ix (y3 + (3 : Int32)))) (xs (ix (y3 + (4 : Int32)))) (xs (ix (y3 + (5 : Int32))))) ∧ (let f11 := (F_X9_feed σ (xs (ix (y3 + (1 : Int32)))) (xs (ix (y3 + (2 : Int32)))) (xs (ix (y3 + (3 : Int32)))) (xs (ix (y3 + (4 : Int32)))) (xs (ix (y3 + (5 : Int32)))))
        vp_in (y3 + (1 : Int32)) L ∧ (vp_in (y3 + (2 : Int32)) L ∧ (vp_in (y3 + (3 : Int32)) L ∧ (vp_in (y3 + (4 : Int32)) L ∧ (vp_in (y3 + (5 : Int32)) L ∧ ((Q_X10_feed f11.2 (xs (ix (y3 + (1 : Int32)))) (xs (ix (y3 + (2 : Int32)))) (xs (ix (y3 + (3 : Int32)))) (xs (ix (y3 + (4 : Int32)))) (xs (ix (y3 + (5 : Int32))))) ∧ (let f19 := (F_X10_feed f11.2 (xs (ix (y3 + (1 : Int32)))) (xs (ix (y3 + (2 : Int32)))) (xs (ix (y3 + (3 : Int32)))) (xs (ix (y3 + (4 : Int32)))) (xs (ix (y3 + (5 : Int32)))))
        if f11.1 = f19.1 then
          (QG_L_law_L18 L xs n (y3 + Int32.ofInt (6)) f19.2 ζ)
        else
          (True))))))))))))))
      else
        (if ((xs (ix y3)) &&& (31 : Int32)) = 1 then
          (vp_in (y3 + (1 : Int32)) L ∧ (let f24 := (F_X9_cut σ (xs (ix (y3 + (1 : Int32)))))
          vp_in (y3 + (1 : Int32)) L ∧ (let f27 := (F_X10_cut f24.2 (xs (ix (y3 + (1 : Int32)))))
          if f24.1 = f27.1 then
            (QG_L_law_L18 L xs n (y3 + Int32.ofInt (6)) f27.2 ζ)
          else
            (True))))
        else
          (if ((xs (ix y3)) &&& (31 : Int32)) = 2 then
            (vp_in (y3 + (1 : Int32)) L ∧ (vp_in (y3 + (2 : Int32)) L ∧ (vp_in (y3 + (3 : Int32)) L ∧ (vp_in (y3 + (4 : Int32)) L ∧ ((Q_X9_seal σ (xs (ix (y3 + (1 : Int32)))) (xs (ix (y3 + (2 : Int32)))) (xs (ix (y3 + (3 : Int32)))) (xs (ix (y3 + (4 : Int32))))) ∧ (let f36 := (F_X9_seal σ (xs (ix (y3 + (1 : Int32)))) (xs (ix (y3 + (2 : Int32)))) (xs (ix (y3 + (3 : Int32)))) (xs (ix (y3 + (4 : Int32)))))
            vp_in (y3 + (1 : Int32)) L ∧ (vp_in (y3 + (2 : Int32)) L ∧ (vp_in (y3 + (3 : Int32)) L ∧ (vp_in (y3 + (4 : Int32)) L ∧ ((Q_X10_seal f36.2 (xs (ix (y3 + (1 : Int32)))) (xs (ix (y3 + (2 : Int32)))) (xs (ix (y3 + (3 : Int32)))) (xs (ix (y3 + (4 : Int32))))) ∧ (let f43 := (F_X10_seal f36.2 (xs (ix (y3 + (1 : Int32)))) (xs (ix (y3 + (2 : Int32)))) (xs (ix (y3 + (3 : Int32)))) (xs (ix (y3 + (4 : Int32)))))
            if f36.1 = f43.1 then
              (QG_L_law_L18 L xs n (y3 + Int32.ofInt (6)) f43.2 ζ)
            else
              (True))))))))))))
          else
            (if ((xs (ix y3)) &&& (31 : Int32)) = 3 then
              (vp_in (y3 + (1 : Int32)) L ∧ (vp_in (y3 + (2 : Int32)) L ∧ ((Q_X9_card σ (xs (ix (y3 + (1 : Int32)))) (xs (ix (y3 + (2 : Int32))))) ∧ (let f50 := (F_X9_card σ (xs (ix (y3 + (1 : Int32)))) (xs (ix (y3 + (2 : Int32)))))
              vp_in (y3 + (1 : Int32)) L ∧ (vp_in (y3 + (2 : Int32)) L ∧ ((Q_X10_card f50.2 (xs (ix (y3 + (1 : Int32)))) (xs (ix (y3 + (2 : Int32))))) ∧ (let f55 := (F_X10_card f50.2 (xs (ix (y3 + (1 : Int32)))) (xs (ix (y3 + (2 : Int32)))))
              if f50.1 = f55.1 then
                (QG_L_law_L18 L xs n (y3 + Int32.ofInt (6)) f55.2 ζ)
              else
                (True))))))))
            else
              (if ((xs (ix y3)) &&& (31 : Int32)) = 4 then
                (vp_in (y3 + (1 : Int32)) L ∧ (vp_in (y3 + (2 : Int32)) L ∧ (if (xs (ix (y3 + (2 : Int32)))) = 0 then
                  ((Q_X9_writable σ (xs (ix (y3 + (1 : Int32)))) (0 : Int32)) ∧ (let f63 := (F_X9_writable σ (xs (ix (y3 + (1 : Int32)))) (0 : Int32))
                  vp_in (y3 + (1 : Int32)) L ∧ (vp_in (y3 + (2 : Int32)) L ∧ (if (xs (ix (y3 + (2 : Int32)))) = 0 then
                    ((Q_X10_writable f63.2 (xs (ix (y3 + (1 : Int32)))) (0 : Int32)) ∧ (let f69 := (F_X10_writable f63.2 (xs (ix (y3 + (1 : Int32)))) (0 : Int32))
                    if f63.1 = f69.1 then
                      (QG_L_law_L18 L xs n (y3 + Int32.ofInt (6)) f69.2 ζ)
                    else
                      (True)))
                  else
                    ((Q_X10_writable f63.2 (xs (ix (y3 + (1 : Int32)))) (1 : Int32)) ∧ (let f73 := (F_X10_writable f63.2 (xs (ix (y3 + (1 : Int32)))) (1 : Int32))
                    if f63.1 = f73.1 then
                      (QG_L_law_L18 L xs n (y3 + Int32.ofInt (6)) f73.2 ζ)
                    else
                      (True)))))))
                else
                  ((Q_X9_writable σ (xs (ix (y3 + (1 : Int32)))) (1 : Int32)) ∧ (let f77 := (F_X9_writable σ (xs (ix (y3 + (1 : Int32)))) (1 : Int32))
                  vp_in (y3 + (1 : Int32)) L ∧ (vp_in (y3 + (2 : Int32)) L ∧ (if (xs (ix (y3 + (2 : Int32)))) = 0 then
                    ((Q_X10_writable f77.2 (xs (ix (y3 + (1 : Int32)))) (0 : Int32)) ∧ (let f83 := (F_X10_writable f77.2 (xs (ix (y3 + (1 : Int32)))) (0 : Int32))
                    if f77.1 = f83.1 then
                      (QG_L_law_L18 L xs n (y3 + Int32.ofInt (6)) f83.2 ζ)
                    else
                      (True)))
                  else
                    ((Q_X10_writable f77.2 (xs (ix (y3 + (1 : Int32)))) (1 : Int32)) ∧ (let f87 := (F_X10_writable f77.2 (xs (ix (y3 + (1 : Int32)))) (1 : Int32))
                    if f77.1 = f87.1 then
                      (QG_L_law_L18 L xs n (y3 + Int32.ofInt (6)) f87.2 ζ)
                    else
                      (True))))))))))
              else
                (if ((xs (ix y3)) &&& (31 : Int32)) = 5 then
                  (vp_in (y3 + (1 : Int32)) L ∧ (vp_in (y3 + (2 : Int32)) L ∧ ((Q_X9_put σ (xs (ix (y3 + (1 : Int32)))) (xs (ix (y3 + (2 : Int32))))) ∧ (let f94 := (F_X9_put σ (xs (ix (y3 + (1 : Int32)))) (xs (ix (y3 + (2 : Int32)))))
                  vp_in (y3 + (1 : Int32)) L ∧ (vp_in (y3 + (2 : Int32)) L ∧ ((Q_X10_put f94.2 (xs (ix (y3 + (1 : Int32)))) (xs (ix (y3 + (2 : Int32))))) ∧ (let f99 := (F_X10_put f94.2 (xs (ix (y3 + (1 : Int32)))) (xs (ix (y3 + (2 : Int32)))))
                  if f94.1 = f99.1 then
                    (QG_L_law_L18 L xs n (y3 + Int32.ofInt (6)) f99.2 ζ)
                  else
                    (True))))))))
                else
                  (if ((xs (ix y3)) &&& (31 : Int32)) = 6 then
                    (vp_in (y3 + (1 : Int32)) L ∧ (let f104 := (F_X9_finger σ (xs (ix (y3 + (1 : Int32)))))
                    vp_in (y3 + (1 : Int32)) L ∧ (let f107 := (F_X10_finger f104.2 (xs (ix (y3 + (1 : Int32)))))
                    if f104.1 = f107.1 then
                      (QG_L_law_L18 L xs n (y3 + Int32.ofInt (6)) f107.2 ζ)
                    else
                      (True))))
                  else
                    (if ((xs (ix y3)) &&& (31 : Int32)) = 7 then
                      (vp_in (y3 + (1 : Int32)) L ∧ (if (xs (ix (y3 + (1 : Int32)))) = 0 then
                        ((Q_X9_door σ (0 : Int32)) ∧ (let s114 := (F_X9_door σ (0 : Int32))
                        vp_in (y3 + (1 : Int32)) L ∧ (if (xs (ix (y3 + (1 : Int32)))) = 0 then
                          ((Q_X10_door s114 (0 : Int32)) ∧ (let s119 := (F_X10_door s114 (0 : Int32))
                          QG_L_law_L18 L xs n (y3 + Int32.ofInt (6)) s119 ζ))
                        else
                          ((Q_X10_door s114 (1 : Int32)) ∧ (let s122 := (F_X10_door s114 (1 : Int32))
                          QG_L_law_L18 L xs n (y3 + Int32.ofInt (6)) s122 ζ)))))
                      else
                        ((Q_X9_door σ (1 : Int32)) ∧ (let s125 := (F_X9_door σ (1 : Int32))
                        vp_in (y3 + (1 : Int32)) L ∧ (if (xs (ix (y3 + (1 : Int32)))) = 0 then
                          ((Q_X10_door s125 (0 : Int32)) ∧ (let s130 := (F_X10_door s125 (0 : Int32))
                          QG_L_law_L18 L xs n (y3 + Int32.ofInt (6)) s130 ζ))
                        else
                          ((Q_X10_door s125 (1 : Int32)) ∧ (let s133 := (F_X10_door s125 (1 : Int32))
                          QG_L_law_L18 L xs n (y3 + Int32.ofInt (6)) s133 ζ)))))))
                    else
                      (if ((xs (ix y3)) &&& (31 : Int32)) = 8 then
                        ((Q_X9_disk σ ) ∧ (let f137 := (F_X9_disk σ )
                        (Q_X10_disk f137.2 ) ∧ (let f140 := (F_X10_disk f137.2 )
                        if f137.1 = f140.1 then
                          (QG_L_law_L18 L xs n (y3 + Int32.ofInt (6)) f140.2 ζ)
                        else
                          (True))))
                      else
                        (if ((xs (ix y3)) &&& (31 : Int32)) = 9 then
                          ((Q_X9_noDisk σ ) ∧ (let f145 := (F_X9_noDisk σ )
                          let f147 := (F_X10_noDisk f145.2 )
                          if f145.1 = f147.1 then
                            (QG_L_law_L18 L xs n (y3 + Int32.ofInt (6)) f147.2 ζ)
                          else
                            (True)))
                        else
                          (if ((xs (ix y3)) &&& (31 : Int32)) = 10 then
                            (vp_in (y3 + (1 : Int32)) L ∧ (let f152 := (F_X9_key σ (xs (ix (y3 + (1 : Int32)))))
                            vp_in (y3 + (1 : Int32)) L ∧ (let f155 := (F_X10_key f152.2 (xs (ix (y3 + (1 : Int32)))))
                            if f152.1 = f155.1 then
                              (QG_L_law_L18 L xs n (y3 + Int32.ofInt (6)) f155.2 ζ)
                            else
                              (True))))
                          else
                            (if ((xs (ix y3)) &&& (31 : Int32)) = 11 then
                              (vp_in (y3 + (1 : Int32)) L ∧ (let f160 := (F_X9_tick σ (xs (ix (y3 + (1 : Int32)))))
                              vp_in (y3 + (1 : Int32)) L ∧ (let f163 := (F_X10_tick f160.2 ζ (xs (ix (y3 + (1 : Int32)))))
                              if f160.1 = f163.1 then
                                (QG_L_law_L18 L xs n (y3 + Int32.ofInt (6)) f160.2 f163.2)
                              else
                                (True))))
                            else
                              (if ((xs (ix y3)) &&& (31 : Int32)) = 12 then
                                (vp_in (y3 + (1 : Int32)) L ∧ (let f168 := (F_X9_cutAt σ (xs (ix (y3 + (1 : Int32)))))
                                vp_in (y3 + (1 : Int32)) L ∧ (let f171 := (F_X10_cutAt f168.2 (xs (ix (y3 + (1 : Int32)))))
                                if f168.1 = f171.1 then
                                  (QG_L_law_L18 L xs n (y3 + Int32.ofInt (6)) f171.2 ζ)
                                else
                                  (True))))
                              else
                                (if ((xs (ix y3)) &&& (31 : Int32)) = 13 then
                                  ((Q_X9_poll σ ) ∧ (let f176 := (F_X9_poll σ )
                                  (Q_X10_poll f176.2 ζ ) ∧ (let f179 := (F_X10_poll f176.2 ζ )
                                  if f176.1 = f179.1 then
                                    (QG_L_law_L18 L xs n (y3 + Int32.ofInt (6)) f179.2.1 f179.2.2)
                                  else
                                    (True))))
                                else
                                  (if ((xs (ix y3)) &&& (31 : Int32)) = 14 then
                                    (vp_in (y3 + (1 : Int32)) L ∧ ((Q_X9_show σ (xs (ix (y3 + (1 : Int32))))) ∧ (vp_in (y3 + (1 : Int32)) L ∧ ((Q_X10_show σ ζ (xs (ix (y3 + (1 : Int32))))) ∧ (if (F_X9_show σ (xs (ix (y3 + (1 : Int32))))) = (F_X10_show σ ζ (xs (ix (y3 + (1 : Int32))))) then
                                      (QG_L_law_L18 L xs n (y3 + Int32.ofInt (6)) σ ζ)
                                    else
                                      (True))))))
                                  else
                                    (if ((xs (ix y3)) &&& (31 : Int32)) = 15 then
                                      (vp_in (y3 + (1 : Int32)) L ∧ (vp_in (y3 + (2 : Int32)) L ∧ ((Q_X9_record σ (xs (ix (y3 + (1 : Int32)))) (xs (ix (y3 + (2 : Int32))))) ∧ (vp_in (y3 + (1 : Int32)) L ∧ (vp_in (y3 + (2 : Int32)) L ∧ ((Q_X10_record σ (xs (ix (y3 + (1 : Int32)))) (xs (ix (y3 + (2 : Int32))))) ∧ (if (F_X9_record σ (xs (ix (y3 + (1 : Int32)))) (xs (ix (y3 + (2 : Int32))))) = (F_X10_record σ (xs (ix (y3 + (1 : Int32)))) (xs (ix (y3 + (2 : Int32))))) then
                                        (QG_L_law_L18 L xs n (y3 + Int32.ofInt (6)) σ ζ)
                                      else
                                        (True))))))))
                                    else
                                      (if ((xs (ix y3)) &&& (31 : Int32)) = 16 then
                                        (vp_in (y3 + (1 : Int32)) L ∧ (vp_in (y3 + (2 : Int32)) L ∧ ((Q_X9_size σ (xs (ix (y3 + (1 : Int32)))) (xs (ix (y3 + (2 : Int32))))) ∧ (vp_in (y3 + (1 : Int32)) L ∧ (vp_in (y3 + (2 : Int32)) L ∧ ((Q_X10_size σ (xs (ix (y3 + (1 : Int32)))) (xs (ix (y3 + (2 : Int32))))) ∧ (if (F_X9_size σ (xs (ix (y3 + (1 : Int32)))) (xs (ix (y3 + (2 : Int32))))) = (F_X10_size σ (xs (ix (y3 + (1 : Int32)))) (xs (ix (y3 + (2 : Int32))))) then
                                          (QG_L_law_L18 L xs n (y3 + Int32.ofInt (6)) σ ζ)
                                        else
                                          (True))))))))
                                      else
                                        (if ((xs (ix y3)) &&& (31 : Int32)) = 17 then
                                          (vp_in (y3 + (1 : Int32)) L ∧ (vp_in (y3 + (2 : Int32)) L ∧ (vp_in (y3 + (3 : Int32)) L ∧ ((Q_X9_at σ (xs (ix (y3 + (1 : Int32)))) (xs (ix (y3 + (2 : Int32)))) (xs (ix (y3 + (3 : Int32))))) ∧ (vp_in (y3 + (1 : Int32)) L ∧ (vp_in (y3 + (2 : Int32)) L ∧ (vp_in (y3 + (3 : Int32)) L ∧ ((Q_X10_at σ (xs (ix (y3 + (1 : Int32)))) (xs (ix (y3 + (2 : Int32)))) (xs (ix (y3 + (3 : Int32))))) ∧ (if (F_X9_at σ (xs (ix (y3 + (1 : Int32)))) (xs (ix (y3 + (2 : Int32)))) (xs (ix (y3 + (3 : Int32))))) = (F_X10_at σ (xs (ix (y3 + (1 : Int32)))) (xs (ix (y3 + (2 : Int32)))) (xs (ix (y3 + (3 : Int32))))) then
                                            (QG_L_law_L18 L xs n (y3 + Int32.ofInt (6)) σ ζ)
                                          else
                                            (True))))))))))
                                        else
                                          (if ((xs (ix y3)) &&& (31 : Int32)) = 18 then
                                            (vp_in (y3 + (1 : Int32)) L ∧ ((Q_X9_diskAt σ (xs (ix (y3 + (1 : Int32))))) ∧ (vp_in (y3 + (1 : Int32)) L ∧ ((Q_X10_diskAt σ (xs (ix (y3 + (1 : Int32))))) ∧ (if (F_X9_diskAt σ (xs (ix (y3 + (1 : Int32))))) = (F_X10_diskAt σ (xs (ix (y3 + (1 : Int32))))) then
                                              (QG_L_law_L18 L xs n (y3 + Int32.ofInt (6)) σ ζ)
                                            else
                                              (True))))))
                                          else
                                            (QG_L_law_L18 L xs n (y3 + Int32.ofInt (6)) σ ζ)))))))))))))))))))))
set_option maxHeartbeats 4000000 in
set_option maxRecDepth 100000 in
theorem t_L_law_L18 (l : Launch) (g : gE) {L : Nat} {xs : Nat → Int32} {fr : Int32} (hX : g.2.2.2.2 6 = (.int, L, xs)) (hfr : fr = 1) (hT : gTab g) : ∀ (n : Nat) (y3 : Int32) (σ : gS) (ζ : gQ), QG_L_law_L18 L xs n y3 σ ζ → G_L_law_L18 L xs n y3 σ ζ = fr → gG l g mL_law room_1 (gZl g) 18 [(0, .ref (gBig + 6)), (1, .ref 0), (2, .ref 199), (3, .int y3)] [] (hp σ ζ) 219 12858 := by
  intro n
  induction n with
  | zero => intro y3 σ ζ hQ; exact absurd hQ (by unfold QG_L_law_L18; exact id)
  | succ n ihL18 =>
    intro y3 σ ζ hQ hF
    unfold G_L_law_L18 at hF
    unfold QG_L_law_L18 at hQ
    refine g_iload_n dL_law_18 rfl rfl rfl ?_
    refine g_aload_n dL_law_19 rfl rfl rfl ?_
    refine g_tlen (by decide) hX dL_law_20 rfl ?_
    refine g_bipush (v := 6) dL_law_21 (by decide) rfl ?_
    refine g_isub dL_law_23 rfl ?_
    refine g_icmpgt (tgt := 707) dL_law_24 (by decide) rfl (fun c1 => ?_) (fun c1 => ?_)
    · replace hF := ite_p hF c1
      try replace hQ := ite_q hQ c1
      refine g_iconst (v := 1) dL_law_707 (by decide) rfl ?_
      exact g_lawret dL_law_708 (by decide) (by decide)
    · replace hF := ite_n hF c1
      try replace hQ := ite_r hQ c1
      refine g_aload_n dL_law_27 rfl rfl rfl ?_
      refine g_iload_n dL_law_28 rfl rfl rfl ?_
      have o2 := hQ.1
      replace hQ := hQ.2
      refine g_tld (by decide) hX o2 dL_law_29 rfl ?_
      refine g_bipush (v := 31) dL_law_30 (by decide) rfl ?_
      refine g_iand dL_law_32 rfl ?_
      refine g_case 0 (fun c3 => ?_) (fun c3 => ?_)
      · replace hF := ite_p hF c3
        try replace hQ := ite_q hQ c3
        refine g_table (tgt := 124) dL_law_33 (by decide) (by decide) ?_
        refine g_aload_n dL_law_124 rfl rfl rfl ?_
        refine g_aload_n dL_law_125 rfl rfl rfl ?_
        refine g_iload_n dL_law_126 rfl rfl rfl ?_
        refine g_iconst (v := 1) dL_law_127 (by decide) rfl ?_
        refine g_iadd dL_law_128 rfl ?_
        have o4 := hQ.1
        replace hQ := hQ.2
        refine g_tld (by decide) hX o4 dL_law_129 rfl ?_
        refine g_aload_n dL_law_130 rfl rfl rfl ?_
        refine g_iload_n dL_law_131 rfl rfl rfl ?_
        refine g_iconst (v := 2) dL_law_132 (by decide) rfl ?_
        refine g_iadd dL_law_133 rfl ?_
        have o5 := hQ.1
        replace hQ := hQ.2
        refine g_tld (by decide) hX o5 dL_law_134 rfl ?_
        refine g_aload_n dL_law_135 rfl rfl rfl ?_
        refine g_iload_n dL_law_136 rfl rfl rfl ?_
        refine g_iconst (v := 3) dL_law_137 (by decide) rfl ?_
        refine g_iadd dL_law_138 rfl ?_
        have o6 := hQ.1
        replace hQ := hQ.2
        refine g_tld (by decide) hX o6 dL_law_139 rfl ?_
        refine g_aload_n dL_law_140 rfl rfl rfl ?_
        refine g_iload_n dL_law_141 rfl rfl rfl ?_
        refine g_iconst (v := 4) dL_law_142 (by decide) rfl ?_
        refine g_iadd dL_law_143 rfl ?_
        have o7 := hQ.1
        replace hQ := hQ.2
        refine g_tld (by decide) hX o7 dL_law_144 rfl ?_
        refine g_aload_n dL_law_145 rfl rfl rfl ?_
        refine g_iload_n dL_law_146 rfl rfl rfl ?_
        refine g_iconst (v := 5) dL_law_147 (by decide) rfl ?_
        refine g_iadd dL_law_148 rfl ?_
        have o8 := hQ.1
        replace hQ := hQ.2
        refine g_tld (by decide) hX o8 dL_law_149 rfl ?_
        have o9 := hQ.1
        replace hQ := hQ.2
        refine g_callv mv_X9_feed ml_L_13 (c_X9_feed l g _ _ _ _ _ o9) (ho_0 _ _) rfl rfl (Nat.le_of_ble_eq_true rfl) (Nat.le_of_ble_eq_true rfl) (Nat.le_of_ble_eq_true rfl) (Nat.le_of_ble_eq_true rfl) rfl (Nat.le_of_ble_eq_true rfl) dL_law_150 rfl (fun r10 hr10 pr10 => ?_)
        obtain ⟨rfl, rfl⟩ := pr10
        refine g_aload_n dL_law_153 rfl rfl rfl ?_
        refine g_aload_n dL_law_154 rfl rfl rfl ?_
        refine g_iload_n dL_law_155 rfl rfl rfl ?_
        refine g_iconst (v := 1) dL_law_156 (by decide) rfl ?_
        refine g_iadd dL_law_157 rfl ?_
        have o12 := hQ.1
        replace hQ := hQ.2
        refine g_tld (by decide) hX o12 dL_law_158 rfl ?_
        refine g_aload_n dL_law_159 rfl rfl rfl ?_
        refine g_iload_n dL_law_160 rfl rfl rfl ?_
        refine g_iconst (v := 2) dL_law_161 (by decide) rfl ?_
        refine g_iadd dL_law_162 rfl ?_
        have o13 := hQ.1
        replace hQ := hQ.2
        refine g_tld (by decide) hX o13 dL_law_163 rfl ?_
        refine g_aload_n dL_law_164 rfl rfl rfl ?_
        refine g_iload_n dL_law_165 rfl rfl rfl ?_
        refine g_iconst (v := 3) dL_law_166 (by decide) rfl ?_
        refine g_iadd dL_law_167 rfl ?_
        have o14 := hQ.1
        replace hQ := hQ.2
        refine g_tld (by decide) hX o14 dL_law_168 rfl ?_
        refine g_aload_n dL_law_169 rfl rfl rfl ?_
        refine g_iload_n dL_law_170 rfl rfl rfl ?_
        refine g_iconst (v := 4) dL_law_171 (by decide) rfl ?_
        refine g_iadd dL_law_172 rfl ?_
        have o15 := hQ.1
        replace hQ := hQ.2
        refine g_tld (by decide) hX o15 dL_law_173 rfl ?_
        refine g_aload_n dL_law_174 rfl rfl rfl ?_
        refine g_iload_n dL_law_175 rfl rfl rfl ?_
        refine g_iconst (v := 5) dL_law_176 (by decide) rfl ?_
        refine g_iadd dL_law_177 rfl ?_
        have o16 := hQ.1
        replace hQ := hQ.2
        refine g_tld (by decide) hX o16 dL_law_178 rfl ?_
        have o17 := hQ.1
        replace hQ := hQ.2
        refine g_callv mv_X10_feed ml_L_17 (c_X10_feed l g _ _ _ _ _ o17) (ho_199 _ _) rfl rfl (Nat.le_of_ble_eq_true rfl) (Nat.le_of_ble_eq_true rfl) (Nat.le_of_ble_eq_true rfl) (Nat.le_of_ble_eq_true rfl) rfl (Nat.le_of_ble_eq_true rfl) dL_law_179 rfl (fun r18 hr18 pr18 => ?_)
        obtain ⟨rfl, rfl⟩ := pr18
        refine g_icmpeq (tgt := 701) dL_law_182 (by decide) rfl (fun c20 => ?_) (fun c20 => ?_)
        · replace hF := ite_p hF c20
          try replace hQ := ite_q hQ c20
          refine g_iincL (L1 := [(0, _), (1, _), (2, _), (3, _)]) dL_law_701 rfl (by decide) rfl rfl ?_
          refine g_goto (tgt := 18) dL_law_704 (by decide) ?_
          refine g_sub [0, 1, 2, 3] rfl ?_
          exact ihL18 _ _ _ hQ hF
        · replace hF := ite_n hF c20
          try replace hQ := ite_r hQ c20
          refine g_iconst (v := 0) dL_law_185 (by decide) rfl ?_
          exact absurd (hF.trans hfr) (by decide)
      · replace hF := ite_n hF c3
        try replace hQ := ite_r hQ c3
        refine g_case 1 (fun c21 => ?_) (fun c21 => ?_)
        · replace hF := ite_p hF c21
          try replace hQ := ite_q hQ c21
          refine g_table (tgt := 187) dL_law_33 (by decide) (by decide) ?_
          refine g_aload_n dL_law_187 rfl rfl rfl ?_
          refine g_aload_n dL_law_188 rfl rfl rfl ?_
          refine g_iload_n dL_law_189 rfl rfl rfl ?_
          refine g_iconst (v := 1) dL_law_190 (by decide) rfl ?_
          refine g_iadd dL_law_191 rfl ?_
          have o22 := hQ.1
          replace hQ := hQ.2
          refine g_tld (by decide) hX o22 dL_law_192 rfl ?_
          refine g_callv mv_X9_cut ml_L_18 (c_X9_cut l g _) (ho_0 _ _) rfl rfl (Nat.le_of_ble_eq_true rfl) (Nat.le_of_ble_eq_true rfl) (Nat.le_of_ble_eq_true rfl) (Nat.le_of_ble_eq_true rfl) rfl (Nat.le_of_ble_eq_true rfl) dL_law_193 rfl (fun r23 hr23 pr23 => ?_)
          obtain ⟨rfl, rfl⟩ := pr23
          refine g_aload_n dL_law_196 rfl rfl rfl ?_
          refine g_aload_n dL_law_197 rfl rfl rfl ?_
          refine g_iload_n dL_law_198 rfl rfl rfl ?_
          refine g_iconst (v := 1) dL_law_199 (by decide) rfl ?_
          refine g_iadd dL_law_200 rfl ?_
          have o25 := hQ.1
          replace hQ := hQ.2
          refine g_tld (by decide) hX o25 dL_law_201 rfl ?_
          refine g_callv mv_X10_cut ml_L_22 (c_X10_cut l g _) (ho_199 _ _) rfl rfl (Nat.le_of_ble_eq_true rfl) (Nat.le_of_ble_eq_true rfl) (Nat.le_of_ble_eq_true rfl) (Nat.le_of_ble_eq_true rfl) rfl (Nat.le_of_ble_eq_true rfl) dL_law_202 rfl (fun r26 hr26 pr26 => ?_)
          obtain ⟨rfl, rfl⟩ := pr26
          refine g_icmpeq (tgt := 701) dL_law_205 (by decide) rfl (fun c28 => ?_) (fun c28 => ?_)
          · replace hF := ite_p hF c28
            try replace hQ := ite_q hQ c28
            refine g_iincL (L1 := [(0, _), (1, _), (2, _), (3, _)]) dL_law_701 rfl (by decide) rfl rfl ?_
            refine g_goto (tgt := 18) dL_law_704 (by decide) ?_
            refine g_sub [0, 1, 2, 3] rfl ?_
            exact ihL18 _ _ _ hQ hF
          · replace hF := ite_n hF c28
            try replace hQ := ite_r hQ c28
            refine g_iconst (v := 0) dL_law_208 (by decide) rfl ?_
            exact absurd (hF.trans hfr) (by decide)
        · replace hF := ite_n hF c21
          try replace hQ := ite_r hQ c21
          refine g_case 2 (fun c29 => ?_) (fun c29 => ?_)
          · replace hF := ite_p hF c29
            try replace hQ := ite_q hQ c29
            refine g_table (tgt := 210) dL_law_33 (by decide) (by decide) ?_
            refine g_aload_n dL_law_210 rfl rfl rfl ?_
            refine g_aload_n dL_law_211 rfl rfl rfl ?_
            refine g_iload_n dL_law_212 rfl rfl rfl ?_
            refine g_iconst (v := 1) dL_law_213 (by decide) rfl ?_
            refine g_iadd dL_law_214 rfl ?_
            have o30 := hQ.1
            replace hQ := hQ.2
            refine g_tld (by decide) hX o30 dL_law_215 rfl ?_
            refine g_aload_n dL_law_216 rfl rfl rfl ?_
            refine g_iload_n dL_law_217 rfl rfl rfl ?_
            refine g_iconst (v := 2) dL_law_218 (by decide) rfl ?_
            refine g_iadd dL_law_219 rfl ?_
            have o31 := hQ.1
            replace hQ := hQ.2
            refine g_tld (by decide) hX o31 dL_law_220 rfl ?_
            refine g_aload_n dL_law_221 rfl rfl rfl ?_
            refine g_iload_n dL_law_222 rfl rfl rfl ?_
            refine g_iconst (v := 3) dL_law_223 (by decide) rfl ?_
            refine g_iadd dL_law_224 rfl ?_
            have o32 := hQ.1
            replace hQ := hQ.2
            refine g_tld (by decide) hX o32 dL_law_225 rfl ?_
            refine g_aload_n dL_law_226 rfl rfl rfl ?_
            refine g_iload_n dL_law_227 rfl rfl rfl ?_
            refine g_iconst (v := 4) dL_law_228 (by decide) rfl ?_
            refine g_iadd dL_law_229 rfl ?_
            have o33 := hQ.1
            replace hQ := hQ.2
            refine g_tld (by decide) hX o33 dL_law_230 rfl ?_
            have o34 := hQ.1
            replace hQ := hQ.2
            refine g_callv mv_X9_seal ml_L_23 (c_X9_seal l g hT _ _ _ _ o34) (ho_0 _ _) rfl rfl (Nat.le_of_ble_eq_true rfl) (Nat.le_of_ble_eq_true rfl) (Nat.le_of_ble_eq_true rfl) (Nat.le_of_ble_eq_true rfl) rfl (Nat.le_of_ble_eq_true rfl) dL_law_231 rfl (fun r35 hr35 pr35 => ?_)
            obtain ⟨rfl, rfl⟩ := pr35
            refine g_aload_n dL_law_234 rfl rfl rfl ?_
            refine g_aload_n dL_law_235 rfl rfl rfl ?_
            refine g_iload_n dL_law_236 rfl rfl rfl ?_
            refine g_iconst (v := 1) dL_law_237 (by decide) rfl ?_
            refine g_iadd dL_law_238 rfl ?_
            have o37 := hQ.1
            replace hQ := hQ.2
            refine g_tld (by decide) hX o37 dL_law_239 rfl ?_
            refine g_aload_n dL_law_240 rfl rfl rfl ?_
            refine g_iload_n dL_law_241 rfl rfl rfl ?_
            refine g_iconst (v := 2) dL_law_242 (by decide) rfl ?_
            refine g_iadd dL_law_243 rfl ?_
            have o38 := hQ.1
            replace hQ := hQ.2
            refine g_tld (by decide) hX o38 dL_law_244 rfl ?_
            refine g_aload_n dL_law_245 rfl rfl rfl ?_
            refine g_iload_n dL_law_246 rfl rfl rfl ?_
            refine g_iconst (v := 3) dL_law_247 (by decide) rfl ?_
            refine g_iadd dL_law_248 rfl ?_
            have o39 := hQ.1
            replace hQ := hQ.2
            refine g_tld (by decide) hX o39 dL_law_249 rfl ?_
            refine g_aload_n dL_law_250 rfl rfl rfl ?_
            refine g_iload_n dL_law_251 rfl rfl rfl ?_
            refine g_iconst (v := 4) dL_law_252 (by decide) rfl ?_
            refine g_iadd dL_law_253 rfl ?_
            have o40 := hQ.1
            replace hQ := hQ.2
            refine g_tld (by decide) hX o40 dL_law_254 rfl ?_
            have o41 := hQ.1
            replace hQ := hQ.2
            refine g_callv mv_X10_seal ml_L_27 (c_X10_seal l g _ _ _ _ o41) (ho_199 _ _) rfl rfl (Nat.le_of_ble_eq_true rfl) (Nat.le_of_ble_eq_true rfl) (Nat.le_of_ble_eq_true rfl) (Nat.le_of_ble_eq_true rfl) rfl (Nat.le_of_ble_eq_true rfl) dL_law_255 rfl (fun r42 hr42 pr42 => ?_)
            obtain ⟨rfl, rfl⟩ := pr42
            refine g_icmpeq (tgt := 701) dL_law_258 (by decide) rfl (fun c44 => ?_) (fun c44 => ?_)
            · replace hF := ite_p hF c44
              try replace hQ := ite_q hQ c44
              refine g_iincL (L1 := [(0, _), (1, _), (2, _), (3, _)]) dL_law_701 rfl (by decide) rfl rfl ?_
              refine g_goto (tgt := 18) dL_law_704 (by decide) ?_
              refine g_sub [0, 1, 2, 3] rfl ?_
              exact ihL18 _ _ _ hQ hF
            · replace hF := ite_n hF c44
              try replace hQ := ite_r hQ c44
              refine g_iconst (v := 0) dL_law_261 (by decide) rfl ?_
              exact absurd (hF.trans hfr) (by decide)
          · replace hF := ite_n hF c29
            try replace hQ := ite_r hQ c29
            refine g_case 3 (fun c45 => ?_) (fun c45 => ?_)
            · replace hF := ite_p hF c45
              try replace hQ := ite_q hQ c45
              refine g_table (tgt := 263) dL_law_33 (by decide) (by decide) ?_
              refine g_aload_n dL_law_263 rfl rfl rfl ?_
              refine g_aload_n dL_law_264 rfl rfl rfl ?_
              refine g_iload_n dL_law_265 rfl rfl rfl ?_
              refine g_iconst (v := 1) dL_law_266 (by decide) rfl ?_
              refine g_iadd dL_law_267 rfl ?_
              have o46 := hQ.1
              replace hQ := hQ.2
              refine g_tld (by decide) hX o46 dL_law_268 rfl ?_
              refine g_aload_n dL_law_269 rfl rfl rfl ?_
              refine g_iload_n dL_law_270 rfl rfl rfl ?_
              refine g_iconst (v := 2) dL_law_271 (by decide) rfl ?_
              refine g_iadd dL_law_272 rfl ?_
              have o47 := hQ.1
              replace hQ := hQ.2
              refine g_tld (by decide) hX o47 dL_law_273 rfl ?_
              have o48 := hQ.1
              replace hQ := hQ.2
              refine g_callv mv_X9_card ml_L_28 (c_X9_card l g _ _ o48) (ho_0 _ _) rfl rfl (Nat.le_of_ble_eq_true rfl) (Nat.le_of_ble_eq_true rfl) (Nat.le_of_ble_eq_true rfl) (Nat.le_of_ble_eq_true rfl) rfl (Nat.le_of_ble_eq_true rfl) dL_law_274 rfl (fun r49 hr49 pr49 => ?_)
              obtain ⟨rfl, rfl⟩ := pr49
              refine g_aload_n dL_law_277 rfl rfl rfl ?_
              refine g_aload_n dL_law_278 rfl rfl rfl ?_
              refine g_iload_n dL_law_279 rfl rfl rfl ?_
              refine g_iconst (v := 1) dL_law_280 (by decide) rfl ?_
              refine g_iadd dL_law_281 rfl ?_
              have o51 := hQ.1
              replace hQ := hQ.2
              refine g_tld (by decide) hX o51 dL_law_282 rfl ?_
              refine g_aload_n dL_law_283 rfl rfl rfl ?_
              refine g_iload_n dL_law_284 rfl rfl rfl ?_
              refine g_iconst (v := 2) dL_law_285 (by decide) rfl ?_
              refine g_iadd dL_law_286 rfl ?_
              have o52 := hQ.1
              replace hQ := hQ.2
              refine g_tld (by decide) hX o52 dL_law_287 rfl ?_
              have o53 := hQ.1
              replace hQ := hQ.2
              refine g_callv mv_X10_card ml_L_32 (c_X10_card l g _ _ o53) (ho_199 _ _) rfl rfl (Nat.le_of_ble_eq_true rfl) (Nat.le_of_ble_eq_true rfl) (Nat.le_of_ble_eq_true rfl) (Nat.le_of_ble_eq_true rfl) rfl (Nat.le_of_ble_eq_true rfl) dL_law_288 rfl (fun r54 hr54 pr54 => ?_)
              obtain ⟨rfl, rfl⟩ := pr54
              refine g_icmpeq (tgt := 701) dL_law_291 (by decide) rfl (fun c56 => ?_) (fun c56 => ?_)
              · replace hF := ite_p hF c56
                try replace hQ := ite_q hQ c56
                refine g_iincL (L1 := [(0, _), (1, _), (2, _), (3, _)]) dL_law_701 rfl (by decide) rfl rfl ?_
                refine g_goto (tgt := 18) dL_law_704 (by decide) ?_
                refine g_sub [0, 1, 2, 3] rfl ?_
                exact ihL18 _ _ _ hQ hF
              · replace hF := ite_n hF c56
                try replace hQ := ite_r hQ c56
                refine g_iconst (v := 0) dL_law_294 (by decide) rfl ?_
                exact absurd (hF.trans hfr) (by decide)
            · replace hF := ite_n hF c45
              try replace hQ := ite_r hQ c45
              refine g_case 4 (fun c57 => ?_) (fun c57 => ?_)
              · replace hF := ite_p hF c57
                try replace hQ := ite_q hQ c57
                refine g_table (tgt := 296) dL_law_33 (by decide) (by decide) ?_
                refine g_aload_n dL_law_296 rfl rfl rfl ?_
                refine g_aload_n dL_law_297 rfl rfl rfl ?_
                refine g_iload_n dL_law_298 rfl rfl rfl ?_
                refine g_iconst (v := 1) dL_law_299 (by decide) rfl ?_
                refine g_iadd dL_law_300 rfl ?_
                have o58 := hQ.1
                replace hQ := hQ.2
                refine g_tld (by decide) hX o58 dL_law_301 rfl ?_
                refine g_aload_n dL_law_302 rfl rfl rfl ?_
                refine g_iload_n dL_law_303 rfl rfl rfl ?_
                refine g_iconst (v := 2) dL_law_304 (by decide) rfl ?_
                refine g_iadd dL_law_305 rfl ?_
                have o59 := hQ.1
                replace hQ := hQ.2
                refine g_tld (by decide) hX o59 dL_law_306 rfl ?_
                refine g_ifeq (tgt := 314) dL_law_307 (by decide) rfl (fun c60 => ?_) (fun c60 => ?_)
                · replace hF := ite_p hF c60
                  try replace hQ := ite_q hQ c60
                  refine g_iconst (v := 0) dL_law_314 (by decide) rfl ?_
                  have o61 := hQ.1
                  replace hQ := hQ.2
                  refine g_callv mv_X9_writable ml_L_33 (c_X9_writable l g _ _ o61) (ho_0 _ _) rfl rfl (Nat.le_of_ble_eq_true rfl) (Nat.le_of_ble_eq_true rfl) (Nat.le_of_ble_eq_true rfl) (Nat.le_of_ble_eq_true rfl) rfl (Nat.le_of_ble_eq_true rfl) dL_law_315 rfl (fun r62 hr62 pr62 => ?_)
                  obtain ⟨rfl, rfl⟩ := pr62
                  refine g_aload_n dL_law_318 rfl rfl rfl ?_
                  refine g_aload_n dL_law_319 rfl rfl rfl ?_
                  refine g_iload_n dL_law_320 rfl rfl rfl ?_
                  refine g_iconst (v := 1) dL_law_321 (by decide) rfl ?_
                  refine g_iadd dL_law_322 rfl ?_
                  have o64 := hQ.1
                  replace hQ := hQ.2
                  refine g_tld (by decide) hX o64 dL_law_323 rfl ?_
                  refine g_aload_n dL_law_324 rfl rfl rfl ?_
                  refine g_iload_n dL_law_325 rfl rfl rfl ?_
                  refine g_iconst (v := 2) dL_law_326 (by decide) rfl ?_
                  refine g_iadd dL_law_327 rfl ?_
                  have o65 := hQ.1
                  replace hQ := hQ.2
                  refine g_tld (by decide) hX o65 dL_law_328 rfl ?_
                  refine g_ifeq (tgt := 336) dL_law_329 (by decide) rfl (fun c66 => ?_) (fun c66 => ?_)
                  · replace hF := ite_p hF c66
                    try replace hQ := ite_q hQ c66
                    refine g_iconst (v := 0) dL_law_336 (by decide) rfl ?_
                    have o67 := hQ.1
                    replace hQ := hQ.2
                    refine g_callv mv_X10_writable ml_L_37 (c_X10_writable l g _ _ o67) (ho_199 _ _) rfl rfl (Nat.le_of_ble_eq_true rfl) (Nat.le_of_ble_eq_true rfl) (Nat.le_of_ble_eq_true rfl) (Nat.le_of_ble_eq_true rfl) rfl (Nat.le_of_ble_eq_true rfl) dL_law_337 rfl (fun r68 hr68 pr68 => ?_)
                    obtain ⟨rfl, rfl⟩ := pr68
                    refine g_icmpeq (tgt := 701) dL_law_340 (by decide) rfl (fun c70 => ?_) (fun c70 => ?_)
                    · replace hF := ite_p hF c70
                      try replace hQ := ite_q hQ c70
                      refine g_iincL (L1 := [(0, _), (1, _), (2, _), (3, _)]) dL_law_701 rfl (by decide) rfl rfl ?_
                      refine g_goto (tgt := 18) dL_law_704 (by decide) ?_
                      refine g_sub [0, 1, 2, 3] rfl ?_
                      exact ihL18 _ _ _ hQ hF
                    · replace hF := ite_n hF c70
                      try replace hQ := ite_r hQ c70
                      refine g_iconst (v := 0) dL_law_343 (by decide) rfl ?_
                      exact absurd (hF.trans hfr) (by decide)
                  · replace hF := ite_n hF c66
                    try replace hQ := ite_r hQ c66
                    refine g_iconst (v := 1) dL_law_332 (by decide) rfl ?_
                    refine g_goto (tgt := 337) dL_law_333 (by decide) ?_
                    have o71 := hQ.1
                    replace hQ := hQ.2
                    refine g_callv mv_X10_writable ml_L_37 (c_X10_writable l g _ _ o71) (ho_199 _ _) rfl rfl (Nat.le_of_ble_eq_true rfl) (Nat.le_of_ble_eq_true rfl) (Nat.le_of_ble_eq_true rfl) (Nat.le_of_ble_eq_true rfl) rfl (Nat.le_of_ble_eq_true rfl) dL_law_337 rfl (fun r72 hr72 pr72 => ?_)
                    obtain ⟨rfl, rfl⟩ := pr72
                    refine g_icmpeq (tgt := 701) dL_law_340 (by decide) rfl (fun c74 => ?_) (fun c74 => ?_)
                    · replace hF := ite_p hF c74
                      try replace hQ := ite_q hQ c74
                      refine g_iincL (L1 := [(0, _), (1, _), (2, _), (3, _)]) dL_law_701 rfl (by decide) rfl rfl ?_
                      refine g_goto (tgt := 18) dL_law_704 (by decide) ?_
                      refine g_sub [0, 1, 2, 3] rfl ?_
                      exact ihL18 _ _ _ hQ hF
                    · replace hF := ite_n hF c74
                      try replace hQ := ite_r hQ c74
                      refine g_iconst (v := 0) dL_law_343 (by decide) rfl ?_
                      exact absurd (hF.trans hfr) (by decide)
                · replace hF := ite_n hF c60
                  try replace hQ := ite_r hQ c60
                  refine g_iconst (v := 1) dL_law_310 (by decide) rfl ?_
                  refine g_goto (tgt := 315) dL_law_311 (by decide) ?_
                  have o75 := hQ.1
                  replace hQ := hQ.2
                  refine g_callv mv_X9_writable ml_L_33 (c_X9_writable l g _ _ o75) (ho_0 _ _) rfl rfl (Nat.le_of_ble_eq_true rfl) (Nat.le_of_ble_eq_true rfl) (Nat.le_of_ble_eq_true rfl) (Nat.le_of_ble_eq_true rfl) rfl (Nat.le_of_ble_eq_true rfl) dL_law_315 rfl (fun r76 hr76 pr76 => ?_)
                  obtain ⟨rfl, rfl⟩ := pr76
                  refine g_aload_n dL_law_318 rfl rfl rfl ?_
                  refine g_aload_n dL_law_319 rfl rfl rfl ?_
                  refine g_iload_n dL_law_320 rfl rfl rfl ?_
                  refine g_iconst (v := 1) dL_law_321 (by decide) rfl ?_
                  refine g_iadd dL_law_322 rfl ?_
                  have o78 := hQ.1
                  replace hQ := hQ.2
                  refine g_tld (by decide) hX o78 dL_law_323 rfl ?_
                  refine g_aload_n dL_law_324 rfl rfl rfl ?_
                  refine g_iload_n dL_law_325 rfl rfl rfl ?_
                  refine g_iconst (v := 2) dL_law_326 (by decide) rfl ?_
                  refine g_iadd dL_law_327 rfl ?_
                  have o79 := hQ.1
                  replace hQ := hQ.2
                  refine g_tld (by decide) hX o79 dL_law_328 rfl ?_
                  refine g_ifeq (tgt := 336) dL_law_329 (by decide) rfl (fun c80 => ?_) (fun c80 => ?_)
                  · replace hF := ite_p hF c80
                    try replace hQ := ite_q hQ c80
                    refine g_iconst (v := 0) dL_law_336 (by decide) rfl ?_
                    have o81 := hQ.1
                    replace hQ := hQ.2
                    refine g_callv mv_X10_writable ml_L_37 (c_X10_writable l g _ _ o81) (ho_199 _ _) rfl rfl (Nat.le_of_ble_eq_true rfl) (Nat.le_of_ble_eq_true rfl) (Nat.le_of_ble_eq_true rfl) (Nat.le_of_ble_eq_true rfl) rfl (Nat.le_of_ble_eq_true rfl) dL_law_337 rfl (fun r82 hr82 pr82 => ?_)
                    obtain ⟨rfl, rfl⟩ := pr82
                    refine g_icmpeq (tgt := 701) dL_law_340 (by decide) rfl (fun c84 => ?_) (fun c84 => ?_)
                    · replace hF := ite_p hF c84
                      try replace hQ := ite_q hQ c84
                      refine g_iincL (L1 := [(0, _), (1, _), (2, _), (3, _)]) dL_law_701 rfl (by decide) rfl rfl ?_
                      refine g_goto (tgt := 18) dL_law_704 (by decide) ?_
                      refine g_sub [0, 1, 2, 3] rfl ?_
                      exact ihL18 _ _ _ hQ hF
                    · replace hF := ite_n hF c84
                      try replace hQ := ite_r hQ c84
                      refine g_iconst (v := 0) dL_law_343 (by decide) rfl ?_
                      exact absurd (hF.trans hfr) (by decide)
                  · replace hF := ite_n hF c80
                    try replace hQ := ite_r hQ c80
                    refine g_iconst (v := 1) dL_law_332 (by decide) rfl ?_
                    refine g_goto (tgt := 337) dL_law_333 (by decide) ?_
                    have o85 := hQ.1
                    replace hQ := hQ.2
                    refine g_callv mv_X10_writable ml_L_37 (c_X10_writable l g _ _ o85) (ho_199 _ _) rfl rfl (Nat.le_of_ble_eq_true rfl) (Nat.le_of_ble_eq_true rfl) (Nat.le_of_ble_eq_true rfl) (Nat.le_of_ble_eq_true rfl) rfl (Nat.le_of_ble_eq_true rfl) dL_law_337 rfl (fun r86 hr86 pr86 => ?_)
                    obtain ⟨rfl, rfl⟩ := pr86
                    refine g_icmpeq (tgt := 701) dL_law_340 (by decide) rfl (fun c88 => ?_) (fun c88 => ?_)
                    · replace hF := ite_p hF c88
                      try replace hQ := ite_q hQ c88
                      refine g_iincL (L1 := [(0, _), (1, _), (2, _), (3, _)]) dL_law_701 rfl (by decide) rfl rfl ?_
                      refine g_goto (tgt := 18) dL_law_704 (by decide) ?_
                      refine g_sub [0, 1, 2, 3] rfl ?_
                      exact ihL18 _ _ _ hQ hF
                    · replace hF := ite_n hF c88
                      try replace hQ := ite_r hQ c88
                      refine g_iconst (v := 0) dL_law_343 (by decide) rfl ?_
                      exact absurd (hF.trans hfr) (by decide)
              · replace hF := ite_n hF c57
                try replace hQ := ite_r hQ c57
                refine g_case 5 (fun c89 => ?_) (fun c89 => ?_)
                · replace hF := ite_p hF c89
                  try replace hQ := ite_q hQ c89
                  refine g_table (tgt := 345) dL_law_33 (by decide) (by decide) ?_
                  refine g_aload_n dL_law_345 rfl rfl rfl ?_
                  refine g_aload_n dL_law_346 rfl rfl rfl ?_
                  refine g_iload_n dL_law_347 rfl rfl rfl ?_
                  refine g_iconst (v := 1) dL_law_348 (by decide) rfl ?_
                  refine g_iadd dL_law_349 rfl ?_
                  have o90 := hQ.1
                  replace hQ := hQ.2
                  refine g_tld (by decide) hX o90 dL_law_350 rfl ?_
                  refine g_aload_n dL_law_351 rfl rfl rfl ?_
                  refine g_iload_n dL_law_352 rfl rfl rfl ?_
                  refine g_iconst (v := 2) dL_law_353 (by decide) rfl ?_
                  refine g_iadd dL_law_354 rfl ?_
                  have o91 := hQ.1
                  replace hQ := hQ.2
                  refine g_tld (by decide) hX o91 dL_law_355 rfl ?_
                  have o92 := hQ.1
                  replace hQ := hQ.2
                  refine g_callv mv_X9_put ml_L_38 (c_X9_put l g _ _ o92) (ho_0 _ _) rfl rfl (Nat.le_of_ble_eq_true rfl) (Nat.le_of_ble_eq_true rfl) (Nat.le_of_ble_eq_true rfl) (Nat.le_of_ble_eq_true rfl) rfl (Nat.le_of_ble_eq_true rfl) dL_law_356 rfl (fun r93 hr93 pr93 => ?_)
                  obtain ⟨rfl, rfl⟩ := pr93
                  refine g_aload_n dL_law_359 rfl rfl rfl ?_
                  refine g_aload_n dL_law_360 rfl rfl rfl ?_
                  refine g_iload_n dL_law_361 rfl rfl rfl ?_
                  refine g_iconst (v := 1) dL_law_362 (by decide) rfl ?_
                  refine g_iadd dL_law_363 rfl ?_
                  have o95 := hQ.1
                  replace hQ := hQ.2
                  refine g_tld (by decide) hX o95 dL_law_364 rfl ?_
                  refine g_aload_n dL_law_365 rfl rfl rfl ?_
                  refine g_iload_n dL_law_366 rfl rfl rfl ?_
                  refine g_iconst (v := 2) dL_law_367 (by decide) rfl ?_
                  refine g_iadd dL_law_368 rfl ?_
                  have o96 := hQ.1
                  replace hQ := hQ.2
                  refine g_tld (by decide) hX o96 dL_law_369 rfl ?_
                  have o97 := hQ.1
                  replace hQ := hQ.2
                  refine g_callv mv_X10_put ml_L_41 (c_X10_put l g _ _ o97) (ho_199 _ _) rfl rfl (Nat.le_of_ble_eq_true rfl) (Nat.le_of_ble_eq_true rfl) (Nat.le_of_ble_eq_true rfl) (Nat.le_of_ble_eq_true rfl) rfl (Nat.le_of_ble_eq_true rfl) dL_law_370 rfl (fun r98 hr98 pr98 => ?_)
                  obtain ⟨rfl, rfl⟩ := pr98
                  refine g_icmpeq (tgt := 701) dL_law_373 (by decide) rfl (fun c100 => ?_) (fun c100 => ?_)
                  · replace hF := ite_p hF c100
                    try replace hQ := ite_q hQ c100
                    refine g_iincL (L1 := [(0, _), (1, _), (2, _), (3, _)]) dL_law_701 rfl (by decide) rfl rfl ?_
                    refine g_goto (tgt := 18) dL_law_704 (by decide) ?_
                    refine g_sub [0, 1, 2, 3] rfl ?_
                    exact ihL18 _ _ _ hQ hF
                  · replace hF := ite_n hF c100
                    try replace hQ := ite_r hQ c100
                    refine g_iconst (v := 0) dL_law_376 (by decide) rfl ?_
                    exact absurd (hF.trans hfr) (by decide)
                · replace hF := ite_n hF c89
                  try replace hQ := ite_r hQ c89
                  refine g_case 6 (fun c101 => ?_) (fun c101 => ?_)
                  · replace hF := ite_p hF c101
                    try replace hQ := ite_q hQ c101
                    refine g_table (tgt := 378) dL_law_33 (by decide) (by decide) ?_
                    refine g_aload_n dL_law_378 rfl rfl rfl ?_
                    refine g_aload_n dL_law_379 rfl rfl rfl ?_
                    refine g_iload_n dL_law_380 rfl rfl rfl ?_
                    refine g_iconst (v := 1) dL_law_381 (by decide) rfl ?_
                    refine g_iadd dL_law_382 rfl ?_
                    have o102 := hQ.1
                    replace hQ := hQ.2
                    refine g_tld (by decide) hX o102 dL_law_383 rfl ?_
                    refine g_callv mv_X9_finger ml_L_42 (c_X9_finger l g _) (ho_0 _ _) rfl rfl (Nat.le_of_ble_eq_true rfl) (Nat.le_of_ble_eq_true rfl) (Nat.le_of_ble_eq_true rfl) (Nat.le_of_ble_eq_true rfl) rfl (Nat.le_of_ble_eq_true rfl) dL_law_384 rfl (fun r103 hr103 pr103 => ?_)
                    obtain ⟨rfl, rfl⟩ := pr103
                    refine g_aload_n dL_law_387 rfl rfl rfl ?_
                    refine g_aload_n dL_law_388 rfl rfl rfl ?_
                    refine g_iload_n dL_law_389 rfl rfl rfl ?_
                    refine g_iconst (v := 1) dL_law_390 (by decide) rfl ?_
                    refine g_iadd dL_law_391 rfl ?_
                    have o105 := hQ.1
                    replace hQ := hQ.2
                    refine g_tld (by decide) hX o105 dL_law_392 rfl ?_
                    refine g_callv mv_X10_finger ml_L_46 (c_X10_finger l g _) (ho_199 _ _) rfl rfl (Nat.le_of_ble_eq_true rfl) (Nat.le_of_ble_eq_true rfl) (Nat.le_of_ble_eq_true rfl) (Nat.le_of_ble_eq_true rfl) rfl (Nat.le_of_ble_eq_true rfl) dL_law_393 rfl (fun r106 hr106 pr106 => ?_)
                    obtain ⟨rfl, rfl⟩ := pr106
                    refine g_icmpeq (tgt := 701) dL_law_396 (by decide) rfl (fun c108 => ?_) (fun c108 => ?_)
                    · replace hF := ite_p hF c108
                      try replace hQ := ite_q hQ c108
                      refine g_iincL (L1 := [(0, _), (1, _), (2, _), (3, _)]) dL_law_701 rfl (by decide) rfl rfl ?_
                      refine g_goto (tgt := 18) dL_law_704 (by decide) ?_
                      refine g_sub [0, 1, 2, 3] rfl ?_
                      exact ihL18 _ _ _ hQ hF
                    · replace hF := ite_n hF c108
                      try replace hQ := ite_r hQ c108
                      refine g_iconst (v := 0) dL_law_399 (by decide) rfl ?_
                      exact absurd (hF.trans hfr) (by decide)
                  · replace hF := ite_n hF c101
                    try replace hQ := ite_r hQ c101
                    refine g_case 7 (fun c109 => ?_) (fun c109 => ?_)
                    · replace hF := ite_p hF c109
                      try replace hQ := ite_q hQ c109
                      refine g_table (tgt := 401) dL_law_33 (by decide) (by decide) ?_
                      refine g_aload_n dL_law_401 rfl rfl rfl ?_
                      refine g_aload_n dL_law_402 rfl rfl rfl ?_
                      refine g_iload_n dL_law_403 rfl rfl rfl ?_
                      refine g_iconst (v := 1) dL_law_404 (by decide) rfl ?_
                      refine g_iadd dL_law_405 rfl ?_
                      have o110 := hQ.1
                      replace hQ := hQ.2
                      refine g_tld (by decide) hX o110 dL_law_406 rfl ?_
                      refine g_ifeq (tgt := 414) dL_law_407 (by decide) rfl (fun c111 => ?_) (fun c111 => ?_)
                      · replace hF := ite_p hF c111
                        try replace hQ := ite_q hQ c111
                        refine g_iconst (v := 0) dL_law_414 (by decide) rfl ?_
                        have o112 := hQ.1
                        replace hQ := hQ.2
                        refine g_callv mv_X9_door ml_L_47 (c_X9_door l g _ o112) (ho_0 _ _) rfl rfl (Nat.le_of_ble_eq_true rfl) (Nat.le_of_ble_eq_true rfl) (Nat.le_of_ble_eq_true rfl) (Nat.le_of_ble_eq_true rfl) rfl (Nat.le_of_ble_eq_true rfl) dL_law_415 rfl (fun r113 hr113 pr113 => ?_)
                        obtain ⟨rfl, rfl⟩ := pr113
                        refine g_aload_n dL_law_418 rfl rfl rfl ?_
                        refine g_aload_n dL_law_419 rfl rfl rfl ?_
                        refine g_iload_n dL_law_420 rfl rfl rfl ?_
                        refine g_iconst (v := 1) dL_law_421 (by decide) rfl ?_
                        refine g_iadd dL_law_422 rfl ?_
                        have o115 := hQ.1
                        replace hQ := hQ.2
                        refine g_tld (by decide) hX o115 dL_law_423 rfl ?_
                        refine g_ifeq (tgt := 431) dL_law_424 (by decide) rfl (fun c116 => ?_) (fun c116 => ?_)
                        · replace hF := ite_p hF c116
                          try replace hQ := ite_q hQ c116
                          refine g_iconst (v := 0) dL_law_431 (by decide) rfl ?_
                          have o117 := hQ.1
                          replace hQ := hQ.2
                          refine g_callv mv_X10_door ml_L_51 (c_X10_door l g _ o117) (ho_199 _ _) rfl rfl (Nat.le_of_ble_eq_true rfl) (Nat.le_of_ble_eq_true rfl) (Nat.le_of_ble_eq_true rfl) (Nat.le_of_ble_eq_true rfl) rfl (Nat.le_of_ble_eq_true rfl) dL_law_432 rfl (fun r118 hr118 pr118 => ?_)
                          obtain ⟨rfl, rfl⟩ := pr118
                          refine g_goto (tgt := 701) dL_law_435 (by decide) ?_
                          refine g_iincL (L1 := [(0, _), (1, _), (2, _), (3, _)]) dL_law_701 rfl (by decide) rfl rfl ?_
                          refine g_goto (tgt := 18) dL_law_704 (by decide) ?_
                          refine g_sub [0, 1, 2, 3] rfl ?_
                          exact ihL18 _ _ _ hQ hF
                        · replace hF := ite_n hF c116
                          try replace hQ := ite_r hQ c116
                          refine g_iconst (v := 1) dL_law_427 (by decide) rfl ?_
                          refine g_goto (tgt := 432) dL_law_428 (by decide) ?_
                          have o120 := hQ.1
                          replace hQ := hQ.2
                          refine g_callv mv_X10_door ml_L_51 (c_X10_door l g _ o120) (ho_199 _ _) rfl rfl (Nat.le_of_ble_eq_true rfl) (Nat.le_of_ble_eq_true rfl) (Nat.le_of_ble_eq_true rfl) (Nat.le_of_ble_eq_true rfl) rfl (Nat.le_of_ble_eq_true rfl) dL_law_432 rfl (fun r121 hr121 pr121 => ?_)
                          obtain ⟨rfl, rfl⟩ := pr121
                          refine g_goto (tgt := 701) dL_law_435 (by decide) ?_
                          refine g_iincL (L1 := [(0, _), (1, _), (2, _), (3, _)]) dL_law_701 rfl (by decide) rfl rfl ?_
                          refine g_goto (tgt := 18) dL_law_704 (by decide) ?_
                          refine g_sub [0, 1, 2, 3] rfl ?_
                          exact ihL18 _ _ _ hQ hF
                      · replace hF := ite_n hF c111
                        try replace hQ := ite_r hQ c111
                        refine g_iconst (v := 1) dL_law_410 (by decide) rfl ?_
                        refine g_goto (tgt := 415) dL_law_411 (by decide) ?_
                        have o123 := hQ.1
                        replace hQ := hQ.2
                        refine g_callv mv_X9_door ml_L_47 (c_X9_door l g _ o123) (ho_0 _ _) rfl rfl (Nat.le_of_ble_eq_true rfl) (Nat.le_of_ble_eq_true rfl) (Nat.le_of_ble_eq_true rfl) (Nat.le_of_ble_eq_true rfl) rfl (Nat.le_of_ble_eq_true rfl) dL_law_415 rfl (fun r124 hr124 pr124 => ?_)
                        obtain ⟨rfl, rfl⟩ := pr124
                        refine g_aload_n dL_law_418 rfl rfl rfl ?_
                        refine g_aload_n dL_law_419 rfl rfl rfl ?_
                        refine g_iload_n dL_law_420 rfl rfl rfl ?_
                        refine g_iconst (v := 1) dL_law_421 (by decide) rfl ?_
                        refine g_iadd dL_law_422 rfl ?_
                        have o126 := hQ.1
                        replace hQ := hQ.2
                        refine g_tld (by decide) hX o126 dL_law_423 rfl ?_
                        refine g_ifeq (tgt := 431) dL_law_424 (by decide) rfl (fun c127 => ?_) (fun c127 => ?_)
                        · replace hF := ite_p hF c127
                          try replace hQ := ite_q hQ c127
                          refine g_iconst (v := 0) dL_law_431 (by decide) rfl ?_
                          have o128 := hQ.1
                          replace hQ := hQ.2
                          refine g_callv mv_X10_door ml_L_51 (c_X10_door l g _ o128) (ho_199 _ _) rfl rfl (Nat.le_of_ble_eq_true rfl) (Nat.le_of_ble_eq_true rfl) (Nat.le_of_ble_eq_true rfl) (Nat.le_of_ble_eq_true rfl) rfl (Nat.le_of_ble_eq_true rfl) dL_law_432 rfl (fun r129 hr129 pr129 => ?_)
                          obtain ⟨rfl, rfl⟩ := pr129
                          refine g_goto (tgt := 701) dL_law_435 (by decide) ?_
                          refine g_iincL (L1 := [(0, _), (1, _), (2, _), (3, _)]) dL_law_701 rfl (by decide) rfl rfl ?_
                          refine g_goto (tgt := 18) dL_law_704 (by decide) ?_
                          refine g_sub [0, 1, 2, 3] rfl ?_
                          exact ihL18 _ _ _ hQ hF
                        · replace hF := ite_n hF c127
                          try replace hQ := ite_r hQ c127
                          refine g_iconst (v := 1) dL_law_427 (by decide) rfl ?_
                          refine g_goto (tgt := 432) dL_law_428 (by decide) ?_
                          have o131 := hQ.1
                          replace hQ := hQ.2
                          refine g_callv mv_X10_door ml_L_51 (c_X10_door l g _ o131) (ho_199 _ _) rfl rfl (Nat.le_of_ble_eq_true rfl) (Nat.le_of_ble_eq_true rfl) (Nat.le_of_ble_eq_true rfl) (Nat.le_of_ble_eq_true rfl) rfl (Nat.le_of_ble_eq_true rfl) dL_law_432 rfl (fun r132 hr132 pr132 => ?_)
                          obtain ⟨rfl, rfl⟩ := pr132
                          refine g_goto (tgt := 701) dL_law_435 (by decide) ?_
                          refine g_iincL (L1 := [(0, _), (1, _), (2, _), (3, _)]) dL_law_701 rfl (by decide) rfl rfl ?_
                          refine g_goto (tgt := 18) dL_law_704 (by decide) ?_
                          refine g_sub [0, 1, 2, 3] rfl ?_
                          exact ihL18 _ _ _ hQ hF
                    · replace hF := ite_n hF c109
                      try replace hQ := ite_r hQ c109
                      refine g_case 8 (fun c134 => ?_) (fun c134 => ?_)
                      · replace hF := ite_p hF c134
                        try replace hQ := ite_q hQ c134
                        refine g_table (tgt := 438) dL_law_33 (by decide) (by decide) ?_
                        refine g_aload_n dL_law_438 rfl rfl rfl ?_
                        have o135 := hQ.1
                        replace hQ := hQ.2
                        refine g_callv mv_X9_disk ml_L_52 (c_X9_disk l g o135) (ho_0 _ _) rfl rfl (Nat.le_of_ble_eq_true rfl) (Nat.le_of_ble_eq_true rfl) (Nat.le_of_ble_eq_true rfl) (Nat.le_of_ble_eq_true rfl) rfl (Nat.le_of_ble_eq_true rfl) dL_law_439 rfl (fun r136 hr136 pr136 => ?_)
                        obtain ⟨rfl, rfl⟩ := pr136
                        refine g_aload_n dL_law_442 rfl rfl rfl ?_
                        have o138 := hQ.1
                        replace hQ := hQ.2
                        refine g_callv mv_X10_disk ml_L_56 (c_X10_disk l g o138) (ho_199 _ _) rfl rfl (Nat.le_of_ble_eq_true rfl) (Nat.le_of_ble_eq_true rfl) (Nat.le_of_ble_eq_true rfl) (Nat.le_of_ble_eq_true rfl) rfl (Nat.le_of_ble_eq_true rfl) dL_law_443 rfl (fun r139 hr139 pr139 => ?_)
                        obtain ⟨rfl, rfl⟩ := pr139
                        refine g_icmpeq (tgt := 701) dL_law_446 (by decide) rfl (fun c141 => ?_) (fun c141 => ?_)
                        · replace hF := ite_p hF c141
                          try replace hQ := ite_q hQ c141
                          refine g_iincL (L1 := [(0, _), (1, _), (2, _), (3, _)]) dL_law_701 rfl (by decide) rfl rfl ?_
                          refine g_goto (tgt := 18) dL_law_704 (by decide) ?_
                          refine g_sub [0, 1, 2, 3] rfl ?_
                          exact ihL18 _ _ _ hQ hF
                        · replace hF := ite_n hF c141
                          try replace hQ := ite_r hQ c141
                          refine g_iconst (v := 0) dL_law_449 (by decide) rfl ?_
                          exact absurd (hF.trans hfr) (by decide)
                      · replace hF := ite_n hF c134
                        try replace hQ := ite_r hQ c134
                        refine g_case 9 (fun c142 => ?_) (fun c142 => ?_)
                        · replace hF := ite_p hF c142
                          try replace hQ := ite_q hQ c142
                          refine g_table (tgt := 451) dL_law_33 (by decide) (by decide) ?_
                          refine g_aload_n dL_law_451 rfl rfl rfl ?_
                          have o143 := hQ.1
                          replace hQ := hQ.2
                          refine g_callv mv_X9_noDisk ml_L_57 (c_X9_noDisk l g o143) (ho_0 _ _) rfl rfl (Nat.le_of_ble_eq_true rfl) (Nat.le_of_ble_eq_true rfl) (Nat.le_of_ble_eq_true rfl) (Nat.le_of_ble_eq_true rfl) rfl (Nat.le_of_ble_eq_true rfl) dL_law_452 rfl (fun r144 hr144 pr144 => ?_)
                          obtain ⟨rfl, rfl⟩ := pr144
                          refine g_aload_n dL_law_455 rfl rfl rfl ?_
                          refine g_callv mv_X10_noDisk ml_L_61 (c_X10_noDisk l g) (ho_199 _ _) rfl rfl (Nat.le_of_ble_eq_true rfl) (Nat.le_of_ble_eq_true rfl) (Nat.le_of_ble_eq_true rfl) (Nat.le_of_ble_eq_true rfl) rfl (Nat.le_of_ble_eq_true rfl) dL_law_456 rfl (fun r146 hr146 pr146 => ?_)
                          obtain ⟨rfl, rfl⟩ := pr146
                          refine g_icmpeq (tgt := 701) dL_law_459 (by decide) rfl (fun c148 => ?_) (fun c148 => ?_)
                          · replace hF := ite_p hF c148
                            try replace hQ := ite_q hQ c148
                            refine g_iincL (L1 := [(0, _), (1, _), (2, _), (3, _)]) dL_law_701 rfl (by decide) rfl rfl ?_
                            refine g_goto (tgt := 18) dL_law_704 (by decide) ?_
                            refine g_sub [0, 1, 2, 3] rfl ?_
                            exact ihL18 _ _ _ hQ hF
                          · replace hF := ite_n hF c148
                            try replace hQ := ite_r hQ c148
                            refine g_iconst (v := 0) dL_law_462 (by decide) rfl ?_
                            exact absurd (hF.trans hfr) (by decide)
                        · replace hF := ite_n hF c142
                          try replace hQ := ite_r hQ c142
                          refine g_case 10 (fun c149 => ?_) (fun c149 => ?_)
                          · replace hF := ite_p hF c149
                            try replace hQ := ite_q hQ c149
                            refine g_table (tgt := 464) dL_law_33 (by decide) (by decide) ?_
                            refine g_aload_n dL_law_464 rfl rfl rfl ?_
                            refine g_aload_n dL_law_465 rfl rfl rfl ?_
                            refine g_iload_n dL_law_466 rfl rfl rfl ?_
                            refine g_iconst (v := 1) dL_law_467 (by decide) rfl ?_
                            refine g_iadd dL_law_468 rfl ?_
                            have o150 := hQ.1
                            replace hQ := hQ.2
                            refine g_tld (by decide) hX o150 dL_law_469 rfl ?_
                            refine g_callv mv_X9_key ml_L_62 (c_X9_key l g _) (ho_0 _ _) rfl rfl (Nat.le_of_ble_eq_true rfl) (Nat.le_of_ble_eq_true rfl) (Nat.le_of_ble_eq_true rfl) (Nat.le_of_ble_eq_true rfl) rfl (Nat.le_of_ble_eq_true rfl) dL_law_470 rfl (fun r151 hr151 pr151 => ?_)
                            obtain ⟨rfl, rfl⟩ := pr151
                            refine g_aload_n dL_law_473 rfl rfl rfl ?_
                            refine g_aload_n dL_law_474 rfl rfl rfl ?_
                            refine g_iload_n dL_law_475 rfl rfl rfl ?_
                            refine g_iconst (v := 1) dL_law_476 (by decide) rfl ?_
                            refine g_iadd dL_law_477 rfl ?_
                            have o153 := hQ.1
                            replace hQ := hQ.2
                            refine g_tld (by decide) hX o153 dL_law_478 rfl ?_
                            refine g_callv mv_X10_key ml_L_65 (c_X10_key l g _) (ho_199 _ _) rfl rfl (Nat.le_of_ble_eq_true rfl) (Nat.le_of_ble_eq_true rfl) (Nat.le_of_ble_eq_true rfl) (Nat.le_of_ble_eq_true rfl) rfl (Nat.le_of_ble_eq_true rfl) dL_law_479 rfl (fun r154 hr154 pr154 => ?_)
                            obtain ⟨rfl, rfl⟩ := pr154
                            refine g_icmpeq (tgt := 701) dL_law_482 (by decide) rfl (fun c156 => ?_) (fun c156 => ?_)
                            · replace hF := ite_p hF c156
                              try replace hQ := ite_q hQ c156
                              refine g_iincL (L1 := [(0, _), (1, _), (2, _), (3, _)]) dL_law_701 rfl (by decide) rfl rfl ?_
                              refine g_goto (tgt := 18) dL_law_704 (by decide) ?_
                              refine g_sub [0, 1, 2, 3] rfl ?_
                              exact ihL18 _ _ _ hQ hF
                            · replace hF := ite_n hF c156
                              try replace hQ := ite_r hQ c156
                              refine g_iconst (v := 0) dL_law_485 (by decide) rfl ?_
                              exact absurd (hF.trans hfr) (by decide)
                          · replace hF := ite_n hF c149
                            try replace hQ := ite_r hQ c149
                            refine g_case 11 (fun c157 => ?_) (fun c157 => ?_)
                            · replace hF := ite_p hF c157
                              try replace hQ := ite_q hQ c157
                              refine g_table (tgt := 487) dL_law_33 (by decide) (by decide) ?_
                              refine g_aload_n dL_law_487 rfl rfl rfl ?_
                              refine g_aload_n dL_law_488 rfl rfl rfl ?_
                              refine g_iload_n dL_law_489 rfl rfl rfl ?_
                              refine g_iconst (v := 1) dL_law_490 (by decide) rfl ?_
                              refine g_iadd dL_law_491 rfl ?_
                              have o158 := hQ.1
                              replace hQ := hQ.2
                              refine g_tld (by decide) hX o158 dL_law_492 rfl ?_
                              refine g_callv mv_X9_tick ml_L_66 (c_X9_tick l g _) (ho_0 _ _) rfl rfl (Nat.le_of_ble_eq_true rfl) (Nat.le_of_ble_eq_true rfl) (Nat.le_of_ble_eq_true rfl) (Nat.le_of_ble_eq_true rfl) rfl (Nat.le_of_ble_eq_true rfl) dL_law_493 rfl (fun r159 hr159 pr159 => ?_)
                              obtain ⟨rfl, rfl⟩ := pr159
                              refine g_aload_n dL_law_496 rfl rfl rfl ?_
                              refine g_aload_n dL_law_497 rfl rfl rfl ?_
                              refine g_iload_n dL_law_498 rfl rfl rfl ?_
                              refine g_iconst (v := 1) dL_law_499 (by decide) rfl ?_
                              refine g_iadd dL_law_500 rfl ?_
                              have o161 := hQ.1
                              replace hQ := hQ.2
                              refine g_tld (by decide) hX o161 dL_law_501 rfl ?_
                              refine g_callv mv_X10_tick ml_L_69 (c_X10_tick l g _) (ho_199 _ _) rfl rfl (Nat.le_of_ble_eq_true rfl) (Nat.le_of_ble_eq_true rfl) (Nat.le_of_ble_eq_true rfl) (Nat.le_of_ble_eq_true rfl) rfl (Nat.le_of_ble_eq_true rfl) dL_law_502 rfl (fun r162 hr162 pr162 => ?_)
                              obtain ⟨rfl, rfl⟩ := pr162
                              refine g_icmpeq (tgt := 701) dL_law_505 (by decide) rfl (fun c164 => ?_) (fun c164 => ?_)
                              · replace hF := ite_p hF c164
                                try replace hQ := ite_q hQ c164
                                refine g_iincL (L1 := [(0, _), (1, _), (2, _), (3, _)]) dL_law_701 rfl (by decide) rfl rfl ?_
                                refine g_goto (tgt := 18) dL_law_704 (by decide) ?_
                                refine g_sub [0, 1, 2, 3] rfl ?_
                                exact ihL18 _ _ _ hQ hF
                              · replace hF := ite_n hF c164
                                try replace hQ := ite_r hQ c164
                                refine g_iconst (v := 0) dL_law_508 (by decide) rfl ?_
                                exact absurd (hF.trans hfr) (by decide)
                            · replace hF := ite_n hF c157
                              try replace hQ := ite_r hQ c157
                              refine g_case 12 (fun c165 => ?_) (fun c165 => ?_)
                              · replace hF := ite_p hF c165
                                try replace hQ := ite_q hQ c165
                                refine g_table (tgt := 510) dL_law_33 (by decide) (by decide) ?_
                                refine g_aload_n dL_law_510 rfl rfl rfl ?_
                                refine g_aload_n dL_law_511 rfl rfl rfl ?_
                                refine g_iload_n dL_law_512 rfl rfl rfl ?_
                                refine g_iconst (v := 1) dL_law_513 (by decide) rfl ?_
                                refine g_iadd dL_law_514 rfl ?_
                                have o166 := hQ.1
                                replace hQ := hQ.2
                                refine g_tld (by decide) hX o166 dL_law_515 rfl ?_
                                refine g_callv mv_X9_cutAt ml_L_70 (c_X9_cutAt l g _) (ho_0 _ _) rfl rfl (Nat.le_of_ble_eq_true rfl) (Nat.le_of_ble_eq_true rfl) (Nat.le_of_ble_eq_true rfl) (Nat.le_of_ble_eq_true rfl) rfl (Nat.le_of_ble_eq_true rfl) dL_law_516 rfl (fun r167 hr167 pr167 => ?_)
                                obtain ⟨rfl, rfl⟩ := pr167
                                refine g_aload_n dL_law_519 rfl rfl rfl ?_
                                refine g_aload_n dL_law_520 rfl rfl rfl ?_
                                refine g_iload_n dL_law_521 rfl rfl rfl ?_
                                refine g_iconst (v := 1) dL_law_522 (by decide) rfl ?_
                                refine g_iadd dL_law_523 rfl ?_
                                have o169 := hQ.1
                                replace hQ := hQ.2
                                refine g_tld (by decide) hX o169 dL_law_524 rfl ?_
                                refine g_callv mv_X10_cutAt ml_L_73 (c_X10_cutAt l g _) (ho_199 _ _) rfl rfl (Nat.le_of_ble_eq_true rfl) (Nat.le_of_ble_eq_true rfl) (Nat.le_of_ble_eq_true rfl) (Nat.le_of_ble_eq_true rfl) rfl (Nat.le_of_ble_eq_true rfl) dL_law_525 rfl (fun r170 hr170 pr170 => ?_)
                                obtain ⟨rfl, rfl⟩ := pr170
                                refine g_icmpeq (tgt := 701) dL_law_528 (by decide) rfl (fun c172 => ?_) (fun c172 => ?_)
                                · replace hF := ite_p hF c172
                                  try replace hQ := ite_q hQ c172
                                  refine g_iincL (L1 := [(0, _), (1, _), (2, _), (3, _)]) dL_law_701 rfl (by decide) rfl rfl ?_
                                  refine g_goto (tgt := 18) dL_law_704 (by decide) ?_
                                  refine g_sub [0, 1, 2, 3] rfl ?_
                                  exact ihL18 _ _ _ hQ hF
                                · replace hF := ite_n hF c172
                                  try replace hQ := ite_r hQ c172
                                  refine g_iconst (v := 0) dL_law_531 (by decide) rfl ?_
                                  exact absurd (hF.trans hfr) (by decide)
                              · replace hF := ite_n hF c165
                                try replace hQ := ite_r hQ c165
                                refine g_case 13 (fun c173 => ?_) (fun c173 => ?_)
                                · replace hF := ite_p hF c173
                                  try replace hQ := ite_q hQ c173
                                  refine g_table (tgt := 533) dL_law_33 (by decide) (by decide) ?_
                                  refine g_aload_n dL_law_533 rfl rfl rfl ?_
                                  have o174 := hQ.1
                                  replace hQ := hQ.2
                                  refine g_callv mv_X9_poll ml_L_74 (c_X9_poll l g hT o174) (ho_0 _ _) rfl rfl (Nat.le_of_ble_eq_true rfl) (Nat.le_of_ble_eq_true rfl) (Nat.le_of_ble_eq_true rfl) (Nat.le_of_ble_eq_true rfl) rfl (Nat.le_of_ble_eq_true rfl) dL_law_534 rfl (fun r175 hr175 pr175 => ?_)
                                  obtain ⟨rfl, rfl⟩ := pr175
                                  refine g_aload_n dL_law_537 rfl rfl rfl ?_
                                  have o177 := hQ.1
                                  replace hQ := hQ.2
                                  refine g_callv mv_X10_poll ml_L_77 (c_X10_poll l g o177) (ho_199 _ _) rfl rfl (Nat.le_of_ble_eq_true rfl) (Nat.le_of_ble_eq_true rfl) (Nat.le_of_ble_eq_true rfl) (Nat.le_of_ble_eq_true rfl) rfl (Nat.le_of_ble_eq_true rfl) dL_law_538 rfl (fun r178 hr178 pr178 => ?_)
                                  obtain ⟨rfl, rfl⟩ := pr178
                                  refine g_icmpeq (tgt := 701) dL_law_541 (by decide) rfl (fun c180 => ?_) (fun c180 => ?_)
                                  · replace hF := ite_p hF c180
                                    try replace hQ := ite_q hQ c180
                                    refine g_iincL (L1 := [(0, _), (1, _), (2, _), (3, _)]) dL_law_701 rfl (by decide) rfl rfl ?_
                                    refine g_goto (tgt := 18) dL_law_704 (by decide) ?_
                                    refine g_sub [0, 1, 2, 3] rfl ?_
                                    exact ihL18 _ _ _ hQ hF
                                  · replace hF := ite_n hF c180
                                    try replace hQ := ite_r hQ c180
                                    refine g_iconst (v := 0) dL_law_544 (by decide) rfl ?_
                                    exact absurd (hF.trans hfr) (by decide)
                                · replace hF := ite_n hF c173
                                  try replace hQ := ite_r hQ c173
                                  refine g_case 14 (fun c181 => ?_) (fun c181 => ?_)
                                  · replace hF := ite_p hF c181
                                    try replace hQ := ite_q hQ c181
                                    refine g_table (tgt := 546) dL_law_33 (by decide) (by decide) ?_
                                    refine g_aload_n dL_law_546 rfl rfl rfl ?_
                                    refine g_aload_n dL_law_547 rfl rfl rfl ?_
                                    refine g_iload_n dL_law_548 rfl rfl rfl ?_
                                    refine g_iconst (v := 1) dL_law_549 (by decide) rfl ?_
                                    refine g_iadd dL_law_550 rfl ?_
                                    have o182 := hQ.1
                                    replace hQ := hQ.2
                                    refine g_tld (by decide) hX o182 dL_law_551 rfl ?_
                                    have o183 := hQ.1
                                    replace hQ := hQ.2
                                    refine g_callv mv_X9_show ml_L_78 (c_X9_show l g _ o183) (ho_0 _ _) rfl rfl (Nat.le_of_ble_eq_true rfl) (Nat.le_of_ble_eq_true rfl) (Nat.le_of_ble_eq_true rfl) (Nat.le_of_ble_eq_true rfl) rfl (Nat.le_of_ble_eq_true rfl) dL_law_552 rfl (fun r184 hr184 pr184 => ?_)
                                    obtain ⟨rfl, rfl⟩ := pr184
                                    refine g_aload_n dL_law_555 rfl rfl rfl ?_
                                    refine g_aload_n dL_law_556 rfl rfl rfl ?_
                                    refine g_iload_n dL_law_557 rfl rfl rfl ?_
                                    refine g_iconst (v := 1) dL_law_558 (by decide) rfl ?_
                                    refine g_iadd dL_law_559 rfl ?_
                                    have o185 := hQ.1
                                    replace hQ := hQ.2
                                    refine g_tld (by decide) hX o185 dL_law_560 rfl ?_
                                    have o186 := hQ.1
                                    replace hQ := hQ.2
                                    refine g_callv mv_X10_show ml_L_81 (c_X10_show l g _ o186) (ho_199 _ _) rfl rfl (Nat.le_of_ble_eq_true rfl) (Nat.le_of_ble_eq_true rfl) (Nat.le_of_ble_eq_true rfl) (Nat.le_of_ble_eq_true rfl) rfl (Nat.le_of_ble_eq_true rfl) dL_law_561 rfl (fun r187 hr187 pr187 => ?_)
                                    obtain ⟨rfl, rfl⟩ := pr187
                                    refine g_icmpeq (tgt := 701) dL_law_564 (by decide) rfl (fun c188 => ?_) (fun c188 => ?_)
                                    · replace hF := ite_p hF c188
                                      try replace hQ := ite_q hQ c188
                                      refine g_iincL (L1 := [(0, _), (1, _), (2, _), (3, _)]) dL_law_701 rfl (by decide) rfl rfl ?_
                                      refine g_goto (tgt := 18) dL_law_704 (by decide) ?_
                                      refine g_sub [0, 1, 2, 3] rfl ?_
                                      exact ihL18 _ _ _ hQ hF
                                    · replace hF := ite_n hF c188
                                      try replace hQ := ite_r hQ c188
                                      refine g_iconst (v := 0) dL_law_567 (by decide) rfl ?_
                                      exact absurd (hF.trans hfr) (by decide)
                                  · replace hF := ite_n hF c181
                                    try replace hQ := ite_r hQ c181
                                    refine g_case 15 (fun c189 => ?_) (fun c189 => ?_)
                                    · replace hF := ite_p hF c189
                                      try replace hQ := ite_q hQ c189
                                      refine g_table (tgt := 569) dL_law_33 (by decide) (by decide) ?_
                                      refine g_aload_n dL_law_569 rfl rfl rfl ?_
                                      refine g_aload_n dL_law_570 rfl rfl rfl ?_
                                      refine g_iload_n dL_law_571 rfl rfl rfl ?_
                                      refine g_iconst (v := 1) dL_law_572 (by decide) rfl ?_
                                      refine g_iadd dL_law_573 rfl ?_
                                      have o190 := hQ.1
                                      replace hQ := hQ.2
                                      refine g_tld (by decide) hX o190 dL_law_574 rfl ?_
                                      refine g_aload_n dL_law_575 rfl rfl rfl ?_
                                      refine g_iload_n dL_law_576 rfl rfl rfl ?_
                                      refine g_iconst (v := 2) dL_law_577 (by decide) rfl ?_
                                      refine g_iadd dL_law_578 rfl ?_
                                      have o191 := hQ.1
                                      replace hQ := hQ.2
                                      refine g_tld (by decide) hX o191 dL_law_579 rfl ?_
                                      have o192 := hQ.1
                                      replace hQ := hQ.2
                                      refine g_callv mv_X9_record ml_L_82 (c_X9_record l g _ _ o192) (ho_0 _ _) rfl rfl (Nat.le_of_ble_eq_true rfl) (Nat.le_of_ble_eq_true rfl) (Nat.le_of_ble_eq_true rfl) (Nat.le_of_ble_eq_true rfl) rfl (Nat.le_of_ble_eq_true rfl) dL_law_580 rfl (fun r193 hr193 pr193 => ?_)
                                      obtain ⟨rfl, rfl⟩ := pr193
                                      refine g_aload_n dL_law_583 rfl rfl rfl ?_
                                      refine g_aload_n dL_law_584 rfl rfl rfl ?_
                                      refine g_iload_n dL_law_585 rfl rfl rfl ?_
                                      refine g_iconst (v := 1) dL_law_586 (by decide) rfl ?_
                                      refine g_iadd dL_law_587 rfl ?_
                                      have o194 := hQ.1
                                      replace hQ := hQ.2
                                      refine g_tld (by decide) hX o194 dL_law_588 rfl ?_
                                      refine g_aload_n dL_law_589 rfl rfl rfl ?_
                                      refine g_iload_n dL_law_590 rfl rfl rfl ?_
                                      refine g_iconst (v := 2) dL_law_591 (by decide) rfl ?_
                                      refine g_iadd dL_law_592 rfl ?_
                                      have o195 := hQ.1
                                      replace hQ := hQ.2
                                      refine g_tld (by decide) hX o195 dL_law_593 rfl ?_
                                      have o196 := hQ.1
                                      replace hQ := hQ.2
                                      refine g_callv mv_X10_record ml_L_86 (c_X10_record l g _ _ o196) (ho_199 _ _) rfl rfl (Nat.le_of_ble_eq_true rfl) (Nat.le_of_ble_eq_true rfl) (Nat.le_of_ble_eq_true rfl) (Nat.le_of_ble_eq_true rfl) rfl (Nat.le_of_ble_eq_true rfl) dL_law_594 rfl (fun r197 hr197 pr197 => ?_)
                                      obtain ⟨rfl, rfl⟩ := pr197
                                      refine g_icmpeq (tgt := 701) dL_law_597 (by decide) rfl (fun c198 => ?_) (fun c198 => ?_)
                                      · replace hF := ite_p hF c198
                                        try replace hQ := ite_q hQ c198
                                        refine g_iincL (L1 := [(0, _), (1, _), (2, _), (3, _)]) dL_law_701 rfl (by decide) rfl rfl ?_
                                        refine g_goto (tgt := 18) dL_law_704 (by decide) ?_
                                        refine g_sub [0, 1, 2, 3] rfl ?_
                                        exact ihL18 _ _ _ hQ hF
                                      · replace hF := ite_n hF c198
                                        try replace hQ := ite_r hQ c198
                                        refine g_iconst (v := 0) dL_law_600 (by decide) rfl ?_
                                        exact absurd (hF.trans hfr) (by decide)
                                    · replace hF := ite_n hF c189
                                      try replace hQ := ite_r hQ c189
                                      refine g_case 16 (fun c199 => ?_) (fun c199 => ?_)
                                      · replace hF := ite_p hF c199
                                        try replace hQ := ite_q hQ c199
                                        refine g_table (tgt := 602) dL_law_33 (by decide) (by decide) ?_
                                        refine g_aload_n dL_law_602 rfl rfl rfl ?_
                                        refine g_aload_n dL_law_603 rfl rfl rfl ?_
                                        refine g_iload_n dL_law_604 rfl rfl rfl ?_
                                        refine g_iconst (v := 1) dL_law_605 (by decide) rfl ?_
                                        refine g_iadd dL_law_606 rfl ?_
                                        have o200 := hQ.1
                                        replace hQ := hQ.2
                                        refine g_tld (by decide) hX o200 dL_law_607 rfl ?_
                                        refine g_aload_n dL_law_608 rfl rfl rfl ?_
                                        refine g_iload_n dL_law_609 rfl rfl rfl ?_
                                        refine g_iconst (v := 2) dL_law_610 (by decide) rfl ?_
                                        refine g_iadd dL_law_611 rfl ?_
                                        have o201 := hQ.1
                                        replace hQ := hQ.2
                                        refine g_tld (by decide) hX o201 dL_law_612 rfl ?_
                                        have o202 := hQ.1
                                        replace hQ := hQ.2
                                        refine g_callv mv_X9_size ml_L_87 (c_X9_size l g _ _ o202) (ho_0 _ _) rfl rfl (Nat.le_of_ble_eq_true rfl) (Nat.le_of_ble_eq_true rfl) (Nat.le_of_ble_eq_true rfl) (Nat.le_of_ble_eq_true rfl) rfl (Nat.le_of_ble_eq_true rfl) dL_law_613 rfl (fun r203 hr203 pr203 => ?_)
                                        obtain ⟨rfl, rfl⟩ := pr203
                                        refine g_aload_n dL_law_616 rfl rfl rfl ?_
                                        refine g_aload_n dL_law_617 rfl rfl rfl ?_
                                        refine g_iload_n dL_law_618 rfl rfl rfl ?_
                                        refine g_iconst (v := 1) dL_law_619 (by decide) rfl ?_
                                        refine g_iadd dL_law_620 rfl ?_
                                        have o204 := hQ.1
                                        replace hQ := hQ.2
                                        refine g_tld (by decide) hX o204 dL_law_621 rfl ?_
                                        refine g_aload_n dL_law_622 rfl rfl rfl ?_
                                        refine g_iload_n dL_law_623 rfl rfl rfl ?_
                                        refine g_iconst (v := 2) dL_law_624 (by decide) rfl ?_
                                        refine g_iadd dL_law_625 rfl ?_
                                        have o205 := hQ.1
                                        replace hQ := hQ.2
                                        refine g_tld (by decide) hX o205 dL_law_626 rfl ?_
                                        have o206 := hQ.1
                                        replace hQ := hQ.2
                                        refine g_callv mv_X10_size ml_L_90 (c_X10_size l g _ _ o206) (ho_199 _ _) rfl rfl (Nat.le_of_ble_eq_true rfl) (Nat.le_of_ble_eq_true rfl) (Nat.le_of_ble_eq_true rfl) (Nat.le_of_ble_eq_true rfl) rfl (Nat.le_of_ble_eq_true rfl) dL_law_627 rfl (fun r207 hr207 pr207 => ?_)
                                        obtain ⟨rfl, rfl⟩ := pr207
                                        refine g_icmpeq (tgt := 701) dL_law_630 (by decide) rfl (fun c208 => ?_) (fun c208 => ?_)
                                        · replace hF := ite_p hF c208
                                          try replace hQ := ite_q hQ c208
                                          refine g_iincL (L1 := [(0, _), (1, _), (2, _), (3, _)]) dL_law_701 rfl (by decide) rfl rfl ?_
                                          refine g_goto (tgt := 18) dL_law_704 (by decide) ?_
                                          refine g_sub [0, 1, 2, 3] rfl ?_
                                          exact ihL18 _ _ _ hQ hF
                                        · replace hF := ite_n hF c208
                                          try replace hQ := ite_r hQ c208
                                          refine g_iconst (v := 0) dL_law_633 (by decide) rfl ?_
                                          exact absurd (hF.trans hfr) (by decide)
                                      · replace hF := ite_n hF c199
                                        try replace hQ := ite_r hQ c199
                                        refine g_case 17 (fun c209 => ?_) (fun c209 => ?_)
                                        · replace hF := ite_p hF c209
                                          try replace hQ := ite_q hQ c209
                                          refine g_table (tgt := 635) dL_law_33 (by decide) (by decide) ?_
                                          refine g_aload_n dL_law_635 rfl rfl rfl ?_
                                          refine g_aload_n dL_law_636 rfl rfl rfl ?_
                                          refine g_iload_n dL_law_637 rfl rfl rfl ?_
                                          refine g_iconst (v := 1) dL_law_638 (by decide) rfl ?_
                                          refine g_iadd dL_law_639 rfl ?_
                                          have o210 := hQ.1
                                          replace hQ := hQ.2
                                          refine g_tld (by decide) hX o210 dL_law_640 rfl ?_
                                          refine g_aload_n dL_law_641 rfl rfl rfl ?_
                                          refine g_iload_n dL_law_642 rfl rfl rfl ?_
                                          refine g_iconst (v := 2) dL_law_643 (by decide) rfl ?_
                                          refine g_iadd dL_law_644 rfl ?_
                                          have o211 := hQ.1
                                          replace hQ := hQ.2
                                          refine g_tld (by decide) hX o211 dL_law_645 rfl ?_
                                          refine g_aload_n dL_law_646 rfl rfl rfl ?_
                                          refine g_iload_n dL_law_647 rfl rfl rfl ?_
                                          refine g_iconst (v := 3) dL_law_648 (by decide) rfl ?_
                                          refine g_iadd dL_law_649 rfl ?_
                                          have o212 := hQ.1
                                          replace hQ := hQ.2
                                          refine g_tld (by decide) hX o212 dL_law_650 rfl ?_
                                          have o213 := hQ.1
                                          replace hQ := hQ.2
                                          refine g_callv mv_X9_at ml_L_91 (c_X9_at l g _ _ _ o213) (ho_0 _ _) rfl rfl (Nat.le_of_ble_eq_true rfl) (Nat.le_of_ble_eq_true rfl) (Nat.le_of_ble_eq_true rfl) (Nat.le_of_ble_eq_true rfl) rfl (Nat.le_of_ble_eq_true rfl) dL_law_651 rfl (fun r214 hr214 pr214 => ?_)
                                          obtain ⟨rfl, rfl⟩ := pr214
                                          refine g_aload_n dL_law_654 rfl rfl rfl ?_
                                          refine g_aload_n dL_law_655 rfl rfl rfl ?_
                                          refine g_iload_n dL_law_656 rfl rfl rfl ?_
                                          refine g_iconst (v := 1) dL_law_657 (by decide) rfl ?_
                                          refine g_iadd dL_law_658 rfl ?_
                                          have o215 := hQ.1
                                          replace hQ := hQ.2
                                          refine g_tld (by decide) hX o215 dL_law_659 rfl ?_
                                          refine g_aload_n dL_law_660 rfl rfl rfl ?_
                                          refine g_iload_n dL_law_661 rfl rfl rfl ?_
                                          refine g_iconst (v := 2) dL_law_662 (by decide) rfl ?_
                                          refine g_iadd dL_law_663 rfl ?_
                                          have o216 := hQ.1
                                          replace hQ := hQ.2
                                          refine g_tld (by decide) hX o216 dL_law_664 rfl ?_
                                          refine g_aload_n dL_law_665 rfl rfl rfl ?_
                                          refine g_iload_n dL_law_666 rfl rfl rfl ?_
                                          refine g_iconst (v := 3) dL_law_667 (by decide) rfl ?_
                                          refine g_iadd dL_law_668 rfl ?_
                                          have o217 := hQ.1
                                          replace hQ := hQ.2
                                          refine g_tld (by decide) hX o217 dL_law_669 rfl ?_
                                          have o218 := hQ.1
                                          replace hQ := hQ.2
                                          refine g_callv mv_X10_at ml_L_95 (c_X10_at l g _ _ _ o218) (ho_199 _ _) rfl rfl (Nat.le_of_ble_eq_true rfl) (Nat.le_of_ble_eq_true rfl) (Nat.le_of_ble_eq_true rfl) (Nat.le_of_ble_eq_true rfl) rfl (Nat.le_of_ble_eq_true rfl) dL_law_670 rfl (fun r219 hr219 pr219 => ?_)
                                          obtain ⟨rfl, rfl⟩ := pr219
                                          refine g_icmpeq (tgt := 701) dL_law_673 (by decide) rfl (fun c220 => ?_) (fun c220 => ?_)
                                          · replace hF := ite_p hF c220
                                            try replace hQ := ite_q hQ c220
                                            refine g_iincL (L1 := [(0, _), (1, _), (2, _), (3, _)]) dL_law_701 rfl (by decide) rfl rfl ?_
                                            refine g_goto (tgt := 18) dL_law_704 (by decide) ?_
                                            refine g_sub [0, 1, 2, 3] rfl ?_
                                            exact ihL18 _ _ _ hQ hF
                                          · replace hF := ite_n hF c220
                                            try replace hQ := ite_r hQ c220
                                            refine g_iconst (v := 0) dL_law_676 (by decide) rfl ?_
                                            exact absurd (hF.trans hfr) (by decide)
                                        · replace hF := ite_n hF c209
                                          try replace hQ := ite_r hQ c209
                                          refine g_case 18 (fun c221 => ?_) (fun c221 => ?_)
                                          · replace hF := ite_p hF c221
                                            try replace hQ := ite_q hQ c221
                                            refine g_table (tgt := 678) dL_law_33 (by decide) (by decide) ?_
                                            refine g_aload_n dL_law_678 rfl rfl rfl ?_
                                            refine g_aload_n dL_law_679 rfl rfl rfl ?_
                                            refine g_iload_n dL_law_680 rfl rfl rfl ?_
                                            refine g_iconst (v := 1) dL_law_681 (by decide) rfl ?_
                                            refine g_iadd dL_law_682 rfl ?_
                                            have o222 := hQ.1
                                            replace hQ := hQ.2
                                            refine g_tld (by decide) hX o222 dL_law_683 rfl ?_
                                            have o223 := hQ.1
                                            replace hQ := hQ.2
                                            refine g_callv mv_X9_diskAt ml_L_96 (c_X9_diskAt l g _ o223) (ho_0 _ _) rfl rfl (Nat.le_of_ble_eq_true rfl) (Nat.le_of_ble_eq_true rfl) (Nat.le_of_ble_eq_true rfl) (Nat.le_of_ble_eq_true rfl) rfl (Nat.le_of_ble_eq_true rfl) dL_law_684 rfl (fun r224 hr224 pr224 => ?_)
                                            obtain ⟨rfl, rfl⟩ := pr224
                                            refine g_aload_n dL_law_687 rfl rfl rfl ?_
                                            refine g_aload_n dL_law_688 rfl rfl rfl ?_
                                            refine g_iload_n dL_law_689 rfl rfl rfl ?_
                                            refine g_iconst (v := 1) dL_law_690 (by decide) rfl ?_
                                            refine g_iadd dL_law_691 rfl ?_
                                            have o225 := hQ.1
                                            replace hQ := hQ.2
                                            refine g_tld (by decide) hX o225 dL_law_692 rfl ?_
                                            have o226 := hQ.1
                                            replace hQ := hQ.2
                                            refine g_callv mv_X10_diskAt ml_L_99 (c_X10_diskAt l g _ o226) (ho_199 _ _) rfl rfl (Nat.le_of_ble_eq_true rfl) (Nat.le_of_ble_eq_true rfl) (Nat.le_of_ble_eq_true rfl) (Nat.le_of_ble_eq_true rfl) rfl (Nat.le_of_ble_eq_true rfl) dL_law_693 rfl (fun r227 hr227 pr227 => ?_)
                                            obtain ⟨rfl, rfl⟩ := pr227
                                            refine g_icmpeq (tgt := 701) dL_law_696 (by decide) rfl (fun c228 => ?_) (fun c228 => ?_)
                                            · replace hF := ite_p hF c228
                                              try replace hQ := ite_q hQ c228
                                              refine g_iincL (L1 := [(0, _), (1, _), (2, _), (3, _)]) dL_law_701 rfl (by decide) rfl rfl ?_
                                              refine g_goto (tgt := 18) dL_law_704 (by decide) ?_
                                              refine g_sub [0, 1, 2, 3] rfl ?_
                                              exact ihL18 _ _ _ hQ hF
                                            · replace hF := ite_n hF c228
                                              try replace hQ := ite_r hQ c228
                                              refine g_iconst (v := 0) dL_law_699 (by decide) rfl ?_
                                              exact absurd (hF.trans hfr) (by decide)
                                          · replace hF := ite_n hF c221
                                            try replace hQ := ite_r hQ c221
                                            refine g_table (tgt := 701) dL_law_33 (by decide) (gt_out (lo := 0) (hi := 18) (by decide) (fun k h1 h2 => by rcases (show k = 0 ∨ k = 1 ∨ k = 2 ∨ k = 3 ∨ k = 4 ∨ k = 5 ∨ k = 6 ∨ k = 7 ∨ k = 8 ∨ k = 9 ∨ k = 10 ∨ k = 11 ∨ k = 12 ∨ k = 13 ∨ k = 14 ∨ k = 15 ∨ k = 16 ∨ k = 17 ∨ k = 18 by omega) with rfl | rfl | rfl | rfl | rfl | rfl | rfl | rfl | rfl | rfl | rfl | rfl | rfl | rfl | rfl | rfl | rfl | rfl | rfl <;> first | exact c3 | exact c21 | exact c29 | exact c45 | exact c57 | exact c89 | exact c101 | exact c109 | exact c134 | exact c142 | exact c149 | exact c157 | exact c165 | exact c173 | exact c181 | exact c189 | exact c199 | exact c209 | exact c221) (by decide)) ?_
                                            refine g_iincL (L1 := [(0, _), (1, _), (2, _), (3, _)]) dL_law_701 rfl (by decide) rfl rfl ?_
                                            refine g_goto (tgt := 18) dL_law_704 (by decide) ?_
                                            refine g_sub [0, 1, 2, 3] rfl ?_
                                            exact ihL18 _ _ _ hQ hF
