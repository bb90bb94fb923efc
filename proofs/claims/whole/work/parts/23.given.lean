/-! What the Statement gives of the start: the static arrays, the classes of arrays -/
theorem tm1 {w : Cond} (i : Nat) (h : tables_1_1[i]? = some w) : w ∈ lw_tbl := List.mem_append_right _ (List.mem_append_left _ (List.mem_of_getElem? h))
theorem tm2 {w : Cond} (i : Nat) (h : tables_1_2[i]? = some w) : w ∈ lw_tbl := List.mem_append_right _ (List.mem_append_right _ (List.mem_append_left _ (List.mem_of_getElem? h)))
theorem tm3 {w : Cond} (i : Nat) (h : tables_1_3[i]? = some w) : w ∈ lw_tbl := List.mem_append_right _ (List.mem_append_right _ (List.mem_append_right _ (List.mem_append_left _ (List.mem_of_getElem? h))))
theorem tm4 {w : Cond} (i : Nat) (h : tables_1_4[i]? = some w) : w ∈ lw_tbl := List.mem_append_right _ (List.mem_append_right _ (List.mem_append_right _ (List.mem_append_right _ (List.mem_append_left _ (List.mem_of_getElem? h)))))
theorem tm5 {w : Cond} (i : Nat) (h : tables_1_5[i]? = some w) : w ∈ lw_tbl := List.mem_append_right _ (List.mem_append_right _ (List.mem_append_right _ (List.mem_append_right _ (List.mem_append_right _ (List.mem_append_left _ (List.mem_of_getElem? h))))))
theorem tm6 {w : Cond} (i : Nat) (h : tables_1_6[i]? = some w) : w ∈ lw_tbl := List.mem_append_right _ (List.mem_append_right _ (List.mem_append_right _ (List.mem_append_right _ (List.mem_append_right _ (List.mem_append_right _ (List.mem_of_getElem? h))))))
theorem sa_0 {args : Array Value} {s : State} {A : Nat → Prop} (hgv : (Jvm.Cond.and given_1 narrow_1).before args s = true) (hts : ∀ w ∈ lw_tbl, w.before args s = true) (hA : ∀ a : Nat, a < s.heap.size → ¬ A a) : ∃ t : Nat, va_Z RX9 "FIRST_SETTINGS" "[I" (.ref t) A s s.heap ∧ va_T .int t 9 (fun j => .int (tab 0 j)) A s s.heap := by
  have hs := flat_of_before _ hgv
  obtain ⟨t, h1, h2⟩ := va_Tof (tm := (.static "StationHouse" "FIRST_SETTINGS" "[I")) (ty := .int) (N := 9) (f := fun j => .int (tab 0 j)) (A := A) (by decide) (hs (.arrayOf (.static "StationHouse" "FIRST_SETTINGS" "[I") .int) (by decide +kernel)) (va_eqt (hs (.eq (.length (.static "StationHouse" "FIRST_SETTINGS" "[I")) (.int 9)) (by decide +kernel))) (fun j hj => match j, hj with
    | 0, _ => va_eqt (hs (.eq (.elem (.static "StationHouse" "FIRST_SETTINGS" "[I") (.int 0)) (.int (15))) (by decide +kernel))
    | 1, _ => va_eqt (hs (.eq (.elem (.static "StationHouse" "FIRST_SETTINGS" "[I") (.int 1)) (.int (10))) (by decide +kernel))
    | 2, _ => va_eqt (hs (.eq (.elem (.static "StationHouse" "FIRST_SETTINGS" "[I") (.int 2)) (.int (20))) (by decide +kernel))
    | 3, _ => va_eqt (hs (.eq (.elem (.static "StationHouse" "FIRST_SETTINGS" "[I") (.int 3)) (.int (10))) (by decide +kernel))
    | 4, _ => va_eqt (hs (.eq (.elem (.static "StationHouse" "FIRST_SETTINGS" "[I") (.int 4)) (.int (200))) (by decide +kernel))
    | 5, _ => va_eqt (hs (.eq (.elem (.static "StationHouse" "FIRST_SETTINGS" "[I") (.int 5)) (.int (0))) (by decide +kernel))
    | 6, _ => va_eqt (hs (.eq (.elem (.static "StationHouse" "FIRST_SETTINGS" "[I") (.int 6)) (.int (12))) (by decide +kernel))
    | 7, _ => va_eqt (hs (.eq (.elem (.static "StationHouse" "FIRST_SETTINGS" "[I") (.int 7)) (.int (0))) (by decide +kernel))
    | 8, _ => va_eqt (hs (.eq (.elem (.static "StationHouse" "FIRST_SETTINGS" "[I") (.int 8)) (.int (999))) (by decide +kernel))
    | j + 9, h => absurd h (by omega)) hA
  exact ⟨t, va_Zref (hts (.laysStatic "StationHouse" "FIRST_SETTINGS" "[I") (tm2 33 rfl)) (hts (.initialized "StationHouse") (tm1 1 rfl)) h1 hA, h2⟩
theorem sa_1 {args : Array Value} {s : State} {A : Nat → Prop} (hgv : (Jvm.Cond.and given_1 narrow_1).before args s = true) (hts : ∀ w ∈ lw_tbl, w.before args s = true) (hA : ∀ a : Nat, a < s.heap.size → ¬ A a) : ∃ t : Nat, va_Z RX9 "LEAST_SETTINGS" "[I" (.ref t) A s s.heap ∧ va_T .int t 9 (fun j => .int (tab 1 j)) A s s.heap := by
  have hs := flat_of_before _ hgv
  obtain ⟨t, h1, h2⟩ := va_Tof (tm := (.static "StationHouse" "LEAST_SETTINGS" "[I")) (ty := .int) (N := 9) (f := fun j => .int (tab 1 j)) (A := A) (by decide) (hs (.arrayOf (.static "StationHouse" "LEAST_SETTINGS" "[I") .int) (by decide +kernel)) (va_eqt (hs (.eq (.length (.static "StationHouse" "LEAST_SETTINGS" "[I")) (.int 9)) (by decide +kernel))) (fun j hj => match j, hj with
    | 0, _ => va_eqt (hs (.eq (.elem (.static "StationHouse" "LEAST_SETTINGS" "[I") (.int 0)) (.int (1))) (by decide +kernel))
    | 1, _ => va_eqt (hs (.eq (.elem (.static "StationHouse" "LEAST_SETTINGS" "[I") (.int 1)) (.int (1))) (by decide +kernel))
    | 2, _ => va_eqt (hs (.eq (.elem (.static "StationHouse" "LEAST_SETTINGS" "[I") (.int 2)) (.int (1))) (by decide +kernel))
    | 3, _ => va_eqt (hs (.eq (.elem (.static "StationHouse" "LEAST_SETTINGS" "[I") (.int 3)) (.int (1))) (by decide +kernel))
    | 4, _ => va_eqt (hs (.eq (.elem (.static "StationHouse" "LEAST_SETTINGS" "[I") (.int 4)) (.int (1))) (by decide +kernel))
    | 5, _ => va_eqt (hs (.eq (.elem (.static "StationHouse" "LEAST_SETTINGS" "[I") (.int 5)) (.int (0))) (by decide +kernel))
    | 6, _ => va_eqt (hs (.eq (.elem (.static "StationHouse" "LEAST_SETTINGS" "[I") (.int 6)) (.int (0))) (by decide +kernel))
    | 7, _ => va_eqt (hs (.eq (.elem (.static "StationHouse" "LEAST_SETTINGS" "[I") (.int 7)) (.int (0))) (by decide +kernel))
    | 8, _ => va_eqt (hs (.eq (.elem (.static "StationHouse" "LEAST_SETTINGS" "[I") (.int 8)) (.int (0))) (by decide +kernel))
    | j + 9, h => absurd h (by omega)) hA
  exact ⟨t, va_Zref (hts (.laysStatic "StationHouse" "LEAST_SETTINGS" "[I") (tm3 183 rfl)) (hts (.initialized "StationHouse") (tm1 1 rfl)) h1 hA, h2⟩
theorem sa_2 {args : Array Value} {s : State} {A : Nat → Prop} (hgv : (Jvm.Cond.and given_1 narrow_1).before args s = true) (hts : ∀ w ∈ lw_tbl, w.before args s = true) (hA : ∀ a : Nat, a < s.heap.size → ¬ A a) : ∃ t : Nat, va_Z RX9 "MOST_SETTINGS" "[I" (.ref t) A s s.heap ∧ va_T .int t 9 (fun j => .int (tab 2 j)) A s s.heap := by
  have hs := flat_of_before _ hgv
  obtain ⟨t, h1, h2⟩ := va_Tof (tm := (.static "StationHouse" "MOST_SETTINGS" "[I")) (ty := .int) (N := 9) (f := fun j => .int (tab 2 j)) (A := A) (by decide) (hs (.arrayOf (.static "StationHouse" "MOST_SETTINGS" "[I") .int) (by decide +kernel)) (va_eqt (hs (.eq (.length (.static "StationHouse" "MOST_SETTINGS" "[I")) (.int 9)) (by decide +kernel))) (fun j hj => match j, hj with
    | 0, _ => va_eqt (hs (.eq (.elem (.static "StationHouse" "MOST_SETTINGS" "[I") (.int 0)) (.int (10000))) (by decide +kernel))
    | 1, _ => va_eqt (hs (.eq (.elem (.static "StationHouse" "MOST_SETTINGS" "[I") (.int 1)) (.int (10000))) (by decide +kernel))
    | 2, _ => va_eqt (hs (.eq (.elem (.static "StationHouse" "MOST_SETTINGS" "[I") (.int 2)) (.int (10000))) (by decide +kernel))
    | 3, _ => va_eqt (hs (.eq (.elem (.static "StationHouse" "MOST_SETTINGS" "[I") (.int 3)) (.int (10000))) (by decide +kernel))
    | 4, _ => va_eqt (hs (.eq (.elem (.static "StationHouse" "MOST_SETTINGS" "[I") (.int 4)) (.int (10000))) (by decide +kernel))
    | 5, _ => va_eqt (hs (.eq (.elem (.static "StationHouse" "MOST_SETTINGS" "[I") (.int 5)) (.int (5))) (by decide +kernel))
    | 6, _ => va_eqt (hs (.eq (.elem (.static "StationHouse" "MOST_SETTINGS" "[I") (.int 6)) (.int (16))) (by decide +kernel))
    | 7, _ => va_eqt (hs (.eq (.elem (.static "StationHouse" "MOST_SETTINGS" "[I") (.int 7)) (.int (999))) (by decide +kernel))
    | 8, _ => va_eqt (hs (.eq (.elem (.static "StationHouse" "MOST_SETTINGS" "[I") (.int 8)) (.int (999))) (by decide +kernel))
    | j + 9, h => absurd h (by omega)) hA
  exact ⟨t, va_Zref (hts (.laysStatic "StationHouse" "MOST_SETTINGS" "[I") (tm3 185 rfl)) (hts (.initialized "StationHouse") (tm1 1 rfl)) h1 hA, h2⟩
theorem sa_3 {args : Array Value} {s : State} {A : Nat → Prop} (hgv : (Jvm.Cond.and given_1 narrow_1).before args s = true) (hts : ∀ w ∈ lw_tbl, w.before args s = true) (hA : ∀ a : Nat, a < s.heap.size → ¬ A a) : ∃ t : Nat, va_Z RX9 "SETTING_PLACES" "[I" (.ref t) A s s.heap ∧ va_T .int t 9 (fun j => .int (tab 3 j)) A s s.heap := by
  have hs := flat_of_before _ hgv
  obtain ⟨t, h1, h2⟩ := va_Tof (tm := (.static "StationHouse" "SETTING_PLACES" "[I")) (ty := .int) (N := 9) (f := fun j => .int (tab 3 j)) (A := A) (by decide) (hs (.arrayOf (.static "StationHouse" "SETTING_PLACES" "[I") .int) (by decide +kernel)) (va_eqt (hs (.eq (.length (.static "StationHouse" "SETTING_PLACES" "[I")) (.int 9)) (by decide +kernel))) (fun j hj => match j, hj with
    | 0, _ => va_eqt (hs (.eq (.elem (.static "StationHouse" "SETTING_PLACES" "[I") (.int 0)) (.int (1))) (by decide +kernel))
    | 1, _ => va_eqt (hs (.eq (.elem (.static "StationHouse" "SETTING_PLACES" "[I") (.int 1)) (.int (3))) (by decide +kernel))
    | 2, _ => va_eqt (hs (.eq (.elem (.static "StationHouse" "SETTING_PLACES" "[I") (.int 2)) (.int (5))) (by decide +kernel))
    | 3, _ => va_eqt (hs (.eq (.elem (.static "StationHouse" "SETTING_PLACES" "[I") (.int 3)) (.int (7))) (by decide +kernel))
    | 4, _ => va_eqt (hs (.eq (.elem (.static "StationHouse" "SETTING_PLACES" "[I") (.int 4)) (.int (9))) (by decide +kernel))
    | 5, _ => va_eqt (hs (.eq (.elem (.static "StationHouse" "SETTING_PLACES" "[I") (.int 5)) (.int (11))) (by decide +kernel))
    | 6, _ => va_eqt (hs (.eq (.elem (.static "StationHouse" "SETTING_PLACES" "[I") (.int 6)) (.int (12))) (by decide +kernel))
    | 7, _ => va_eqt (hs (.eq (.elem (.static "StationHouse" "SETTING_PLACES" "[I") (.int 7)) (.int (13))) (by decide +kernel))
    | 8, _ => va_eqt (hs (.eq (.elem (.static "StationHouse" "SETTING_PLACES" "[I") (.int 8)) (.int (15))) (by decide +kernel))
    | j + 9, h => absurd h (by omega)) hA
  exact ⟨t, va_Zref (hts (.laysStatic "StationHouse" "SETTING_PLACES" "[I") (tm3 180 rfl)) (hts (.initialized "StationHouse") (tm1 1 rfl)) h1 hA, h2⟩
theorem sa_4 {args : Array Value} {s : State} {A : Nat → Prop} (hgv : (Jvm.Cond.and given_1 narrow_1).before args s = true) (hts : ∀ w ∈ lw_tbl, w.before args s = true) (hA : ∀ a : Nat, a < s.heap.size → ¬ A a) : ∃ t : Nat, va_Z RX7 "START" "[I" (.ref t) A s s.heap ∧ va_T .int t 8 (fun j => .int (tab 4 j)) A s s.heap := by
  have hs := flat_of_before _ hgv
  obtain ⟨t, h1, h2⟩ := va_Tof (tm := (.static "StationHouse$Sealer" "START" "[I")) (ty := .int) (N := 8) (f := fun j => .int (tab 4 j)) (A := A) (by decide) (hs (.arrayOf (.static "StationHouse$Sealer" "START" "[I") .int) (by decide +kernel)) (va_eqt (hs (.eq (.length (.static "StationHouse$Sealer" "START" "[I")) (.int 8)) (by decide +kernel))) (fun j hj => match j, hj with
    | 0, _ => va_eqt (hs (.eq (.elem (.static "StationHouse$Sealer" "START" "[I") (.int 0)) (.int (1779033703))) (by decide +kernel))
    | 1, _ => va_eqt (hs (.eq (.elem (.static "StationHouse$Sealer" "START" "[I") (.int 1)) (.int (-1150833019))) (by decide +kernel))
    | 2, _ => va_eqt (hs (.eq (.elem (.static "StationHouse$Sealer" "START" "[I") (.int 2)) (.int (1013904242))) (by decide +kernel))
    | 3, _ => va_eqt (hs (.eq (.elem (.static "StationHouse$Sealer" "START" "[I") (.int 3)) (.int (-1521486534))) (by decide +kernel))
    | 4, _ => va_eqt (hs (.eq (.elem (.static "StationHouse$Sealer" "START" "[I") (.int 4)) (.int (1359893119))) (by decide +kernel))
    | 5, _ => va_eqt (hs (.eq (.elem (.static "StationHouse$Sealer" "START" "[I") (.int 5)) (.int (-1694144372))) (by decide +kernel))
    | 6, _ => va_eqt (hs (.eq (.elem (.static "StationHouse$Sealer" "START" "[I") (.int 6)) (.int (528734635))) (by decide +kernel))
    | 7, _ => va_eqt (hs (.eq (.elem (.static "StationHouse$Sealer" "START" "[I") (.int 7)) (.int (1541459225))) (by decide +kernel))
    | j + 8, h => absurd h (by omega)) hA
  exact ⟨t, va_Zref (hts (.laysStatic "StationHouse$Sealer" "START" "[I") (tm2 140 rfl)) (hts (.initialized "StationHouse$Sealer") (tm1 4 rfl)) h1 hA, h2⟩
theorem sa_5 {args : Array Value} {s : State} {A : Nat → Prop} (hgv : (Jvm.Cond.and given_1 narrow_1).before args s = true) (hts : ∀ w ∈ lw_tbl, w.before args s = true) (hA : ∀ a : Nat, a < s.heap.size → ¬ A a) : ∃ t : Nat, va_Z RX7 "ROUNDS" "[I" (.ref t) A s s.heap ∧ va_T .int t 64 (fun j => .int (tab 5 j)) A s s.heap := by
  have hs := flat_of_before _ hgv
  obtain ⟨t, h1, h2⟩ := va_Tof (tm := (.static "StationHouse$Sealer" "ROUNDS" "[I")) (ty := .int) (N := 64) (f := fun j => .int (tab 5 j)) (A := A) (by decide) (hs (.arrayOf (.static "StationHouse$Sealer" "ROUNDS" "[I") .int) (by decide +kernel)) (va_eqt (hs (.eq (.length (.static "StationHouse$Sealer" "ROUNDS" "[I")) (.int 64)) (by decide +kernel))) (fun j hj => match j, hj with
    | 0, _ => va_eqt (hs (.eq (.elem (.static "StationHouse$Sealer" "ROUNDS" "[I") (.int 0)) (.int (1116352408))) (by decide +kernel))
    | 1, _ => va_eqt (hs (.eq (.elem (.static "StationHouse$Sealer" "ROUNDS" "[I") (.int 1)) (.int (1899447441))) (by decide +kernel))
    | 2, _ => va_eqt (hs (.eq (.elem (.static "StationHouse$Sealer" "ROUNDS" "[I") (.int 2)) (.int (-1245643825))) (by decide +kernel))
    | 3, _ => va_eqt (hs (.eq (.elem (.static "StationHouse$Sealer" "ROUNDS" "[I") (.int 3)) (.int (-373957723))) (by decide +kernel))
    | 4, _ => va_eqt (hs (.eq (.elem (.static "StationHouse$Sealer" "ROUNDS" "[I") (.int 4)) (.int (961987163))) (by decide +kernel))
    | 5, _ => va_eqt (hs (.eq (.elem (.static "StationHouse$Sealer" "ROUNDS" "[I") (.int 5)) (.int (1508970993))) (by decide +kernel))
    | 6, _ => va_eqt (hs (.eq (.elem (.static "StationHouse$Sealer" "ROUNDS" "[I") (.int 6)) (.int (-1841331548))) (by decide +kernel))
    | 7, _ => va_eqt (hs (.eq (.elem (.static "StationHouse$Sealer" "ROUNDS" "[I") (.int 7)) (.int (-1424204075))) (by decide +kernel))
    | 8, _ => va_eqt (hs (.eq (.elem (.static "StationHouse$Sealer" "ROUNDS" "[I") (.int 8)) (.int (-670586216))) (by decide +kernel))
    | 9, _ => va_eqt (hs (.eq (.elem (.static "StationHouse$Sealer" "ROUNDS" "[I") (.int 9)) (.int (310598401))) (by decide +kernel))
    | 10, _ => va_eqt (hs (.eq (.elem (.static "StationHouse$Sealer" "ROUNDS" "[I") (.int 10)) (.int (607225278))) (by decide +kernel))
    | 11, _ => va_eqt (hs (.eq (.elem (.static "StationHouse$Sealer" "ROUNDS" "[I") (.int 11)) (.int (1426881987))) (by decide +kernel))
    | 12, _ => va_eqt (hs (.eq (.elem (.static "StationHouse$Sealer" "ROUNDS" "[I") (.int 12)) (.int (1925078388))) (by decide +kernel))
    | 13, _ => va_eqt (hs (.eq (.elem (.static "StationHouse$Sealer" "ROUNDS" "[I") (.int 13)) (.int (-2132889090))) (by decide +kernel))
    | 14, _ => va_eqt (hs (.eq (.elem (.static "StationHouse$Sealer" "ROUNDS" "[I") (.int 14)) (.int (-1680079193))) (by decide +kernel))
    | 15, _ => va_eqt (hs (.eq (.elem (.static "StationHouse$Sealer" "ROUNDS" "[I") (.int 15)) (.int (-1046744716))) (by decide +kernel))
    | 16, _ => va_eqt (hs (.eq (.elem (.static "StationHouse$Sealer" "ROUNDS" "[I") (.int 16)) (.int (-459576895))) (by decide +kernel))
    | 17, _ => va_eqt (hs (.eq (.elem (.static "StationHouse$Sealer" "ROUNDS" "[I") (.int 17)) (.int (-272742522))) (by decide +kernel))
    | 18, _ => va_eqt (hs (.eq (.elem (.static "StationHouse$Sealer" "ROUNDS" "[I") (.int 18)) (.int (264347078))) (by decide +kernel))
    | 19, _ => va_eqt (hs (.eq (.elem (.static "StationHouse$Sealer" "ROUNDS" "[I") (.int 19)) (.int (604807628))) (by decide +kernel))
    | 20, _ => va_eqt (hs (.eq (.elem (.static "StationHouse$Sealer" "ROUNDS" "[I") (.int 20)) (.int (770255983))) (by decide +kernel))
    | 21, _ => va_eqt (hs (.eq (.elem (.static "StationHouse$Sealer" "ROUNDS" "[I") (.int 21)) (.int (1249150122))) (by decide +kernel))
    | 22, _ => va_eqt (hs (.eq (.elem (.static "StationHouse$Sealer" "ROUNDS" "[I") (.int 22)) (.int (1555081692))) (by decide +kernel))
    | 23, _ => va_eqt (hs (.eq (.elem (.static "StationHouse$Sealer" "ROUNDS" "[I") (.int 23)) (.int (1996064986))) (by decide +kernel))
    | 24, _ => va_eqt (hs (.eq (.elem (.static "StationHouse$Sealer" "ROUNDS" "[I") (.int 24)) (.int (-1740746414))) (by decide +kernel))
    | 25, _ => va_eqt (hs (.eq (.elem (.static "StationHouse$Sealer" "ROUNDS" "[I") (.int 25)) (.int (-1473132947))) (by decide +kernel))
    | 26, _ => va_eqt (hs (.eq (.elem (.static "StationHouse$Sealer" "ROUNDS" "[I") (.int 26)) (.int (-1341970488))) (by decide +kernel))
    | 27, _ => va_eqt (hs (.eq (.elem (.static "StationHouse$Sealer" "ROUNDS" "[I") (.int 27)) (.int (-1084653625))) (by decide +kernel))
    | 28, _ => va_eqt (hs (.eq (.elem (.static "StationHouse$Sealer" "ROUNDS" "[I") (.int 28)) (.int (-958395405))) (by decide +kernel))
    | 29, _ => va_eqt (hs (.eq (.elem (.static "StationHouse$Sealer" "ROUNDS" "[I") (.int 29)) (.int (-710438585))) (by decide +kernel))
    | 30, _ => va_eqt (hs (.eq (.elem (.static "StationHouse$Sealer" "ROUNDS" "[I") (.int 30)) (.int (113926993))) (by decide +kernel))
    | 31, _ => va_eqt (hs (.eq (.elem (.static "StationHouse$Sealer" "ROUNDS" "[I") (.int 31)) (.int (338241895))) (by decide +kernel))
    | 32, _ => va_eqt (hs (.eq (.elem (.static "StationHouse$Sealer" "ROUNDS" "[I") (.int 32)) (.int (666307205))) (by decide +kernel))
    | 33, _ => va_eqt (hs (.eq (.elem (.static "StationHouse$Sealer" "ROUNDS" "[I") (.int 33)) (.int (773529912))) (by decide +kernel))
    | 34, _ => va_eqt (hs (.eq (.elem (.static "StationHouse$Sealer" "ROUNDS" "[I") (.int 34)) (.int (1294757372))) (by decide +kernel))
    | 35, _ => va_eqt (hs (.eq (.elem (.static "StationHouse$Sealer" "ROUNDS" "[I") (.int 35)) (.int (1396182291))) (by decide +kernel))
    | 36, _ => va_eqt (hs (.eq (.elem (.static "StationHouse$Sealer" "ROUNDS" "[I") (.int 36)) (.int (1695183700))) (by decide +kernel))
    | 37, _ => va_eqt (hs (.eq (.elem (.static "StationHouse$Sealer" "ROUNDS" "[I") (.int 37)) (.int (1986661051))) (by decide +kernel))
    | 38, _ => va_eqt (hs (.eq (.elem (.static "StationHouse$Sealer" "ROUNDS" "[I") (.int 38)) (.int (-2117940946))) (by decide +kernel))
    | 39, _ => va_eqt (hs (.eq (.elem (.static "StationHouse$Sealer" "ROUNDS" "[I") (.int 39)) (.int (-1838011259))) (by decide +kernel))
    | 40, _ => va_eqt (hs (.eq (.elem (.static "StationHouse$Sealer" "ROUNDS" "[I") (.int 40)) (.int (-1564481375))) (by decide +kernel))
    | 41, _ => va_eqt (hs (.eq (.elem (.static "StationHouse$Sealer" "ROUNDS" "[I") (.int 41)) (.int (-1474664885))) (by decide +kernel))
    | 42, _ => va_eqt (hs (.eq (.elem (.static "StationHouse$Sealer" "ROUNDS" "[I") (.int 42)) (.int (-1035236496))) (by decide +kernel))
    | 43, _ => va_eqt (hs (.eq (.elem (.static "StationHouse$Sealer" "ROUNDS" "[I") (.int 43)) (.int (-949202525))) (by decide +kernel))
    | 44, _ => va_eqt (hs (.eq (.elem (.static "StationHouse$Sealer" "ROUNDS" "[I") (.int 44)) (.int (-778901479))) (by decide +kernel))
    | 45, _ => va_eqt (hs (.eq (.elem (.static "StationHouse$Sealer" "ROUNDS" "[I") (.int 45)) (.int (-694614492))) (by decide +kernel))
    | 46, _ => va_eqt (hs (.eq (.elem (.static "StationHouse$Sealer" "ROUNDS" "[I") (.int 46)) (.int (-200395387))) (by decide +kernel))
    | 47, _ => va_eqt (hs (.eq (.elem (.static "StationHouse$Sealer" "ROUNDS" "[I") (.int 47)) (.int (275423344))) (by decide +kernel))
    | 48, _ => va_eqt (hs (.eq (.elem (.static "StationHouse$Sealer" "ROUNDS" "[I") (.int 48)) (.int (430227734))) (by decide +kernel))
    | 49, _ => va_eqt (hs (.eq (.elem (.static "StationHouse$Sealer" "ROUNDS" "[I") (.int 49)) (.int (506948616))) (by decide +kernel))
    | 50, _ => va_eqt (hs (.eq (.elem (.static "StationHouse$Sealer" "ROUNDS" "[I") (.int 50)) (.int (659060556))) (by decide +kernel))
    | 51, _ => va_eqt (hs (.eq (.elem (.static "StationHouse$Sealer" "ROUNDS" "[I") (.int 51)) (.int (883997877))) (by decide +kernel))
    | 52, _ => va_eqt (hs (.eq (.elem (.static "StationHouse$Sealer" "ROUNDS" "[I") (.int 52)) (.int (958139571))) (by decide +kernel))
    | 53, _ => va_eqt (hs (.eq (.elem (.static "StationHouse$Sealer" "ROUNDS" "[I") (.int 53)) (.int (1322822218))) (by decide +kernel))
    | 54, _ => va_eqt (hs (.eq (.elem (.static "StationHouse$Sealer" "ROUNDS" "[I") (.int 54)) (.int (1537002063))) (by decide +kernel))
    | 55, _ => va_eqt (hs (.eq (.elem (.static "StationHouse$Sealer" "ROUNDS" "[I") (.int 55)) (.int (1747873779))) (by decide +kernel))
    | 56, _ => va_eqt (hs (.eq (.elem (.static "StationHouse$Sealer" "ROUNDS" "[I") (.int 56)) (.int (1955562222))) (by decide +kernel))
    | 57, _ => va_eqt (hs (.eq (.elem (.static "StationHouse$Sealer" "ROUNDS" "[I") (.int 57)) (.int (2024104815))) (by decide +kernel))
    | 58, _ => va_eqt (hs (.eq (.elem (.static "StationHouse$Sealer" "ROUNDS" "[I") (.int 58)) (.int (-2067236844))) (by decide +kernel))
    | 59, _ => va_eqt (hs (.eq (.elem (.static "StationHouse$Sealer" "ROUNDS" "[I") (.int 59)) (.int (-1933114872))) (by decide +kernel))
    | 60, _ => va_eqt (hs (.eq (.elem (.static "StationHouse$Sealer" "ROUNDS" "[I") (.int 60)) (.int (-1866530822))) (by decide +kernel))
    | 61, _ => va_eqt (hs (.eq (.elem (.static "StationHouse$Sealer" "ROUNDS" "[I") (.int 61)) (.int (-1538233109))) (by decide +kernel))
    | 62, _ => va_eqt (hs (.eq (.elem (.static "StationHouse$Sealer" "ROUNDS" "[I") (.int 62)) (.int (-1090935817))) (by decide +kernel))
    | 63, _ => va_eqt (hs (.eq (.elem (.static "StationHouse$Sealer" "ROUNDS" "[I") (.int 63)) (.int (-965641998))) (by decide +kernel))
    | j + 64, h => absurd h (by omega)) hA
  exact ⟨t, va_Zref (hts (.laysStatic "StationHouse$Sealer" "ROUNDS" "[I") (tm2 150 rfl)) (hts (.initialized "StationHouse$Sealer") (tm1 4 rfl)) h1 hA, h2⟩
theorem ac_int {args : Array Value} {s : State} (hts : ∀ w ∈ lw_tbl, w.before args s = true) : ∃ c : ClassId, ArrOfT s c .int ∧ va_RA s c .int := by
  obtain ⟨c, k, comp, h1, h2, h3⟩ := Cond.arrayClass_spec (hts (.arrayClass .int) (tm1 68 rfl))
  exact ⟨c, fun n z => ⟨fun k h => (by cases h), k, h2, comp, h3⟩, h1⟩
theorem ac_byte {args : Array Value} {s : State} (hts : ∀ w ∈ lw_tbl, w.before args s = true) : ∃ c : ClassId, ArrOfT s c .byte ∧ va_RA s c .byte := by
  obtain ⟨c, k, comp, h1, h2, h3⟩ := Cond.arrayClass_spec (hts (.arrayClass .byte) (tm1 46 rfl))
  exact ⟨c, fun n z => ⟨fun k h => (by cases h), k, h2, comp, h3⟩, h1⟩
theorem ac_boolean {args : Array Value} {s : State} (hts : ∀ w ∈ lw_tbl, w.before args s = true) : ∃ c : ClassId, ArrOfT s c .boolean ∧ va_RA s c .boolean := by
  obtain ⟨c, k, comp, h1, h2, h3⟩ := Cond.arrayClass_spec (hts (.arrayClass .boolean) (tm5 22 rfl))
  exact ⟨c, fun n z => ⟨fun k h => (by cases h), k, h2, comp, h3⟩, h1⟩
theorem ac_X1 {args : Array Value} {s : State} (hts : ∀ w ∈ lw_tbl, w.before args s = true) : ∃ c : ClassId, ArrOfT s c (.object RX1) ∧ va_RA s c (.object RX1) := by
  obtain ⟨comp, c, k, h1, -, h2, h3, h4⟩ := Cond.arrayOver_spec (hts (.arrayOver (.object RX1)) (tm1 48 rfl))
  exact ⟨c, fun n z => ⟨fun k h => (by cases h), k, h2, comp, h3⟩, k, comp, h2, h3, h1, h4⟩
theorem ac_X0 {args : Array Value} {s : State} (hts : ∀ w ∈ lw_tbl, w.before args s = true) : ∃ c : ClassId, ArrOfT s c (.object RX0) ∧ va_RA s c (.object RX0) := by
  obtain ⟨comp, c, k, h1, -, h2, h3, h4⟩ := Cond.arrayOver_spec (hts (.arrayOver (.object RX0)) (tm2 16 rfl))
  exact ⟨c, fun n z => ⟨fun k h => (by cases h), k, h2, comp, h3⟩, k, comp, h2, h3, h1, h4⟩
theorem kn_X0 {args : Array Value} {s : State} (hts : ∀ w ∈ gWG, w.before args s = true) : ∃ (cC : ClassId) (iS : Nat → Nat), u_Kn s RX0 TX0 2 cC iS := u_known hts gClX0.2.1 (hts _ it_X0)
theorem kn_X1 {args : Array Value} {s : State} (hts : ∀ w ∈ gWG, w.before args s = true) : ∃ (cC : ClassId) (iS : Nat → Nat), u_Kn s RX1 TX1 3 cC iS := u_known hts gClX1.2.1 (hts _ it_X1)
theorem kn_X2 {args : Array Value} {s : State} (hts : ∀ w ∈ gWG, w.before args s = true) : ∃ (cC : ClassId) (iS : Nat → Nat), u_Kn s RX2 TX2 8 cC iS := u_known hts gClX2.2.1 (hts _ it_X2)
theorem kn_X3 {args : Array Value} {s : State} (hts : ∀ w ∈ gWG, w.before args s = true) : ∃ (cC : ClassId) (iS : Nat → Nat), u_Kn s RX3 TX3 7 cC iS := u_known hts gClX3.2.1 (hts _ it_X3)
theorem kn_X4 {args : Array Value} {s : State} (hts : ∀ w ∈ gWG, w.before args s = true) : ∃ (cC : ClassId) (iS : Nat → Nat), u_Kn s RX4 TX4 3 cC iS := u_known hts gClX4.2.1 (hts _ it_X4)
theorem kn_X5 {args : Array Value} {s : State} (hts : ∀ w ∈ gWG, w.before args s = true) : ∃ (cC : ClassId) (iS : Nat → Nat), u_Kn s RX5 TX5 4 cC iS := u_known hts gClX5.2.1 (hts _ it_X5)
theorem kn_X6 {args : Array Value} {s : State} (hts : ∀ w ∈ gWG, w.before args s = true) : ∃ (cC : ClassId) (iS : Nat → Nat), u_Kn s RX6 TX6 6 cC iS := u_known hts gClX6.2.1 (hts _ it_X6)
theorem kn_X7 {args : Array Value} {s : State} (hts : ∀ w ∈ gWG, w.before args s = true) : ∃ (cC : ClassId) (iS : Nat → Nat), u_Kn s RX7 TX7 4 cC iS := u_known hts gClX7.2.1 (hts _ it_X7)
theorem kn_X8 {args : Array Value} {s : State} (hts : ∀ w ∈ gWG, w.before args s = true) : ∃ (cC : ClassId) (iS : Nat → Nat), u_Kn s RX8 TX8 9 cC iS := u_known hts gClX8.2.1 (hts _ it_X8)
theorem kn_X9 {args : Array Value} {s : State} (hts : ∀ w ∈ gWG, w.before args s = true) : ∃ (cC : ClassId) (iS : Nat → Nat), u_Kn s RX9 TX9 19 cC iS := u_known hts gClX9.2.1 (hts _ it_X9)
theorem kn_X10 {args : Array Value} {s : State} (hts : ∀ w ∈ gWG, w.before args s = true) : ∃ (cC : ClassId) (iS : Nat → Nat), u_Kn s RX10 TX10 54 cC iS := u_known hts gClX10.2.1 (hts _ it_X10)
theorem gN_of {args : Array Value} {s : State} (hts : ∀ w ∈ lw_tbl, w.before args s = true) : gN s := by
  refine ⟨?_, va_AO.of (hts (.arrayOver (.object RX1)) (tm1 48 rfl)), va_AO.of (hts (.arrayOver (.object RX0)) (tm2 16 rfl))⟩
  intro q hq
  unfold gnest at hq
  simp only [List.mem_cons, List.not_mem_nil, or_false] at hq
  rcases hq with rfl | rfl | rfl | rfl | rfl | rfl | rfl | rfl | rfl | rfl
  · exact va_Nw.of (A := args) rfl (hts (.methodLinkNest "StationHouse" 46 ⟨"StationHouse$Sealer", "<init>", "()V"⟩ "StationHouse") (tm1 51 rfl))
  · exact va_Nw.of (A := args) rfl (hts (.methodLinkNest "StationHouse" 53 ⟨"StationHouse$Keys", "<init>", "()V"⟩ "StationHouse") (tm1 71 rfl))
  · exact va_Nw.of (A := args) rfl (hts (.methodLinkNest "StationHouse" 60 ⟨"StationHouse$Journal", "<init>", "()V"⟩ "StationHouse") (tm1 88 rfl))
  · exact va_Nw.of (A := args) rfl (hts (.methodLinkNest "StationHouse" 67 ⟨"StationHouse$Latch", "<init>", "()V"⟩ "StationHouse") (tm1 124 rfl))
  · exact va_Nw.of (A := args) rfl (hts (.methodLinkNest "StationHouse" 74 ⟨"StationHouse$Outside", "<init>", "()V"⟩ "StationHouse") (tm1 143 rfl))
  · exact va_Nw.of (A := args) rfl (hts (.methodLinkNest "StationHouse$Outside" 11 ⟨"StationHouse$Sight", "<init>", "()V"⟩ "StationHouse") (tm1 149 rfl))
  · exact va_Nw.of (A := args) rfl (hts (.methodLinkNest "StationHouse" 81 ⟨"StationHouse$Inside", "<init>", "()V"⟩ "StationHouse") (tm1 214 rfl))
  · exact va_Nw.of (A := args) rfl (hts (.methodLinkNest "StationHouse$Inside" 11 ⟨"StationHouse$Sight", "<init>", "()V"⟩ "StationHouse") (tm1 219 rfl))
  · exact va_Nw.of (A := args) rfl (hts (.methodLinkNest "StationHouse$Card" 36 ⟨"StationHouse", "isPlace", "(I)Z"⟩ "StationHouse") (tm2 181 rfl))
  · exact va_Nw.of (A := args) rfl (hts (.methodLinkNest "StationHouse$Sight" 76 ⟨"StationHouse", "isPlace", "(I)Z"⟩ "StationHouse") (tm3 7 rfl))
