/-! The law from its entry to its loop -/
set_option maxHeartbeats 4000000 in
set_option maxRecDepth 100000 in
theorem law_from (l : Launch) (g : gE) {L : Nat} {xs : Nat → Int32} {fr : Int32} (hX : g.2.2.2.2 6 = (.int, L, xs)) (hfr : fr = 1) (hT : gTab g) (hQ : QG_L_law_L18 L xs 100 0 sEnd zEnd) (hF : G_L_law_L18 L xs 100 0 sEnd zEnd = fr) : gG l g mL_law room_1 (gZl g) 0 [(0, .ref (gBig + 6))] [] [] 0 0 := by
  refine g_heq (h1 := hq 0 (fun _ _ => false) (fun _ => 0) (fun _ _ => 0) (fun _ => 0)) rfl rfl ?_
  have hz : gfr 0 (fun _ _ => false) (fun _ => 0) (fun _ _ => 0) := fun k _ => ⟨rfl, rfl, rfl⟩
  refine g_new (fs := [.null, .null, .int 0, .null, .int 0, .int 0, .int 0, .int 0, .int 0, .int 0, .int 0, .int 0, .null, .null, .null, .null, .null, .null, .null]) gClX9 cl_L_7 it_X9 in_X9 (nf_X9 g) (by rw [hq_len]; decide) (Nat.le_of_ble_eq_true rfl) (Nat.le_of_ble_eq_true rfl) dL_law_0 rfl ?_
  refine g_heq (hq_push (cN_new hz (fun z => absurd z (by decide)) rfl)) (by rw [hq_len]) ?_
  replace hz := gfr_u (n1 := 1) (by decide) hz
  refine g_dup dL_law_3 rfl rfl ?_
  refine g_calli mt_X9_init mi_X9_init rfl rfl ml_L_9 (k_X9_0 l g _ _ _ _ hT hz) rfl (Nat.le_of_ble_eq_true rfl) (Nat.le_of_ble_eq_true rfl) (Nat.le_of_ble_eq_true rfl) (Nat.le_of_ble_eq_true rfl) rfl (Nat.le_of_ble_eq_true rfl) dL_law_4 rfl (fun r h p => ?_)
  obtain ⟨rfl, rfl⟩ := p
  replace hz := gfr_u (n1 := 199) (by decide) hz
  replace hz := gfr_m (j := 1) (k := 0) (by decide) hz
  replace hz := gfr_m (j := 0) (k := 0) (by decide) hz
  replace hz := gfr_m (j := 3) (k := 0) (by decide) hz
  replace hz := gfr_m (j := 0) (k := 1) (by decide) hz
  replace hz := gfr_m (j := 0) (k := 3) (by decide) hz
  replace hz := gfr_p (j := 0) (k := 4) (x := (-1 : Int32)) (by decide) hz
  replace hz := gfr_p (j := 0) (k := 5) (x := (-1 : Int32)) (by decide) hz
  replace hz := gfr_p (j := 0) (k := 6) (x := (-1 : Int32)) (by decide) hz
  replace hz := gfr_p (j := 0) (k := 11) (x := (1 : Int32)) (by decide) hz
  replace hz := gfr_m (j := 0) (k := 12) (by decide) hz
  replace hz := gfr_m (j := 7) (k := 0) (by decide) hz
  replace hz := gfr_m (j := 7) (k := 1) (by decide) hz
  replace hz := gfr_m (j := 7) (k := 2) (by decide) hz
  replace hz := gfr_m (j := 7) (k := 3) (by decide) hz
  replace hz := gfr_m (j := 0) (k := 13) (by decide) hz
  replace hz := gfr_m (j := 12) (k := 0) (by decide) hz
  replace hz := gfr_m (j := 12) (k := 1) (by decide) hz
  replace hz := gfr_m (j := 0) (k := 14) (by decide) hz
  replace hz := gfr_m (j := 16) (k := 0) (by decide) hz
  replace hz := gfr_m (j := 15) (k := 0) (by decide) hz
  replace hz := gfr_p (j := 15) (k := 2) (x := (1 : Int32)) (by decide) hz
  replace hz := gfr_p (j := 15) (k := 4) (x := (-1 : Int32)) (by decide) hz
  replace hz := gfr_p (j := 15) (k := 6) (x := (1 : Int32)) (by decide) hz
  replace hz := gfr_m (j := 0) (k := 15) (by decide) hz
  replace hz := gfr_m (j := 0) (k := 16) (by decide) hz
  replace hz := gfr_p (j := 20) (k := 0) (x := (-1 : Int32)) (by decide) hz
  replace hz := gfr_m (j := 19) (k := 0) (by decide) hz
  replace hz := gfr_p (j := 19) (k := 1) (x := (0 : Int32)) (by decide) hz
  replace hz := gfr_p (j := 19) (k := 2) (x := (0 : Int32)) (by decide) hz
  replace hz := gfr_p (j := 19) (k := 3) (x := (-1 : Int32)) (by decide) hz
  replace hz := gfr_p (j := 19) (k := 4) (x := (-1 : Int32)) (by decide) hz
  replace hz := gfr_m (j := 0) (k := 17) (by decide) hz
  replace hz := gfr_p (j := 22) (k := 0) (x := (-1 : Int32)) (by decide) hz
  replace hz := gfr_m (j := 21) (k := 0) (by decide) hz
  replace hz := gfr_p (j := 21) (k := 1) (x := (0 : Int32)) (by decide) hz
  replace hz := gfr_p (j := 21) (k := 2) (x := (8 : Int32)) (by decide) hz
  replace hz := gfr_p (j := 21) (k := 3) (x := (-1 : Int32)) (by decide) hz
  replace hz := gfr_p (j := 21) (k := 4) (x := (-1 : Int32)) (by decide) hz
  replace hz := gfr_m (j := 0) (k := 18) (by decide) hz
  replace hz := gfr_m (j := 23) (k := 0) (by decide) hz
  replace hz := gfr_m (j := 23) (k := 1) (by decide) hz
  replace hz := gfr_p (j := 23) (k := 2) (x := (1 : Int32)) (by decide) hz
  replace hz := gfr_m (j := 26) (k := 0) (by decide) hz
  replace hz := gfr_k (j := 24) (v := 1) (by decide) hz
  replace hz := gfr_m (j := 28) (k := 0) (by decide) hz
  replace hz := gfr_k (j := 24) (v := 2) (by decide) hz
  replace hz := gfr_m (j := 30) (k := 0) (by decide) hz
  replace hz := gfr_k (j := 24) (v := 3) (by decide) hz
  replace hz := gfr_m (j := 32) (k := 0) (by decide) hz
  replace hz := gfr_k (j := 24) (v := 4) (by decide) hz
  replace hz := gfr_k (j := 5) (v := 1) (by decide) hz
  replace hz := gfr_m (j := 34) (k := 0) (by decide) hz
  replace hz := gfr_m (j := 34) (k := 1) (by decide) hz
  replace hz := gfr_p (j := 34) (k := 2) (x := (1 : Int32)) (by decide) hz
  replace hz := gfr_m (j := 37) (k := 0) (by decide) hz
  replace hz := gfr_k (j := 35) (v := 1) (by decide) hz
  replace hz := gfr_m (j := 39) (k := 0) (by decide) hz
  replace hz := gfr_k (j := 35) (v := 2) (by decide) hz
  replace hz := gfr_m (j := 41) (k := 0) (by decide) hz
  replace hz := gfr_k (j := 35) (v := 3) (by decide) hz
  replace hz := gfr_m (j := 43) (k := 0) (by decide) hz
  replace hz := gfr_k (j := 35) (v := 4) (by decide) hz
  replace hz := gfr_k (j := 5) (v := 2) (by decide) hz
  replace hz := gfr_m (j := 45) (k := 0) (by decide) hz
  replace hz := gfr_m (j := 45) (k := 1) (by decide) hz
  replace hz := gfr_p (j := 45) (k := 2) (x := (1 : Int32)) (by decide) hz
  replace hz := gfr_m (j := 48) (k := 0) (by decide) hz
  replace hz := gfr_k (j := 46) (v := 1) (by decide) hz
  replace hz := gfr_m (j := 50) (k := 0) (by decide) hz
  replace hz := gfr_k (j := 46) (v := 2) (by decide) hz
  replace hz := gfr_m (j := 52) (k := 0) (by decide) hz
  replace hz := gfr_k (j := 46) (v := 3) (by decide) hz
  replace hz := gfr_m (j := 54) (k := 0) (by decide) hz
  replace hz := gfr_k (j := 46) (v := 4) (by decide) hz
  replace hz := gfr_k (j := 5) (v := 3) (by decide) hz
  replace hz := gfr_m (j := 56) (k := 0) (by decide) hz
  replace hz := gfr_m (j := 56) (k := 1) (by decide) hz
  replace hz := gfr_p (j := 56) (k := 2) (x := (1 : Int32)) (by decide) hz
  replace hz := gfr_m (j := 59) (k := 0) (by decide) hz
  replace hz := gfr_k (j := 57) (v := 1) (by decide) hz
  replace hz := gfr_m (j := 61) (k := 0) (by decide) hz
  replace hz := gfr_k (j := 57) (v := 2) (by decide) hz
  replace hz := gfr_m (j := 63) (k := 0) (by decide) hz
  replace hz := gfr_k (j := 57) (v := 3) (by decide) hz
  replace hz := gfr_m (j := 65) (k := 0) (by decide) hz
  replace hz := gfr_k (j := 57) (v := 4) (by decide) hz
  replace hz := gfr_k (j := 5) (v := 4) (by decide) hz
  replace hz := gfr_m (j := 67) (k := 0) (by decide) hz
  replace hz := gfr_m (j := 67) (k := 1) (by decide) hz
  replace hz := gfr_p (j := 67) (k := 2) (x := (1 : Int32)) (by decide) hz
  replace hz := gfr_m (j := 70) (k := 0) (by decide) hz
  replace hz := gfr_k (j := 68) (v := 1) (by decide) hz
  replace hz := gfr_m (j := 72) (k := 0) (by decide) hz
  replace hz := gfr_k (j := 68) (v := 2) (by decide) hz
  replace hz := gfr_m (j := 74) (k := 0) (by decide) hz
  replace hz := gfr_k (j := 68) (v := 3) (by decide) hz
  replace hz := gfr_m (j := 76) (k := 0) (by decide) hz
  replace hz := gfr_k (j := 68) (v := 4) (by decide) hz
  replace hz := gfr_k (j := 5) (v := 5) (by decide) hz
  replace hz := gfr_m (j := 78) (k := 0) (by decide) hz
  replace hz := gfr_m (j := 78) (k := 1) (by decide) hz
  replace hz := gfr_p (j := 78) (k := 2) (x := (1 : Int32)) (by decide) hz
  replace hz := gfr_m (j := 81) (k := 0) (by decide) hz
  replace hz := gfr_k (j := 79) (v := 1) (by decide) hz
  replace hz := gfr_m (j := 83) (k := 0) (by decide) hz
  replace hz := gfr_k (j := 79) (v := 2) (by decide) hz
  replace hz := gfr_m (j := 85) (k := 0) (by decide) hz
  replace hz := gfr_k (j := 79) (v := 3) (by decide) hz
  replace hz := gfr_m (j := 87) (k := 0) (by decide) hz
  replace hz := gfr_k (j := 79) (v := 4) (by decide) hz
  replace hz := gfr_k (j := 5) (v := 6) (by decide) hz
  replace hz := gfr_m (j := 89) (k := 0) (by decide) hz
  replace hz := gfr_m (j := 89) (k := 1) (by decide) hz
  replace hz := gfr_p (j := 89) (k := 2) (x := (1 : Int32)) (by decide) hz
  replace hz := gfr_m (j := 92) (k := 0) (by decide) hz
  replace hz := gfr_k (j := 90) (v := 1) (by decide) hz
  replace hz := gfr_m (j := 94) (k := 0) (by decide) hz
  replace hz := gfr_k (j := 90) (v := 2) (by decide) hz
  replace hz := gfr_m (j := 96) (k := 0) (by decide) hz
  replace hz := gfr_k (j := 90) (v := 3) (by decide) hz
  replace hz := gfr_m (j := 98) (k := 0) (by decide) hz
  replace hz := gfr_k (j := 90) (v := 4) (by decide) hz
  replace hz := gfr_k (j := 5) (v := 7) (by decide) hz
  replace hz := gfr_m (j := 100) (k := 0) (by decide) hz
  replace hz := gfr_m (j := 100) (k := 1) (by decide) hz
  replace hz := gfr_p (j := 100) (k := 2) (x := (1 : Int32)) (by decide) hz
  replace hz := gfr_m (j := 103) (k := 0) (by decide) hz
  replace hz := gfr_k (j := 101) (v := 1) (by decide) hz
  replace hz := gfr_m (j := 105) (k := 0) (by decide) hz
  replace hz := gfr_k (j := 101) (v := 2) (by decide) hz
  replace hz := gfr_m (j := 107) (k := 0) (by decide) hz
  replace hz := gfr_k (j := 101) (v := 3) (by decide) hz
  replace hz := gfr_m (j := 109) (k := 0) (by decide) hz
  replace hz := gfr_k (j := 101) (v := 4) (by decide) hz
  replace hz := gfr_k (j := 5) (v := 8) (by decide) hz
  replace hz := gfr_m (j := 111) (k := 0) (by decide) hz
  replace hz := gfr_m (j := 111) (k := 1) (by decide) hz
  replace hz := gfr_p (j := 111) (k := 2) (x := (1 : Int32)) (by decide) hz
  replace hz := gfr_m (j := 114) (k := 0) (by decide) hz
  replace hz := gfr_k (j := 112) (v := 1) (by decide) hz
  replace hz := gfr_m (j := 116) (k := 0) (by decide) hz
  replace hz := gfr_k (j := 112) (v := 2) (by decide) hz
  replace hz := gfr_m (j := 118) (k := 0) (by decide) hz
  replace hz := gfr_k (j := 112) (v := 3) (by decide) hz
  replace hz := gfr_m (j := 120) (k := 0) (by decide) hz
  replace hz := gfr_k (j := 112) (v := 4) (by decide) hz
  replace hz := gfr_k (j := 5) (v := 9) (by decide) hz
  replace hz := gfr_m (j := 122) (k := 0) (by decide) hz
  replace hz := gfr_m (j := 122) (k := 1) (by decide) hz
  replace hz := gfr_p (j := 122) (k := 2) (x := (1 : Int32)) (by decide) hz
  replace hz := gfr_m (j := 125) (k := 0) (by decide) hz
  replace hz := gfr_k (j := 123) (v := 1) (by decide) hz
  replace hz := gfr_m (j := 127) (k := 0) (by decide) hz
  replace hz := gfr_k (j := 123) (v := 2) (by decide) hz
  replace hz := gfr_m (j := 129) (k := 0) (by decide) hz
  replace hz := gfr_k (j := 123) (v := 3) (by decide) hz
  replace hz := gfr_m (j := 131) (k := 0) (by decide) hz
  replace hz := gfr_k (j := 123) (v := 4) (by decide) hz
  replace hz := gfr_k (j := 5) (v := 10) (by decide) hz
  replace hz := gfr_m (j := 133) (k := 0) (by decide) hz
  replace hz := gfr_m (j := 133) (k := 1) (by decide) hz
  replace hz := gfr_p (j := 133) (k := 2) (x := (1 : Int32)) (by decide) hz
  replace hz := gfr_m (j := 136) (k := 0) (by decide) hz
  replace hz := gfr_k (j := 134) (v := 1) (by decide) hz
  replace hz := gfr_m (j := 138) (k := 0) (by decide) hz
  replace hz := gfr_k (j := 134) (v := 2) (by decide) hz
  replace hz := gfr_m (j := 140) (k := 0) (by decide) hz
  replace hz := gfr_k (j := 134) (v := 3) (by decide) hz
  replace hz := gfr_m (j := 142) (k := 0) (by decide) hz
  replace hz := gfr_k (j := 134) (v := 4) (by decide) hz
  replace hz := gfr_k (j := 5) (v := 11) (by decide) hz
  replace hz := gfr_m (j := 144) (k := 0) (by decide) hz
  replace hz := gfr_m (j := 144) (k := 1) (by decide) hz
  replace hz := gfr_p (j := 144) (k := 2) (x := (1 : Int32)) (by decide) hz
  replace hz := gfr_m (j := 147) (k := 0) (by decide) hz
  replace hz := gfr_k (j := 145) (v := 1) (by decide) hz
  replace hz := gfr_m (j := 149) (k := 0) (by decide) hz
  replace hz := gfr_k (j := 145) (v := 2) (by decide) hz
  replace hz := gfr_m (j := 151) (k := 0) (by decide) hz
  replace hz := gfr_k (j := 145) (v := 3) (by decide) hz
  replace hz := gfr_m (j := 153) (k := 0) (by decide) hz
  replace hz := gfr_k (j := 145) (v := 4) (by decide) hz
  replace hz := gfr_k (j := 5) (v := 12) (by decide) hz
  replace hz := gfr_m (j := 155) (k := 0) (by decide) hz
  replace hz := gfr_m (j := 155) (k := 1) (by decide) hz
  replace hz := gfr_p (j := 155) (k := 2) (x := (1 : Int32)) (by decide) hz
  replace hz := gfr_m (j := 158) (k := 0) (by decide) hz
  replace hz := gfr_k (j := 156) (v := 1) (by decide) hz
  replace hz := gfr_m (j := 160) (k := 0) (by decide) hz
  replace hz := gfr_k (j := 156) (v := 2) (by decide) hz
  replace hz := gfr_m (j := 162) (k := 0) (by decide) hz
  replace hz := gfr_k (j := 156) (v := 3) (by decide) hz
  replace hz := gfr_m (j := 164) (k := 0) (by decide) hz
  replace hz := gfr_k (j := 156) (v := 4) (by decide) hz
  replace hz := gfr_k (j := 5) (v := 13) (by decide) hz
  replace hz := gfr_m (j := 166) (k := 0) (by decide) hz
  replace hz := gfr_m (j := 166) (k := 1) (by decide) hz
  replace hz := gfr_p (j := 166) (k := 2) (x := (1 : Int32)) (by decide) hz
  replace hz := gfr_m (j := 169) (k := 0) (by decide) hz
  replace hz := gfr_k (j := 167) (v := 1) (by decide) hz
  replace hz := gfr_m (j := 171) (k := 0) (by decide) hz
  replace hz := gfr_k (j := 167) (v := 2) (by decide) hz
  replace hz := gfr_m (j := 173) (k := 0) (by decide) hz
  replace hz := gfr_k (j := 167) (v := 3) (by decide) hz
  replace hz := gfr_m (j := 175) (k := 0) (by decide) hz
  replace hz := gfr_k (j := 167) (v := 4) (by decide) hz
  replace hz := gfr_k (j := 5) (v := 14) (by decide) hz
  replace hz := gfr_m (j := 177) (k := 0) (by decide) hz
  replace hz := gfr_m (j := 177) (k := 1) (by decide) hz
  replace hz := gfr_p (j := 177) (k := 2) (x := (1 : Int32)) (by decide) hz
  replace hz := gfr_m (j := 180) (k := 0) (by decide) hz
  replace hz := gfr_k (j := 178) (v := 1) (by decide) hz
  replace hz := gfr_m (j := 182) (k := 0) (by decide) hz
  replace hz := gfr_k (j := 178) (v := 2) (by decide) hz
  replace hz := gfr_m (j := 184) (k := 0) (by decide) hz
  replace hz := gfr_k (j := 178) (v := 3) (by decide) hz
  replace hz := gfr_m (j := 186) (k := 0) (by decide) hz
  replace hz := gfr_k (j := 178) (v := 4) (by decide) hz
  replace hz := gfr_k (j := 5) (v := 15) (by decide) hz
  replace hz := gfr_m (j := 188) (k := 0) (by decide) hz
  replace hz := gfr_m (j := 188) (k := 1) (by decide) hz
  replace hz := gfr_p (j := 188) (k := 2) (x := (1 : Int32)) (by decide) hz
  replace hz := gfr_m (j := 191) (k := 0) (by decide) hz
  replace hz := gfr_k (j := 189) (v := 1) (by decide) hz
  replace hz := gfr_m (j := 193) (k := 0) (by decide) hz
  replace hz := gfr_k (j := 189) (v := 2) (by decide) hz
  replace hz := gfr_m (j := 195) (k := 0) (by decide) hz
  replace hz := gfr_k (j := 189) (v := 3) (by decide) hz
  replace hz := gfr_m (j := 197) (k := 0) (by decide) hz
  replace hz := gfr_k (j := 189) (v := 4) (by decide) hz
  replace hz := gfr_k (j := 5) (v := 16) (by decide) hz
  replace hz := gfr_c (j := 6) (f := va_cpy (tab 0) ((pf (pf (pf (pf (pf (pf (pf (pf (pf (pf (pf (pf (pf (pf (pf (pf (pf (pf (pf (pf (pf (pf (pf (pf (pf (pf (pf (pf (pf (pf (pf (pf (pf (fun _ _ => 0) 0 4 (-1 : Int32)) 0 5 (-1 : Int32)) 0 6 (-1 : Int32)) 0 11 (1 : Int32)) 15 2 (1 : Int32)) 15 4 (-1 : Int32)) 15 6 (1 : Int32)) 20 0 (-1 : Int32)) 19 1 (0 : Int32)) 19 2 (0 : Int32)) 19 3 (-1 : Int32)) 19 4 (-1 : Int32)) 22 0 (-1 : Int32)) 21 1 (0 : Int32)) 21 2 (8 : Int32)) 21 3 (-1 : Int32)) 21 4 (-1 : Int32)) 23 2 (1 : Int32)) 34 2 (1 : Int32)) 45 2 (1 : Int32)) 56 2 (1 : Int32)) 67 2 (1 : Int32)) 78 2 (1 : Int32)) 89 2 (1 : Int32)) 100 2 (1 : Int32)) 111 2 (1 : Int32)) 122 2 (1 : Int32)) 133 2 (1 : Int32)) 144 2 (1 : Int32)) 155 2 (1 : Int32)) 166 2 (1 : Int32)) 177 2 (1 : Int32)) 188 2 (1 : Int32)) 6) (ix (0 : Int32)) (ix (0 : Int32)) (ix (9 : Int32))) (by decide) hz
  refine g_astoreL_n (L1 := [(0, _), (1, _)]) dL_law_7 rfl (by decide) rfl rfl ?_
  refine g_new (fs := [.null, .int 0, .null, .null, .null, .null, .null, .null, .null, .null, .int 0, .null, .null, .null, .null, .null, .null, .int 0, .int 0, .long 0, .int 0, .int 0, .int 0, .int 0, .null, .int 0, .int 0, .int 0, .null, .int 0, .long 0, .int 0, .int 0, .int 0, .null, .int 0, .long 0, .long 0, .int 0, .int 0, .int 0, .int 0, .int 0, .int 0, .long 0, .int 0, .int 0, .int 0, .int 0, .int 0, .int 0, .null, .int 0, .long 0]) gClX10 cl_L_10 it_X10 in_X10 (nf_X10 g) (by rw [hq_len]; decide) (Nat.le_of_ble_eq_true rfl) (Nat.le_of_ble_eq_true rfl) dL_law_8 rfl ?_
  refine g_heq (hq_push (cN_new hz (fun z => rfl) rfl)) (by rw [hq_len]) ?_
  replace hz := gfr_u (n1 := 200) (by decide) hz
  refine g_dup dL_law_11 rfl rfl ?_
  refine g_calli mt_X10_init mi_X10_init rfl rfl ml_L_12 (k_X10_199 l g _ _ _ _ hz) rfl (Nat.le_of_ble_eq_true rfl) (Nat.le_of_ble_eq_true rfl) (Nat.le_of_ble_eq_true rfl) (Nat.le_of_ble_eq_true rfl) rfl (Nat.le_of_ble_eq_true rfl) dL_law_12 rfl (fun r h p => ?_)
  obtain ⟨rfl, rfl⟩ := p
  replace hz := gfr_u (n1 := 219) (by decide) hz
  replace hz := gfr_m (j := 199) (k := 0) (by decide) hz
  replace hz := gfr_m (j := 199) (k := 2) (by decide) hz
  replace hz := gfr_m (j := 199) (k := 3) (by decide) hz
  replace hz := gfr_m (j := 199) (k := 4) (by decide) hz
  replace hz := gfr_m (j := 199) (k := 5) (by decide) hz
  replace hz := gfr_m (j := 199) (k := 6) (by decide) hz
  replace hz := gfr_m (j := 199) (k := 7) (by decide) hz
  replace hz := gfr_m (j := 199) (k := 8) (by decide) hz
  replace hz := gfr_m (j := 199) (k := 9) (by decide) hz
  replace hz := gfr_m (j := 199) (k := 11) (by decide) hz
  replace hz := gfr_m (j := 199) (k := 12) (by decide) hz
  replace hz := gfr_m (j := 199) (k := 13) (by decide) hz
  replace hz := gfr_m (j := 199) (k := 14) (by decide) hz
  replace hz := gfr_m (j := 199) (k := 15) (by decide) hz
  replace hz := gfr_m (j := 199) (k := 16) (by decide) hz
  replace hz := gfr_m (j := 199) (k := 24) (by decide) hz
  replace hz := gfr_m (j := 199) (k := 28) (by decide) hz
  replace hz := gfr_m (j := 199) (k := 34) (by decide) hz
  replace hz := gfr_m (j := 199) (k := 51) (by decide) hz
  replace hz := gfr_p (j := 212) (k := (ix (0 : Int32))) (x := (1 : Int32)) (by decide) hz
  replace hz := gfr_p (j := 212) (k := (ix ((0 : Int32) + Int32.ofInt (1)))) (x := (1 : Int32)) (by decide) hz
  replace hz := gfr_p (j := 212) (k := (ix (((0 : Int32) + Int32.ofInt (1)) + Int32.ofInt (1)))) (x := (1 : Int32)) (by decide) hz
  replace hz := gfr_p (j := 212) (k := (ix ((((0 : Int32) + Int32.ofInt (1)) + Int32.ofInt (1)) + Int32.ofInt (1)))) (x := (1 : Int32)) (by decide) hz
  replace hz := gfr_p (j := 212) (k := (ix (((((0 : Int32) + Int32.ofInt (1)) + Int32.ofInt (1)) + Int32.ofInt (1)) + Int32.ofInt (1)))) (x := (1 : Int32)) (by decide) hz
  replace hz := gfr_p (j := 212) (k := (ix ((((((0 : Int32) + Int32.ofInt (1)) + Int32.ofInt (1)) + Int32.ofInt (1)) + Int32.ofInt (1)) + Int32.ofInt (1)))) (x := (1 : Int32)) (by decide) hz
  replace hz := gfr_p (j := 212) (k := (ix (((((((0 : Int32) + Int32.ofInt (1)) + Int32.ofInt (1)) + Int32.ofInt (1)) + Int32.ofInt (1)) + Int32.ofInt (1)) + Int32.ofInt (1)))) (x := (1 : Int32)) (by decide) hz
  replace hz := gfr_p (j := 212) (k := (ix ((((((((0 : Int32) + Int32.ofInt (1)) + Int32.ofInt (1)) + Int32.ofInt (1)) + Int32.ofInt (1)) + Int32.ofInt (1)) + Int32.ofInt (1)) + Int32.ofInt (1)))) (x := (1 : Int32)) (by decide) hz
  replace hz := gfr_p (j := 212) (k := (ix (((((((((0 : Int32) + Int32.ofInt (1)) + Int32.ofInt (1)) + Int32.ofInt (1)) + Int32.ofInt (1)) + Int32.ofInt (1)) + Int32.ofInt (1)) + Int32.ofInt (1)) + Int32.ofInt (1)))) (x := (1 : Int32)) (by decide) hz
  replace hz := gfr_p (j := 212) (k := (ix ((((((((((0 : Int32) + Int32.ofInt (1)) + Int32.ofInt (1)) + Int32.ofInt (1)) + Int32.ofInt (1)) + Int32.ofInt (1)) + Int32.ofInt (1)) + Int32.ofInt (1)) + Int32.ofInt (1)) + Int32.ofInt (1)))) (x := (1 : Int32)) (by decide) hz
  replace hz := gfr_p (j := 212) (k := (ix (((((((((((0 : Int32) + Int32.ofInt (1)) + Int32.ofInt (1)) + Int32.ofInt (1)) + Int32.ofInt (1)) + Int32.ofInt (1)) + Int32.ofInt (1)) + Int32.ofInt (1)) + Int32.ofInt (1)) + Int32.ofInt (1)) + Int32.ofInt (1)))) (x := (1 : Int32)) (by decide) hz
  replace hz := gfr_p (j := 212) (k := (ix ((((((((((((0 : Int32) + Int32.ofInt (1)) + Int32.ofInt (1)) + Int32.ofInt (1)) + Int32.ofInt (1)) + Int32.ofInt (1)) + Int32.ofInt (1)) + Int32.ofInt (1)) + Int32.ofInt (1)) + Int32.ofInt (1)) + Int32.ofInt (1)) + Int32.ofInt (1)))) (x := (1 : Int32)) (by decide) hz
  replace hz := gfr_p (j := 212) (k := (ix (((((((((((((0 : Int32) + Int32.ofInt (1)) + Int32.ofInt (1)) + Int32.ofInt (1)) + Int32.ofInt (1)) + Int32.ofInt (1)) + Int32.ofInt (1)) + Int32.ofInt (1)) + Int32.ofInt (1)) + Int32.ofInt (1)) + Int32.ofInt (1)) + Int32.ofInt (1)) + Int32.ofInt (1)))) (x := (1 : Int32)) (by decide) hz
  replace hz := gfr_p (j := 212) (k := (ix ((((((((((((((0 : Int32) + Int32.ofInt (1)) + Int32.ofInt (1)) + Int32.ofInt (1)) + Int32.ofInt (1)) + Int32.ofInt (1)) + Int32.ofInt (1)) + Int32.ofInt (1)) + Int32.ofInt (1)) + Int32.ofInt (1)) + Int32.ofInt (1)) + Int32.ofInt (1)) + Int32.ofInt (1)) + Int32.ofInt (1)))) (x := (1 : Int32)) (by decide) hz
  replace hz := gfr_p (j := 212) (k := (ix (((((((((((((((0 : Int32) + Int32.ofInt (1)) + Int32.ofInt (1)) + Int32.ofInt (1)) + Int32.ofInt (1)) + Int32.ofInt (1)) + Int32.ofInt (1)) + Int32.ofInt (1)) + Int32.ofInt (1)) + Int32.ofInt (1)) + Int32.ofInt (1)) + Int32.ofInt (1)) + Int32.ofInt (1)) + Int32.ofInt (1)) + Int32.ofInt (1)))) (x := (1 : Int32)) (by decide) hz
  replace hz := gfr_p (j := 212) (k := (ix ((((((((((((((((0 : Int32) + Int32.ofInt (1)) + Int32.ofInt (1)) + Int32.ofInt (1)) + Int32.ofInt (1)) + Int32.ofInt (1)) + Int32.ofInt (1)) + Int32.ofInt (1)) + Int32.ofInt (1)) + Int32.ofInt (1)) + Int32.ofInt (1)) + Int32.ofInt (1)) + Int32.ofInt (1)) + Int32.ofInt (1)) + Int32.ofInt (1)) + Int32.ofInt (1)))) (x := (1 : Int32)) (by decide) hz
  replace hz := gfr_p (j := 199) (k := 20) (x := (-1 : Int32)) (by decide) hz
  replace hz := gfr_p (j := 199) (k := 21) (x := (-1 : Int32)) (by decide) hz
  replace hz := gfr_p (j := 199) (k := 22) (x := (-1 : Int32)) (by decide) hz
  replace hz := gfr_p (j := 199) (k := 25) (x := (-1 : Int32)) (by decide) hz
  replace hz := gfr_p (j := 199) (k := 41) (x := (8 : Int32)) (by decide) hz
  replace hz := gfr_p (j := 199) (k := 48) (x := (-1 : Int32)) (by decide) hz
  replace hz := gfr_p (j := 199) (k := 18) (x := (-1 : Int32)) (by decide) hz
  replace hz := gfr_p (j := 199) (k := 43) (x := (-1 : Int32)) (by decide) hz
  replace hz := gfr_p (j := 199) (k := 47) (x := (-1 : Int32)) (by decide) hz
  replace hz := gfr_p (j := 199) (k := 27) (x := (-1 : Int32)) (by decide) hz
  replace hz := gfr_p (j := 217) (k := (ix (0 : Int32))) (x := (15 : Int32)) (by decide) hz
  replace hz := gfr_p (j := 217) (k := (ix (1 : Int32))) (x := (10 : Int32)) (by decide) hz
  replace hz := gfr_p (j := 217) (k := (ix (2 : Int32))) (x := (20 : Int32)) (by decide) hz
  replace hz := gfr_p (j := 217) (k := (ix (3 : Int32))) (x := (10 : Int32)) (by decide) hz
  replace hz := gfr_p (j := 217) (k := (ix (4 : Int32))) (x := (200 : Int32)) (by decide) hz
  replace hz := gfr_p (j := 217) (k := (ix (5 : Int32))) (x := (0 : Int32)) (by decide) hz
  replace hz := gfr_p (j := 217) (k := (ix (6 : Int32))) (x := (12 : Int32)) (by decide) hz
  replace hz := gfr_p (j := 217) (k := (ix (7 : Int32))) (x := (0 : Int32)) (by decide) hz
  replace hz := gfr_p (j := 217) (k := (ix (8 : Int32))) (x := (999 : Int32)) (by decide) hz
  refine g_astoreL_n (L1 := [(0, _), (1, _), (2, _)]) dL_law_15 rfl (by decide) rfl rfl ?_
  refine g_iconst (v := 0) dL_law_16 (by decide) rfl ?_
  refine g_istoreL_n (L1 := [(0, _), (1, _), (2, _), (3, _)]) dL_law_17 rfl (by decide) rfl rfl ?_
  refine g_heq (h1 := hp sEnd zEnd) (hq_hp sEnd zEnd) rfl ?_
  exact t_L_law_L18 l g hX hfr hT 100 0 sEnd zEnd hQ hF
