/-! constructors: by program -/
set_option maxHeartbeats 4000000 in
set_option maxRecDepth 100000 in
theorem k_X9_0 (l : Launch) (g : gE) (m : gK) (κ : Nat → Nat) (σ : gS) (ζ : gQ) (hT : gTab g) (hz : gfr 1 m κ σ) : gC l g mX9_init (rmc 3 198 6416 63) [.ref 0] (hq 1 m κ σ ζ) (fun r h => r = none ∧ h = hq 199 (mset (mset (mset (mset (mset (mset (mset (mset (mset (mset (mset (mset (mset (mset (mset (mset (mset (mset (mset (mset (mset (mset (mset (mset (mset (mset (mset (mset (mset (mset (mset (mset (mset (mset (mset (mset (mset (mset (mset (mset (mset (mset (mset (mset (mset (mset (mset (mset (mset (mset (mset (mset (mset (mset (mset (mset (mset (mset (mset (mset (mset (mset (mset (mset (mset (mset (mset (mset (mset (mset (mset (mset (mset (mset (mset (mset (mset (mset (mset (mset (mset (mset (mset (mset (mset (mset (mset (mset (mset (mset (mset (mset (mset (mset (mset (mset (mset (mset (mset (mset (mset (mset (mset (mset (mset (mset (mset (mset (mset (mset (mset (mset (mset (mset (mset (mset (mset (mset m 1 0) 0 0) 3 0) 0 1) 0 3) 0 12) 7 0) 7 1) 7 2) 7 3) 0 13) 12 0) 12 1) 0 14) 16 0) 15 0) 0 15) 0 16) 19 0) 0 17) 21 0) 0 18) 23 0) 23 1) 26 0) 28 0) 30 0) 32 0) 34 0) 34 1) 37 0) 39 0) 41 0) 43 0) 45 0) 45 1) 48 0) 50 0) 52 0) 54 0) 56 0) 56 1) 59 0) 61 0) 63 0) 65 0) 67 0) 67 1) 70 0) 72 0) 74 0) 76 0) 78 0) 78 1) 81 0) 83 0) 85 0) 87 0) 89 0) 89 1) 92 0) 94 0) 96 0) 98 0) 100 0) 100 1) 103 0) 105 0) 107 0) 109 0) 111 0) 111 1) 114 0) 116 0) 118 0) 120 0) 122 0) 122 1) 125 0) 127 0) 129 0) 131 0) 133 0) 133 1) 136 0) 138 0) 140 0) 142 0) 144 0) 144 1) 147 0) 149 0) 151 0) 153 0) 155 0) 155 1) 158 0) 160 0) 162 0) 164 0) 166 0) 166 1) 169 0) 171 0) 173 0) 175 0) 177 0) 177 1) 180 0) 182 0) 184 0) 186 0) 188 0) 188 1) 191 0) 193 0) 195 0) 197 0) (va_up (va_up (va_up (va_up (va_up (va_up (va_up (va_up (va_up (va_up (va_up (va_up (va_up (va_up (va_up (va_up (va_up (va_up (va_up (va_up (va_up (va_up (va_up (va_up (va_up (va_up (va_up (va_up (va_up (va_up (va_up (va_up (va_up (va_up (va_up (va_up (va_up (va_up (va_up (va_up (va_up (va_up (va_up (va_up (va_up (va_up (va_up (va_up (va_up (va_up (va_up (va_up (va_up (va_up (va_up (va_up (va_up (va_up (va_up (va_up (va_up (va_up (va_up (va_up (va_up (va_up (va_up (va_up (va_up (va_up (va_up (va_up (va_up (va_up (va_up (va_up (va_up (va_up (va_up (va_up κ 24 1) 24 2) 24 3) 24 4) 5 1) 35 1) 35 2) 35 3) 35 4) 5 2) 46 1) 46 2) 46 3) 46 4) 5 3) 57 1) 57 2) 57 3) 57 4) 5 4) 68 1) 68 2) 68 3) 68 4) 5 5) 79 1) 79 2) 79 3) 79 4) 5 6) 90 1) 90 2) 90 3) 90 4) 5 7) 101 1) 101 2) 101 3) 101 4) 5 8) 112 1) 112 2) 112 3) 112 4) 5 9) 123 1) 123 2) 123 3) 123 4) 5 10) 134 1) 134 2) 134 3) 134 4) 5 11) 145 1) 145 2) 145 3) 145 4) 5 12) 156 1) 156 2) 156 3) 156 4) 5 13) 167 1) 167 2) 167 3) 167 4) 5 14) 178 1) 178 2) 178 3) 178 4) 5 15) 189 1) 189 2) 189 3) 189 4) 5 16) (va_up (pf (pf (pf (pf (pf (pf (pf (pf (pf (pf (pf (pf (pf (pf (pf (pf (pf (pf (pf (pf (pf (pf (pf (pf (pf (pf (pf (pf (pf (pf (pf (pf (pf σ 0 4 (-1 : Int32)) 0 5 (-1 : Int32)) 0 6 (-1 : Int32)) 0 11 (1 : Int32)) 15 2 (1 : Int32)) 15 4 (-1 : Int32)) 15 6 (1 : Int32)) 20 0 (-1 : Int32)) 19 1 (0 : Int32)) 19 2 (0 : Int32)) 19 3 (-1 : Int32)) 19 4 (-1 : Int32)) 22 0 (-1 : Int32)) 21 1 (0 : Int32)) 21 2 (8 : Int32)) 21 3 (-1 : Int32)) 21 4 (-1 : Int32)) 23 2 (1 : Int32)) 34 2 (1 : Int32)) 45 2 (1 : Int32)) 56 2 (1 : Int32)) 67 2 (1 : Int32)) 78 2 (1 : Int32)) 89 2 (1 : Int32)) 100 2 (1 : Int32)) 111 2 (1 : Int32)) 122 2 (1 : Int32)) 133 2 (1 : Int32)) 144 2 (1 : Int32)) 155 2 (1 : Int32)) 166 2 (1 : Int32)) 177 2 (1 : Int32)) 188 2 (1 : Int32)) 6 (va_cpy (tab 0) ((pf (pf (pf (pf (pf (pf (pf (pf (pf (pf (pf (pf (pf (pf (pf (pf (pf (pf (pf (pf (pf (pf (pf (pf (pf (pf (pf (pf (pf (pf (pf (pf (pf σ 0 4 (-1 : Int32)) 0 5 (-1 : Int32)) 0 6 (-1 : Int32)) 0 11 (1 : Int32)) 15 2 (1 : Int32)) 15 4 (-1 : Int32)) 15 6 (1 : Int32)) 20 0 (-1 : Int32)) 19 1 (0 : Int32)) 19 2 (0 : Int32)) 19 3 (-1 : Int32)) 19 4 (-1 : Int32)) 22 0 (-1 : Int32)) 21 1 (0 : Int32)) 21 2 (8 : Int32)) 21 3 (-1 : Int32)) 21 4 (-1 : Int32)) 23 2 (1 : Int32)) 34 2 (1 : Int32)) 45 2 (1 : Int32)) 56 2 (1 : Int32)) 67 2 (1 : Int32)) 78 2 (1 : Int32)) 89 2 (1 : Int32)) 100 2 (1 : Int32)) 111 2 (1 : Int32)) 122 2 (1 : Int32)) 133 2 (1 : Int32)) 144 2 (1 : Int32)) 155 2 (1 : Int32)) 166 2 (1 : Int32)) 177 2 (1 : Int32)) 188 2 (1 : Int32)) 6) (ix (0 : Int32)) (ix (0 : Int32)) (ix (9 : Int32)))) ζ) := by
  refine gC_of (by decide) (Nat.le_of_ble_eq_true rfl) ?_
  refine g_aload_n dX9_init_0 rfl rfl rfl ?_
  refine g_obj ml_X9_1 im_obj cd_obj (Nat.le_of_ble_eq_true rfl) (Nat.le_of_ble_eq_true rfl) dX9_init_1 rfl ?_
  refine g_aload_n dX9_init_4 rfl rfl rfl ?_
  refine g_new (fs := [.null, .int 0]) gClX0 cl_X9_7 it_X0 in_X0 (nf_X0 g) (by rw [hq_len]; decide) (Nat.le_of_ble_eq_true rfl) (Nat.le_of_ble_eq_true rfl) dX9_init_5 rfl ?_
  refine g_heq (hq_push (cN_new hz (fun z => absurd z (by decide)) rfl)) (by rw [hq_len]) ?_
  replace hz := gfr_u (n1 := 2) (by decide) hz
  refine g_dup dX9_init_8 rfl rfl ?_
  refine g_sipush (v := 400) dX9_init_9 (by decide) rfl ?_
  refine g_calli mt_X0_init mi_X0_init rfl rfl ml_X9_11 (k_X0_1 l g _ _ _ _ hz) rfl (Nat.le_of_ble_eq_true rfl) (Nat.le_of_ble_eq_true rfl) (Nat.le_of_ble_eq_true rfl) (Nat.le_of_ble_eq_true rfl) rfl (Nat.le_of_ble_eq_true rfl) dX9_init_12 rfl (fun r h p => ?_)
  obtain ⟨rfl, rfl⟩ := p
  replace hz := gfr_u (n1 := 3) (by decide) hz
  replace hz := gfr_m (j := 1) (k := 0) (by decide) hz
  refine g_putF gClX9 0 (by decide) fl_X9_14 rfl rfl rfl dX9_init_15 (hq_at (by decide)) rfl rfl (Nat.le_of_ble_eq_true rfl) (hq_ms (by decide) rfl) rfl ?_
  replace hz := gfr_m (j := 0) (k := 0) (by decide) hz
  refine g_aload_n dX9_init_18 rfl rfl rfl ?_
  refine g_new (fs := [.null, .int 0]) gClX0 cl_X9_7 it_X0 in_X0 (nf_X0 g) (by rw [hq_len]; decide) (Nat.le_of_ble_eq_true rfl) (Nat.le_of_ble_eq_true rfl) dX9_init_19 rfl ?_
  refine g_heq (hq_push (cN_new hz (fun z => absurd z (by decide)) rfl)) (by rw [hq_len]) ?_
  replace hz := gfr_u (n1 := 4) (by decide) hz
  refine g_dup dX9_init_22 rfl rfl ?_
  refine g_sipush (v := 400) dX9_init_23 (by decide) rfl ?_
  refine g_calli mt_X0_init mi_X0_init rfl rfl ml_X9_11 (k_X0_3 l g _ _ _ _ hz) rfl (Nat.le_of_ble_eq_true rfl) (Nat.le_of_ble_eq_true rfl) (Nat.le_of_ble_eq_true rfl) (Nat.le_of_ble_eq_true rfl) rfl (Nat.le_of_ble_eq_true rfl) dX9_init_26 rfl (fun r h p => ?_)
  obtain ⟨rfl, rfl⟩ := p
  replace hz := gfr_u (n1 := 5) (by decide) hz
  replace hz := gfr_m (j := 3) (k := 0) (by decide) hz
  refine g_putF gClX9 1 (by decide) fl_X9_18 rfl rfl rfl dX9_init_29 (hq_at (by decide)) rfl rfl (Nat.le_of_ble_eq_true rfl) (hq_ms (by decide) rfl) rfl ?_
  replace hz := gfr_m (j := 0) (k := 1) (by decide) hz
  refine g_aload_n dX9_init_32 rfl rfl rfl ?_
  refine g_bipush (v := 16) dX9_init_33 (by decide) rfl ?_
  refine g_newq (t := 3) (N := 16) rfl cl_X9_21 (Or.inl rfl) (by decide +kernel) (by decide +kernel) (by decide) (by rw [hq_len]; decide) (Nat.le_of_ble_eq_true rfl) (Nat.le_of_ble_eq_true rfl) dX9_init_35 rfl ?_
  have hk5 := (hz 5 (by decide)).2.1
  refine g_heq (hq_push (cN_new hz (fun z => absurd z (by decide)) rfl)) (by rw [hq_len]) ?_
  replace hz := gfr_u (n1 := 6) (by decide) hz
  refine g_putF gClX9 3 (by decide) fl_X9_23 rfl rfl rfl dX9_init_38 (hq_at (by decide)) rfl rfl (Nat.le_of_ble_eq_true rfl) (hq_ms (by decide) rfl) rfl ?_
  replace hz := gfr_m (j := 0) (k := 3) (by decide) hz
  refine g_aload_n dX9_init_41 rfl rfl rfl ?_
  refine g_iconst (v := (-1)) dX9_init_42 (by decide) rfl ?_
  refine g_put gClX9 4 (by decide) fl_X9_27 rfl dX9_init_43 (hq_at (by decide)) rfl rfl (Nat.le_of_ble_eq_true rfl) (hq_pf (by decide) rfl) rfl ?_
  replace hz := gfr_p (j := 0) (k := 4) (x := (-1 : Int32)) (by decide) hz
  refine g_aload_n dX9_init_46 rfl rfl rfl ?_
  refine g_iconst (v := (-1)) dX9_init_47 (by decide) rfl ?_
  refine g_put gClX9 5 (by decide) fl_X9_31 rfl dX9_init_48 (hq_at (by decide)) rfl rfl (Nat.le_of_ble_eq_true rfl) (hq_pf (by decide) rfl) rfl ?_
  replace hz := gfr_p (j := 0) (k := 5) (x := (-1 : Int32)) (by decide) hz
  refine g_aload_n dX9_init_51 rfl rfl rfl ?_
  refine g_iconst (v := (-1)) dX9_init_52 (by decide) rfl ?_
  refine g_put gClX9 6 (by decide) fl_X9_34 rfl dX9_init_53 (hq_at (by decide)) rfl rfl (Nat.le_of_ble_eq_true rfl) (hq_pf (by decide) rfl) rfl ?_
  replace hz := gfr_p (j := 0) (k := 6) (x := (-1 : Int32)) (by decide) hz
  refine g_aload_n dX9_init_56 rfl rfl rfl ?_
  refine g_iconst (v := 1) dX9_init_57 (by decide) rfl ?_
  refine g_put gClX9 11 (by decide) fl_X9_37 rfl dX9_init_58 (hq_at (by decide)) rfl rfl (Nat.le_of_ble_eq_true rfl) (hq_pf (by decide) rfl) rfl ?_
  replace hz := gfr_p (j := 0) (k := 11) (x := (1 : Int32)) (by decide) hz
  refine g_aload_n dX9_init_61 rfl rfl rfl ?_
  refine g_bipush (v := 9) dX9_init_62 (by decide) rfl ?_
  refine g_newa (at_ := .int) (ty := .int) (t := 0) (N := 9) rfl rfl aw_int rfl (by decide +kernel) (by decide +kernel) (by decide) (by rw [hq_len]; decide) (Nat.le_of_ble_eq_true rfl) (Nat.le_of_ble_eq_true rfl) (fun _ z => by cases z) dX9_init_64 rfl ?_
  refine g_heq (hq_push (cN_new hz (fun z => absurd z (by decide)) rfl)) (by rw [hq_len]) ?_
  replace hz := gfr_u (n1 := 7) (by decide) hz
  refine g_putF gClX9 12 (by decide) fl_X9_40 rfl rfl rfl dX9_init_66 (hq_at (by decide)) rfl rfl (Nat.le_of_ble_eq_true rfl) (hq_ms (by decide) rfl) rfl ?_
  replace hz := gfr_m (j := 0) (k := 12) (by decide) hz
  refine g_aload_n dX9_init_69 rfl rfl rfl ?_
  refine g_new (fs := [.null, .null, .null, .null]) gClX7 cl_X9_44 it_X7 in_X7 (nf_X7 g) (by rw [hq_len]; decide) (Nat.le_of_ble_eq_true rfl) (Nat.le_of_ble_eq_true rfl) dX9_init_70 rfl ?_
  refine g_heq (hq_push (cN_new hz (fun z => absurd z (by decide)) rfl)) (by rw [hq_len]) ?_
  replace hz := gfr_u (n1 := 8) (by decide) hz
  refine g_dup dX9_init_73 rfl rfl ?_
  refine g_calliN mt_X7_init mi_X7_init rfl rfl (j := 0) rfl (k_X7_7 l g _ _ _ _ hz) rfl (Nat.le_of_ble_eq_true rfl) (Nat.le_of_ble_eq_true rfl) (Nat.le_of_ble_eq_true rfl) (Nat.le_of_ble_eq_true rfl) rfl (Nat.le_of_ble_eq_true rfl) dX9_init_74 rfl (fun r h p => ?_)
  obtain ⟨rfl, rfl⟩ := p
  replace hz := gfr_u (n1 := 12) (by decide) hz
  replace hz := gfr_m (j := 7) (k := 0) (by decide) hz
  replace hz := gfr_m (j := 7) (k := 1) (by decide) hz
  replace hz := gfr_m (j := 7) (k := 2) (by decide) hz
  replace hz := gfr_m (j := 7) (k := 3) (by decide) hz
  refine g_putF gClX9 13 (by decide) fl_X9_47 rfl rfl rfl dX9_init_77 (hq_at (by decide)) rfl rfl (Nat.le_of_ble_eq_true rfl) (hq_ms (by decide) rfl) rfl ?_
  replace hz := gfr_m (j := 0) (k := 13) (by decide) hz
  refine g_aload_n dX9_init_80 rfl rfl rfl ?_
  refine g_new (fs := [.null, .null, .int 0]) gClX4 cl_X9_51 it_X4 in_X4 (nf_X4 g) (by rw [hq_len]; decide) (Nat.le_of_ble_eq_true rfl) (Nat.le_of_ble_eq_true rfl) dX9_init_81 rfl ?_
  refine g_heq (hq_push (cN_new hz (fun z => absurd z (by decide)) rfl)) (by rw [hq_len]) ?_
  replace hz := gfr_u (n1 := 13) (by decide) hz
  refine g_dup dX9_init_84 rfl rfl ?_
  refine g_calliN mt_X4_init mi_X4_init rfl rfl (j := 1) rfl (k_X4_12 l g _ _ _ _ hz) rfl (Nat.le_of_ble_eq_true rfl) (Nat.le_of_ble_eq_true rfl) (Nat.le_of_ble_eq_true rfl) (Nat.le_of_ble_eq_true rfl) rfl (Nat.le_of_ble_eq_true rfl) dX9_init_85 rfl (fun r h p => ?_)
  obtain ⟨rfl, rfl⟩ := p
  replace hz := gfr_u (n1 := 15) (by decide) hz
  replace hz := gfr_m (j := 12) (k := 0) (by decide) hz
  replace hz := gfr_m (j := 12) (k := 1) (by decide) hz
  refine g_putF gClX9 14 (by decide) fl_X9_54 rfl rfl rfl dX9_init_88 (hq_at (by decide)) rfl rfl (Nat.le_of_ble_eq_true rfl) (hq_ms (by decide) rfl) rfl ?_
  replace hz := gfr_m (j := 0) (k := 14) (by decide) hz
  refine g_aload_n dX9_init_91 rfl rfl rfl ?_
  refine g_new (fs := [.null, .int 0, .int 0, .int 0, .int 0, .int 0, .int 0]) gClX3 cl_X9_58 it_X3 in_X3 (nf_X3 g) (by rw [hq_len]; decide) (Nat.le_of_ble_eq_true rfl) (Nat.le_of_ble_eq_true rfl) dX9_init_92 rfl ?_
  refine g_heq (hq_push (cN_new hz (fun z => absurd z (by decide)) rfl)) (by rw [hq_len]) ?_
  replace hz := gfr_u (n1 := 16) (by decide) hz
  refine g_dup dX9_init_95 rfl rfl ?_
  refine g_calliN mt_X3_init mi_X3_init rfl rfl (j := 2) rfl (k_X3_15 l g _ _ _ _ hz) rfl (Nat.le_of_ble_eq_true rfl) (Nat.le_of_ble_eq_true rfl) (Nat.le_of_ble_eq_true rfl) (Nat.le_of_ble_eq_true rfl) rfl (Nat.le_of_ble_eq_true rfl) dX9_init_96 rfl (fun r h p => ?_)
  obtain ⟨rfl, rfl⟩ := p
  replace hz := gfr_u (n1 := 18) (by decide) hz
  replace hz := gfr_m (j := 16) (k := 0) (by decide) hz
  replace hz := gfr_m (j := 15) (k := 0) (by decide) hz
  replace hz := gfr_p (j := 15) (k := 2) (x := (1 : Int32)) (by decide) hz
  replace hz := gfr_p (j := 15) (k := 4) (x := (-1 : Int32)) (by decide) hz
  replace hz := gfr_p (j := 15) (k := 6) (x := (1 : Int32)) (by decide) hz
  refine g_putF gClX9 15 (by decide) fl_X9_61 rfl rfl rfl dX9_init_99 (hq_at (by decide)) rfl rfl (Nat.le_of_ble_eq_true rfl) (hq_ms (by decide) rfl) rfl ?_
  replace hz := gfr_m (j := 0) (k := 15) (by decide) hz
  refine g_aload_n dX9_init_102 rfl rfl rfl ?_
  refine g_new (fs := [.int 0, .int 0, .int 0, .int 0]) gClX5 cl_X9_65 it_X5 in_X5 (nf_X5 g) (by rw [hq_len]; decide) (Nat.le_of_ble_eq_true rfl) (Nat.le_of_ble_eq_true rfl) dX9_init_103 rfl ?_
  refine g_heq (hq_push (cN_new hz (fun z => absurd z (by decide)) rfl)) (by rw [hq_len]) ?_
  replace hz := gfr_u (n1 := 19) (by decide) hz
  refine g_dup dX9_init_106 rfl rfl ?_
  refine g_calliN mt_X5_init mi_X5_init rfl rfl (j := 3) rfl (k_X5_18 l g _ _ _ _ hz) rfl (Nat.le_of_ble_eq_true rfl) (Nat.le_of_ble_eq_true rfl) (Nat.le_of_ble_eq_true rfl) (Nat.le_of_ble_eq_true rfl) rfl (Nat.le_of_ble_eq_true rfl) dX9_init_107 rfl (fun r h p => ?_)
  obtain ⟨rfl, rfl⟩ := p
  replace hz := gfr_u (n1 := 19) (by decide) hz
  refine g_putF gClX9 16 (by decide) fl_X9_68 rfl rfl rfl dX9_init_110 (hq_at (by decide)) rfl rfl (Nat.le_of_ble_eq_true rfl) (hq_ms (by decide) rfl) rfl ?_
  replace hz := gfr_m (j := 0) (k := 16) (by decide) hz
  refine g_aload_n dX9_init_113 rfl rfl rfl ?_
  refine g_new (fs := [.null, .int 0, .int 0, .int 0, .int 0, .int 0]) gClX6 cl_X9_72 it_X6 in_X6 (nf_X6 g) (by rw [hq_len]; decide) (Nat.le_of_ble_eq_true rfl) (Nat.le_of_ble_eq_true rfl) dX9_init_114 rfl ?_
  refine g_heq (hq_push (cN_new hz (fun z => absurd z (by decide)) rfl)) (by rw [hq_len]) ?_
  replace hz := gfr_u (n1 := 20) (by decide) hz
  refine g_dup dX9_init_117 rfl rfl ?_
  refine g_calliN mt_X6_init mi_X6_init rfl rfl (j := 4) rfl (k_X6_19 l g _ _ _ _ hz) rfl (Nat.le_of_ble_eq_true rfl) (Nat.le_of_ble_eq_true rfl) (Nat.le_of_ble_eq_true rfl) (Nat.le_of_ble_eq_true rfl) rfl (Nat.le_of_ble_eq_true rfl) dX9_init_118 rfl (fun r h p => ?_)
  obtain ⟨rfl, rfl⟩ := p
  replace hz := gfr_u (n1 := 21) (by decide) hz
  replace hz := gfr_p (j := 20) (k := 0) (x := (-1 : Int32)) (by decide) hz
  replace hz := gfr_m (j := 19) (k := 0) (by decide) hz
  replace hz := gfr_p (j := 19) (k := 1) (x := (0 : Int32)) (by decide) hz
  replace hz := gfr_p (j := 19) (k := 2) (x := (0 : Int32)) (by decide) hz
  replace hz := gfr_p (j := 19) (k := 3) (x := (-1 : Int32)) (by decide) hz
  replace hz := gfr_p (j := 19) (k := 4) (x := (-1 : Int32)) (by decide) hz
  refine g_putF gClX9 17 (by decide) fl_X9_75 rfl rfl rfl dX9_init_121 (hq_at (by decide)) rfl rfl (Nat.le_of_ble_eq_true rfl) (hq_ms (by decide) rfl) rfl ?_
  replace hz := gfr_m (j := 0) (k := 17) (by decide) hz
  refine g_aload_n dX9_init_124 rfl rfl rfl ?_
  refine g_new (fs := [.null, .int 0, .int 0, .int 0, .int 0, .int 0, .int 0, .int 0]) gClX2 cl_X9_79 it_X2 in_X2 (nf_X2 g) (by rw [hq_len]; decide) (Nat.le_of_ble_eq_true rfl) (Nat.le_of_ble_eq_true rfl) dX9_init_125 rfl ?_
  refine g_heq (hq_push (cN_new hz (fun z => absurd z (by decide)) rfl)) (by rw [hq_len]) ?_
  replace hz := gfr_u (n1 := 22) (by decide) hz
  refine g_dup dX9_init_128 rfl rfl ?_
  refine g_calliN mt_X2_init mi_X2_init rfl rfl (j := 6) rfl (k_X2_21 l g _ _ _ _ hz) rfl (Nat.le_of_ble_eq_true rfl) (Nat.le_of_ble_eq_true rfl) (Nat.le_of_ble_eq_true rfl) (Nat.le_of_ble_eq_true rfl) rfl (Nat.le_of_ble_eq_true rfl) dX9_init_129 rfl (fun r h p => ?_)
  obtain ⟨rfl, rfl⟩ := p
  replace hz := gfr_u (n1 := 23) (by decide) hz
  replace hz := gfr_p (j := 22) (k := 0) (x := (-1 : Int32)) (by decide) hz
  replace hz := gfr_m (j := 21) (k := 0) (by decide) hz
  replace hz := gfr_p (j := 21) (k := 1) (x := (0 : Int32)) (by decide) hz
  replace hz := gfr_p (j := 21) (k := 2) (x := (8 : Int32)) (by decide) hz
  replace hz := gfr_p (j := 21) (k := 3) (x := (-1 : Int32)) (by decide) hz
  replace hz := gfr_p (j := 21) (k := 4) (x := (-1 : Int32)) (by decide) hz
  refine g_putF gClX9 18 (by decide) fl_X9_82 rfl rfl rfl dX9_init_132 (hq_at (by decide)) rfl rfl (Nat.le_of_ble_eq_true rfl) (hq_ms (by decide) rfl) rfl ?_
  replace hz := gfr_m (j := 0) (k := 18) (by decide) hz
  refine g_iconst (v := 0) dX9_init_135 (by decide) rfl ?_
  refine g_istoreL_n (L1 := [(0, _), (1, _)]) dX9_init_136 rfl (by decide) rfl rfl ?_
  refine g_iload_n dX9_init_137 rfl rfl rfl ?_
  refine g_bipush (v := 16) dX9_init_138 (by decide) rfl ?_
  refine g_icmpge (tgt := 162) dX9_init_140 (by decide) rfl (fun z => absurd z (by decide +kernel)) (fun _ => ?_)
  refine g_aload_n dX9_init_143 rfl rfl rfl ?_
  refine g_get (v := .ref 5) gClX9 3 (by decide) fl_X9_23 dX9_init_144 (hq_at (by decide)) rfl rfl ?_
  refine g_iload_n dX9_init_147 rfl rfl rfl ?_
  refine g_new (fs := [.null, .null, .int 0]) gClX1 cl_X9_21 it_X1 in_X1 (nf_X1 g) (by rw [hq_len]; decide) (Nat.le_of_ble_eq_true rfl) (Nat.le_of_ble_eq_true rfl) dX9_init_148 rfl ?_
  refine g_heq (hq_push (cN_new hz (fun z => absurd z (by decide)) rfl)) (by rw [hq_len]) ?_
  replace hz := gfr_u (n1 := 24) (by decide) hz
  refine g_dup dX9_init_151 rfl rfl ?_
  refine g_calli mt_X1_init mi_X1_init rfl rfl ml_X9_86 (k_X1_23 l g _ _ _ _ hz) rfl (Nat.le_of_ble_eq_true rfl) (Nat.le_of_ble_eq_true rfl) (Nat.le_of_ble_eq_true rfl) (Nat.le_of_ble_eq_true rfl) rfl (Nat.le_of_ble_eq_true rfl) dX9_init_152 rfl (fun r h p => ?_)
  obtain ⟨rfl, rfl⟩ := p
  replace hz := gfr_u (n1 := 34) (by decide) hz
  replace hz := gfr_m (j := 23) (k := 0) (by decide) hz
  replace hz := gfr_m (j := 23) (k := 1) (by decide) hz
  replace hz := gfr_p (j := 23) (k := 2) (x := (1 : Int32)) (by decide) hz
  replace hz := gfr_m (j := 26) (k := 0) (by decide) hz
  replace hz := gfr_k (j := 24) (v := 1) (by decide) hz
  replace hz := gfr_m (j := 28) (k := 0) (by decide) hz
  replace hz := gfr_k (j := 24) (v := 2) (by decide) hz
  replace hz := gfr_m (j := 30) (k := 0) (by decide) hz
  replace hz := gfr_k (j := 24) (v := 3) (by decide) hz
  replace hz := gfr_m (j := 32) (k := 0) (by decide) hz
  replace hz := gfr_k (j := 24) (v := 4) (by decide) hz
  refine g_aast3 (hq_at (by decide)) (hq_at (by decide)) rfl (vinc (by decide +kernel)) (hq_a5 (i := 0) (by decide) (by decide +kernel) hk5 rfl) dX9_init_155 rfl ?_
  replace hz := gfr_k (j := 5) (v := 1) (by decide) hz
  refine g_iincL (L1 := [(0, _), (1, _)]) dX9_init_156 rfl (by decide) rfl rfl ?_
  refine g_goto (tgt := 137) dX9_init_159 (by decide) ?_
  refine g_iload_n dX9_init_137 rfl rfl rfl ?_
  refine g_bipush (v := 16) dX9_init_138 (by decide) rfl ?_
  refine g_icmpge (tgt := 162) dX9_init_140 (by decide) rfl (fun z => absurd z (by decide +kernel)) (fun _ => ?_)
  refine g_aload_n dX9_init_143 rfl rfl rfl ?_
  refine g_get (v := .ref 5) gClX9 3 (by decide) fl_X9_23 dX9_init_144 (hq_at (by decide)) rfl rfl ?_
  refine g_iload_n dX9_init_147 rfl rfl rfl ?_
  refine g_new (fs := [.null, .null, .int 0]) gClX1 cl_X9_21 it_X1 in_X1 (nf_X1 g) (by rw [hq_len]; decide) (Nat.le_of_ble_eq_true rfl) (Nat.le_of_ble_eq_true rfl) dX9_init_148 rfl ?_
  refine g_heq (hq_push (cN_new hz (fun z => absurd z (by decide)) rfl)) (by rw [hq_len]) ?_
  replace hz := gfr_u (n1 := 35) (by decide) hz
  refine g_dup dX9_init_151 rfl rfl ?_
  refine g_calli mt_X1_init mi_X1_init rfl rfl ml_X9_86 (k_X1_34 l g _ _ _ _ hz) rfl (Nat.le_of_ble_eq_true rfl) (Nat.le_of_ble_eq_true rfl) (Nat.le_of_ble_eq_true rfl) (Nat.le_of_ble_eq_true rfl) rfl (Nat.le_of_ble_eq_true rfl) dX9_init_152 rfl (fun r h p => ?_)
  obtain ⟨rfl, rfl⟩ := p
  replace hz := gfr_u (n1 := 45) (by decide) hz
  replace hz := gfr_m (j := 34) (k := 0) (by decide) hz
  replace hz := gfr_m (j := 34) (k := 1) (by decide) hz
  replace hz := gfr_p (j := 34) (k := 2) (x := (1 : Int32)) (by decide) hz
  replace hz := gfr_m (j := 37) (k := 0) (by decide) hz
  replace hz := gfr_k (j := 35) (v := 1) (by decide) hz
  replace hz := gfr_m (j := 39) (k := 0) (by decide) hz
  replace hz := gfr_k (j := 35) (v := 2) (by decide) hz
  replace hz := gfr_m (j := 41) (k := 0) (by decide) hz
  replace hz := gfr_k (j := 35) (v := 3) (by decide) hz
  replace hz := gfr_m (j := 43) (k := 0) (by decide) hz
  replace hz := gfr_k (j := 35) (v := 4) (by decide) hz
  refine g_aast3 (hq_at (by decide)) (hq_at (by decide)) rfl (vinc (by decide +kernel)) (hq_a5 (i := 1) (by decide) (by decide +kernel) rfl rfl) dX9_init_155 rfl ?_
  replace hz := gfr_k (j := 5) (v := 2) (by decide) hz
  refine g_iincL (L1 := [(0, _), (1, _)]) dX9_init_156 rfl (by decide) rfl rfl ?_
  refine g_goto (tgt := 137) dX9_init_159 (by decide) ?_
  refine g_iload_n dX9_init_137 rfl rfl rfl ?_
  refine g_bipush (v := 16) dX9_init_138 (by decide) rfl ?_
  refine g_icmpge (tgt := 162) dX9_init_140 (by decide) rfl (fun z => absurd z (by decide +kernel)) (fun _ => ?_)
  refine g_aload_n dX9_init_143 rfl rfl rfl ?_
  refine g_get (v := .ref 5) gClX9 3 (by decide) fl_X9_23 dX9_init_144 (hq_at (by decide)) rfl rfl ?_
  refine g_iload_n dX9_init_147 rfl rfl rfl ?_
  refine g_new (fs := [.null, .null, .int 0]) gClX1 cl_X9_21 it_X1 in_X1 (nf_X1 g) (by rw [hq_len]; decide) (Nat.le_of_ble_eq_true rfl) (Nat.le_of_ble_eq_true rfl) dX9_init_148 rfl ?_
  refine g_heq (hq_push (cN_new hz (fun z => absurd z (by decide)) rfl)) (by rw [hq_len]) ?_
  replace hz := gfr_u (n1 := 46) (by decide) hz
  refine g_dup dX9_init_151 rfl rfl ?_
  refine g_calli mt_X1_init mi_X1_init rfl rfl ml_X9_86 (k_X1_45 l g _ _ _ _ hz) rfl (Nat.le_of_ble_eq_true rfl) (Nat.le_of_ble_eq_true rfl) (Nat.le_of_ble_eq_true rfl) (Nat.le_of_ble_eq_true rfl) rfl (Nat.le_of_ble_eq_true rfl) dX9_init_152 rfl (fun r h p => ?_)
  obtain ⟨rfl, rfl⟩ := p
  replace hz := gfr_u (n1 := 56) (by decide) hz
  replace hz := gfr_m (j := 45) (k := 0) (by decide) hz
  replace hz := gfr_m (j := 45) (k := 1) (by decide) hz
  replace hz := gfr_p (j := 45) (k := 2) (x := (1 : Int32)) (by decide) hz
  replace hz := gfr_m (j := 48) (k := 0) (by decide) hz
  replace hz := gfr_k (j := 46) (v := 1) (by decide) hz
  replace hz := gfr_m (j := 50) (k := 0) (by decide) hz
  replace hz := gfr_k (j := 46) (v := 2) (by decide) hz
  replace hz := gfr_m (j := 52) (k := 0) (by decide) hz
  replace hz := gfr_k (j := 46) (v := 3) (by decide) hz
  replace hz := gfr_m (j := 54) (k := 0) (by decide) hz
  replace hz := gfr_k (j := 46) (v := 4) (by decide) hz
  refine g_aast3 (hq_at (by decide)) (hq_at (by decide)) rfl (vinc (by decide +kernel)) (hq_a5 (i := 2) (by decide) (by decide +kernel) rfl rfl) dX9_init_155 rfl ?_
  replace hz := gfr_k (j := 5) (v := 3) (by decide) hz
  refine g_iincL (L1 := [(0, _), (1, _)]) dX9_init_156 rfl (by decide) rfl rfl ?_
  refine g_goto (tgt := 137) dX9_init_159 (by decide) ?_
  refine g_iload_n dX9_init_137 rfl rfl rfl ?_
  refine g_bipush (v := 16) dX9_init_138 (by decide) rfl ?_
  refine g_icmpge (tgt := 162) dX9_init_140 (by decide) rfl (fun z => absurd z (by decide +kernel)) (fun _ => ?_)
  refine g_aload_n dX9_init_143 rfl rfl rfl ?_
  refine g_get (v := .ref 5) gClX9 3 (by decide) fl_X9_23 dX9_init_144 (hq_at (by decide)) rfl rfl ?_
  refine g_iload_n dX9_init_147 rfl rfl rfl ?_
  refine g_new (fs := [.null, .null, .int 0]) gClX1 cl_X9_21 it_X1 in_X1 (nf_X1 g) (by rw [hq_len]; decide) (Nat.le_of_ble_eq_true rfl) (Nat.le_of_ble_eq_true rfl) dX9_init_148 rfl ?_
  refine g_heq (hq_push (cN_new hz (fun z => absurd z (by decide)) rfl)) (by rw [hq_len]) ?_
  replace hz := gfr_u (n1 := 57) (by decide) hz
  refine g_dup dX9_init_151 rfl rfl ?_
  refine g_calli mt_X1_init mi_X1_init rfl rfl ml_X9_86 (k_X1_56 l g _ _ _ _ hz) rfl (Nat.le_of_ble_eq_true rfl) (Nat.le_of_ble_eq_true rfl) (Nat.le_of_ble_eq_true rfl) (Nat.le_of_ble_eq_true rfl) rfl (Nat.le_of_ble_eq_true rfl) dX9_init_152 rfl (fun r h p => ?_)
  obtain ⟨rfl, rfl⟩ := p
  replace hz := gfr_u (n1 := 67) (by decide) hz
  replace hz := gfr_m (j := 56) (k := 0) (by decide) hz
  replace hz := gfr_m (j := 56) (k := 1) (by decide) hz
  replace hz := gfr_p (j := 56) (k := 2) (x := (1 : Int32)) (by decide) hz
  replace hz := gfr_m (j := 59) (k := 0) (by decide) hz
  replace hz := gfr_k (j := 57) (v := 1) (by decide) hz
  replace hz := gfr_m (j := 61) (k := 0) (by decide) hz
  replace hz := gfr_k (j := 57) (v := 2) (by decide) hz
  replace hz := gfr_m (j := 63) (k := 0) (by decide) hz
  replace hz := gfr_k (j := 57) (v := 3) (by decide) hz
  replace hz := gfr_m (j := 65) (k := 0) (by decide) hz
  replace hz := gfr_k (j := 57) (v := 4) (by decide) hz
  refine g_aast3 (hq_at (by decide)) (hq_at (by decide)) rfl (vinc (by decide +kernel)) (hq_a5 (i := 3) (by decide) (by decide +kernel) rfl rfl) dX9_init_155 rfl ?_
  replace hz := gfr_k (j := 5) (v := 4) (by decide) hz
  refine g_iincL (L1 := [(0, _), (1, _)]) dX9_init_156 rfl (by decide) rfl rfl ?_
  refine g_goto (tgt := 137) dX9_init_159 (by decide) ?_
  refine g_iload_n dX9_init_137 rfl rfl rfl ?_
  refine g_bipush (v := 16) dX9_init_138 (by decide) rfl ?_
  refine g_icmpge (tgt := 162) dX9_init_140 (by decide) rfl (fun z => absurd z (by decide +kernel)) (fun _ => ?_)
  refine g_aload_n dX9_init_143 rfl rfl rfl ?_
  refine g_get (v := .ref 5) gClX9 3 (by decide) fl_X9_23 dX9_init_144 (hq_at (by decide)) rfl rfl ?_
  refine g_iload_n dX9_init_147 rfl rfl rfl ?_
  refine g_new (fs := [.null, .null, .int 0]) gClX1 cl_X9_21 it_X1 in_X1 (nf_X1 g) (by rw [hq_len]; decide) (Nat.le_of_ble_eq_true rfl) (Nat.le_of_ble_eq_true rfl) dX9_init_148 rfl ?_
  refine g_heq (hq_push (cN_new hz (fun z => absurd z (by decide)) rfl)) (by rw [hq_len]) ?_
  replace hz := gfr_u (n1 := 68) (by decide) hz
  refine g_dup dX9_init_151 rfl rfl ?_
  refine g_calli mt_X1_init mi_X1_init rfl rfl ml_X9_86 (k_X1_67 l g _ _ _ _ hz) rfl (Nat.le_of_ble_eq_true rfl) (Nat.le_of_ble_eq_true rfl) (Nat.le_of_ble_eq_true rfl) (Nat.le_of_ble_eq_true rfl) rfl (Nat.le_of_ble_eq_true rfl) dX9_init_152 rfl (fun r h p => ?_)
  obtain ⟨rfl, rfl⟩ := p
  replace hz := gfr_u (n1 := 78) (by decide) hz
  replace hz := gfr_m (j := 67) (k := 0) (by decide) hz
  replace hz := gfr_m (j := 67) (k := 1) (by decide) hz
  replace hz := gfr_p (j := 67) (k := 2) (x := (1 : Int32)) (by decide) hz
  replace hz := gfr_m (j := 70) (k := 0) (by decide) hz
  replace hz := gfr_k (j := 68) (v := 1) (by decide) hz
  replace hz := gfr_m (j := 72) (k := 0) (by decide) hz
  replace hz := gfr_k (j := 68) (v := 2) (by decide) hz
  replace hz := gfr_m (j := 74) (k := 0) (by decide) hz
  replace hz := gfr_k (j := 68) (v := 3) (by decide) hz
  replace hz := gfr_m (j := 76) (k := 0) (by decide) hz
  replace hz := gfr_k (j := 68) (v := 4) (by decide) hz
  refine g_aast3 (hq_at (by decide)) (hq_at (by decide)) rfl (vinc (by decide +kernel)) (hq_a5 (i := 4) (by decide) (by decide +kernel) rfl rfl) dX9_init_155 rfl ?_
  replace hz := gfr_k (j := 5) (v := 5) (by decide) hz
  refine g_iincL (L1 := [(0, _), (1, _)]) dX9_init_156 rfl (by decide) rfl rfl ?_
  refine g_goto (tgt := 137) dX9_init_159 (by decide) ?_
  refine g_iload_n dX9_init_137 rfl rfl rfl ?_
  refine g_bipush (v := 16) dX9_init_138 (by decide) rfl ?_
  refine g_icmpge (tgt := 162) dX9_init_140 (by decide) rfl (fun z => absurd z (by decide +kernel)) (fun _ => ?_)
  refine g_aload_n dX9_init_143 rfl rfl rfl ?_
  refine g_get (v := .ref 5) gClX9 3 (by decide) fl_X9_23 dX9_init_144 (hq_at (by decide)) rfl rfl ?_
  refine g_iload_n dX9_init_147 rfl rfl rfl ?_
  refine g_new (fs := [.null, .null, .int 0]) gClX1 cl_X9_21 it_X1 in_X1 (nf_X1 g) (by rw [hq_len]; decide) (Nat.le_of_ble_eq_true rfl) (Nat.le_of_ble_eq_true rfl) dX9_init_148 rfl ?_
  refine g_heq (hq_push (cN_new hz (fun z => absurd z (by decide)) rfl)) (by rw [hq_len]) ?_
  replace hz := gfr_u (n1 := 79) (by decide) hz
  refine g_dup dX9_init_151 rfl rfl ?_
  refine g_calli mt_X1_init mi_X1_init rfl rfl ml_X9_86 (k_X1_78 l g _ _ _ _ hz) rfl (Nat.le_of_ble_eq_true rfl) (Nat.le_of_ble_eq_true rfl) (Nat.le_of_ble_eq_true rfl) (Nat.le_of_ble_eq_true rfl) rfl (Nat.le_of_ble_eq_true rfl) dX9_init_152 rfl (fun r h p => ?_)
  obtain ⟨rfl, rfl⟩ := p
  replace hz := gfr_u (n1 := 89) (by decide) hz
  replace hz := gfr_m (j := 78) (k := 0) (by decide) hz
  replace hz := gfr_m (j := 78) (k := 1) (by decide) hz
  replace hz := gfr_p (j := 78) (k := 2) (x := (1 : Int32)) (by decide) hz
  replace hz := gfr_m (j := 81) (k := 0) (by decide) hz
  replace hz := gfr_k (j := 79) (v := 1) (by decide) hz
  replace hz := gfr_m (j := 83) (k := 0) (by decide) hz
  replace hz := gfr_k (j := 79) (v := 2) (by decide) hz
  replace hz := gfr_m (j := 85) (k := 0) (by decide) hz
  replace hz := gfr_k (j := 79) (v := 3) (by decide) hz
  replace hz := gfr_m (j := 87) (k := 0) (by decide) hz
  replace hz := gfr_k (j := 79) (v := 4) (by decide) hz
  refine g_aast3 (hq_at (by decide)) (hq_at (by decide)) rfl (vinc (by decide +kernel)) (hq_a5 (i := 5) (by decide) (by decide +kernel) rfl rfl) dX9_init_155 rfl ?_
  replace hz := gfr_k (j := 5) (v := 6) (by decide) hz
  refine g_iincL (L1 := [(0, _), (1, _)]) dX9_init_156 rfl (by decide) rfl rfl ?_
  refine g_goto (tgt := 137) dX9_init_159 (by decide) ?_
  refine g_iload_n dX9_init_137 rfl rfl rfl ?_
  refine g_bipush (v := 16) dX9_init_138 (by decide) rfl ?_
  refine g_icmpge (tgt := 162) dX9_init_140 (by decide) rfl (fun z => absurd z (by decide +kernel)) (fun _ => ?_)
  refine g_aload_n dX9_init_143 rfl rfl rfl ?_
  refine g_get (v := .ref 5) gClX9 3 (by decide) fl_X9_23 dX9_init_144 (hq_at (by decide)) rfl rfl ?_
  refine g_iload_n dX9_init_147 rfl rfl rfl ?_
  refine g_new (fs := [.null, .null, .int 0]) gClX1 cl_X9_21 it_X1 in_X1 (nf_X1 g) (by rw [hq_len]; decide) (Nat.le_of_ble_eq_true rfl) (Nat.le_of_ble_eq_true rfl) dX9_init_148 rfl ?_
  refine g_heq (hq_push (cN_new hz (fun z => absurd z (by decide)) rfl)) (by rw [hq_len]) ?_
  replace hz := gfr_u (n1 := 90) (by decide) hz
  refine g_dup dX9_init_151 rfl rfl ?_
  refine g_calli mt_X1_init mi_X1_init rfl rfl ml_X9_86 (k_X1_89 l g _ _ _ _ hz) rfl (Nat.le_of_ble_eq_true rfl) (Nat.le_of_ble_eq_true rfl) (Nat.le_of_ble_eq_true rfl) (Nat.le_of_ble_eq_true rfl) rfl (Nat.le_of_ble_eq_true rfl) dX9_init_152 rfl (fun r h p => ?_)
  obtain ⟨rfl, rfl⟩ := p
  replace hz := gfr_u (n1 := 100) (by decide) hz
  replace hz := gfr_m (j := 89) (k := 0) (by decide) hz
  replace hz := gfr_m (j := 89) (k := 1) (by decide) hz
  replace hz := gfr_p (j := 89) (k := 2) (x := (1 : Int32)) (by decide) hz
  replace hz := gfr_m (j := 92) (k := 0) (by decide) hz
  replace hz := gfr_k (j := 90) (v := 1) (by decide) hz
  replace hz := gfr_m (j := 94) (k := 0) (by decide) hz
  replace hz := gfr_k (j := 90) (v := 2) (by decide) hz
  replace hz := gfr_m (j := 96) (k := 0) (by decide) hz
  replace hz := gfr_k (j := 90) (v := 3) (by decide) hz
  replace hz := gfr_m (j := 98) (k := 0) (by decide) hz
  replace hz := gfr_k (j := 90) (v := 4) (by decide) hz
  refine g_aast3 (hq_at (by decide)) (hq_at (by decide)) rfl (vinc (by decide +kernel)) (hq_a5 (i := 6) (by decide) (by decide +kernel) rfl rfl) dX9_init_155 rfl ?_
  replace hz := gfr_k (j := 5) (v := 7) (by decide) hz
  refine g_iincL (L1 := [(0, _), (1, _)]) dX9_init_156 rfl (by decide) rfl rfl ?_
  refine g_goto (tgt := 137) dX9_init_159 (by decide) ?_
  refine g_iload_n dX9_init_137 rfl rfl rfl ?_
  refine g_bipush (v := 16) dX9_init_138 (by decide) rfl ?_
  refine g_icmpge (tgt := 162) dX9_init_140 (by decide) rfl (fun z => absurd z (by decide +kernel)) (fun _ => ?_)
  refine g_aload_n dX9_init_143 rfl rfl rfl ?_
  refine g_get (v := .ref 5) gClX9 3 (by decide) fl_X9_23 dX9_init_144 (hq_at (by decide)) rfl rfl ?_
  refine g_iload_n dX9_init_147 rfl rfl rfl ?_
  refine g_new (fs := [.null, .null, .int 0]) gClX1 cl_X9_21 it_X1 in_X1 (nf_X1 g) (by rw [hq_len]; decide) (Nat.le_of_ble_eq_true rfl) (Nat.le_of_ble_eq_true rfl) dX9_init_148 rfl ?_
  refine g_heq (hq_push (cN_new hz (fun z => absurd z (by decide)) rfl)) (by rw [hq_len]) ?_
  replace hz := gfr_u (n1 := 101) (by decide) hz
  refine g_dup dX9_init_151 rfl rfl ?_
  refine g_calli mt_X1_init mi_X1_init rfl rfl ml_X9_86 (k_X1_100 l g _ _ _ _ hz) rfl (Nat.le_of_ble_eq_true rfl) (Nat.le_of_ble_eq_true rfl) (Nat.le_of_ble_eq_true rfl) (Nat.le_of_ble_eq_true rfl) rfl (Nat.le_of_ble_eq_true rfl) dX9_init_152 rfl (fun r h p => ?_)
  obtain ⟨rfl, rfl⟩ := p
  replace hz := gfr_u (n1 := 111) (by decide) hz
  replace hz := gfr_m (j := 100) (k := 0) (by decide) hz
  replace hz := gfr_m (j := 100) (k := 1) (by decide) hz
  replace hz := gfr_p (j := 100) (k := 2) (x := (1 : Int32)) (by decide) hz
  replace hz := gfr_m (j := 103) (k := 0) (by decide) hz
  replace hz := gfr_k (j := 101) (v := 1) (by decide) hz
  replace hz := gfr_m (j := 105) (k := 0) (by decide) hz
  replace hz := gfr_k (j := 101) (v := 2) (by decide) hz
  replace hz := gfr_m (j := 107) (k := 0) (by decide) hz
  replace hz := gfr_k (j := 101) (v := 3) (by decide) hz
  replace hz := gfr_m (j := 109) (k := 0) (by decide) hz
  replace hz := gfr_k (j := 101) (v := 4) (by decide) hz
  refine g_aast3 (hq_at (by decide)) (hq_at (by decide)) rfl (vinc (by decide +kernel)) (hq_a5 (i := 7) (by decide) (by decide +kernel) rfl rfl) dX9_init_155 rfl ?_
  replace hz := gfr_k (j := 5) (v := 8) (by decide) hz
  refine g_iincL (L1 := [(0, _), (1, _)]) dX9_init_156 rfl (by decide) rfl rfl ?_
  refine g_goto (tgt := 137) dX9_init_159 (by decide) ?_
  refine g_iload_n dX9_init_137 rfl rfl rfl ?_
  refine g_bipush (v := 16) dX9_init_138 (by decide) rfl ?_
  refine g_icmpge (tgt := 162) dX9_init_140 (by decide) rfl (fun z => absurd z (by decide +kernel)) (fun _ => ?_)
  refine g_aload_n dX9_init_143 rfl rfl rfl ?_
  refine g_get (v := .ref 5) gClX9 3 (by decide) fl_X9_23 dX9_init_144 (hq_at (by decide)) rfl rfl ?_
  refine g_iload_n dX9_init_147 rfl rfl rfl ?_
  refine g_new (fs := [.null, .null, .int 0]) gClX1 cl_X9_21 it_X1 in_X1 (nf_X1 g) (by rw [hq_len]; decide) (Nat.le_of_ble_eq_true rfl) (Nat.le_of_ble_eq_true rfl) dX9_init_148 rfl ?_
  refine g_heq (hq_push (cN_new hz (fun z => absurd z (by decide)) rfl)) (by rw [hq_len]) ?_
  replace hz := gfr_u (n1 := 112) (by decide) hz
  refine g_dup dX9_init_151 rfl rfl ?_
  refine g_calli mt_X1_init mi_X1_init rfl rfl ml_X9_86 (k_X1_111 l g _ _ _ _ hz) rfl (Nat.le_of_ble_eq_true rfl) (Nat.le_of_ble_eq_true rfl) (Nat.le_of_ble_eq_true rfl) (Nat.le_of_ble_eq_true rfl) rfl (Nat.le_of_ble_eq_true rfl) dX9_init_152 rfl (fun r h p => ?_)
  obtain ⟨rfl, rfl⟩ := p
  replace hz := gfr_u (n1 := 122) (by decide) hz
  replace hz := gfr_m (j := 111) (k := 0) (by decide) hz
  replace hz := gfr_m (j := 111) (k := 1) (by decide) hz
  replace hz := gfr_p (j := 111) (k := 2) (x := (1 : Int32)) (by decide) hz
  replace hz := gfr_m (j := 114) (k := 0) (by decide) hz
  replace hz := gfr_k (j := 112) (v := 1) (by decide) hz
  replace hz := gfr_m (j := 116) (k := 0) (by decide) hz
  replace hz := gfr_k (j := 112) (v := 2) (by decide) hz
  replace hz := gfr_m (j := 118) (k := 0) (by decide) hz
  replace hz := gfr_k (j := 112) (v := 3) (by decide) hz
  replace hz := gfr_m (j := 120) (k := 0) (by decide) hz
  replace hz := gfr_k (j := 112) (v := 4) (by decide) hz
  refine g_aast3 (hq_at (by decide)) (hq_at (by decide)) rfl (vinc (by decide +kernel)) (hq_a5 (i := 8) (by decide) (by decide +kernel) rfl rfl) dX9_init_155 rfl ?_
  replace hz := gfr_k (j := 5) (v := 9) (by decide) hz
  refine g_iincL (L1 := [(0, _), (1, _)]) dX9_init_156 rfl (by decide) rfl rfl ?_
  refine g_goto (tgt := 137) dX9_init_159 (by decide) ?_
  refine g_iload_n dX9_init_137 rfl rfl rfl ?_
  refine g_bipush (v := 16) dX9_init_138 (by decide) rfl ?_
  refine g_icmpge (tgt := 162) dX9_init_140 (by decide) rfl (fun z => absurd z (by decide +kernel)) (fun _ => ?_)
  refine g_aload_n dX9_init_143 rfl rfl rfl ?_
  refine g_get (v := .ref 5) gClX9 3 (by decide) fl_X9_23 dX9_init_144 (hq_at (by decide)) rfl rfl ?_
  refine g_iload_n dX9_init_147 rfl rfl rfl ?_
  refine g_new (fs := [.null, .null, .int 0]) gClX1 cl_X9_21 it_X1 in_X1 (nf_X1 g) (by rw [hq_len]; decide) (Nat.le_of_ble_eq_true rfl) (Nat.le_of_ble_eq_true rfl) dX9_init_148 rfl ?_
  refine g_heq (hq_push (cN_new hz (fun z => absurd z (by decide)) rfl)) (by rw [hq_len]) ?_
  replace hz := gfr_u (n1 := 123) (by decide) hz
  refine g_dup dX9_init_151 rfl rfl ?_
  refine g_calli mt_X1_init mi_X1_init rfl rfl ml_X9_86 (k_X1_122 l g _ _ _ _ hz) rfl (Nat.le_of_ble_eq_true rfl) (Nat.le_of_ble_eq_true rfl) (Nat.le_of_ble_eq_true rfl) (Nat.le_of_ble_eq_true rfl) rfl (Nat.le_of_ble_eq_true rfl) dX9_init_152 rfl (fun r h p => ?_)
  obtain ⟨rfl, rfl⟩ := p
  replace hz := gfr_u (n1 := 133) (by decide) hz
  replace hz := gfr_m (j := 122) (k := 0) (by decide) hz
  replace hz := gfr_m (j := 122) (k := 1) (by decide) hz
  replace hz := gfr_p (j := 122) (k := 2) (x := (1 : Int32)) (by decide) hz
  replace hz := gfr_m (j := 125) (k := 0) (by decide) hz
  replace hz := gfr_k (j := 123) (v := 1) (by decide) hz
  replace hz := gfr_m (j := 127) (k := 0) (by decide) hz
  replace hz := gfr_k (j := 123) (v := 2) (by decide) hz
  replace hz := gfr_m (j := 129) (k := 0) (by decide) hz
  replace hz := gfr_k (j := 123) (v := 3) (by decide) hz
  replace hz := gfr_m (j := 131) (k := 0) (by decide) hz
  replace hz := gfr_k (j := 123) (v := 4) (by decide) hz
  refine g_aast3 (hq_at (by decide)) (hq_at (by decide)) rfl (vinc (by decide +kernel)) (hq_a5 (i := 9) (by decide) (by decide +kernel) rfl rfl) dX9_init_155 rfl ?_
  replace hz := gfr_k (j := 5) (v := 10) (by decide) hz
  refine g_iincL (L1 := [(0, _), (1, _)]) dX9_init_156 rfl (by decide) rfl rfl ?_
  refine g_goto (tgt := 137) dX9_init_159 (by decide) ?_
  refine g_iload_n dX9_init_137 rfl rfl rfl ?_
  refine g_bipush (v := 16) dX9_init_138 (by decide) rfl ?_
  refine g_icmpge (tgt := 162) dX9_init_140 (by decide) rfl (fun z => absurd z (by decide +kernel)) (fun _ => ?_)
  refine g_aload_n dX9_init_143 rfl rfl rfl ?_
  refine g_get (v := .ref 5) gClX9 3 (by decide) fl_X9_23 dX9_init_144 (hq_at (by decide)) rfl rfl ?_
  refine g_iload_n dX9_init_147 rfl rfl rfl ?_
  refine g_new (fs := [.null, .null, .int 0]) gClX1 cl_X9_21 it_X1 in_X1 (nf_X1 g) (by rw [hq_len]; decide) (Nat.le_of_ble_eq_true rfl) (Nat.le_of_ble_eq_true rfl) dX9_init_148 rfl ?_
  refine g_heq (hq_push (cN_new hz (fun z => absurd z (by decide)) rfl)) (by rw [hq_len]) ?_
  replace hz := gfr_u (n1 := 134) (by decide) hz
  refine g_dup dX9_init_151 rfl rfl ?_
  refine g_calli mt_X1_init mi_X1_init rfl rfl ml_X9_86 (k_X1_133 l g _ _ _ _ hz) rfl (Nat.le_of_ble_eq_true rfl) (Nat.le_of_ble_eq_true rfl) (Nat.le_of_ble_eq_true rfl) (Nat.le_of_ble_eq_true rfl) rfl (Nat.le_of_ble_eq_true rfl) dX9_init_152 rfl (fun r h p => ?_)
  obtain ⟨rfl, rfl⟩ := p
  replace hz := gfr_u (n1 := 144) (by decide) hz
  replace hz := gfr_m (j := 133) (k := 0) (by decide) hz
  replace hz := gfr_m (j := 133) (k := 1) (by decide) hz
  replace hz := gfr_p (j := 133) (k := 2) (x := (1 : Int32)) (by decide) hz
  replace hz := gfr_m (j := 136) (k := 0) (by decide) hz
  replace hz := gfr_k (j := 134) (v := 1) (by decide) hz
  replace hz := gfr_m (j := 138) (k := 0) (by decide) hz
  replace hz := gfr_k (j := 134) (v := 2) (by decide) hz
  replace hz := gfr_m (j := 140) (k := 0) (by decide) hz
  replace hz := gfr_k (j := 134) (v := 3) (by decide) hz
  replace hz := gfr_m (j := 142) (k := 0) (by decide) hz
  replace hz := gfr_k (j := 134) (v := 4) (by decide) hz
  refine g_aast3 (hq_at (by decide)) (hq_at (by decide)) rfl (vinc (by decide +kernel)) (hq_a5 (i := 10) (by decide) (by decide +kernel) rfl rfl) dX9_init_155 rfl ?_
  replace hz := gfr_k (j := 5) (v := 11) (by decide) hz
  refine g_iincL (L1 := [(0, _), (1, _)]) dX9_init_156 rfl (by decide) rfl rfl ?_
  refine g_goto (tgt := 137) dX9_init_159 (by decide) ?_
  refine g_iload_n dX9_init_137 rfl rfl rfl ?_
  refine g_bipush (v := 16) dX9_init_138 (by decide) rfl ?_
  refine g_icmpge (tgt := 162) dX9_init_140 (by decide) rfl (fun z => absurd z (by decide +kernel)) (fun _ => ?_)
  refine g_aload_n dX9_init_143 rfl rfl rfl ?_
  refine g_get (v := .ref 5) gClX9 3 (by decide) fl_X9_23 dX9_init_144 (hq_at (by decide)) rfl rfl ?_
  refine g_iload_n dX9_init_147 rfl rfl rfl ?_
  refine g_new (fs := [.null, .null, .int 0]) gClX1 cl_X9_21 it_X1 in_X1 (nf_X1 g) (by rw [hq_len]; decide) (Nat.le_of_ble_eq_true rfl) (Nat.le_of_ble_eq_true rfl) dX9_init_148 rfl ?_
  refine g_heq (hq_push (cN_new hz (fun z => absurd z (by decide)) rfl)) (by rw [hq_len]) ?_
  replace hz := gfr_u (n1 := 145) (by decide) hz
  refine g_dup dX9_init_151 rfl rfl ?_
  refine g_calli mt_X1_init mi_X1_init rfl rfl ml_X9_86 (k_X1_144 l g _ _ _ _ hz) rfl (Nat.le_of_ble_eq_true rfl) (Nat.le_of_ble_eq_true rfl) (Nat.le_of_ble_eq_true rfl) (Nat.le_of_ble_eq_true rfl) rfl (Nat.le_of_ble_eq_true rfl) dX9_init_152 rfl (fun r h p => ?_)
  obtain ⟨rfl, rfl⟩ := p
  replace hz := gfr_u (n1 := 155) (by decide) hz
  replace hz := gfr_m (j := 144) (k := 0) (by decide) hz
  replace hz := gfr_m (j := 144) (k := 1) (by decide) hz
  replace hz := gfr_p (j := 144) (k := 2) (x := (1 : Int32)) (by decide) hz
  replace hz := gfr_m (j := 147) (k := 0) (by decide) hz
  replace hz := gfr_k (j := 145) (v := 1) (by decide) hz
  replace hz := gfr_m (j := 149) (k := 0) (by decide) hz
  replace hz := gfr_k (j := 145) (v := 2) (by decide) hz
  replace hz := gfr_m (j := 151) (k := 0) (by decide) hz
  replace hz := gfr_k (j := 145) (v := 3) (by decide) hz
  replace hz := gfr_m (j := 153) (k := 0) (by decide) hz
  replace hz := gfr_k (j := 145) (v := 4) (by decide) hz
  refine g_aast3 (hq_at (by decide)) (hq_at (by decide)) rfl (vinc (by decide +kernel)) (hq_a5 (i := 11) (by decide) (by decide +kernel) rfl rfl) dX9_init_155 rfl ?_
  replace hz := gfr_k (j := 5) (v := 12) (by decide) hz
  refine g_iincL (L1 := [(0, _), (1, _)]) dX9_init_156 rfl (by decide) rfl rfl ?_
  refine g_goto (tgt := 137) dX9_init_159 (by decide) ?_
  refine g_iload_n dX9_init_137 rfl rfl rfl ?_
  refine g_bipush (v := 16) dX9_init_138 (by decide) rfl ?_
  refine g_icmpge (tgt := 162) dX9_init_140 (by decide) rfl (fun z => absurd z (by decide +kernel)) (fun _ => ?_)
  refine g_aload_n dX9_init_143 rfl rfl rfl ?_
  refine g_get (v := .ref 5) gClX9 3 (by decide) fl_X9_23 dX9_init_144 (hq_at (by decide)) rfl rfl ?_
  refine g_iload_n dX9_init_147 rfl rfl rfl ?_
  refine g_new (fs := [.null, .null, .int 0]) gClX1 cl_X9_21 it_X1 in_X1 (nf_X1 g) (by rw [hq_len]; decide) (Nat.le_of_ble_eq_true rfl) (Nat.le_of_ble_eq_true rfl) dX9_init_148 rfl ?_
  refine g_heq (hq_push (cN_new hz (fun z => absurd z (by decide)) rfl)) (by rw [hq_len]) ?_
  replace hz := gfr_u (n1 := 156) (by decide) hz
  refine g_dup dX9_init_151 rfl rfl ?_
  refine g_calli mt_X1_init mi_X1_init rfl rfl ml_X9_86 (k_X1_155 l g _ _ _ _ hz) rfl (Nat.le_of_ble_eq_true rfl) (Nat.le_of_ble_eq_true rfl) (Nat.le_of_ble_eq_true rfl) (Nat.le_of_ble_eq_true rfl) rfl (Nat.le_of_ble_eq_true rfl) dX9_init_152 rfl (fun r h p => ?_)
  obtain ⟨rfl, rfl⟩ := p
  replace hz := gfr_u (n1 := 166) (by decide) hz
  replace hz := gfr_m (j := 155) (k := 0) (by decide) hz
  replace hz := gfr_m (j := 155) (k := 1) (by decide) hz
  replace hz := gfr_p (j := 155) (k := 2) (x := (1 : Int32)) (by decide) hz
  replace hz := gfr_m (j := 158) (k := 0) (by decide) hz
  replace hz := gfr_k (j := 156) (v := 1) (by decide) hz
  replace hz := gfr_m (j := 160) (k := 0) (by decide) hz
  replace hz := gfr_k (j := 156) (v := 2) (by decide) hz
  replace hz := gfr_m (j := 162) (k := 0) (by decide) hz
  replace hz := gfr_k (j := 156) (v := 3) (by decide) hz
  replace hz := gfr_m (j := 164) (k := 0) (by decide) hz
  replace hz := gfr_k (j := 156) (v := 4) (by decide) hz
  refine g_aast3 (hq_at (by decide)) (hq_at (by decide)) rfl (vinc (by decide +kernel)) (hq_a5 (i := 12) (by decide) (by decide +kernel) rfl rfl) dX9_init_155 rfl ?_
  replace hz := gfr_k (j := 5) (v := 13) (by decide) hz
  refine g_iincL (L1 := [(0, _), (1, _)]) dX9_init_156 rfl (by decide) rfl rfl ?_
  refine g_goto (tgt := 137) dX9_init_159 (by decide) ?_
  refine g_iload_n dX9_init_137 rfl rfl rfl ?_
  refine g_bipush (v := 16) dX9_init_138 (by decide) rfl ?_
  refine g_icmpge (tgt := 162) dX9_init_140 (by decide) rfl (fun z => absurd z (by decide +kernel)) (fun _ => ?_)
  refine g_aload_n dX9_init_143 rfl rfl rfl ?_
  refine g_get (v := .ref 5) gClX9 3 (by decide) fl_X9_23 dX9_init_144 (hq_at (by decide)) rfl rfl ?_
  refine g_iload_n dX9_init_147 rfl rfl rfl ?_
  refine g_new (fs := [.null, .null, .int 0]) gClX1 cl_X9_21 it_X1 in_X1 (nf_X1 g) (by rw [hq_len]; decide) (Nat.le_of_ble_eq_true rfl) (Nat.le_of_ble_eq_true rfl) dX9_init_148 rfl ?_
  refine g_heq (hq_push (cN_new hz (fun z => absurd z (by decide)) rfl)) (by rw [hq_len]) ?_
  replace hz := gfr_u (n1 := 167) (by decide) hz
  refine g_dup dX9_init_151 rfl rfl ?_
  refine g_calli mt_X1_init mi_X1_init rfl rfl ml_X9_86 (k_X1_166 l g _ _ _ _ hz) rfl (Nat.le_of_ble_eq_true rfl) (Nat.le_of_ble_eq_true rfl) (Nat.le_of_ble_eq_true rfl) (Nat.le_of_ble_eq_true rfl) rfl (Nat.le_of_ble_eq_true rfl) dX9_init_152 rfl (fun r h p => ?_)
  obtain ⟨rfl, rfl⟩ := p
  replace hz := gfr_u (n1 := 177) (by decide) hz
  replace hz := gfr_m (j := 166) (k := 0) (by decide) hz
  replace hz := gfr_m (j := 166) (k := 1) (by decide) hz
  replace hz := gfr_p (j := 166) (k := 2) (x := (1 : Int32)) (by decide) hz
  replace hz := gfr_m (j := 169) (k := 0) (by decide) hz
  replace hz := gfr_k (j := 167) (v := 1) (by decide) hz
  replace hz := gfr_m (j := 171) (k := 0) (by decide) hz
  replace hz := gfr_k (j := 167) (v := 2) (by decide) hz
  replace hz := gfr_m (j := 173) (k := 0) (by decide) hz
  replace hz := gfr_k (j := 167) (v := 3) (by decide) hz
  replace hz := gfr_m (j := 175) (k := 0) (by decide) hz
  replace hz := gfr_k (j := 167) (v := 4) (by decide) hz
  refine g_aast3 (hq_at (by decide)) (hq_at (by decide)) rfl (vinc (by decide +kernel)) (hq_a5 (i := 13) (by decide) (by decide +kernel) rfl rfl) dX9_init_155 rfl ?_
  replace hz := gfr_k (j := 5) (v := 14) (by decide) hz
  refine g_iincL (L1 := [(0, _), (1, _)]) dX9_init_156 rfl (by decide) rfl rfl ?_
  refine g_goto (tgt := 137) dX9_init_159 (by decide) ?_
  refine g_iload_n dX9_init_137 rfl rfl rfl ?_
  refine g_bipush (v := 16) dX9_init_138 (by decide) rfl ?_
  refine g_icmpge (tgt := 162) dX9_init_140 (by decide) rfl (fun z => absurd z (by decide +kernel)) (fun _ => ?_)
  refine g_aload_n dX9_init_143 rfl rfl rfl ?_
  refine g_get (v := .ref 5) gClX9 3 (by decide) fl_X9_23 dX9_init_144 (hq_at (by decide)) rfl rfl ?_
  refine g_iload_n dX9_init_147 rfl rfl rfl ?_
  refine g_new (fs := [.null, .null, .int 0]) gClX1 cl_X9_21 it_X1 in_X1 (nf_X1 g) (by rw [hq_len]; decide) (Nat.le_of_ble_eq_true rfl) (Nat.le_of_ble_eq_true rfl) dX9_init_148 rfl ?_
  refine g_heq (hq_push (cN_new hz (fun z => absurd z (by decide)) rfl)) (by rw [hq_len]) ?_
  replace hz := gfr_u (n1 := 178) (by decide) hz
  refine g_dup dX9_init_151 rfl rfl ?_
  refine g_calli mt_X1_init mi_X1_init rfl rfl ml_X9_86 (k_X1_177 l g _ _ _ _ hz) rfl (Nat.le_of_ble_eq_true rfl) (Nat.le_of_ble_eq_true rfl) (Nat.le_of_ble_eq_true rfl) (Nat.le_of_ble_eq_true rfl) rfl (Nat.le_of_ble_eq_true rfl) dX9_init_152 rfl (fun r h p => ?_)
  obtain ⟨rfl, rfl⟩ := p
  replace hz := gfr_u (n1 := 188) (by decide) hz
  replace hz := gfr_m (j := 177) (k := 0) (by decide) hz
  replace hz := gfr_m (j := 177) (k := 1) (by decide) hz
  replace hz := gfr_p (j := 177) (k := 2) (x := (1 : Int32)) (by decide) hz
  replace hz := gfr_m (j := 180) (k := 0) (by decide) hz
  replace hz := gfr_k (j := 178) (v := 1) (by decide) hz
  replace hz := gfr_m (j := 182) (k := 0) (by decide) hz
  replace hz := gfr_k (j := 178) (v := 2) (by decide) hz
  replace hz := gfr_m (j := 184) (k := 0) (by decide) hz
  replace hz := gfr_k (j := 178) (v := 3) (by decide) hz
  replace hz := gfr_m (j := 186) (k := 0) (by decide) hz
  replace hz := gfr_k (j := 178) (v := 4) (by decide) hz
  refine g_aast3 (hq_at (by decide)) (hq_at (by decide)) rfl (vinc (by decide +kernel)) (hq_a5 (i := 14) (by decide) (by decide +kernel) rfl rfl) dX9_init_155 rfl ?_
  replace hz := gfr_k (j := 5) (v := 15) (by decide) hz
  refine g_iincL (L1 := [(0, _), (1, _)]) dX9_init_156 rfl (by decide) rfl rfl ?_
  refine g_goto (tgt := 137) dX9_init_159 (by decide) ?_
  refine g_iload_n dX9_init_137 rfl rfl rfl ?_
  refine g_bipush (v := 16) dX9_init_138 (by decide) rfl ?_
  refine g_icmpge (tgt := 162) dX9_init_140 (by decide) rfl (fun z => absurd z (by decide +kernel)) (fun _ => ?_)
  refine g_aload_n dX9_init_143 rfl rfl rfl ?_
  refine g_get (v := .ref 5) gClX9 3 (by decide) fl_X9_23 dX9_init_144 (hq_at (by decide)) rfl rfl ?_
  refine g_iload_n dX9_init_147 rfl rfl rfl ?_
  refine g_new (fs := [.null, .null, .int 0]) gClX1 cl_X9_21 it_X1 in_X1 (nf_X1 g) (by rw [hq_len]; decide) (Nat.le_of_ble_eq_true rfl) (Nat.le_of_ble_eq_true rfl) dX9_init_148 rfl ?_
  refine g_heq (hq_push (cN_new hz (fun z => absurd z (by decide)) rfl)) (by rw [hq_len]) ?_
  replace hz := gfr_u (n1 := 189) (by decide) hz
  refine g_dup dX9_init_151 rfl rfl ?_
  refine g_calli mt_X1_init mi_X1_init rfl rfl ml_X9_86 (k_X1_188 l g _ _ _ _ hz) rfl (Nat.le_of_ble_eq_true rfl) (Nat.le_of_ble_eq_true rfl) (Nat.le_of_ble_eq_true rfl) (Nat.le_of_ble_eq_true rfl) rfl (Nat.le_of_ble_eq_true rfl) dX9_init_152 rfl (fun r h p => ?_)
  obtain ⟨rfl, rfl⟩ := p
  replace hz := gfr_u (n1 := 199) (by decide) hz
  replace hz := gfr_m (j := 188) (k := 0) (by decide) hz
  replace hz := gfr_m (j := 188) (k := 1) (by decide) hz
  replace hz := gfr_p (j := 188) (k := 2) (x := (1 : Int32)) (by decide) hz
  replace hz := gfr_m (j := 191) (k := 0) (by decide) hz
  replace hz := gfr_k (j := 189) (v := 1) (by decide) hz
  replace hz := gfr_m (j := 193) (k := 0) (by decide) hz
  replace hz := gfr_k (j := 189) (v := 2) (by decide) hz
  replace hz := gfr_m (j := 195) (k := 0) (by decide) hz
  replace hz := gfr_k (j := 189) (v := 3) (by decide) hz
  replace hz := gfr_m (j := 197) (k := 0) (by decide) hz
  replace hz := gfr_k (j := 189) (v := 4) (by decide) hz
  refine g_aast3 (hq_at (by decide)) (hq_at (by decide)) rfl (vinc (by decide +kernel)) (hq_a5 (i := 15) (by decide) (by decide +kernel) rfl rfl) dX9_init_155 rfl ?_
  replace hz := gfr_k (j := 5) (v := 16) (by decide) hz
  refine g_iincL (L1 := [(0, _), (1, _)]) dX9_init_156 rfl (by decide) rfl rfl ?_
  refine g_goto (tgt := 137) dX9_init_159 (by decide) ?_
  refine g_iload_n dX9_init_137 rfl rfl rfl ?_
  refine g_bipush (v := 16) dX9_init_138 (by decide) rfl ?_
  refine g_icmpge (tgt := 162) dX9_init_140 (by decide) rfl (fun _ => ?_) (fun z => absurd z (by decide +kernel))
  refine g_gets (i := 0) rfl fs_X9_87 dX9_init_162 rfl ?_
  refine g_iconst (v := 0) dX9_init_165 (by decide) rfl ?_
  refine g_aload_n dX9_init_166 rfl rfl rfl ?_
  refine g_get (v := .ref 6) gClX9 12 (by decide) fl_X9_40 dX9_init_167 (hq_at (by decide)) rfl rfl ?_
  refine g_iconst (v := 0) dX9_init_170 (by decide) rfl ?_
  refine g_bipush (v := 9) dX9_init_171 (by decide) rfl ?_
  refine g_cpyt cp_X9_90 (by decide) (hT 0 (by decide)) (hq_at (by decide)) (by decide) (by decide) (by decide) (by decide) (by decide) (hq_pc (by decide) rfl) (Nat.le_of_ble_eq_true rfl) (Nat.le_of_ble_eq_true rfl) dX9_init_173 rfl ?_
  replace hz := gfr_c (j := 6) (f := va_cpy (tab 0) ((pf (pf (pf (pf (pf (pf (pf (pf (pf (pf (pf (pf (pf (pf (pf (pf (pf (pf (pf (pf (pf (pf (pf (pf (pf (pf (pf (pf (pf (pf (pf (pf (pf σ 0 4 (-1 : Int32)) 0 5 (-1 : Int32)) 0 6 (-1 : Int32)) 0 11 (1 : Int32)) 15 2 (1 : Int32)) 15 4 (-1 : Int32)) 15 6 (1 : Int32)) 20 0 (-1 : Int32)) 19 1 (0 : Int32)) 19 2 (0 : Int32)) 19 3 (-1 : Int32)) 19 4 (-1 : Int32)) 22 0 (-1 : Int32)) 21 1 (0 : Int32)) 21 2 (8 : Int32)) 21 3 (-1 : Int32)) 21 4 (-1 : Int32)) 23 2 (1 : Int32)) 34 2 (1 : Int32)) 45 2 (1 : Int32)) 56 2 (1 : Int32)) 67 2 (1 : Int32)) 78 2 (1 : Int32)) 89 2 (1 : Int32)) 100 2 (1 : Int32)) 111 2 (1 : Int32)) 122 2 (1 : Int32)) 133 2 (1 : Int32)) 144 2 (1 : Int32)) 155 2 (1 : Int32)) 166 2 (1 : Int32)) 177 2 (1 : Int32)) 188 2 (1 : Int32)) 6) (ix (0 : Int32)) (ix (0 : Int32)) (ix (9 : Int32))) (by decide) hz
  exact g_vret rfl dX9_init_176 (Nat.le_of_ble_eq_true rfl) (Nat.le_of_ble_eq_true rfl) ⟨rfl, rfl⟩
