/-! constructors: by program -/
set_option maxHeartbeats 4000000 in
set_option maxRecDepth 100000 in
theorem k_X10_199 (l : Launch) (g : gE) (m : gK) (κ : Nat → Nat) (σ : gS) (ζ : gQ) (hz : gfr 200 m κ σ) : gC l g mX10_init (rmc 1 19 6369 20) [.ref 199] (hq 200 m κ σ ζ) (fun r h => r = none ∧ h = hq 219 (mset (mset (mset (mset (mset (mset (mset (mset (mset (mset (mset (mset (mset (mset (mset (mset (mset (mset (mset m 199 0) 199 2) 199 3) 199 4) 199 5) 199 6) 199 7) 199 8) 199 9) 199 11) 199 12) 199 13) 199 14) 199 15) 199 16) 199 24) 199 28) 199 34) 199 51) κ (pf (pf (pf (pf (pf (pf (pf (pf (pf (pf (pf (pf (pf (pf (pf (pf (pf (pf (pf (pf (pf (pf (pf (pf (pf (pf (pf (pf (pf (pf (pf (pf (pf (pf (pf σ 212 (ix (0 : Int32)) (1 : Int32)) 212 (ix ((0 : Int32) + Int32.ofInt (1))) (1 : Int32)) 212 (ix (((0 : Int32) + Int32.ofInt (1)) + Int32.ofInt (1))) (1 : Int32)) 212 (ix ((((0 : Int32) + Int32.ofInt (1)) + Int32.ofInt (1)) + Int32.ofInt (1))) (1 : Int32)) 212 (ix (((((0 : Int32) + Int32.ofInt (1)) + Int32.ofInt (1)) + Int32.ofInt (1)) + Int32.ofInt (1))) (1 : Int32)) 212 (ix ((((((0 : Int32) + Int32.ofInt (1)) + Int32.ofInt (1)) + Int32.ofInt (1)) + Int32.ofInt (1)) + Int32.ofInt (1))) (1 : Int32)) 212 (ix (((((((0 : Int32) + Int32.ofInt (1)) + Int32.ofInt (1)) + Int32.ofInt (1)) + Int32.ofInt (1)) + Int32.ofInt (1)) + Int32.ofInt (1))) (1 : Int32)) 212 (ix ((((((((0 : Int32) + Int32.ofInt (1)) + Int32.ofInt (1)) + Int32.ofInt (1)) + Int32.ofInt (1)) + Int32.ofInt (1)) + Int32.ofInt (1)) + Int32.ofInt (1))) (1 : Int32)) 212 (ix (((((((((0 : Int32) + Int32.ofInt (1)) + Int32.ofInt (1)) + Int32.ofInt (1)) + Int32.ofInt (1)) + Int32.ofInt (1)) + Int32.ofInt (1)) + Int32.ofInt (1)) + Int32.ofInt (1))) (1 : Int32)) 212 (ix ((((((((((0 : Int32) + Int32.ofInt (1)) + Int32.ofInt (1)) + Int32.ofInt (1)) + Int32.ofInt (1)) + Int32.ofInt (1)) + Int32.ofInt (1)) + Int32.ofInt (1)) + Int32.ofInt (1)) + Int32.ofInt (1))) (1 : Int32)) 212 (ix (((((((((((0 : Int32) + Int32.ofInt (1)) + Int32.ofInt (1)) + Int32.ofInt (1)) + Int32.ofInt (1)) + Int32.ofInt (1)) + Int32.ofInt (1)) + Int32.ofInt (1)) + Int32.ofInt (1)) + Int32.ofInt (1)) + Int32.ofInt (1))) (1 : Int32)) 212 (ix ((((((((((((0 : Int32) + Int32.ofInt (1)) + Int32.ofInt (1)) + Int32.ofInt (1)) + Int32.ofInt (1)) + Int32.ofInt (1)) + Int32.ofInt (1)) + Int32.ofInt (1)) + Int32.ofInt (1)) + Int32.ofInt (1)) + Int32.ofInt (1)) + Int32.ofInt (1))) (1 : Int32)) 212 (ix (((((((((((((0 : Int32) + Int32.ofInt (1)) + Int32.ofInt (1)) + Int32.ofInt (1)) + Int32.ofInt (1)) + Int32.ofInt (1)) + Int32.ofInt (1)) + Int32.ofInt (1)) + Int32.ofInt (1)) + Int32.ofInt (1)) + Int32.ofInt (1)) + Int32.ofInt (1)) + Int32.ofInt (1))) (1 : Int32)) 212 (ix ((((((((((((((0 : Int32) + Int32.ofInt (1)) + Int32.ofInt (1)) + Int32.ofInt (1)) + Int32.ofInt (1)) + Int32.ofInt (1)) + Int32.ofInt (1)) + Int32.ofInt (1)) + Int32.ofInt (1)) + Int32.ofInt (1)) + Int32.ofInt (1)) + Int32.ofInt (1)) + Int32.ofInt (1)) + Int32.ofInt (1))) (1 : Int32)) 212 (ix (((((((((((((((0 : Int32) + Int32.ofInt (1)) + Int32.ofInt (1)) + Int32.ofInt (1)) + Int32.ofInt (1)) + Int32.ofInt (1)) + Int32.ofInt (1)) + Int32.ofInt (1)) + Int32.ofInt (1)) + Int32.ofInt (1)) + Int32.ofInt (1)) + Int32.ofInt (1)) + Int32.ofInt (1)) + Int32.ofInt (1)) + Int32.ofInt (1))) (1 : Int32)) 212 (ix ((((((((((((((((0 : Int32) + Int32.ofInt (1)) + Int32.ofInt (1)) + Int32.ofInt (1)) + Int32.ofInt (1)) + Int32.ofInt (1)) + Int32.ofInt (1)) + Int32.ofInt (1)) + Int32.ofInt (1)) + Int32.ofInt (1)) + Int32.ofInt (1)) + Int32.ofInt (1)) + Int32.ofInt (1)) + Int32.ofInt (1)) + Int32.ofInt (1)) + Int32.ofInt (1))) (1 : Int32)) 199 20 (-1 : Int32)) 199 21 (-1 : Int32)) 199 22 (-1 : Int32)) 199 25 (-1 : Int32)) 199 41 (8 : Int32)) 199 48 (-1 : Int32)) 199 18 (-1 : Int32)) 199 43 (-1 : Int32)) 199 47 (-1 : Int32)) 199 27 (-1 : Int32)) 217 (ix (0 : Int32)) (15 : Int32)) 217 (ix (1 : Int32)) (10 : Int32)) 217 (ix (2 : Int32)) (20 : Int32)) 217 (ix (3 : Int32)) (10 : Int32)) 217 (ix (4 : Int32)) (200 : Int32)) 217 (ix (5 : Int32)) (0 : Int32)) 217 (ix (6 : Int32)) (12 : Int32)) 217 (ix (7 : Int32)) (0 : Int32)) 217 (ix (8 : Int32)) (999 : Int32)) (vp_updL (vp_updL ζ 30 (1 : Int64)) 53 (1 : Int64))) := by
  refine gC_of (by decide) (Nat.le_of_ble_eq_true rfl) ?_
  refine g_aload_n dX10_init_0 rfl rfl rfl ?_
  refine g_obj ml_X10_1 im_obj cd_obj (Nat.le_of_ble_eq_true rfl) (Nat.le_of_ble_eq_true rfl) dX10_init_1 rfl ?_
  refine g_aload_n dX10_init_4 rfl rfl rfl ?_
  refine g_sipush (v := 400) dX10_init_5 (by decide) rfl ?_
  refine g_newa (at_ := .byte) (ty := .byte) (t := 1) (N := 400) rfl rfl aw_byte rfl (by decide +kernel) (by decide +kernel) (by decide) (by rw [hq_len]; decide) (Nat.le_of_ble_eq_true rfl) (Nat.le_of_ble_eq_true rfl) (fun _ z => by cases z) dX10_init_8 rfl ?_
  refine g_heq (hq_push (cN_new hz (fun z => absurd z (by decide)) rfl)) (by rw [hq_len]) ?_
  replace hz := gfr_u (n1 := 201) (by decide) hz
  refine g_putF gClX10 0 (by decide) fl_X10_7 rfl rfl rfl dX10_init_10 (q199 (by decide)) rfl rfl (Nat.le_of_ble_eq_true rfl) (qm_0 (by decide)) rfl ?_
  replace hz := gfr_m (j := 199) (k := 0) (by decide) hz
  refine g_aload_n dX10_init_13 rfl rfl rfl ?_
  refine g_bipush (v := 64) dX10_init_14 (by decide) rfl ?_
  refine g_newa (at_ := .int) (ty := .int) (t := 0) (N := 64) rfl rfl aw_int rfl (by decide +kernel) (by decide +kernel) (by decide) (by rw [hq_len]; decide) (Nat.le_of_ble_eq_true rfl) (Nat.le_of_ble_eq_true rfl) (fun _ z => by cases z) dX10_init_16 rfl ?_
  refine g_heq (hq_push (cN_new hz (fun z => absurd z (by decide)) rfl)) (by rw [hq_len]) ?_
  replace hz := gfr_u (n1 := 202) (by decide) hz
  refine g_putF gClX10 2 (by decide) fl_X10_13 rfl rfl rfl dX10_init_18 (q199 (by decide)) rfl rfl (Nat.le_of_ble_eq_true rfl) (qm_2 (by decide)) rfl ?_
  replace hz := gfr_m (j := 199) (k := 2) (by decide) hz
  refine g_aload_n dX10_init_21 rfl rfl rfl ?_
  refine g_bipush (v := 64) dX10_init_22 (by decide) rfl ?_
  refine g_newa (at_ := .int) (ty := .int) (t := 0) (N := 64) rfl rfl aw_int rfl (by decide +kernel) (by decide +kernel) (by decide) (by rw [hq_len]; decide) (Nat.le_of_ble_eq_true rfl) (Nat.le_of_ble_eq_true rfl) (fun _ z => by cases z) dX10_init_24 rfl ?_
  refine g_heq (hq_push (cN_new hz (fun z => absurd z (by decide)) rfl)) (by rw [hq_len]) ?_
  replace hz := gfr_u (n1 := 203) (by decide) hz
  refine g_putF gClX10 3 (by decide) fl_X10_17 rfl rfl rfl dX10_init_26 (q199 (by decide)) rfl rfl (Nat.le_of_ble_eq_true rfl) (qm_3 (by decide)) rfl ?_
  replace hz := gfr_m (j := 199) (k := 3) (by decide) hz
  refine g_aload_n dX10_init_29 rfl rfl rfl ?_
  refine g_bipush (v := 8) dX10_init_30 (by decide) rfl ?_
  refine g_newa (at_ := .int) (ty := .int) (t := 0) (N := 8) rfl rfl aw_int rfl (by decide +kernel) (by decide +kernel) (by decide) (by rw [hq_len]; decide) (Nat.le_of_ble_eq_true rfl) (Nat.le_of_ble_eq_true rfl) (fun _ z => by cases z) dX10_init_32 rfl ?_
  refine g_heq (hq_push (cN_new hz (fun z => absurd z (by decide)) rfl)) (by rw [hq_len]) ?_
  replace hz := gfr_u (n1 := 204) (by decide) hz
  refine g_putF gClX10 4 (by decide) fl_X10_20 rfl rfl rfl dX10_init_34 (q199 (by decide)) rfl rfl (Nat.le_of_ble_eq_true rfl) (qm_4 (by decide)) rfl ?_
  replace hz := gfr_m (j := 199) (k := 4) (by decide) hz
  refine g_aload_n dX10_init_37 rfl rfl rfl ?_
  refine g_bipush (v := 8) dX10_init_38 (by decide) rfl ?_
  refine g_newa (at_ := .int) (ty := .int) (t := 0) (N := 8) rfl rfl aw_int rfl (by decide +kernel) (by decide +kernel) (by decide) (by rw [hq_len]; decide) (Nat.le_of_ble_eq_true rfl) (Nat.le_of_ble_eq_true rfl) (fun _ z => by cases z) dX10_init_40 rfl ?_
  refine g_heq (hq_push (cN_new hz (fun z => absurd z (by decide)) rfl)) (by rw [hq_len]) ?_
  replace hz := gfr_u (n1 := 205) (by decide) hz
  refine g_putF gClX10 5 (by decide) fl_X10_23 rfl rfl rfl dX10_init_42 (q199 (by decide)) rfl rfl (Nat.le_of_ble_eq_true rfl) (qm_5 (by decide)) rfl ?_
  replace hz := gfr_m (j := 199) (k := 5) (by decide) hz
  refine g_aload_n dX10_init_45 rfl rfl rfl ?_
  refine g_bipush (v := 64) dX10_init_46 (by decide) rfl ?_
  refine g_newa (at_ := .int) (ty := .int) (t := 0) (N := 64) rfl rfl aw_int rfl (by decide +kernel) (by decide +kernel) (by decide) (by rw [hq_len]; decide) (Nat.le_of_ble_eq_true rfl) (Nat.le_of_ble_eq_true rfl) (fun _ z => by cases z) dX10_init_48 rfl ?_
  refine g_heq (hq_push (cN_new hz (fun z => absurd z (by decide)) rfl)) (by rw [hq_len]) ?_
  replace hz := gfr_u (n1 := 206) (by decide) hz
  refine g_putF gClX10 6 (by decide) fl_X10_26 rfl rfl rfl dX10_init_50 (q199 (by decide)) rfl rfl (Nat.le_of_ble_eq_true rfl) (qm_6 (by decide)) rfl ?_
  replace hz := gfr_m (j := 199) (k := 6) (by decide) hz
  refine g_aload_n dX10_init_53 rfl rfl rfl ?_
  refine g_bipush (v := 64) dX10_init_54 (by decide) rfl ?_
  refine g_newa (at_ := .byte) (ty := .byte) (t := 1) (N := 64) rfl rfl aw_byte rfl (by decide +kernel) (by decide +kernel) (by decide) (by rw [hq_len]; decide) (Nat.le_of_ble_eq_true rfl) (Nat.le_of_ble_eq_true rfl) (fun _ z => by cases z) dX10_init_56 rfl ?_
  refine g_heq (hq_push (cN_new hz (fun z => absurd z (by decide)) rfl)) (by rw [hq_len]) ?_
  replace hz := gfr_u (n1 := 207) (by decide) hz
  refine g_putF gClX10 7 (by decide) fl_X10_29 rfl rfl rfl dX10_init_58 (q199 (by decide)) rfl rfl (Nat.le_of_ble_eq_true rfl) (qm_7 (by decide)) rfl ?_
  replace hz := gfr_m (j := 199) (k := 7) (by decide) hz
  refine g_aload_n dX10_init_61 rfl rfl rfl ?_
  refine g_bipush (v := 32) dX10_init_62 (by decide) rfl ?_
  refine g_newa (at_ := .byte) (ty := .byte) (t := 1) (N := 32) rfl rfl aw_byte rfl (by decide +kernel) (by decide +kernel) (by decide) (by rw [hq_len]; decide) (Nat.le_of_ble_eq_true rfl) (Nat.le_of_ble_eq_true rfl) (fun _ z => by cases z) dX10_init_64 rfl ?_
  refine g_heq (hq_push (cN_new hz (fun z => absurd z (by decide)) rfl)) (by rw [hq_len]) ?_
  replace hz := gfr_u (n1 := 208) (by decide) hz
  refine g_putF gClX10 8 (by decide) fl_X10_32 rfl rfl rfl dX10_init_66 (q199 (by decide)) rfl rfl (Nat.le_of_ble_eq_true rfl) (qm_8 (by decide)) rfl ?_
  replace hz := gfr_m (j := 199) (k := 8) (by decide) hz
  refine g_aload_n dX10_init_69 rfl rfl rfl ?_
  refine g_bipush (v := 32) dX10_init_70 (by decide) rfl ?_
  refine g_newa (at_ := .byte) (ty := .byte) (t := 1) (N := 32) rfl rfl aw_byte rfl (by decide +kernel) (by decide +kernel) (by decide) (by rw [hq_len]; decide) (Nat.le_of_ble_eq_true rfl) (Nat.le_of_ble_eq_true rfl) (fun _ z => by cases z) dX10_init_72 rfl ?_
  refine g_heq (hq_push (cN_new hz (fun z => absurd z (by decide)) rfl)) (by rw [hq_len]) ?_
  replace hz := gfr_u (n1 := 209) (by decide) hz
  refine g_putF gClX10 9 (by decide) fl_X10_35 rfl rfl rfl dX10_init_74 (q199 (by decide)) rfl rfl (Nat.le_of_ble_eq_true rfl) (qm_9 (by decide)) rfl ?_
  replace hz := gfr_m (j := 199) (k := 9) (by decide) hz
  refine g_aload_n dX10_init_77 rfl rfl rfl ?_
  refine g_bipush (v := 16) dX10_init_78 (by decide) rfl ?_
  refine g_newa (at_ := .byte) (ty := .byte) (t := 1) (N := 16) rfl rfl aw_byte rfl (by decide +kernel) (by decide +kernel) (by decide) (by rw [hq_len]; decide) (Nat.le_of_ble_eq_true rfl) (Nat.le_of_ble_eq_true rfl) (fun _ z => by cases z) dX10_init_80 rfl ?_
  refine g_heq (hq_push (cN_new hz (fun z => absurd z (by decide)) rfl)) (by rw [hq_len]) ?_
  replace hz := gfr_u (n1 := 210) (by decide) hz
  refine g_putF gClX10 11 (by decide) fl_X10_38 rfl rfl rfl dX10_init_82 (q199 (by decide)) rfl rfl (Nat.le_of_ble_eq_true rfl) (qm_11 (by decide)) rfl ?_
  replace hz := gfr_m (j := 199) (k := 11) (by decide) hz
  refine g_aload_n dX10_init_85 rfl rfl rfl ?_
  refine g_sipush (v := 3072) dX10_init_86 (by decide) rfl ?_
  refine g_newa (at_ := .byte) (ty := .byte) (t := 1) (N := 3072) rfl rfl aw_byte rfl (by decide +kernel) (by decide +kernel) (by decide) (by rw [hq_len]; decide) (Nat.le_of_ble_eq_true rfl) (Nat.le_of_ble_eq_true rfl) (fun _ z => by cases z) dX10_init_89 rfl ?_
  refine g_heq (hq_push (cN_new hz (fun z => absurd z (by decide)) rfl)) (by rw [hq_len]) ?_
  replace hz := gfr_u (n1 := 211) (by decide) hz
  refine g_putF gClX10 12 (by decide) fl_X10_41 rfl rfl rfl dX10_init_91 (q199 (by decide)) rfl rfl (Nat.le_of_ble_eq_true rfl) (qm_12 (by decide)) rfl ?_
  replace hz := gfr_m (j := 199) (k := 12) (by decide) hz
  refine g_aload_n dX10_init_94 rfl rfl rfl ?_
  refine g_bipush (v := 64) dX10_init_95 (by decide) rfl ?_
  refine g_newa (at_ := .int) (ty := .int) (t := 0) (N := 64) rfl rfl aw_int rfl (by decide +kernel) (by decide +kernel) (by decide) (by rw [hq_len]; decide) (Nat.le_of_ble_eq_true rfl) (Nat.le_of_ble_eq_true rfl) (fun _ z => by cases z) dX10_init_97 rfl ?_
  refine g_heq (hq_push (cN_new hz (fun z => absurd z (by decide)) rfl)) (by rw [hq_len]) ?_
  replace hz := gfr_u (n1 := 212) (by decide) hz
  refine g_putF gClX10 13 (by decide) fl_X10_44 rfl rfl rfl dX10_init_99 (q199 (by decide)) rfl rfl (Nat.le_of_ble_eq_true rfl) (qm_13 (by decide)) rfl ?_
  replace hz := gfr_m (j := 199) (k := 13) (by decide) hz
  refine g_aload_n dX10_init_102 rfl rfl rfl ?_
  refine g_bipush (v := 16) dX10_init_103 (by decide) rfl ?_
  refine g_newa (at_ := .boolean) (ty := .boolean) (t := 2) (N := 16) rfl rfl aw_boolean rfl (by decide +kernel) (by decide +kernel) (by decide) (by rw [hq_len]; decide) (Nat.le_of_ble_eq_true rfl) (Nat.le_of_ble_eq_true rfl) (fun _ z => by cases z) dX10_init_105 rfl ?_
  refine g_heq (hq_push (cN_new hz (fun z => absurd z (by decide)) rfl)) (by rw [hq_len]) ?_
  replace hz := gfr_u (n1 := 213) (by decide) hz
  refine g_putF gClX10 14 (by decide) fl_X10_47 rfl rfl rfl dX10_init_107 (q199 (by decide)) rfl rfl (Nat.le_of_ble_eq_true rfl) (qm_14 (by decide)) rfl ?_
  replace hz := gfr_m (j := 199) (k := 14) (by decide) hz
  refine g_aload_n dX10_init_110 rfl rfl rfl ?_
  refine g_bipush (v := 7) dX10_init_111 (by decide) rfl ?_
  refine g_newa (at_ := .int) (ty := .int) (t := 0) (N := 7) rfl rfl aw_int rfl (by decide +kernel) (by decide +kernel) (by decide) (by rw [hq_len]; decide) (Nat.le_of_ble_eq_true rfl) (Nat.le_of_ble_eq_true rfl) (fun _ z => by cases z) dX10_init_113 rfl ?_
  refine g_heq (hq_push (cN_new hz (fun z => absurd z (by decide)) rfl)) (by rw [hq_len]) ?_
  replace hz := gfr_u (n1 := 214) (by decide) hz
  refine g_putF gClX10 15 (by decide) fl_X10_51 rfl rfl rfl dX10_init_115 (q199 (by decide)) rfl rfl (Nat.le_of_ble_eq_true rfl) (qm_15 (by decide)) rfl ?_
  replace hz := gfr_m (j := 199) (k := 15) (by decide) hz
  refine g_aload_n dX10_init_118 rfl rfl rfl ?_
  refine g_bipush (v := 112) dX10_init_119 (by decide) rfl ?_
  refine g_newa (at_ := .byte) (ty := .byte) (t := 1) (N := 112) rfl rfl aw_byte rfl (by decide +kernel) (by decide +kernel) (by decide) (by rw [hq_len]; decide) (Nat.le_of_ble_eq_true rfl) (Nat.le_of_ble_eq_true rfl) (fun _ z => by cases z) dX10_init_121 rfl ?_
  refine g_heq (hq_push (cN_new hz (fun z => absurd z (by decide)) rfl)) (by rw [hq_len]) ?_
  replace hz := gfr_u (n1 := 215) (by decide) hz
  refine g_putF gClX10 16 (by decide) fl_X10_54 rfl rfl rfl dX10_init_123 (q199 (by decide)) rfl rfl (Nat.le_of_ble_eq_true rfl) (qm_16 (by decide)) rfl ?_
  replace hz := gfr_m (j := 199) (k := 16) (by decide) hz
  refine g_aload_n dX10_init_126 rfl rfl rfl ?_
  refine g_sipush (v := 400) dX10_init_127 (by decide) rfl ?_
  refine g_newa (at_ := .byte) (ty := .byte) (t := 1) (N := 400) rfl rfl aw_byte rfl (by decide +kernel) (by decide +kernel) (by decide) (by rw [hq_len]; decide) (Nat.le_of_ble_eq_true rfl) (Nat.le_of_ble_eq_true rfl) (fun _ z => by cases z) dX10_init_130 rfl ?_
  refine g_heq (hq_push (cN_new hz (fun z => absurd z (by decide)) rfl)) (by rw [hq_len]) ?_
  replace hz := gfr_u (n1 := 216) (by decide) hz
  refine g_putF gClX10 24 (by decide) fl_X10_57 rfl rfl rfl dX10_init_132 (q199 (by decide)) rfl rfl (Nat.le_of_ble_eq_true rfl) (qm_24 (by decide)) rfl ?_
  replace hz := gfr_m (j := 199) (k := 24) (by decide) hz
  refine g_aload_n dX10_init_135 rfl rfl rfl ?_
  refine g_sipush (v := 1552) dX10_init_136 (by decide) rfl ?_
  refine g_newa (at_ := .byte) (ty := .byte) (t := 1) (N := 1552) rfl rfl aw_byte rfl (by decide +kernel) (by decide +kernel) (by decide) (by rw [hq_len]; decide) (Nat.le_of_ble_eq_true rfl) (Nat.le_of_ble_eq_true rfl) (fun _ z => by cases z) dX10_init_139 rfl ?_
  refine g_heq (hq_push (cN_new hz (fun z => absurd z (by decide)) rfl)) (by rw [hq_len]) ?_
  replace hz := gfr_u (n1 := 217) (by decide) hz
  refine g_putF gClX10 28 (by decide) fl_X10_60 rfl rfl rfl dX10_init_141 (q199 (by decide)) rfl rfl (Nat.le_of_ble_eq_true rfl) (qm_28 (by decide)) rfl ?_
  replace hz := gfr_m (j := 199) (k := 28) (by decide) hz
  refine g_aload_n dX10_init_144 rfl rfl rfl ?_
  refine g_bipush (v := 9) dX10_init_145 (by decide) rfl ?_
  refine g_newa (at_ := .int) (ty := .int) (t := 0) (N := 9) rfl rfl aw_int rfl (by decide +kernel) (by decide +kernel) (by decide) (by rw [hq_len]; decide) (Nat.le_of_ble_eq_true rfl) (Nat.le_of_ble_eq_true rfl) (fun _ z => by cases z) dX10_init_147 rfl ?_
  refine g_heq (hq_push (cN_new hz (fun z => absurd z (by decide)) rfl)) (by rw [hq_len]) ?_
  replace hz := gfr_u (n1 := 218) (by decide) hz
  refine g_putF gClX10 34 (by decide) fl_X10_63 rfl rfl rfl dX10_init_149 (q199 (by decide)) rfl rfl (Nat.le_of_ble_eq_true rfl) (qm_34 (by decide)) rfl ?_
  replace hz := gfr_m (j := 199) (k := 34) (by decide) hz
  refine g_aload_n dX10_init_152 rfl rfl rfl ?_
  refine g_sipush (v := 385) dX10_init_153 (by decide) rfl ?_
  refine g_newa (at_ := .byte) (ty := .byte) (t := 1) (N := 385) rfl rfl aw_byte rfl (by decide +kernel) (by decide +kernel) (by decide) (by rw [hq_len]; decide) (Nat.le_of_ble_eq_true rfl) (Nat.le_of_ble_eq_true rfl) (fun _ z => by cases z) dX10_init_156 rfl ?_
  refine g_heq (hq_push (cN_new hz (fun z => absurd z (by decide)) rfl)) (by rw [hq_len]) ?_
  replace hz := gfr_u (n1 := 219) (by decide) hz
  refine g_putF gClX10 51 (by decide) fl_X10_66 rfl rfl rfl dX10_init_158 (q199 (by decide)) rfl rfl (Nat.le_of_ble_eq_true rfl) (qm_51 (by decide)) rfl ?_
  replace hz := gfr_m (j := 199) (k := 51) (by decide) hz
  refine g_iconst (v := 0) dX10_init_161 (by decide) rfl ?_
  refine g_istoreL_n (L1 := [(0, _), (1, _)]) dX10_init_162 rfl (by decide) rfl rfl ?_
  refine g_iload_n dX10_init_163 rfl rfl rfl ?_
  refine g_bipush (v := 16) dX10_init_164 (by decide) rfl ?_
  refine g_icmpge (tgt := 182) dX10_init_166 (by decide) rfl (fun z => absurd z (by decide +kernel)) (fun _ => ?_)
  refine g_aload_n dX10_init_169 rfl rfl rfl ?_
  refine g_get (v := .ref 212) gClX10 14 (by decide) fl_X10_47 dX10_init_170 (q199 (by decide)) rfl rfl ?_
  refine g_iload_n dX10_init_173 rfl rfl rfl ?_
  refine g_iconst (v := 1) dX10_init_174 (by decide) rfl ?_
  refine g_zast (hq_at (by decide)) (vinc (by decide +kernel)) (by decide) (hq_pa (by decide) rfl) dX10_init_175 rfl ?_
  replace hz := gfr_p (j := 212) (k := (ix (0 : Int32))) (x := (1 : Int32)) (by decide) hz
  refine g_iincL (L1 := [(0, _), (1, _)]) dX10_init_176 rfl (by decide) rfl rfl ?_
  refine g_goto (tgt := 163) dX10_init_179 (by decide) ?_
  refine g_iload_n dX10_init_163 rfl rfl rfl ?_
  refine g_bipush (v := 16) dX10_init_164 (by decide) rfl ?_
  refine g_icmpge (tgt := 182) dX10_init_166 (by decide) rfl (fun z => absurd z (by decide +kernel)) (fun _ => ?_)
  refine g_aload_n dX10_init_169 rfl rfl rfl ?_
  refine g_get (v := .ref 212) gClX10 14 (by decide) fl_X10_47 dX10_init_170 (q199 (by decide)) rfl rfl ?_
  refine g_iload_n dX10_init_173 rfl rfl rfl ?_
  refine g_iconst (v := 1) dX10_init_174 (by decide) rfl ?_
  refine g_zast (hq_at (by decide)) (vinc (by decide +kernel)) (by decide) (hq_pa (by decide) rfl) dX10_init_175 rfl ?_
  replace hz := gfr_p (j := 212) (k := (ix ((0 : Int32) + Int32.ofInt (1)))) (x := (1 : Int32)) (by decide) hz
  refine g_iincL (L1 := [(0, _), (1, _)]) dX10_init_176 rfl (by decide) rfl rfl ?_
  refine g_goto (tgt := 163) dX10_init_179 (by decide) ?_
  refine g_iload_n dX10_init_163 rfl rfl rfl ?_
  refine g_bipush (v := 16) dX10_init_164 (by decide) rfl ?_
  refine g_icmpge (tgt := 182) dX10_init_166 (by decide) rfl (fun z => absurd z (by decide +kernel)) (fun _ => ?_)
  refine g_aload_n dX10_init_169 rfl rfl rfl ?_
  refine g_get (v := .ref 212) gClX10 14 (by decide) fl_X10_47 dX10_init_170 (q199 (by decide)) rfl rfl ?_
  refine g_iload_n dX10_init_173 rfl rfl rfl ?_
  refine g_iconst (v := 1) dX10_init_174 (by decide) rfl ?_
  refine g_zast (hq_at (by decide)) (vinc (by decide +kernel)) (by decide) (hq_pa (by decide) rfl) dX10_init_175 rfl ?_
  replace hz := gfr_p (j := 212) (k := (ix (((0 : Int32) + Int32.ofInt (1)) + Int32.ofInt (1)))) (x := (1 : Int32)) (by decide) hz
  refine g_iincL (L1 := [(0, _), (1, _)]) dX10_init_176 rfl (by decide) rfl rfl ?_
  refine g_goto (tgt := 163) dX10_init_179 (by decide) ?_
  refine g_iload_n dX10_init_163 rfl rfl rfl ?_
  refine g_bipush (v := 16) dX10_init_164 (by decide) rfl ?_
  refine g_icmpge (tgt := 182) dX10_init_166 (by decide) rfl (fun z => absurd z (by decide +kernel)) (fun _ => ?_)
  refine g_aload_n dX10_init_169 rfl rfl rfl ?_
  refine g_get (v := .ref 212) gClX10 14 (by decide) fl_X10_47 dX10_init_170 (q199 (by decide)) rfl rfl ?_
  refine g_iload_n dX10_init_173 rfl rfl rfl ?_
  refine g_iconst (v := 1) dX10_init_174 (by decide) rfl ?_
  refine g_zast (hq_at (by decide)) (vinc (by decide +kernel)) (by decide) (hq_pa (by decide) rfl) dX10_init_175 rfl ?_
  replace hz := gfr_p (j := 212) (k := (ix ((((0 : Int32) + Int32.ofInt (1)) + Int32.ofInt (1)) + Int32.ofInt (1)))) (x := (1 : Int32)) (by decide) hz
  refine g_iincL (L1 := [(0, _), (1, _)]) dX10_init_176 rfl (by decide) rfl rfl ?_
  refine g_goto (tgt := 163) dX10_init_179 (by decide) ?_
  refine g_iload_n dX10_init_163 rfl rfl rfl ?_
  refine g_bipush (v := 16) dX10_init_164 (by decide) rfl ?_
  refine g_icmpge (tgt := 182) dX10_init_166 (by decide) rfl (fun z => absurd z (by decide +kernel)) (fun _ => ?_)
  refine g_aload_n dX10_init_169 rfl rfl rfl ?_
  refine g_get (v := .ref 212) gClX10 14 (by decide) fl_X10_47 dX10_init_170 (q199 (by decide)) rfl rfl ?_
  refine g_iload_n dX10_init_173 rfl rfl rfl ?_
  refine g_iconst (v := 1) dX10_init_174 (by decide) rfl ?_
  refine g_zast (hq_at (by decide)) (vinc (by decide +kernel)) (by decide) (hq_pa (by decide) rfl) dX10_init_175 rfl ?_
  replace hz := gfr_p (j := 212) (k := (ix (((((0 : Int32) + Int32.ofInt (1)) + Int32.ofInt (1)) + Int32.ofInt (1)) + Int32.ofInt (1)))) (x := (1 : Int32)) (by decide) hz
  refine g_iincL (L1 := [(0, _), (1, _)]) dX10_init_176 rfl (by decide) rfl rfl ?_
  refine g_goto (tgt := 163) dX10_init_179 (by decide) ?_
  refine g_iload_n dX10_init_163 rfl rfl rfl ?_
  refine g_bipush (v := 16) dX10_init_164 (by decide) rfl ?_
  refine g_icmpge (tgt := 182) dX10_init_166 (by decide) rfl (fun z => absurd z (by decide +kernel)) (fun _ => ?_)
  refine g_aload_n dX10_init_169 rfl rfl rfl ?_
  refine g_get (v := .ref 212) gClX10 14 (by decide) fl_X10_47 dX10_init_170 (q199 (by decide)) rfl rfl ?_
  refine g_iload_n dX10_init_173 rfl rfl rfl ?_
  refine g_iconst (v := 1) dX10_init_174 (by decide) rfl ?_
  refine g_zast (hq_at (by decide)) (vinc (by decide +kernel)) (by decide) (hq_pa (by decide) rfl) dX10_init_175 rfl ?_
  replace hz := gfr_p (j := 212) (k := (ix ((((((0 : Int32) + Int32.ofInt (1)) + Int32.ofInt (1)) + Int32.ofInt (1)) + Int32.ofInt (1)) + Int32.ofInt (1)))) (x := (1 : Int32)) (by decide) hz
  refine g_iincL (L1 := [(0, _), (1, _)]) dX10_init_176 rfl (by decide) rfl rfl ?_
  refine g_goto (tgt := 163) dX10_init_179 (by decide) ?_
  refine g_iload_n dX10_init_163 rfl rfl rfl ?_
  refine g_bipush (v := 16) dX10_init_164 (by decide) rfl ?_
  refine g_icmpge (tgt := 182) dX10_init_166 (by decide) rfl (fun z => absurd z (by decide +kernel)) (fun _ => ?_)
  refine g_aload_n dX10_init_169 rfl rfl rfl ?_
  refine g_get (v := .ref 212) gClX10 14 (by decide) fl_X10_47 dX10_init_170 (q199 (by decide)) rfl rfl ?_
  refine g_iload_n dX10_init_173 rfl rfl rfl ?_
  refine g_iconst (v := 1) dX10_init_174 (by decide) rfl ?_
  refine g_zast (hq_at (by decide)) (vinc (by decide +kernel)) (by decide) (hq_pa (by decide) rfl) dX10_init_175 rfl ?_
  replace hz := gfr_p (j := 212) (k := (ix (((((((0 : Int32) + Int32.ofInt (1)) + Int32.ofInt (1)) + Int32.ofInt (1)) + Int32.ofInt (1)) + Int32.ofInt (1)) + Int32.ofInt (1)))) (x := (1 : Int32)) (by decide) hz
  refine g_iincL (L1 := [(0, _), (1, _)]) dX10_init_176 rfl (by decide) rfl rfl ?_
  refine g_goto (tgt := 163) dX10_init_179 (by decide) ?_
  refine g_iload_n dX10_init_163 rfl rfl rfl ?_
  refine g_bipush (v := 16) dX10_init_164 (by decide) rfl ?_
  refine g_icmpge (tgt := 182) dX10_init_166 (by decide) rfl (fun z => absurd z (by decide +kernel)) (fun _ => ?_)
  refine g_aload_n dX10_init_169 rfl rfl rfl ?_
  refine g_get (v := .ref 212) gClX10 14 (by decide) fl_X10_47 dX10_init_170 (q199 (by decide)) rfl rfl ?_
  refine g_iload_n dX10_init_173 rfl rfl rfl ?_
  refine g_iconst (v := 1) dX10_init_174 (by decide) rfl ?_
  refine g_zast (hq_at (by decide)) (vinc (by decide +kernel)) (by decide) (hq_pa (by decide) rfl) dX10_init_175 rfl ?_
  replace hz := gfr_p (j := 212) (k := (ix ((((((((0 : Int32) + Int32.ofInt (1)) + Int32.ofInt (1)) + Int32.ofInt (1)) + Int32.ofInt (1)) + Int32.ofInt (1)) + Int32.ofInt (1)) + Int32.ofInt (1)))) (x := (1 : Int32)) (by decide) hz
  refine g_iincL (L1 := [(0, _), (1, _)]) dX10_init_176 rfl (by decide) rfl rfl ?_
  refine g_goto (tgt := 163) dX10_init_179 (by decide) ?_
  refine g_iload_n dX10_init_163 rfl rfl rfl ?_
  refine g_bipush (v := 16) dX10_init_164 (by decide) rfl ?_
  refine g_icmpge (tgt := 182) dX10_init_166 (by decide) rfl (fun z => absurd z (by decide +kernel)) (fun _ => ?_)
  refine g_aload_n dX10_init_169 rfl rfl rfl ?_
  refine g_get (v := .ref 212) gClX10 14 (by decide) fl_X10_47 dX10_init_170 (q199 (by decide)) rfl rfl ?_
  refine g_iload_n dX10_init_173 rfl rfl rfl ?_
  refine g_iconst (v := 1) dX10_init_174 (by decide) rfl ?_
  refine g_zast (hq_at (by decide)) (vinc (by decide +kernel)) (by decide) (hq_pa (by decide) rfl) dX10_init_175 rfl ?_
  replace hz := gfr_p (j := 212) (k := (ix (((((((((0 : Int32) + Int32.ofInt (1)) + Int32.ofInt (1)) + Int32.ofInt (1)) + Int32.ofInt (1)) + Int32.ofInt (1)) + Int32.ofInt (1)) + Int32.ofInt (1)) + Int32.ofInt (1)))) (x := (1 : Int32)) (by decide) hz
  refine g_iincL (L1 := [(0, _), (1, _)]) dX10_init_176 rfl (by decide) rfl rfl ?_
  refine g_goto (tgt := 163) dX10_init_179 (by decide) ?_
  refine g_iload_n dX10_init_163 rfl rfl rfl ?_
  refine g_bipush (v := 16) dX10_init_164 (by decide) rfl ?_
  refine g_icmpge (tgt := 182) dX10_init_166 (by decide) rfl (fun z => absurd z (by decide +kernel)) (fun _ => ?_)
  refine g_aload_n dX10_init_169 rfl rfl rfl ?_
  refine g_get (v := .ref 212) gClX10 14 (by decide) fl_X10_47 dX10_init_170 (q199 (by decide)) rfl rfl ?_
  refine g_iload_n dX10_init_173 rfl rfl rfl ?_
  refine g_iconst (v := 1) dX10_init_174 (by decide) rfl ?_
  refine g_zast (hq_at (by decide)) (vinc (by decide +kernel)) (by decide) (hq_pa (by decide) rfl) dX10_init_175 rfl ?_
  replace hz := gfr_p (j := 212) (k := (ix ((((((((((0 : Int32) + Int32.ofInt (1)) + Int32.ofInt (1)) + Int32.ofInt (1)) + Int32.ofInt (1)) + Int32.ofInt (1)) + Int32.ofInt (1)) + Int32.ofInt (1)) + Int32.ofInt (1)) + Int32.ofInt (1)))) (x := (1 : Int32)) (by decide) hz
  refine g_iincL (L1 := [(0, _), (1, _)]) dX10_init_176 rfl (by decide) rfl rfl ?_
  refine g_goto (tgt := 163) dX10_init_179 (by decide) ?_
  refine g_iload_n dX10_init_163 rfl rfl rfl ?_
  refine g_bipush (v := 16) dX10_init_164 (by decide) rfl ?_
  refine g_icmpge (tgt := 182) dX10_init_166 (by decide) rfl (fun z => absurd z (by decide +kernel)) (fun _ => ?_)
  refine g_aload_n dX10_init_169 rfl rfl rfl ?_
  refine g_get (v := .ref 212) gClX10 14 (by decide) fl_X10_47 dX10_init_170 (q199 (by decide)) rfl rfl ?_
  refine g_iload_n dX10_init_173 rfl rfl rfl ?_
  refine g_iconst (v := 1) dX10_init_174 (by decide) rfl ?_
  refine g_zast (hq_at (by decide)) (vinc (by decide +kernel)) (by decide) (hq_pa (by decide) rfl) dX10_init_175 rfl ?_
  replace hz := gfr_p (j := 212) (k := (ix (((((((((((0 : Int32) + Int32.ofInt (1)) + Int32.ofInt (1)) + Int32.ofInt (1)) + Int32.ofInt (1)) + Int32.ofInt (1)) + Int32.ofInt (1)) + Int32.ofInt (1)) + Int32.ofInt (1)) + Int32.ofInt (1)) + Int32.ofInt (1)))) (x := (1 : Int32)) (by decide) hz
  refine g_iincL (L1 := [(0, _), (1, _)]) dX10_init_176 rfl (by decide) rfl rfl ?_
  refine g_goto (tgt := 163) dX10_init_179 (by decide) ?_
  refine g_iload_n dX10_init_163 rfl rfl rfl ?_
  refine g_bipush (v := 16) dX10_init_164 (by decide) rfl ?_
  refine g_icmpge (tgt := 182) dX10_init_166 (by decide) rfl (fun z => absurd z (by decide +kernel)) (fun _ => ?_)
  refine g_aload_n dX10_init_169 rfl rfl rfl ?_
  refine g_get (v := .ref 212) gClX10 14 (by decide) fl_X10_47 dX10_init_170 (q199 (by decide)) rfl rfl ?_
  refine g_iload_n dX10_init_173 rfl rfl rfl ?_
  refine g_iconst (v := 1) dX10_init_174 (by decide) rfl ?_
  refine g_zast (hq_at (by decide)) (vinc (by decide +kernel)) (by decide) (hq_pa (by decide) rfl) dX10_init_175 rfl ?_
  replace hz := gfr_p (j := 212) (k := (ix ((((((((((((0 : Int32) + Int32.ofInt (1)) + Int32.ofInt (1)) + Int32.ofInt (1)) + Int32.ofInt (1)) + Int32.ofInt (1)) + Int32.ofInt (1)) + Int32.ofInt (1)) + Int32.ofInt (1)) + Int32.ofInt (1)) + Int32.ofInt (1)) + Int32.ofInt (1)))) (x := (1 : Int32)) (by decide) hz
  refine g_iincL (L1 := [(0, _), (1, _)]) dX10_init_176 rfl (by decide) rfl rfl ?_
  refine g_goto (tgt := 163) dX10_init_179 (by decide) ?_
  refine g_iload_n dX10_init_163 rfl rfl rfl ?_
  refine g_bipush (v := 16) dX10_init_164 (by decide) rfl ?_
  refine g_icmpge (tgt := 182) dX10_init_166 (by decide) rfl (fun z => absurd z (by decide +kernel)) (fun _ => ?_)
  refine g_aload_n dX10_init_169 rfl rfl rfl ?_
  refine g_get (v := .ref 212) gClX10 14 (by decide) fl_X10_47 dX10_init_170 (q199 (by decide)) rfl rfl ?_
  refine g_iload_n dX10_init_173 rfl rfl rfl ?_
  refine g_iconst (v := 1) dX10_init_174 (by decide) rfl ?_
  refine g_zast (hq_at (by decide)) (vinc (by decide +kernel)) (by decide) (hq_pa (by decide) rfl) dX10_init_175 rfl ?_
  replace hz := gfr_p (j := 212) (k := (ix (((((((((((((0 : Int32) + Int32.ofInt (1)) + Int32.ofInt (1)) + Int32.ofInt (1)) + Int32.ofInt (1)) + Int32.ofInt (1)) + Int32.ofInt (1)) + Int32.ofInt (1)) + Int32.ofInt (1)) + Int32.ofInt (1)) + Int32.ofInt (1)) + Int32.ofInt (1)) + Int32.ofInt (1)))) (x := (1 : Int32)) (by decide) hz
  refine g_iincL (L1 := [(0, _), (1, _)]) dX10_init_176 rfl (by decide) rfl rfl ?_
  refine g_goto (tgt := 163) dX10_init_179 (by decide) ?_
  refine g_iload_n dX10_init_163 rfl rfl rfl ?_
  refine g_bipush (v := 16) dX10_init_164 (by decide) rfl ?_
  refine g_icmpge (tgt := 182) dX10_init_166 (by decide) rfl (fun z => absurd z (by decide +kernel)) (fun _ => ?_)
  refine g_aload_n dX10_init_169 rfl rfl rfl ?_
  refine g_get (v := .ref 212) gClX10 14 (by decide) fl_X10_47 dX10_init_170 (q199 (by decide)) rfl rfl ?_
  refine g_iload_n dX10_init_173 rfl rfl rfl ?_
  refine g_iconst (v := 1) dX10_init_174 (by decide) rfl ?_
  refine g_zast (hq_at (by decide)) (vinc (by decide +kernel)) (by decide) (hq_pa (by decide) rfl) dX10_init_175 rfl ?_
  replace hz := gfr_p (j := 212) (k := (ix ((((((((((((((0 : Int32) + Int32.ofInt (1)) + Int32.ofInt (1)) + Int32.ofInt (1)) + Int32.ofInt (1)) + Int32.ofInt (1)) + Int32.ofInt (1)) + Int32.ofInt (1)) + Int32.ofInt (1)) + Int32.ofInt (1)) + Int32.ofInt (1)) + Int32.ofInt (1)) + Int32.ofInt (1)) + Int32.ofInt (1)))) (x := (1 : Int32)) (by decide) hz
  refine g_iincL (L1 := [(0, _), (1, _)]) dX10_init_176 rfl (by decide) rfl rfl ?_
  refine g_goto (tgt := 163) dX10_init_179 (by decide) ?_
  refine g_iload_n dX10_init_163 rfl rfl rfl ?_
  refine g_bipush (v := 16) dX10_init_164 (by decide) rfl ?_
  refine g_icmpge (tgt := 182) dX10_init_166 (by decide) rfl (fun z => absurd z (by decide +kernel)) (fun _ => ?_)
  refine g_aload_n dX10_init_169 rfl rfl rfl ?_
  refine g_get (v := .ref 212) gClX10 14 (by decide) fl_X10_47 dX10_init_170 (q199 (by decide)) rfl rfl ?_
  refine g_iload_n dX10_init_173 rfl rfl rfl ?_
  refine g_iconst (v := 1) dX10_init_174 (by decide) rfl ?_
  refine g_zast (hq_at (by decide)) (vinc (by decide +kernel)) (by decide) (hq_pa (by decide) rfl) dX10_init_175 rfl ?_
  replace hz := gfr_p (j := 212) (k := (ix (((((((((((((((0 : Int32) + Int32.ofInt (1)) + Int32.ofInt (1)) + Int32.ofInt (1)) + Int32.ofInt (1)) + Int32.ofInt (1)) + Int32.ofInt (1)) + Int32.ofInt (1)) + Int32.ofInt (1)) + Int32.ofInt (1)) + Int32.ofInt (1)) + Int32.ofInt (1)) + Int32.ofInt (1)) + Int32.ofInt (1)) + Int32.ofInt (1)))) (x := (1 : Int32)) (by decide) hz
  refine g_iincL (L1 := [(0, _), (1, _)]) dX10_init_176 rfl (by decide) rfl rfl ?_
  refine g_goto (tgt := 163) dX10_init_179 (by decide) ?_
  refine g_iload_n dX10_init_163 rfl rfl rfl ?_
  refine g_bipush (v := 16) dX10_init_164 (by decide) rfl ?_
  refine g_icmpge (tgt := 182) dX10_init_166 (by decide) rfl (fun z => absurd z (by decide +kernel)) (fun _ => ?_)
  refine g_aload_n dX10_init_169 rfl rfl rfl ?_
  refine g_get (v := .ref 212) gClX10 14 (by decide) fl_X10_47 dX10_init_170 (q199 (by decide)) rfl rfl ?_
  refine g_iload_n dX10_init_173 rfl rfl rfl ?_
  refine g_iconst (v := 1) dX10_init_174 (by decide) rfl ?_
  refine g_zast (hq_at (by decide)) (vinc (by decide +kernel)) (by decide) (hq_pa (by decide) rfl) dX10_init_175 rfl ?_
  replace hz := gfr_p (j := 212) (k := (ix ((((((((((((((((0 : Int32) + Int32.ofInt (1)) + Int32.ofInt (1)) + Int32.ofInt (1)) + Int32.ofInt (1)) + Int32.ofInt (1)) + Int32.ofInt (1)) + Int32.ofInt (1)) + Int32.ofInt (1)) + Int32.ofInt (1)) + Int32.ofInt (1)) + Int32.ofInt (1)) + Int32.ofInt (1)) + Int32.ofInt (1)) + Int32.ofInt (1)) + Int32.ofInt (1)))) (x := (1 : Int32)) (by decide) hz
  refine g_iincL (L1 := [(0, _), (1, _)]) dX10_init_176 rfl (by decide) rfl rfl ?_
  refine g_goto (tgt := 163) dX10_init_179 (by decide) ?_
  refine g_iload_n dX10_init_163 rfl rfl rfl ?_
  refine g_bipush (v := 16) dX10_init_164 (by decide) rfl ?_
  refine g_icmpge (tgt := 182) dX10_init_166 (by decide) rfl (fun _ => ?_) (fun z => absurd z (by decide +kernel))
  refine g_aload_n dX10_init_182 rfl rfl rfl ?_
  refine g_iconst (v := (-1)) dX10_init_183 (by decide) rfl ?_
  refine g_put gClX10 20 (by decide) fl_X10_69 rfl dX10_init_184 (q199 (by decide)) rfl rfl (Nat.le_of_ble_eq_true rfl) (qo_20 (by decide)) rfl ?_
  replace hz := gfr_p (j := 199) (k := 20) (x := (-1 : Int32)) (by decide) hz
  refine g_aload_n dX10_init_187 rfl rfl rfl ?_
  refine g_iconst (v := (-1)) dX10_init_188 (by decide) rfl ?_
  refine g_put gClX10 21 (by decide) fl_X10_73 rfl dX10_init_189 (q199 (by decide)) rfl rfl (Nat.le_of_ble_eq_true rfl) (qo_21 (by decide)) rfl ?_
  replace hz := gfr_p (j := 199) (k := 21) (x := (-1 : Int32)) (by decide) hz
  refine g_aload_n dX10_init_192 rfl rfl rfl ?_
  refine g_iconst (v := (-1)) dX10_init_193 (by decide) rfl ?_
  refine g_put gClX10 22 (by decide) fl_X10_76 rfl dX10_init_194 (q199 (by decide)) rfl rfl (Nat.le_of_ble_eq_true rfl) (qo_22 (by decide)) rfl ?_
  replace hz := gfr_p (j := 199) (k := 22) (x := (-1 : Int32)) (by decide) hz
  refine g_aload_n dX10_init_197 rfl rfl rfl ?_
  refine g_iconst (v := (-1)) dX10_init_198 (by decide) rfl ?_
  refine g_put gClX10 25 (by decide) fl_X10_79 rfl dX10_init_199 (q199 (by decide)) rfl rfl (Nat.le_of_ble_eq_true rfl) (qo_25 (by decide)) rfl ?_
  replace hz := gfr_p (j := 199) (k := 25) (x := (-1 : Int32)) (by decide) hz
  refine g_aload_n dX10_init_202 rfl rfl rfl ?_
  refine g_bipush (v := 8) dX10_init_203 (by decide) rfl ?_
  refine g_put gClX10 41 (by decide) fl_X10_82 rfl dX10_init_205 (q199 (by decide)) rfl rfl (Nat.le_of_ble_eq_true rfl) (qo_41 (by decide)) rfl ?_
  replace hz := gfr_p (j := 199) (k := 41) (x := (8 : Int32)) (by decide) hz
  refine g_aload_n dX10_init_208 rfl rfl rfl ?_
  refine g_iconst (v := (-1)) dX10_init_209 (by decide) rfl ?_
  refine g_put gClX10 48 (by decide) fl_X10_85 rfl dX10_init_210 (q199 (by decide)) rfl rfl (Nat.le_of_ble_eq_true rfl) (qo_48 (by decide)) rfl ?_
  replace hz := gfr_p (j := 199) (k := 48) (x := (-1 : Int32)) (by decide) hz
  refine g_aload_n dX10_init_213 rfl rfl rfl ?_
  refine g_iconst (v := (-1)) dX10_init_214 (by decide) rfl ?_
  refine g_put gClX10 18 (by decide) fl_X10_88 rfl dX10_init_215 (q199 (by decide)) rfl rfl (Nat.le_of_ble_eq_true rfl) (qo_18 (by decide)) rfl ?_
  replace hz := gfr_p (j := 199) (k := 18) (x := (-1 : Int32)) (by decide) hz
  refine g_aload_n dX10_init_218 rfl rfl rfl ?_
  refine g_iconst (v := (-1)) dX10_init_219 (by decide) rfl ?_
  refine g_put gClX10 43 (by decide) fl_X10_91 rfl dX10_init_220 (q199 (by decide)) rfl rfl (Nat.le_of_ble_eq_true rfl) (qo_43 (by decide)) rfl ?_
  replace hz := gfr_p (j := 199) (k := 43) (x := (-1 : Int32)) (by decide) hz
  refine g_aload_n dX10_init_223 rfl rfl rfl ?_
  refine g_iconst (v := (-1)) dX10_init_224 (by decide) rfl ?_
  refine g_put gClX10 47 (by decide) fl_X10_94 rfl dX10_init_225 (q199 (by decide)) rfl rfl (Nat.le_of_ble_eq_true rfl) (qo_47 (by decide)) rfl ?_
  replace hz := gfr_p (j := 199) (k := 47) (x := (-1 : Int32)) (by decide) hz
  refine g_aload_n dX10_init_228 rfl rfl rfl ?_
  refine g_iconst (v := (-1)) dX10_init_229 (by decide) rfl ?_
  refine g_put gClX10 27 (by decide) fl_X10_97 rfl dX10_init_230 (q199 (by decide)) rfl rfl (Nat.le_of_ble_eq_true rfl) (qo_27 (by decide)) rfl ?_
  replace hz := gfr_p (j := 199) (k := 27) (x := (-1 : Int32)) (by decide) hz
  refine g_aload_n dX10_init_233 rfl rfl rfl ?_
  refine g_lconst (v := 1) dX10_init_234 (by decide) rfl ?_
  refine g_put gClX10 30 (by decide) fl_X10_100 rfl dX10_init_235 (q199 (by decide)) rfl rfl (Nat.le_of_ble_eq_true rfl) (qz_30 (by decide)) rfl ?_
  refine g_aload_n dX10_init_238 rfl rfl rfl ?_
  refine g_lconst (v := 1) dX10_init_239 (by decide) rfl ?_
  refine g_put gClX10 53 (by decide) fl_X10_104 rfl dX10_init_240 (q199 (by decide)) rfl rfl (Nat.le_of_ble_eq_true rfl) (qz_53 (by decide)) rfl ?_
  refine g_aload_n dX10_init_243 rfl rfl rfl ?_
  refine g_get (v := .ref 217) gClX10 34 (by decide) fl_X10_63 dX10_init_244 (q199 (by decide)) rfl rfl ?_
  refine g_iconst (v := 0) dX10_init_247 (by decide) rfl ?_
  refine g_bipush (v := 15) dX10_init_248 (by decide) rfl ?_
  refine g_iast (hq_at (by decide)) (vinc (by decide +kernel)) (hq_pa (by decide) rfl) dX10_init_250 rfl ?_
  replace hz := gfr_p (j := 217) (k := (ix (0 : Int32))) (x := (15 : Int32)) (by decide) hz
  refine g_aload_n dX10_init_251 rfl rfl rfl ?_
  refine g_get (v := .ref 217) gClX10 34 (by decide) fl_X10_63 dX10_init_252 (q199 (by decide)) rfl rfl ?_
  refine g_iconst (v := 1) dX10_init_255 (by decide) rfl ?_
  refine g_bipush (v := 10) dX10_init_256 (by decide) rfl ?_
  refine g_iast (hq_at (by decide)) (vinc (by decide +kernel)) (hq_pa (by decide) rfl) dX10_init_258 rfl ?_
  replace hz := gfr_p (j := 217) (k := (ix (1 : Int32))) (x := (10 : Int32)) (by decide) hz
  refine g_aload_n dX10_init_259 rfl rfl rfl ?_
  refine g_get (v := .ref 217) gClX10 34 (by decide) fl_X10_63 dX10_init_260 (q199 (by decide)) rfl rfl ?_
  refine g_iconst (v := 2) dX10_init_263 (by decide) rfl ?_
  refine g_bipush (v := 20) dX10_init_264 (by decide) rfl ?_
  refine g_iast (hq_at (by decide)) (vinc (by decide +kernel)) (hq_pa (by decide) rfl) dX10_init_266 rfl ?_
  replace hz := gfr_p (j := 217) (k := (ix (2 : Int32))) (x := (20 : Int32)) (by decide) hz
  refine g_aload_n dX10_init_267 rfl rfl rfl ?_
  refine g_get (v := .ref 217) gClX10 34 (by decide) fl_X10_63 dX10_init_268 (q199 (by decide)) rfl rfl ?_
  refine g_iconst (v := 3) dX10_init_271 (by decide) rfl ?_
  refine g_bipush (v := 10) dX10_init_272 (by decide) rfl ?_
  refine g_iast (hq_at (by decide)) (vinc (by decide +kernel)) (hq_pa (by decide) rfl) dX10_init_274 rfl ?_
  replace hz := gfr_p (j := 217) (k := (ix (3 : Int32))) (x := (10 : Int32)) (by decide) hz
  refine g_aload_n dX10_init_275 rfl rfl rfl ?_
  refine g_get (v := .ref 217) gClX10 34 (by decide) fl_X10_63 dX10_init_276 (q199 (by decide)) rfl rfl ?_
  refine g_iconst (v := 4) dX10_init_279 (by decide) rfl ?_
  refine g_sipush (v := 200) dX10_init_280 (by decide) rfl ?_
  refine g_iast (hq_at (by decide)) (vinc (by decide +kernel)) (hq_pa (by decide) rfl) dX10_init_283 rfl ?_
  replace hz := gfr_p (j := 217) (k := (ix (4 : Int32))) (x := (200 : Int32)) (by decide) hz
  refine g_aload_n dX10_init_284 rfl rfl rfl ?_
  refine g_get (v := .ref 217) gClX10 34 (by decide) fl_X10_63 dX10_init_285 (q199 (by decide)) rfl rfl ?_
  refine g_iconst (v := 5) dX10_init_288 (by decide) rfl ?_
  refine g_iconst (v := 0) dX10_init_289 (by decide) rfl ?_
  refine g_iast (hq_at (by decide)) (vinc (by decide +kernel)) (hq_pa (by decide) rfl) dX10_init_290 rfl ?_
  replace hz := gfr_p (j := 217) (k := (ix (5 : Int32))) (x := (0 : Int32)) (by decide) hz
  refine g_aload_n dX10_init_291 rfl rfl rfl ?_
  refine g_get (v := .ref 217) gClX10 34 (by decide) fl_X10_63 dX10_init_292 (q199 (by decide)) rfl rfl ?_
  refine g_bipush (v := 6) dX10_init_295 (by decide) rfl ?_
  refine g_bipush (v := 12) dX10_init_297 (by decide) rfl ?_
  refine g_iast (hq_at (by decide)) (vinc (by decide +kernel)) (hq_pa (by decide) rfl) dX10_init_299 rfl ?_
  replace hz := gfr_p (j := 217) (k := (ix (6 : Int32))) (x := (12 : Int32)) (by decide) hz
  refine g_aload_n dX10_init_300 rfl rfl rfl ?_
  refine g_get (v := .ref 217) gClX10 34 (by decide) fl_X10_63 dX10_init_301 (q199 (by decide)) rfl rfl ?_
  refine g_bipush (v := 7) dX10_init_304 (by decide) rfl ?_
  refine g_iconst (v := 0) dX10_init_306 (by decide) rfl ?_
  refine g_iast (hq_at (by decide)) (vinc (by decide +kernel)) (hq_pa (by decide) rfl) dX10_init_307 rfl ?_
  replace hz := gfr_p (j := 217) (k := (ix (7 : Int32))) (x := (0 : Int32)) (by decide) hz
  refine g_aload_n dX10_init_308 rfl rfl rfl ?_
  refine g_get (v := .ref 217) gClX10 34 (by decide) fl_X10_63 dX10_init_309 (q199 (by decide)) rfl rfl ?_
  refine g_bipush (v := 8) dX10_init_312 (by decide) rfl ?_
  refine g_sipush (v := 999) dX10_init_314 (by decide) rfl ?_
  refine g_iast (hq_at (by decide)) (vinc (by decide +kernel)) (hq_pa (by decide) rfl) dX10_init_317 rfl ?_
  replace hz := gfr_p (j := 217) (k := (ix (8 : Int32))) (x := (999 : Int32)) (by decide) hz
  exact g_vret rfl dX10_init_318 (Nat.le_of_ble_eq_true rfl) (Nat.le_of_ble_eq_true rfl) ⟨rfl, rfl⟩
