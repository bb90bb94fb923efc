/-! constructors: by program -/
set_option maxHeartbeats 4000000 in
set_option maxRecDepth 100000 in
theorem k_X0_1 (l : Launch) (g : gE) (m : gK) (κ : Nat → Nat) (σ : gS) (ζ : gQ) (hz : gfr 2 m κ σ) : gC l g mX0_init (rmc 1 1 400 21) [.ref 1, .int 400] (hq 2 m κ σ ζ) (fun r h => r = none ∧ h = hq 3 (mset m 1 0) κ σ ζ) := by
  refine gC_of (by decide) (Nat.le_of_ble_eq_true rfl) ?_
  refine g_aload_n dX0_init_0 rfl rfl rfl ?_
  refine g_obj ml_X0_3 im_obj cd_obj (Nat.le_of_ble_eq_true rfl) (Nat.le_of_ble_eq_true rfl) dX0_init_1 rfl ?_
  refine g_aload_n dX0_init_4 rfl rfl rfl ?_
  refine g_iload_n dX0_init_5 rfl rfl rfl ?_
  refine g_iconst (v := 0) dX0_init_6 (by decide) rfl ?_
  refine g_max ml_X0_9 st_max in_Math cd_max (Nat.le_of_ble_eq_true rfl) (Nat.le_of_ble_eq_true rfl) (Nat.le_of_ble_eq_true rfl) (Nat.le_of_ble_eq_true rfl) dX0_init_7 rfl ?_
  refine g_newa (at_ := .byte) (ty := .byte) (t := 1) (N := 400) rfl rfl aw_byte rfl (by decide +kernel) (by decide +kernel) (by decide) (by rw [hq_len]; decide) (Nat.le_of_ble_eq_true rfl) (Nat.le_of_ble_eq_true rfl) (fun _ z => by cases z) dX0_init_10 rfl ?_
  refine g_heq (hq_push (cN_new hz (fun z => absurd z (by decide)) rfl)) (by rw [hq_len]) ?_
  replace hz := gfr_u (n1 := 3) (by decide) hz
  refine g_putF gClX0 0 (by decide) fl_X0_15 rfl rfl rfl dX0_init_12 (hq_at (by decide)) rfl rfl (Nat.le_of_ble_eq_true rfl) (hq_ms (by decide) rfl) rfl ?_
  replace hz := gfr_m (j := 1) (k := 0) (by decide) hz
  exact g_vret rfl dX0_init_15 (Nat.le_of_ble_eq_true rfl) (Nat.le_of_ble_eq_true rfl) ⟨rfl, rfl⟩
set_option maxHeartbeats 4000000 in
set_option maxRecDepth 100000 in
theorem k_X0_3 (l : Launch) (g : gE) (m : gK) (κ : Nat → Nat) (σ : gS) (ζ : gQ) (hz : gfr 4 m κ σ) : gC l g mX0_init (rmc 1 1 400 21) [.ref 3, .int 400] (hq 4 m κ σ ζ) (fun r h => r = none ∧ h = hq 5 (mset m 3 0) κ σ ζ) := by
  refine gC_of (by decide) (Nat.le_of_ble_eq_true rfl) ?_
  refine g_aload_n dX0_init_0 rfl rfl rfl ?_
  refine g_obj ml_X0_3 im_obj cd_obj (Nat.le_of_ble_eq_true rfl) (Nat.le_of_ble_eq_true rfl) dX0_init_1 rfl ?_
  refine g_aload_n dX0_init_4 rfl rfl rfl ?_
  refine g_iload_n dX0_init_5 rfl rfl rfl ?_
  refine g_iconst (v := 0) dX0_init_6 (by decide) rfl ?_
  refine g_max ml_X0_9 st_max in_Math cd_max (Nat.le_of_ble_eq_true rfl) (Nat.le_of_ble_eq_true rfl) (Nat.le_of_ble_eq_true rfl) (Nat.le_of_ble_eq_true rfl) dX0_init_7 rfl ?_
  refine g_newa (at_ := .byte) (ty := .byte) (t := 1) (N := 400) rfl rfl aw_byte rfl (by decide +kernel) (by decide +kernel) (by decide) (by rw [hq_len]; decide) (Nat.le_of_ble_eq_true rfl) (Nat.le_of_ble_eq_true rfl) (fun _ z => by cases z) dX0_init_10 rfl ?_
  refine g_heq (hq_push (cN_new hz (fun z => absurd z (by decide)) rfl)) (by rw [hq_len]) ?_
  replace hz := gfr_u (n1 := 5) (by decide) hz
  refine g_putF gClX0 0 (by decide) fl_X0_15 rfl rfl rfl dX0_init_12 (hq_at (by decide)) rfl rfl (Nat.le_of_ble_eq_true rfl) (hq_ms (by decide) rfl) rfl ?_
  replace hz := gfr_m (j := 3) (k := 0) (by decide) hz
  exact g_vret rfl dX0_init_15 (Nat.le_of_ble_eq_true rfl) (Nat.le_of_ble_eq_true rfl) ⟨rfl, rfl⟩
set_option maxHeartbeats 4000000 in
set_option maxRecDepth 100000 in
theorem k_X7_7 (l : Launch) (g : gE) (m : gK) (κ : Nat → Nat) (σ : gS) (ζ : gQ) (hz : gfr 8 m κ σ) : gC l g mX7_init (rmc 1 4 588 20) [.ref 7] (hq 8 m κ σ ζ) (fun r h => r = none ∧ h = hq 12 (mset (mset (mset (mset m 7 0) 7 1) 7 2) 7 3) κ σ ζ) := by
  refine gC_of (by decide) (Nat.le_of_ble_eq_true rfl) ?_
  refine g_aload_n dX7_init_0 rfl rfl rfl ?_
  refine g_obj ml_X7_3 im_obj cd_obj (Nat.le_of_ble_eq_true rfl) (Nat.le_of_ble_eq_true rfl) dX7_init_1 rfl ?_
  refine g_aload_n dX7_init_4 rfl rfl rfl ?_
  refine g_iconst (v := 4) dX7_init_5 (by decide) rfl ?_
  refine g_newa (at_ := .int) (ty := .int) (t := 0) (N := 4) rfl rfl aw_int rfl (by decide +kernel) (by decide +kernel) (by decide) (by rw [hq_len]; decide) (Nat.le_of_ble_eq_true rfl) (Nat.le_of_ble_eq_true rfl) (fun _ z => by cases z) dX7_init_6 rfl ?_
  refine g_heq (hq_push (cN_new hz (fun z => absurd z (by decide)) rfl)) (by rw [hq_len]) ?_
  replace hz := gfr_u (n1 := 9) (by decide) hz
  refine g_putF gClX7 0 (by decide) fl_X7_9 rfl rfl rfl dX7_init_8 (hq_at (by decide)) rfl rfl (Nat.le_of_ble_eq_true rfl) (hq_ms (by decide) rfl) rfl ?_
  replace hz := gfr_m (j := 7) (k := 0) (by decide) hz
  refine g_aload_n dX7_init_11 rfl rfl rfl ?_
  refine g_sipush (v := 512) dX7_init_12 (by decide) rfl ?_
  refine g_newa (at_ := .byte) (ty := .byte) (t := 1) (N := 512) rfl rfl aw_byte rfl (by decide +kernel) (by decide +kernel) (by decide) (by rw [hq_len]; decide) (Nat.le_of_ble_eq_true rfl) (Nat.le_of_ble_eq_true rfl) (fun _ z => by cases z) dX7_init_15 rfl ?_
  refine g_heq (hq_push (cN_new hz (fun z => absurd z (by decide)) rfl)) (by rw [hq_len]) ?_
  replace hz := gfr_u (n1 := 10) (by decide) hz
  refine g_putF gClX7 1 (by decide) fl_X7_15 rfl rfl rfl dX7_init_17 (hq_at (by decide)) rfl rfl (Nat.le_of_ble_eq_true rfl) (hq_ms (by decide) rfl) rfl ?_
  replace hz := gfr_m (j := 7) (k := 1) (by decide) hz
  refine g_aload_n dX7_init_20 rfl rfl rfl ?_
  refine g_bipush (v := 64) dX7_init_21 (by decide) rfl ?_
  refine g_newa (at_ := .int) (ty := .int) (t := 0) (N := 64) rfl rfl aw_int rfl (by decide +kernel) (by decide +kernel) (by decide) (by rw [hq_len]; decide) (Nat.le_of_ble_eq_true rfl) (Nat.le_of_ble_eq_true rfl) (fun _ z => by cases z) dX7_init_23 rfl ?_
  refine g_heq (hq_push (cN_new hz (fun z => absurd z (by decide)) rfl)) (by rw [hq_len]) ?_
  replace hz := gfr_u (n1 := 11) (by decide) hz
  refine g_putF gClX7 2 (by decide) fl_X7_19 rfl rfl rfl dX7_init_25 (hq_at (by decide)) rfl rfl (Nat.le_of_ble_eq_true rfl) (hq_ms (by decide) rfl) rfl ?_
  replace hz := gfr_m (j := 7) (k := 2) (by decide) hz
  refine g_aload_n dX7_init_28 rfl rfl rfl ?_
  refine g_bipush (v := 8) dX7_init_29 (by decide) rfl ?_
  refine g_newa (at_ := .int) (ty := .int) (t := 0) (N := 8) rfl rfl aw_int rfl (by decide +kernel) (by decide +kernel) (by decide) (by rw [hq_len]; decide) (Nat.le_of_ble_eq_true rfl) (Nat.le_of_ble_eq_true rfl) (fun _ z => by cases z) dX7_init_31 rfl ?_
  refine g_heq (hq_push (cN_new hz (fun z => absurd z (by decide)) rfl)) (by rw [hq_len]) ?_
  replace hz := gfr_u (n1 := 12) (by decide) hz
  refine g_putF gClX7 3 (by decide) fl_X7_22 rfl rfl rfl dX7_init_33 (hq_at (by decide)) rfl rfl (Nat.le_of_ble_eq_true rfl) (hq_ms (by decide) rfl) rfl ?_
  replace hz := gfr_m (j := 7) (k := 3) (by decide) hz
  exact g_vret rfl dX7_init_36 (Nat.le_of_ble_eq_true rfl) (Nat.le_of_ble_eq_true rfl) ⟨rfl, rfl⟩
set_option maxHeartbeats 4000000 in
set_option maxRecDepth 100000 in
theorem k_X4_12 (l : Launch) (g : gE) (m : gK) (κ : Nat → Nat) (σ : gS) (ζ : gQ) (hz : gfr 13 m κ σ) : gC l g mX4_init (rmc 1 2 35 20) [.ref 12] (hq 13 m κ σ ζ) (fun r h => r = none ∧ h = hq 15 (mset (mset m 12 0) 12 1) κ σ ζ) := by
  refine gC_of (by decide) (Nat.le_of_ble_eq_true rfl) ?_
  refine g_aload_n dX4_init_0 rfl rfl rfl ?_
  refine g_obj ml_X4_3 im_obj cd_obj (Nat.le_of_ble_eq_true rfl) (Nat.le_of_ble_eq_true rfl) dX4_init_1 rfl ?_
  refine g_aload_n dX4_init_4 rfl rfl rfl ?_
  refine g_bipush (v := 7) dX4_init_5 (by decide) rfl ?_
  refine g_newa (at_ := .int) (ty := .int) (t := 0) (N := 7) rfl rfl aw_int rfl (by decide +kernel) (by decide +kernel) (by decide) (by rw [hq_len]; decide) (Nat.le_of_ble_eq_true rfl) (Nat.le_of_ble_eq_true rfl) (fun _ z => by cases z) dX4_init_7 rfl ?_
  refine g_heq (hq_push (cN_new hz (fun z => absurd z (by decide)) rfl)) (by rw [hq_len]) ?_
  replace hz := gfr_u (n1 := 14) (by decide) hz
  refine g_putF gClX4 0 (by decide) fl_X4_11 rfl rfl rfl dX4_init_9 (hq_at (by decide)) rfl rfl (Nat.le_of_ble_eq_true rfl) (hq_ms (by decide) rfl) rfl ?_
  replace hz := gfr_m (j := 12) (k := 0) (by decide) hz
  refine g_aload_n dX4_init_12 rfl rfl rfl ?_
  refine g_bipush (v := 28) dX4_init_13 (by decide) rfl ?_
  refine g_newa (at_ := .int) (ty := .int) (t := 0) (N := 28) rfl rfl aw_int rfl (by decide +kernel) (by decide +kernel) (by decide) (by rw [hq_len]; decide) (Nat.le_of_ble_eq_true rfl) (Nat.le_of_ble_eq_true rfl) (fun _ z => by cases z) dX4_init_15 rfl ?_
  refine g_heq (hq_push (cN_new hz (fun z => absurd z (by decide)) rfl)) (by rw [hq_len]) ?_
  replace hz := gfr_u (n1 := 15) (by decide) hz
  refine g_putF gClX4 1 (by decide) fl_X4_15 rfl rfl rfl dX4_init_17 (hq_at (by decide)) rfl rfl (Nat.le_of_ble_eq_true rfl) (hq_ms (by decide) rfl) rfl ?_
  replace hz := gfr_m (j := 12) (k := 1) (by decide) hz
  exact g_vret rfl dX4_init_20 (Nat.le_of_ble_eq_true rfl) (Nat.le_of_ble_eq_true rfl) ⟨rfl, rfl⟩
set_option maxHeartbeats 4000000 in
set_option maxRecDepth 100000 in
theorem k_X0_16 (l : Launch) (g : gE) (m : gK) (κ : Nat → Nat) (σ : gS) (ζ : gQ) (hz : gfr 17 m κ σ) : gC l g mX0_init (rmc 1 1 1536 21) [.ref 16, .int 1536] (hq 17 m κ σ ζ) (fun r h => r = none ∧ h = hq 18 (mset m 16 0) κ σ ζ) := by
  refine gC_of (by decide) (Nat.le_of_ble_eq_true rfl) ?_
  refine g_aload_n dX0_init_0 rfl rfl rfl ?_
  refine g_obj ml_X0_3 im_obj cd_obj (Nat.le_of_ble_eq_true rfl) (Nat.le_of_ble_eq_true rfl) dX0_init_1 rfl ?_
  refine g_aload_n dX0_init_4 rfl rfl rfl ?_
  refine g_iload_n dX0_init_5 rfl rfl rfl ?_
  refine g_iconst (v := 0) dX0_init_6 (by decide) rfl ?_
  refine g_max ml_X0_9 st_max in_Math cd_max (Nat.le_of_ble_eq_true rfl) (Nat.le_of_ble_eq_true rfl) (Nat.le_of_ble_eq_true rfl) (Nat.le_of_ble_eq_true rfl) dX0_init_7 rfl ?_
  refine g_newa (at_ := .byte) (ty := .byte) (t := 1) (N := 1536) rfl rfl aw_byte rfl (by decide +kernel) (by decide +kernel) (by decide) (by rw [hq_len]; decide) (Nat.le_of_ble_eq_true rfl) (Nat.le_of_ble_eq_true rfl) (fun _ z => by cases z) dX0_init_10 rfl ?_
  refine g_heq (hq_push (cN_new hz (fun z => absurd z (by decide)) rfl)) (by rw [hq_len]) ?_
  replace hz := gfr_u (n1 := 18) (by decide) hz
  refine g_putF gClX0 0 (by decide) fl_X0_15 rfl rfl rfl dX0_init_12 (hq_at (by decide)) rfl rfl (Nat.le_of_ble_eq_true rfl) (hq_ms (by decide) rfl) rfl ?_
  replace hz := gfr_m (j := 16) (k := 0) (by decide) hz
  exact g_vret rfl dX0_init_15 (Nat.le_of_ble_eq_true rfl) (Nat.le_of_ble_eq_true rfl) ⟨rfl, rfl⟩
set_option maxHeartbeats 4000000 in
set_option maxRecDepth 100000 in
theorem k_X3_15 (l : Launch) (g : gE) (m : gK) (κ : Nat → Nat) (σ : gS) (ζ : gQ) (hz : gfr 16 m κ σ) : gC l g mX3_init (rmc 2 2 1538 42) [.ref 15] (hq 16 m κ σ ζ) (fun r h => r = none ∧ h = hq 18 (mset (mset m 16 0) 15 0) κ (pf (pf (pf σ 15 2 (1 : Int32)) 15 4 (-1 : Int32)) 15 6 (1 : Int32)) ζ) := by
  refine gC_of (by decide) (Nat.le_of_ble_eq_true rfl) ?_
  refine g_aload_n dX3_init_0 rfl rfl rfl ?_
  refine g_obj ml_X3_3 im_obj cd_obj (Nat.le_of_ble_eq_true rfl) (Nat.le_of_ble_eq_true rfl) dX3_init_1 rfl ?_
  refine g_aload_n dX3_init_4 rfl rfl rfl ?_
  refine g_new (fs := [.null, .int 0]) gClX0 cl_X3_9 it_X0 in_X0 (nf_X0 g) (by rw [hq_len]; decide) (Nat.le_of_ble_eq_true rfl) (Nat.le_of_ble_eq_true rfl) dX3_init_5 rfl ?_
  refine g_heq (hq_push (cN_new hz (fun z => absurd z (by decide)) rfl)) (by rw [hq_len]) ?_
  replace hz := gfr_u (n1 := 17) (by decide) hz
  refine g_dup dX3_init_8 rfl rfl ?_
  refine g_sipush (v := 1536) dX3_init_9 (by decide) rfl ?_
  refine g_calli mt_X0_init mi_X0_init rfl rfl ml_X3_13 (k_X0_16 l g _ _ _ _ hz) rfl (Nat.le_of_ble_eq_true rfl) (Nat.le_of_ble_eq_true rfl) (Nat.le_of_ble_eq_true rfl) (Nat.le_of_ble_eq_true rfl) rfl (Nat.le_of_ble_eq_true rfl) dX3_init_12 rfl (fun r h p => ?_)
  obtain ⟨rfl, rfl⟩ := p
  replace hz := gfr_u (n1 := 18) (by decide) hz
  replace hz := gfr_m (j := 16) (k := 0) (by decide) hz
  refine g_putF gClX3 0 (by decide) fl_X3_16 rfl rfl rfl dX3_init_15 (hq_at (by decide)) rfl rfl (Nat.le_of_ble_eq_true rfl) (hq_ms (by decide) rfl) rfl ?_
  replace hz := gfr_m (j := 15) (k := 0) (by decide) hz
  refine g_aload_n dX3_init_18 rfl rfl rfl ?_
  refine g_iconst (v := 1) dX3_init_19 (by decide) rfl ?_
  refine g_put gClX3 2 (by decide) fl_X3_20 rfl dX3_init_20 (hq_at (by decide)) rfl rfl (Nat.le_of_ble_eq_true rfl) (hq_pf (by decide) rfl) rfl ?_
  replace hz := gfr_p (j := 15) (k := 2) (x := (1 : Int32)) (by decide) hz
  refine g_aload_n dX3_init_23 rfl rfl rfl ?_
  refine g_iconst (v := (-1)) dX3_init_24 (by decide) rfl ?_
  refine g_put gClX3 4 (by decide) fl_X3_24 rfl dX3_init_25 (hq_at (by decide)) rfl rfl (Nat.le_of_ble_eq_true rfl) (hq_pf (by decide) rfl) rfl ?_
  replace hz := gfr_p (j := 15) (k := 4) (x := (-1 : Int32)) (by decide) hz
  refine g_aload_n dX3_init_28 rfl rfl rfl ?_
  refine g_iconst (v := 1) dX3_init_29 (by decide) rfl ?_
  refine g_put gClX3 6 (by decide) fl_X3_27 rfl dX3_init_30 (hq_at (by decide)) rfl rfl (Nat.le_of_ble_eq_true rfl) (hq_pf (by decide) rfl) rfl ?_
  replace hz := gfr_p (j := 15) (k := 6) (x := (1 : Int32)) (by decide) hz
  exact g_vret rfl dX3_init_33 (Nat.le_of_ble_eq_true rfl) (Nat.le_of_ble_eq_true rfl) ⟨rfl, rfl⟩
