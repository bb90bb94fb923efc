/-! constructors: by program -/
set_option maxHeartbeats 4000000 in
set_option maxRecDepth 100000 in
theorem k_X5_18 (l : Launch) (g : gE) (m : gK) (κ : Nat → Nat) (σ : gS) (ζ : gQ) (hz : gfr 19 m κ σ) : gC l g mX5_init (rmc 1 0 0 20) [.ref 18] (hq 19 m κ σ ζ) (fun r h => r = none ∧ h = hq 19 m κ σ ζ) := by
  refine gC_of (by decide) (Nat.le_of_ble_eq_true rfl) ?_
  refine g_aload_n dX5_init_0 rfl rfl rfl ?_
  refine g_obj ml_X5_1 im_obj cd_obj (Nat.le_of_ble_eq_true rfl) (Nat.le_of_ble_eq_true rfl) dX5_init_1 rfl ?_
  exact g_vret rfl dX5_init_4 (Nat.le_of_ble_eq_true rfl) (Nat.le_of_ble_eq_true rfl) ⟨rfl, rfl⟩
set_option maxHeartbeats 4000000 in
set_option maxRecDepth 100000 in
theorem k_X8_20 (l : Launch) (g : gE) (m : gK) (κ : Nat → Nat) (σ : gS) (ζ : gQ) (hz : gfr 21 m κ σ) : gC l g mX8_init (rmc 1 0 0 20) [.ref 20] (hq 21 m κ σ ζ) (fun r h => r = none ∧ h = hq 21 m κ (pf σ 20 0 (-1 : Int32)) ζ) := by
  refine gC_of (by decide) (Nat.le_of_ble_eq_true rfl) ?_
  refine g_aload_n dX8_init_0 rfl rfl rfl ?_
  refine g_obj ml_X8_3 im_obj cd_obj (Nat.le_of_ble_eq_true rfl) (Nat.le_of_ble_eq_true rfl) dX8_init_1 rfl ?_
  refine g_aload_n dX8_init_4 rfl rfl rfl ?_
  refine g_iconst (v := (-1)) dX8_init_5 (by decide) rfl ?_
  refine g_put gClX8 0 (by decide) fl_X8_9 rfl dX8_init_6 (hq_at (by decide)) rfl rfl (Nat.le_of_ble_eq_true rfl) (hq_pf (by decide) rfl) rfl ?_
  replace hz := gfr_p (j := 20) (k := 0) (x := (-1 : Int32)) (by decide) hz
  exact g_vret rfl dX8_init_9 (Nat.le_of_ble_eq_true rfl) (Nat.le_of_ble_eq_true rfl) ⟨rfl, rfl⟩
set_option maxHeartbeats 4000000 in
set_option maxRecDepth 100000 in
theorem k_X6_19 (l : Launch) (g : gE) (m : gK) (κ : Nat → Nat) (σ : gS) (ζ : gQ) (hz : gfr 20 m κ σ) : gC l g mX6_init (rmc 2 1 9 40) [.ref 19] (hq 20 m κ σ ζ) (fun r h => r = none ∧ h = hq 21 (mset m 19 0) κ (pf (pf (pf (pf (pf σ 20 0 (-1 : Int32)) 19 1 (0 : Int32)) 19 2 (0 : Int32)) 19 3 (-1 : Int32)) 19 4 (-1 : Int32)) ζ) := by
  refine gC_of (by decide) (Nat.le_of_ble_eq_true rfl) ?_
  refine g_aload_n dX6_init_0 rfl rfl rfl ?_
  refine g_obj ml_X6_3 im_obj cd_obj (Nat.le_of_ble_eq_true rfl) (Nat.le_of_ble_eq_true rfl) dX6_init_1 rfl ?_
  refine g_aload_n dX6_init_4 rfl rfl rfl ?_
  refine g_new (fs := [.int 0, .int 0, .int 0, .int 0, .int 0, .int 0, .int 0, .int 0, .int 0]) gClX8 cl_X6_9 it_X8 in_X8 (nf_X8 g) (by rw [hq_len]; decide) (Nat.le_of_ble_eq_true rfl) (Nat.le_of_ble_eq_true rfl) dX6_init_5 rfl ?_
  refine g_heq (hq_push (cN_new hz (fun z => absurd z (by decide)) rfl)) (by rw [hq_len]) ?_
  replace hz := gfr_u (n1 := 21) (by decide) hz
  refine g_dup dX6_init_8 rfl rfl ?_
  refine g_calliN mt_X8_init mi_X8_init rfl rfl (j := 5) rfl (k_X8_20 l g _ _ _ _ hz) rfl (Nat.le_of_ble_eq_true rfl) (Nat.le_of_ble_eq_true rfl) (Nat.le_of_ble_eq_true rfl) (Nat.le_of_ble_eq_true rfl) rfl (Nat.le_of_ble_eq_true rfl) dX6_init_9 rfl (fun r h p => ?_)
  obtain ⟨rfl, rfl⟩ := p
  replace hz := gfr_u (n1 := 21) (by decide) hz
  replace hz := gfr_p (j := 20) (k := 0) (x := (-1 : Int32)) (by decide) hz
  refine g_putF gClX6 0 (by decide) fl_X6_12 rfl rfl rfl dX6_init_12 (hq_at (by decide)) rfl rfl (Nat.le_of_ble_eq_true rfl) (hq_ms (by decide) rfl) rfl ?_
  replace hz := gfr_m (j := 19) (k := 0) (by decide) hz
  refine g_aload_n dX6_init_15 rfl rfl rfl ?_
  refine g_iconst (v := 0) dX6_init_16 (by decide) rfl ?_
  refine g_put gClX6 1 (by decide) fl_X6_18 rfl dX6_init_17 (hq_at (by decide)) rfl rfl (Nat.le_of_ble_eq_true rfl) (hq_pf (by decide) rfl) rfl ?_
  replace hz := gfr_p (j := 19) (k := 1) (x := (0 : Int32)) (by decide) hz
  refine g_aload_n dX6_init_20 rfl rfl rfl ?_
  refine g_iconst (v := 0) dX6_init_21 (by decide) rfl ?_
  refine g_put gClX6 2 (by decide) fl_X6_22 rfl dX6_init_22 (hq_at (by decide)) rfl rfl (Nat.le_of_ble_eq_true rfl) (hq_pf (by decide) rfl) rfl ?_
  replace hz := gfr_p (j := 19) (k := 2) (x := (0 : Int32)) (by decide) hz
  refine g_aload_n dX6_init_25 rfl rfl rfl ?_
  refine g_iconst (v := (-1)) dX6_init_26 (by decide) rfl ?_
  refine g_put gClX6 3 (by decide) fl_X6_25 rfl dX6_init_27 (hq_at (by decide)) rfl rfl (Nat.le_of_ble_eq_true rfl) (hq_pf (by decide) rfl) rfl ?_
  replace hz := gfr_p (j := 19) (k := 3) (x := (-1 : Int32)) (by decide) hz
  refine g_aload_n dX6_init_30 rfl rfl rfl ?_
  refine g_iconst (v := (-1)) dX6_init_31 (by decide) rfl ?_
  refine g_put gClX6 4 (by decide) fl_X6_28 rfl dX6_init_32 (hq_at (by decide)) rfl rfl (Nat.le_of_ble_eq_true rfl) (hq_pf (by decide) rfl) rfl ?_
  replace hz := gfr_p (j := 19) (k := 4) (x := (-1 : Int32)) (by decide) hz
  exact g_vret rfl dX6_init_35 (Nat.le_of_ble_eq_true rfl) (Nat.le_of_ble_eq_true rfl) ⟨rfl, rfl⟩
set_option maxHeartbeats 4000000 in
set_option maxRecDepth 100000 in
theorem k_X8_22 (l : Launch) (g : gE) (m : gK) (κ : Nat → Nat) (σ : gS) (ζ : gQ) (hz : gfr 23 m κ σ) : gC l g mX8_init (rmc 1 0 0 20) [.ref 22] (hq 23 m κ σ ζ) (fun r h => r = none ∧ h = hq 23 m κ (pf σ 22 0 (-1 : Int32)) ζ) := by
  refine gC_of (by decide) (Nat.le_of_ble_eq_true rfl) ?_
  refine g_aload_n dX8_init_0 rfl rfl rfl ?_
  refine g_obj ml_X8_3 im_obj cd_obj (Nat.le_of_ble_eq_true rfl) (Nat.le_of_ble_eq_true rfl) dX8_init_1 rfl ?_
  refine g_aload_n dX8_init_4 rfl rfl rfl ?_
  refine g_iconst (v := (-1)) dX8_init_5 (by decide) rfl ?_
  refine g_put gClX8 0 (by decide) fl_X8_9 rfl dX8_init_6 (hq_at (by decide)) rfl rfl (Nat.le_of_ble_eq_true rfl) (hq_pf (by decide) rfl) rfl ?_
  replace hz := gfr_p (j := 22) (k := 0) (x := (-1 : Int32)) (by decide) hz
  exact g_vret rfl dX8_init_9 (Nat.le_of_ble_eq_true rfl) (Nat.le_of_ble_eq_true rfl) ⟨rfl, rfl⟩
set_option maxHeartbeats 4000000 in
set_option maxRecDepth 100000 in
theorem k_X2_21 (l : Launch) (g : gE) (m : gK) (κ : Nat → Nat) (σ : gS) (ζ : gQ) (hz : gfr 22 m κ σ) : gC l g mX2_init (rmc 2 1 9 40) [.ref 21] (hq 22 m κ σ ζ) (fun r h => r = none ∧ h = hq 23 (mset m 21 0) κ (pf (pf (pf (pf (pf σ 22 0 (-1 : Int32)) 21 1 (0 : Int32)) 21 2 (8 : Int32)) 21 3 (-1 : Int32)) 21 4 (-1 : Int32)) ζ) := by
  refine gC_of (by decide) (Nat.le_of_ble_eq_true rfl) ?_
  refine g_aload_n dX2_init_0 rfl rfl rfl ?_
  refine g_obj ml_X2_3 im_obj cd_obj (Nat.le_of_ble_eq_true rfl) (Nat.le_of_ble_eq_true rfl) dX2_init_1 rfl ?_
  refine g_aload_n dX2_init_4 rfl rfl rfl ?_
  refine g_new (fs := [.int 0, .int 0, .int 0, .int 0, .int 0, .int 0, .int 0, .int 0, .int 0]) gClX8 cl_X2_9 it_X8 in_X8 (nf_X8 g) (by rw [hq_len]; decide) (Nat.le_of_ble_eq_true rfl) (Nat.le_of_ble_eq_true rfl) dX2_init_5 rfl ?_
  refine g_heq (hq_push (cN_new hz (fun z => absurd z (by decide)) rfl)) (by rw [hq_len]) ?_
  replace hz := gfr_u (n1 := 23) (by decide) hz
  refine g_dup dX2_init_8 rfl rfl ?_
  refine g_calliN mt_X8_init mi_X8_init rfl rfl (j := 7) rfl (k_X8_22 l g _ _ _ _ hz) rfl (Nat.le_of_ble_eq_true rfl) (Nat.le_of_ble_eq_true rfl) (Nat.le_of_ble_eq_true rfl) (Nat.le_of_ble_eq_true rfl) rfl (Nat.le_of_ble_eq_true rfl) dX2_init_9 rfl (fun r h p => ?_)
  obtain ⟨rfl, rfl⟩ := p
  replace hz := gfr_u (n1 := 23) (by decide) hz
  replace hz := gfr_p (j := 22) (k := 0) (x := (-1 : Int32)) (by decide) hz
  refine g_putF gClX2 0 (by decide) fl_X2_12 rfl rfl rfl dX2_init_12 (hq_at (by decide)) rfl rfl (Nat.le_of_ble_eq_true rfl) (hq_ms (by decide) rfl) rfl ?_
  replace hz := gfr_m (j := 21) (k := 0) (by decide) hz
  refine g_aload_n dX2_init_15 rfl rfl rfl ?_
  refine g_iconst (v := 0) dX2_init_16 (by decide) rfl ?_
  refine g_put gClX2 1 (by decide) fl_X2_18 rfl dX2_init_17 (hq_at (by decide)) rfl rfl (Nat.le_of_ble_eq_true rfl) (hq_pf (by decide) rfl) rfl ?_
  replace hz := gfr_p (j := 21) (k := 1) (x := (0 : Int32)) (by decide) hz
  refine g_aload_n dX2_init_20 rfl rfl rfl ?_
  refine g_bipush (v := 8) dX2_init_21 (by decide) rfl ?_
  refine g_put gClX2 2 (by decide) fl_X2_22 rfl dX2_init_23 (hq_at (by decide)) rfl rfl (Nat.le_of_ble_eq_true rfl) (hq_pf (by decide) rfl) rfl ?_
  replace hz := gfr_p (j := 21) (k := 2) (x := (8 : Int32)) (by decide) hz
  refine g_aload_n dX2_init_26 rfl rfl rfl ?_
  refine g_iconst (v := (-1)) dX2_init_27 (by decide) rfl ?_
  refine g_put gClX2 3 (by decide) fl_X2_25 rfl dX2_init_28 (hq_at (by decide)) rfl rfl (Nat.le_of_ble_eq_true rfl) (hq_pf (by decide) rfl) rfl ?_
  replace hz := gfr_p (j := 21) (k := 3) (x := (-1 : Int32)) (by decide) hz
  refine g_aload_n dX2_init_31 rfl rfl rfl ?_
  refine g_iconst (v := (-1)) dX2_init_32 (by decide) rfl ?_
  refine g_put gClX2 4 (by decide) fl_X2_28 rfl dX2_init_33 (hq_at (by decide)) rfl rfl (Nat.le_of_ble_eq_true rfl) (hq_pf (by decide) rfl) rfl ?_
  replace hz := gfr_p (j := 21) (k := 4) (x := (-1 : Int32)) (by decide) hz
  exact g_vret rfl dX2_init_36 (Nat.le_of_ble_eq_true rfl) (Nat.le_of_ble_eq_true rfl) ⟨rfl, rfl⟩
set_option maxHeartbeats 4000000 in
set_option maxRecDepth 100000 in
theorem k_X0_26 (l : Launch) (g : gE) (m : gK) (κ : Nat → Nat) (σ : gS) (ζ : gQ) (hz : gfr 27 m κ σ) : gC l g mX0_init (rmc 1 1 48 21) [.ref 26, .int 48] (hq 27 m κ σ ζ) (fun r h => r = none ∧ h = hq 28 (mset m 26 0) κ σ ζ) := by
  refine gC_of (by decide) (Nat.le_of_ble_eq_true rfl) ?_
  refine g_aload_n dX0_init_0 rfl rfl rfl ?_
  refine g_obj ml_X0_3 im_obj cd_obj (Nat.le_of_ble_eq_true rfl) (Nat.le_of_ble_eq_true rfl) dX0_init_1 rfl ?_
  refine g_aload_n dX0_init_4 rfl rfl rfl ?_
  refine g_iload_n dX0_init_5 rfl rfl rfl ?_
  refine g_iconst (v := 0) dX0_init_6 (by decide) rfl ?_
  refine g_max ml_X0_9 st_max in_Math cd_max (Nat.le_of_ble_eq_true rfl) (Nat.le_of_ble_eq_true rfl) (Nat.le_of_ble_eq_true rfl) (Nat.le_of_ble_eq_true rfl) dX0_init_7 rfl ?_
  refine g_newa (at_ := .byte) (ty := .byte) (t := 1) (N := 48) rfl rfl aw_byte rfl (by decide +kernel) (by decide +kernel) (by decide) (by rw [hq_len]; decide) (Nat.le_of_ble_eq_true rfl) (Nat.le_of_ble_eq_true rfl) (fun _ z => by cases z) dX0_init_10 rfl ?_
  refine g_heq (hq_push (cN_new hz (fun z => absurd z (by decide)) rfl)) (by rw [hq_len]) ?_
  replace hz := gfr_u (n1 := 28) (by decide) hz
  refine g_putF gClX0 0 (by decide) fl_X0_15 rfl rfl rfl dX0_init_12 (hq_at (by decide)) rfl rfl (Nat.le_of_ble_eq_true rfl) (hq_ms (by decide) rfl) rfl ?_
  replace hz := gfr_m (j := 26) (k := 0) (by decide) hz
  exact g_vret rfl dX0_init_15 (Nat.le_of_ble_eq_true rfl) (Nat.le_of_ble_eq_true rfl) ⟨rfl, rfl⟩
set_option maxHeartbeats 4000000 in
set_option maxRecDepth 100000 in
theorem k_X0_28 (l : Launch) (g : gE) (m : gK) (κ : Nat → Nat) (σ : gS) (ζ : gQ) (hz : gfr 29 m κ σ) : gC l g mX0_init (rmc 1 1 48 21) [.ref 28, .int 48] (hq 29 m κ σ ζ) (fun r h => r = none ∧ h = hq 30 (mset m 28 0) κ σ ζ) := by
  refine gC_of (by decide) (Nat.le_of_ble_eq_true rfl) ?_
  refine g_aload_n dX0_init_0 rfl rfl rfl ?_
  refine g_obj ml_X0_3 im_obj cd_obj (Nat.le_of_ble_eq_true rfl) (Nat.le_of_ble_eq_true rfl) dX0_init_1 rfl ?_
  refine g_aload_n dX0_init_4 rfl rfl rfl ?_
  refine g_iload_n dX0_init_5 rfl rfl rfl ?_
  refine g_iconst (v := 0) dX0_init_6 (by decide) rfl ?_
  refine g_max ml_X0_9 st_max in_Math cd_max (Nat.le_of_ble_eq_true rfl) (Nat.le_of_ble_eq_true rfl) (Nat.le_of_ble_eq_true rfl) (Nat.le_of_ble_eq_true rfl) dX0_init_7 rfl ?_
  refine g_newa (at_ := .byte) (ty := .byte) (t := 1) (N := 48) rfl rfl aw_byte rfl (by decide +kernel) (by decide +kernel) (by decide) (by rw [hq_len]; decide) (Nat.le_of_ble_eq_true rfl) (Nat.le_of_ble_eq_true rfl) (fun _ z => by cases z) dX0_init_10 rfl ?_
  refine g_heq (hq_push (cN_new hz (fun z => absurd z (by decide)) rfl)) (by rw [hq_len]) ?_
  replace hz := gfr_u (n1 := 30) (by decide) hz
  refine g_putF gClX0 0 (by decide) fl_X0_15 rfl rfl rfl dX0_init_12 (hq_at (by decide)) rfl rfl (Nat.le_of_ble_eq_true rfl) (hq_ms (by decide) rfl) rfl ?_
  replace hz := gfr_m (j := 28) (k := 0) (by decide) hz
  exact g_vret rfl dX0_init_15 (Nat.le_of_ble_eq_true rfl) (Nat.le_of_ble_eq_true rfl) ⟨rfl, rfl⟩
set_option maxHeartbeats 4000000 in
set_option maxRecDepth 100000 in
theorem k_X0_30 (l : Launch) (g : gE) (m : gK) (κ : Nat → Nat) (σ : gS) (ζ : gQ) (hz : gfr 31 m κ σ) : gC l g mX0_init (rmc 1 1 48 21) [.ref 30, .int 48] (hq 31 m κ σ ζ) (fun r h => r = none ∧ h = hq 32 (mset m 30 0) κ σ ζ) := by
  refine gC_of (by decide) (Nat.le_of_ble_eq_true rfl) ?_
  refine g_aload_n dX0_init_0 rfl rfl rfl ?_
  refine g_obj ml_X0_3 im_obj cd_obj (Nat.le_of_ble_eq_true rfl) (Nat.le_of_ble_eq_true rfl) dX0_init_1 rfl ?_
  refine g_aload_n dX0_init_4 rfl rfl rfl ?_
  refine g_iload_n dX0_init_5 rfl rfl rfl ?_
  refine g_iconst (v := 0) dX0_init_6 (by decide) rfl ?_
  refine g_max ml_X0_9 st_max in_Math cd_max (Nat.le_of_ble_eq_true rfl) (Nat.le_of_ble_eq_true rfl) (Nat.le_of_ble_eq_true rfl) (Nat.le_of_ble_eq_true rfl) dX0_init_7 rfl ?_
  refine g_newa (at_ := .byte) (ty := .byte) (t := 1) (N := 48) rfl rfl aw_byte rfl (by decide +kernel) (by decide +kernel) (by decide) (by rw [hq_len]; decide) (Nat.le_of_ble_eq_true rfl) (Nat.le_of_ble_eq_true rfl) (fun _ z => by cases z) dX0_init_10 rfl ?_
  refine g_heq (hq_push (cN_new hz (fun z => absurd z (by decide)) rfl)) (by rw [hq_len]) ?_
  replace hz := gfr_u (n1 := 32) (by decide) hz
  refine g_putF gClX0 0 (by decide) fl_X0_15 rfl rfl rfl dX0_init_12 (hq_at (by decide)) rfl rfl (Nat.le_of_ble_eq_true rfl) (hq_ms (by decide) rfl) rfl ?_
  replace hz := gfr_m (j := 30) (k := 0) (by decide) hz
  exact g_vret rfl dX0_init_15 (Nat.le_of_ble_eq_true rfl) (Nat.le_of_ble_eq_true rfl) ⟨rfl, rfl⟩
set_option maxHeartbeats 4000000 in
set_option maxRecDepth 100000 in
theorem k_X0_32 (l : Launch) (g : gE) (m : gK) (κ : Nat → Nat) (σ : gS) (ζ : gQ) (hz : gfr 33 m κ σ) : gC l g mX0_init (rmc 1 1 48 21) [.ref 32, .int 48] (hq 33 m κ σ ζ) (fun r h => r = none ∧ h = hq 34 (mset m 32 0) κ σ ζ) := by
  refine gC_of (by decide) (Nat.le_of_ble_eq_true rfl) ?_
  refine g_aload_n dX0_init_0 rfl rfl rfl ?_
  refine g_obj ml_X0_3 im_obj cd_obj (Nat.le_of_ble_eq_true rfl) (Nat.le_of_ble_eq_true rfl) dX0_init_1 rfl ?_
  refine g_aload_n dX0_init_4 rfl rfl rfl ?_
  refine g_iload_n dX0_init_5 rfl rfl rfl ?_
  refine g_iconst (v := 0) dX0_init_6 (by decide) rfl ?_
  refine g_max ml_X0_9 st_max in_Math cd_max (Nat.le_of_ble_eq_true rfl) (Nat.le_of_ble_eq_true rfl) (Nat.le_of_ble_eq_true rfl) (Nat.le_of_ble_eq_true rfl) dX0_init_7 rfl ?_
  refine g_newa (at_ := .byte) (ty := .byte) (t := 1) (N := 48) rfl rfl aw_byte rfl (by decide +kernel) (by decide +kernel) (by decide) (by rw [hq_len]; decide) (Nat.le_of_ble_eq_true rfl) (Nat.le_of_ble_eq_true rfl) (fun _ z => by cases z) dX0_init_10 rfl ?_
  refine g_heq (hq_push (cN_new hz (fun z => absurd z (by decide)) rfl)) (by rw [hq_len]) ?_
  replace hz := gfr_u (n1 := 34) (by decide) hz
  refine g_putF gClX0 0 (by decide) fl_X0_15 rfl rfl rfl dX0_init_12 (hq_at (by decide)) rfl rfl (Nat.le_of_ble_eq_true rfl) (hq_ms (by decide) rfl) rfl ?_
  replace hz := gfr_m (j := 32) (k := 0) (by decide) hz
  exact g_vret rfl dX0_init_15 (Nat.le_of_ble_eq_true rfl) (Nat.le_of_ble_eq_true rfl) ⟨rfl, rfl⟩
set_option maxHeartbeats 4000000 in
set_option maxRecDepth 100000 in
theorem k_X1_23 (l : Launch) (g : gE) (m : gK) (κ : Nat → Nat) (σ : gS) (ζ : gQ) (hz : gfr 24 m κ σ) : gC l g mX1_init (rmc 2 10 208 42) [.ref 23] (hq 24 m κ σ ζ) (fun r h => r = none ∧ h = hq 34 (mset (mset (mset (mset (mset (mset m 23 0) 23 1) 26 0) 28 0) 30 0) 32 0) (va_up (va_up (va_up (va_up κ 24 1) 24 2) 24 3) 24 4) (pf σ 23 2 (1 : Int32)) ζ) := by
  refine gC_of (by decide) (Nat.le_of_ble_eq_true rfl) ?_
  refine g_aload_n dX1_init_0 rfl rfl rfl ?_
  refine g_obj ml_X1_3 im_obj cd_obj (Nat.le_of_ble_eq_true rfl) (Nat.le_of_ble_eq_true rfl) dX1_init_1 rfl ?_
  refine g_aload_n dX1_init_4 rfl rfl rfl ?_
  refine g_iconst (v := 4) dX1_init_5 (by decide) rfl ?_
  refine g_newq (t := 4) (N := 4) rfl cl_X1_9 (Or.inr rfl) (by decide +kernel) (by decide +kernel) (by decide) (by rw [hq_len]; decide) (Nat.le_of_ble_eq_true rfl) (Nat.le_of_ble_eq_true rfl) dX1_init_6 rfl ?_
  have hk24 := (hz 24 (by decide)).2.1
  refine g_heq (hq_push (cN_new hz (fun z => absurd z (by decide)) rfl)) (by rw [hq_len]) ?_
  replace hz := gfr_u (n1 := 25) (by decide) hz
  refine g_putF gClX1 0 (by decide) fl_X1_11 rfl rfl rfl dX1_init_9 (hq_at (by decide)) rfl rfl (Nat.le_of_ble_eq_true rfl) (hq_ms (by decide) rfl) rfl ?_
  replace hz := gfr_m (j := 23) (k := 0) (by decide) hz
  refine g_aload_n dX1_init_12 rfl rfl rfl ?_
  refine g_iconst (v := 4) dX1_init_13 (by decide) rfl ?_
  refine g_newa (at_ := .int) (ty := .int) (t := 0) (N := 4) rfl rfl aw_int rfl (by decide +kernel) (by decide +kernel) (by decide) (by rw [hq_len]; decide) (Nat.le_of_ble_eq_true rfl) (Nat.le_of_ble_eq_true rfl) (fun _ z => by cases z) dX1_init_14 rfl ?_
  refine g_heq (hq_push (cN_new hz (fun z => absurd z (by decide)) rfl)) (by rw [hq_len]) ?_
  replace hz := gfr_u (n1 := 26) (by decide) hz
  refine g_putF gClX1 1 (by decide) fl_X1_17 rfl rfl rfl dX1_init_16 (hq_at (by decide)) rfl rfl (Nat.le_of_ble_eq_true rfl) (hq_ms (by decide) rfl) rfl ?_
  replace hz := gfr_m (j := 23) (k := 1) (by decide) hz
  refine g_aload_n dX1_init_19 rfl rfl rfl ?_
  refine g_iconst (v := 1) dX1_init_20 (by decide) rfl ?_
  refine g_put gClX1 2 (by decide) fl_X1_21 rfl dX1_init_21 (hq_at (by decide)) rfl rfl (Nat.le_of_ble_eq_true rfl) (hq_pf (by decide) rfl) rfl ?_
  replace hz := gfr_p (j := 23) (k := 2) (x := (1 : Int32)) (by decide) hz
  refine g_iconst (v := 0) dX1_init_24 (by decide) rfl ?_
  refine g_istoreL_n (L1 := [(0, _), (1, _)]) dX1_init_25 rfl (by decide) rfl rfl ?_
  refine g_iload_n dX1_init_26 rfl rfl rfl ?_
  refine g_iconst (v := 4) dX1_init_27 (by decide) rfl ?_
  refine g_icmpge (tgt := 52) dX1_init_28 (by decide) rfl (fun z => absurd z (by decide +kernel)) (fun _ => ?_)
  refine g_aload_n dX1_init_31 rfl rfl rfl ?_
  refine g_get (v := .ref 24) gClX1 0 (by decide) fl_X1_11 dX1_init_32 (hq_at (by decide)) rfl rfl ?_
  refine g_iload_n dX1_init_35 rfl rfl rfl ?_
  refine g_new (fs := [.null, .int 0]) gClX0 cl_X1_9 it_X0 in_X0 (nf_X0 g) (by rw [hq_len]; decide) (Nat.le_of_ble_eq_true rfl) (Nat.le_of_ble_eq_true rfl) dX1_init_36 rfl ?_
  refine g_heq (hq_push (cN_new hz (fun z => absurd z (by decide)) rfl)) (by rw [hq_len]) ?_
  replace hz := gfr_u (n1 := 27) (by decide) hz
  refine g_dup dX1_init_39 rfl rfl ?_
  refine g_bipush (v := 48) dX1_init_40 (by decide) rfl ?_
  refine g_calli mt_X0_init mi_X0_init rfl rfl ml_X1_25 (k_X0_26 l g _ _ _ _ hz) rfl (Nat.le_of_ble_eq_true rfl) (Nat.le_of_ble_eq_true rfl) (Nat.le_of_ble_eq_true rfl) (Nat.le_of_ble_eq_true rfl) rfl (Nat.le_of_ble_eq_true rfl) dX1_init_42 rfl (fun r h p => ?_)
  obtain ⟨rfl, rfl⟩ := p
  replace hz := gfr_u (n1 := 28) (by decide) hz
  replace hz := gfr_m (j := 26) (k := 0) (by decide) hz
  refine g_aast4 (hq_at (by decide)) (hq_at (by decide)) rfl (vinc (by decide +kernel)) (hq_aR (c := 0) (i := 0) (by decide) (by decide) (by decide +kernel) hk24 rfl) dX1_init_45 rfl ?_
  replace hz := gfr_k (j := 24) (v := 1) (by decide) hz
  refine g_iincL (L1 := [(0, _), (1, _)]) dX1_init_46 rfl (by decide) rfl rfl ?_
  refine g_goto (tgt := 26) dX1_init_49 (by decide) ?_
  refine g_iload_n dX1_init_26 rfl rfl rfl ?_
  refine g_iconst (v := 4) dX1_init_27 (by decide) rfl ?_
  refine g_icmpge (tgt := 52) dX1_init_28 (by decide) rfl (fun z => absurd z (by decide +kernel)) (fun _ => ?_)
  refine g_aload_n dX1_init_31 rfl rfl rfl ?_
  refine g_get (v := .ref 24) gClX1 0 (by decide) fl_X1_11 dX1_init_32 (hq_at (by decide)) rfl rfl ?_
  refine g_iload_n dX1_init_35 rfl rfl rfl ?_
  refine g_new (fs := [.null, .int 0]) gClX0 cl_X1_9 it_X0 in_X0 (nf_X0 g) (by rw [hq_len]; decide) (Nat.le_of_ble_eq_true rfl) (Nat.le_of_ble_eq_true rfl) dX1_init_36 rfl ?_
  refine g_heq (hq_push (cN_new hz (fun z => absurd z (by decide)) rfl)) (by rw [hq_len]) ?_
  replace hz := gfr_u (n1 := 29) (by decide) hz
  refine g_dup dX1_init_39 rfl rfl ?_
  refine g_bipush (v := 48) dX1_init_40 (by decide) rfl ?_
  refine g_calli mt_X0_init mi_X0_init rfl rfl ml_X1_25 (k_X0_28 l g _ _ _ _ hz) rfl (Nat.le_of_ble_eq_true rfl) (Nat.le_of_ble_eq_true rfl) (Nat.le_of_ble_eq_true rfl) (Nat.le_of_ble_eq_true rfl) rfl (Nat.le_of_ble_eq_true rfl) dX1_init_42 rfl (fun r h p => ?_)
  obtain ⟨rfl, rfl⟩ := p
  replace hz := gfr_u (n1 := 30) (by decide) hz
  replace hz := gfr_m (j := 28) (k := 0) (by decide) hz
  refine g_aast4 (hq_at (by decide)) (hq_at (by decide)) rfl (vinc (by decide +kernel)) (hq_aR (c := 0) (i := 1) (by decide) (by decide) (by decide +kernel) rfl rfl) dX1_init_45 rfl ?_
  replace hz := gfr_k (j := 24) (v := 2) (by decide) hz
  refine g_iincL (L1 := [(0, _), (1, _)]) dX1_init_46 rfl (by decide) rfl rfl ?_
  refine g_goto (tgt := 26) dX1_init_49 (by decide) ?_
  refine g_iload_n dX1_init_26 rfl rfl rfl ?_
  refine g_iconst (v := 4) dX1_init_27 (by decide) rfl ?_
  refine g_icmpge (tgt := 52) dX1_init_28 (by decide) rfl (fun z => absurd z (by decide +kernel)) (fun _ => ?_)
  refine g_aload_n dX1_init_31 rfl rfl rfl ?_
  refine g_get (v := .ref 24) gClX1 0 (by decide) fl_X1_11 dX1_init_32 (hq_at (by decide)) rfl rfl ?_
  refine g_iload_n dX1_init_35 rfl rfl rfl ?_
  refine g_new (fs := [.null, .int 0]) gClX0 cl_X1_9 it_X0 in_X0 (nf_X0 g) (by rw [hq_len]; decide) (Nat.le_of_ble_eq_true rfl) (Nat.le_of_ble_eq_true rfl) dX1_init_36 rfl ?_
  refine g_heq (hq_push (cN_new hz (fun z => absurd z (by decide)) rfl)) (by rw [hq_len]) ?_
  replace hz := gfr_u (n1 := 31) (by decide) hz
  refine g_dup dX1_init_39 rfl rfl ?_
  refine g_bipush (v := 48) dX1_init_40 (by decide) rfl ?_
  refine g_calli mt_X0_init mi_X0_init rfl rfl ml_X1_25 (k_X0_30 l g _ _ _ _ hz) rfl (Nat.le_of_ble_eq_true rfl) (Nat.le_of_ble_eq_true rfl) (Nat.le_of_ble_eq_true rfl) (Nat.le_of_ble_eq_true rfl) rfl (Nat.le_of_ble_eq_true rfl) dX1_init_42 rfl (fun r h p => ?_)
  obtain ⟨rfl, rfl⟩ := p
  replace hz := gfr_u (n1 := 32) (by decide) hz
  replace hz := gfr_m (j := 30) (k := 0) (by decide) hz
  refine g_aast4 (hq_at (by decide)) (hq_at (by decide)) rfl (vinc (by decide +kernel)) (hq_aR (c := 0) (i := 2) (by decide) (by decide) (by decide +kernel) rfl rfl) dX1_init_45 rfl ?_
  replace hz := gfr_k (j := 24) (v := 3) (by decide) hz
  refine g_iincL (L1 := [(0, _), (1, _)]) dX1_init_46 rfl (by decide) rfl rfl ?_
  refine g_goto (tgt := 26) dX1_init_49 (by decide) ?_
  refine g_iload_n dX1_init_26 rfl rfl rfl ?_
  refine g_iconst (v := 4) dX1_init_27 (by decide) rfl ?_
  refine g_icmpge (tgt := 52) dX1_init_28 (by decide) rfl (fun z => absurd z (by decide +kernel)) (fun _ => ?_)
  refine g_aload_n dX1_init_31 rfl rfl rfl ?_
  refine g_get (v := .ref 24) gClX1 0 (by decide) fl_X1_11 dX1_init_32 (hq_at (by decide)) rfl rfl ?_
  refine g_iload_n dX1_init_35 rfl rfl rfl ?_
  refine g_new (fs := [.null, .int 0]) gClX0 cl_X1_9 it_X0 in_X0 (nf_X0 g) (by rw [hq_len]; decide) (Nat.le_of_ble_eq_true rfl) (Nat.le_of_ble_eq_true rfl) dX1_init_36 rfl ?_
  refine g_heq (hq_push (cN_new hz (fun z => absurd z (by decide)) rfl)) (by rw [hq_len]) ?_
  replace hz := gfr_u (n1 := 33) (by decide) hz
  refine g_dup dX1_init_39 rfl rfl ?_
  refine g_bipush (v := 48) dX1_init_40 (by decide) rfl ?_
  refine g_calli mt_X0_init mi_X0_init rfl rfl ml_X1_25 (k_X0_32 l g _ _ _ _ hz) rfl (Nat.le_of_ble_eq_true rfl) (Nat.le_of_ble_eq_true rfl) (Nat.le_of_ble_eq_true rfl) (Nat.le_of_ble_eq_true rfl) rfl (Nat.le_of_ble_eq_true rfl) dX1_init_42 rfl (fun r h p => ?_)
  obtain ⟨rfl, rfl⟩ := p
  replace hz := gfr_u (n1 := 34) (by decide) hz
  replace hz := gfr_m (j := 32) (k := 0) (by decide) hz
  refine g_aast4 (hq_at (by decide)) (hq_at (by decide)) rfl (vinc (by decide +kernel)) (hq_aR (c := 0) (i := 3) (by decide) (by decide) (by decide +kernel) rfl rfl) dX1_init_45 rfl ?_
  replace hz := gfr_k (j := 24) (v := 4) (by decide) hz
  refine g_iincL (L1 := [(0, _), (1, _)]) dX1_init_46 rfl (by decide) rfl rfl ?_
  refine g_goto (tgt := 26) dX1_init_49 (by decide) ?_
  refine g_iload_n dX1_init_26 rfl rfl rfl ?_
  refine g_iconst (v := 4) dX1_init_27 (by decide) rfl ?_
  refine g_icmpge (tgt := 52) dX1_init_28 (by decide) rfl (fun _ => ?_) (fun z => absurd z (by decide +kernel))
  exact g_vret rfl dX1_init_52 (Nat.le_of_ble_eq_true rfl) (Nat.le_of_ble_eq_true rfl) ⟨rfl, rfl⟩
set_option maxHeartbeats 4000000 in
set_option maxRecDepth 100000 in
theorem k_X0_37 (l : Launch) (g : gE) (m : gK) (κ : Nat → Nat) (σ : gS) (ζ : gQ) (hz : gfr 38 m κ σ) : gC l g mX0_init (rmc 1 1 48 21) [.ref 37, .int 48] (hq 38 m κ σ ζ) (fun r h => r = none ∧ h = hq 39 (mset m 37 0) κ σ ζ) := by
  refine gC_of (by decide) (Nat.le_of_ble_eq_true rfl) ?_
  refine g_aload_n dX0_init_0 rfl rfl rfl ?_
  refine g_obj ml_X0_3 im_obj cd_obj (Nat.le_of_ble_eq_true rfl) (Nat.le_of_ble_eq_true rfl) dX0_init_1 rfl ?_
  refine g_aload_n dX0_init_4 rfl rfl rfl ?_
  refine g_iload_n dX0_init_5 rfl rfl rfl ?_
  refine g_iconst (v := 0) dX0_init_6 (by decide) rfl ?_
  refine g_max ml_X0_9 st_max in_Math cd_max (Nat.le_of_ble_eq_true rfl) (Nat.le_of_ble_eq_true rfl) (Nat.le_of_ble_eq_true rfl) (Nat.le_of_ble_eq_true rfl) dX0_init_7 rfl ?_
  refine g_newa (at_ := .byte) (ty := .byte) (t := 1) (N := 48) rfl rfl aw_byte rfl (by decide +kernel) (by decide +kernel) (by decide) (by rw [hq_len]; decide) (Nat.le_of_ble_eq_true rfl) (Nat.le_of_ble_eq_true rfl) (fun _ z => by cases z) dX0_init_10 rfl ?_
  refine g_heq (hq_push (cN_new hz (fun z => absurd z (by decide)) rfl)) (by rw [hq_len]) ?_
  replace hz := gfr_u (n1 := 39) (by decide) hz
  refine g_putF gClX0 0 (by decide) fl_X0_15 rfl rfl rfl dX0_init_12 (hq_at (by decide)) rfl rfl (Nat.le_of_ble_eq_true rfl) (hq_ms (by decide) rfl) rfl ?_
  replace hz := gfr_m (j := 37) (k := 0) (by decide) hz
  exact g_vret rfl dX0_init_15 (Nat.le_of_ble_eq_true rfl) (Nat.le_of_ble_eq_true rfl) ⟨rfl, rfl⟩
set_option maxHeartbeats 4000000 in
set_option maxRecDepth 100000 in
theorem k_X0_39 (l : Launch) (g : gE) (m : gK) (κ : Nat → Nat) (σ : gS) (ζ : gQ) (hz : gfr 40 m κ σ) : gC l g mX0_init (rmc 1 1 48 21) [.ref 39, .int 48] (hq 40 m κ σ ζ) (fun r h => r = none ∧ h = hq 41 (mset m 39 0) κ σ ζ) := by
  refine gC_of (by decide) (Nat.le_of_ble_eq_true rfl) ?_
  refine g_aload_n dX0_init_0 rfl rfl rfl ?_
  refine g_obj ml_X0_3 im_obj cd_obj (Nat.le_of_ble_eq_true rfl) (Nat.le_of_ble_eq_true rfl) dX0_init_1 rfl ?_
  refine g_aload_n dX0_init_4 rfl rfl rfl ?_
  refine g_iload_n dX0_init_5 rfl rfl rfl ?_
  refine g_iconst (v := 0) dX0_init_6 (by decide) rfl ?_
  refine g_max ml_X0_9 st_max in_Math cd_max (Nat.le_of_ble_eq_true rfl) (Nat.le_of_ble_eq_true rfl) (Nat.le_of_ble_eq_true rfl) (Nat.le_of_ble_eq_true rfl) dX0_init_7 rfl ?_
  refine g_newa (at_ := .byte) (ty := .byte) (t := 1) (N := 48) rfl rfl aw_byte rfl (by decide +kernel) (by decide +kernel) (by decide) (by rw [hq_len]; decide) (Nat.le_of_ble_eq_true rfl) (Nat.le_of_ble_eq_true rfl) (fun _ z => by cases z) dX0_init_10 rfl ?_
  refine g_heq (hq_push (cN_new hz (fun z => absurd z (by decide)) rfl)) (by rw [hq_len]) ?_
  replace hz := gfr_u (n1 := 41) (by decide) hz
  refine g_putF gClX0 0 (by decide) fl_X0_15 rfl rfl rfl dX0_init_12 (hq_at (by decide)) rfl rfl (Nat.le_of_ble_eq_true rfl) (hq_ms (by decide) rfl) rfl ?_
  replace hz := gfr_m (j := 39) (k := 0) (by decide) hz
  exact g_vret rfl dX0_init_15 (Nat.le_of_ble_eq_true rfl) (Nat.le_of_ble_eq_true rfl) ⟨rfl, rfl⟩
set_option maxHeartbeats 4000000 in
set_option maxRecDepth 100000 in
theorem k_X0_41 (l : Launch) (g : gE) (m : gK) (κ : Nat → Nat) (σ : gS) (ζ : gQ) (hz : gfr 42 m κ σ) : gC l g mX0_init (rmc 1 1 48 21) [.ref 41, .int 48] (hq 42 m κ σ ζ) (fun r h => r = none ∧ h = hq 43 (mset m 41 0) κ σ ζ) := by
  refine gC_of (by decide) (Nat.le_of_ble_eq_true rfl) ?_
  refine g_aload_n dX0_init_0 rfl rfl rfl ?_
  refine g_obj ml_X0_3 im_obj cd_obj (Nat.le_of_ble_eq_true rfl) (Nat.le_of_ble_eq_true rfl) dX0_init_1 rfl ?_
  refine g_aload_n dX0_init_4 rfl rfl rfl ?_
  refine g_iload_n dX0_init_5 rfl rfl rfl ?_
  refine g_iconst (v := 0) dX0_init_6 (by decide) rfl ?_
  refine g_max ml_X0_9 st_max in_Math cd_max (Nat.le_of_ble_eq_true rfl) (Nat.le_of_ble_eq_true rfl) (Nat.le_of_ble_eq_true rfl) (Nat.le_of_ble_eq_true rfl) dX0_init_7 rfl ?_
  refine g_newa (at_ := .byte) (ty := .byte) (t := 1) (N := 48) rfl rfl aw_byte rfl (by decide +kernel) (by decide +kernel) (by decide) (by rw [hq_len]; decide) (Nat.le_of_ble_eq_true rfl) (Nat.le_of_ble_eq_true rfl) (fun _ z => by cases z) dX0_init_10 rfl ?_
  refine g_heq (hq_push (cN_new hz (fun z => absurd z (by decide)) rfl)) (by rw [hq_len]) ?_
  replace hz := gfr_u (n1 := 43) (by decide) hz
  refine g_putF gClX0 0 (by decide) fl_X0_15 rfl rfl rfl dX0_init_12 (hq_at (by decide)) rfl rfl (Nat.le_of_ble_eq_true rfl) (hq_ms (by decide) rfl) rfl ?_
  replace hz := gfr_m (j := 41) (k := 0) (by decide) hz
  exact g_vret rfl dX0_init_15 (Nat.le_of_ble_eq_true rfl) (Nat.le_of_ble_eq_true rfl) ⟨rfl, rfl⟩
set_option maxHeartbeats 4000000 in
set_option maxRecDepth 100000 in
theorem k_X0_43 (l : Launch) (g : gE) (m : gK) (κ : Nat → Nat) (σ : gS) (ζ : gQ) (hz : gfr 44 m κ σ) : gC l g mX0_init (rmc 1 1 48 21) [.ref 43, .int 48] (hq 44 m κ σ ζ) (fun r h => r = none ∧ h = hq 45 (mset m 43 0) κ σ ζ) := by
  refine gC_of (by decide) (Nat.le_of_ble_eq_true rfl) ?_
  refine g_aload_n dX0_init_0 rfl rfl rfl ?_
  refine g_obj ml_X0_3 im_obj cd_obj (Nat.le_of_ble_eq_true rfl) (Nat.le_of_ble_eq_true rfl) dX0_init_1 rfl ?_
  refine g_aload_n dX0_init_4 rfl rfl rfl ?_
  refine g_iload_n dX0_init_5 rfl rfl rfl ?_
  refine g_iconst (v := 0) dX0_init_6 (by decide) rfl ?_
  refine g_max ml_X0_9 st_max in_Math cd_max (Nat.le_of_ble_eq_true rfl) (Nat.le_of_ble_eq_true rfl) (Nat.le_of_ble_eq_true rfl) (Nat.le_of_ble_eq_true rfl) dX0_init_7 rfl ?_
  refine g_newa (at_ := .byte) (ty := .byte) (t := 1) (N := 48) rfl rfl aw_byte rfl (by decide +kernel) (by decide +kernel) (by decide) (by rw [hq_len]; decide) (Nat.le_of_ble_eq_true rfl) (Nat.le_of_ble_eq_true rfl) (fun _ z => by cases z) dX0_init_10 rfl ?_
  refine g_heq (hq_push (cN_new hz (fun z => absurd z (by decide)) rfl)) (by rw [hq_len]) ?_
  replace hz := gfr_u (n1 := 45) (by decide) hz
  refine g_putF gClX0 0 (by decide) fl_X0_15 rfl rfl rfl dX0_init_12 (hq_at (by decide)) rfl rfl (Nat.le_of_ble_eq_true rfl) (hq_ms (by decide) rfl) rfl ?_
  replace hz := gfr_m (j := 43) (k := 0) (by decide) hz
  exact g_vret rfl dX0_init_15 (Nat.le_of_ble_eq_true rfl) (Nat.le_of_ble_eq_true rfl) ⟨rfl, rfl⟩
set_option maxHeartbeats 4000000 in
set_option maxRecDepth 100000 in
theorem k_X1_34 (l : Launch) (g : gE) (m : gK) (κ : Nat → Nat) (σ : gS) (ζ : gQ) (hz : gfr 35 m κ σ) : gC l g mX1_init (rmc 2 10 208 42) [.ref 34] (hq 35 m κ σ ζ) (fun r h => r = none ∧ h = hq 45 (mset (mset (mset (mset (mset (mset m 34 0) 34 1) 37 0) 39 0) 41 0) 43 0) (va_up (va_up (va_up (va_up κ 35 1) 35 2) 35 3) 35 4) (pf σ 34 2 (1 : Int32)) ζ) := by
  refine gC_of (by decide) (Nat.le_of_ble_eq_true rfl) ?_
  refine g_aload_n dX1_init_0 rfl rfl rfl ?_
  refine g_obj ml_X1_3 im_obj cd_obj (Nat.le_of_ble_eq_true rfl) (Nat.le_of_ble_eq_true rfl) dX1_init_1 rfl ?_
  refine g_aload_n dX1_init_4 rfl rfl rfl ?_
  refine g_iconst (v := 4) dX1_init_5 (by decide) rfl ?_
  refine g_newq (t := 4) (N := 4) rfl cl_X1_9 (Or.inr rfl) (by decide +kernel) (by decide +kernel) (by decide) (by rw [hq_len]; decide) (Nat.le_of_ble_eq_true rfl) (Nat.le_of_ble_eq_true rfl) dX1_init_6 rfl ?_
  have hk35 := (hz 35 (by decide)).2.1
  refine g_heq (hq_push (cN_new hz (fun z => absurd z (by decide)) rfl)) (by rw [hq_len]) ?_
  replace hz := gfr_u (n1 := 36) (by decide) hz
  refine g_putF gClX1 0 (by decide) fl_X1_11 rfl rfl rfl dX1_init_9 (hq_at (by decide)) rfl rfl (Nat.le_of_ble_eq_true rfl) (hq_ms (by decide) rfl) rfl ?_
  replace hz := gfr_m (j := 34) (k := 0) (by decide) hz
  refine g_aload_n dX1_init_12 rfl rfl rfl ?_
  refine g_iconst (v := 4) dX1_init_13 (by decide) rfl ?_
  refine g_newa (at_ := .int) (ty := .int) (t := 0) (N := 4) rfl rfl aw_int rfl (by decide +kernel) (by decide +kernel) (by decide) (by rw [hq_len]; decide) (Nat.le_of_ble_eq_true rfl) (Nat.le_of_ble_eq_true rfl) (fun _ z => by cases z) dX1_init_14 rfl ?_
  refine g_heq (hq_push (cN_new hz (fun z => absurd z (by decide)) rfl)) (by rw [hq_len]) ?_
  replace hz := gfr_u (n1 := 37) (by decide) hz
  refine g_putF gClX1 1 (by decide) fl_X1_17 rfl rfl rfl dX1_init_16 (hq_at (by decide)) rfl rfl (Nat.le_of_ble_eq_true rfl) (hq_ms (by decide) rfl) rfl ?_
  replace hz := gfr_m (j := 34) (k := 1) (by decide) hz
  refine g_aload_n dX1_init_19 rfl rfl rfl ?_
  refine g_iconst (v := 1) dX1_init_20 (by decide) rfl ?_
  refine g_put gClX1 2 (by decide) fl_X1_21 rfl dX1_init_21 (hq_at (by decide)) rfl rfl (Nat.le_of_ble_eq_true rfl) (hq_pf (by decide) rfl) rfl ?_
  replace hz := gfr_p (j := 34) (k := 2) (x := (1 : Int32)) (by decide) hz
  refine g_iconst (v := 0) dX1_init_24 (by decide) rfl ?_
  refine g_istoreL_n (L1 := [(0, _), (1, _)]) dX1_init_25 rfl (by decide) rfl rfl ?_
  refine g_iload_n dX1_init_26 rfl rfl rfl ?_
  refine g_iconst (v := 4) dX1_init_27 (by decide) rfl ?_
  refine g_icmpge (tgt := 52) dX1_init_28 (by decide) rfl (fun z => absurd z (by decide +kernel)) (fun _ => ?_)
  refine g_aload_n dX1_init_31 rfl rfl rfl ?_
  refine g_get (v := .ref 35) gClX1 0 (by decide) fl_X1_11 dX1_init_32 (hq_at (by decide)) rfl rfl ?_
  refine g_iload_n dX1_init_35 rfl rfl rfl ?_
  refine g_new (fs := [.null, .int 0]) gClX0 cl_X1_9 it_X0 in_X0 (nf_X0 g) (by rw [hq_len]; decide) (Nat.le_of_ble_eq_true rfl) (Nat.le_of_ble_eq_true rfl) dX1_init_36 rfl ?_
  refine g_heq (hq_push (cN_new hz (fun z => absurd z (by decide)) rfl)) (by rw [hq_len]) ?_
  replace hz := gfr_u (n1 := 38) (by decide) hz
  refine g_dup dX1_init_39 rfl rfl ?_
  refine g_bipush (v := 48) dX1_init_40 (by decide) rfl ?_
  refine g_calli mt_X0_init mi_X0_init rfl rfl ml_X1_25 (k_X0_37 l g _ _ _ _ hz) rfl (Nat.le_of_ble_eq_true rfl) (Nat.le_of_ble_eq_true rfl) (Nat.le_of_ble_eq_true rfl) (Nat.le_of_ble_eq_true rfl) rfl (Nat.le_of_ble_eq_true rfl) dX1_init_42 rfl (fun r h p => ?_)
  obtain ⟨rfl, rfl⟩ := p
  replace hz := gfr_u (n1 := 39) (by decide) hz
  replace hz := gfr_m (j := 37) (k := 0) (by decide) hz
  refine g_aast4 (hq_at (by decide)) (hq_at (by decide)) rfl (vinc (by decide +kernel)) (hq_aR (c := 1) (i := 0) (by decide) (by decide) (by decide +kernel) hk35 rfl) dX1_init_45 rfl ?_
  replace hz := gfr_k (j := 35) (v := 1) (by decide) hz
  refine g_iincL (L1 := [(0, _), (1, _)]) dX1_init_46 rfl (by decide) rfl rfl ?_
  refine g_goto (tgt := 26) dX1_init_49 (by decide) ?_
  refine g_iload_n dX1_init_26 rfl rfl rfl ?_
  refine g_iconst (v := 4) dX1_init_27 (by decide) rfl ?_
  refine g_icmpge (tgt := 52) dX1_init_28 (by decide) rfl (fun z => absurd z (by decide +kernel)) (fun _ => ?_)
  refine g_aload_n dX1_init_31 rfl rfl rfl ?_
  refine g_get (v := .ref 35) gClX1 0 (by decide) fl_X1_11 dX1_init_32 (hq_at (by decide)) rfl rfl ?_
  refine g_iload_n dX1_init_35 rfl rfl rfl ?_
  refine g_new (fs := [.null, .int 0]) gClX0 cl_X1_9 it_X0 in_X0 (nf_X0 g) (by rw [hq_len]; decide) (Nat.le_of_ble_eq_true rfl) (Nat.le_of_ble_eq_true rfl) dX1_init_36 rfl ?_
  refine g_heq (hq_push (cN_new hz (fun z => absurd z (by decide)) rfl)) (by rw [hq_len]) ?_
  replace hz := gfr_u (n1 := 40) (by decide) hz
  refine g_dup dX1_init_39 rfl rfl ?_
  refine g_bipush (v := 48) dX1_init_40 (by decide) rfl ?_
  refine g_calli mt_X0_init mi_X0_init rfl rfl ml_X1_25 (k_X0_39 l g _ _ _ _ hz) rfl (Nat.le_of_ble_eq_true rfl) (Nat.le_of_ble_eq_true rfl) (Nat.le_of_ble_eq_true rfl) (Nat.le_of_ble_eq_true rfl) rfl (Nat.le_of_ble_eq_true rfl) dX1_init_42 rfl (fun r h p => ?_)
  obtain ⟨rfl, rfl⟩ := p
  replace hz := gfr_u (n1 := 41) (by decide) hz
  replace hz := gfr_m (j := 39) (k := 0) (by decide) hz
  refine g_aast4 (hq_at (by decide)) (hq_at (by decide)) rfl (vinc (by decide +kernel)) (hq_aR (c := 1) (i := 1) (by decide) (by decide) (by decide +kernel) rfl rfl) dX1_init_45 rfl ?_
  replace hz := gfr_k (j := 35) (v := 2) (by decide) hz
  refine g_iincL (L1 := [(0, _), (1, _)]) dX1_init_46 rfl (by decide) rfl rfl ?_
  refine g_goto (tgt := 26) dX1_init_49 (by decide) ?_
  refine g_iload_n dX1_init_26 rfl rfl rfl ?_
  refine g_iconst (v := 4) dX1_init_27 (by decide) rfl ?_
  refine g_icmpge (tgt := 52) dX1_init_28 (by decide) rfl (fun z => absurd z (by decide +kernel)) (fun _ => ?_)
  refine g_aload_n dX1_init_31 rfl rfl rfl ?_
  refine g_get (v := .ref 35) gClX1 0 (by decide) fl_X1_11 dX1_init_32 (hq_at (by decide)) rfl rfl ?_
  refine g_iload_n dX1_init_35 rfl rfl rfl ?_
  refine g_new (fs := [.null, .int 0]) gClX0 cl_X1_9 it_X0 in_X0 (nf_X0 g) (by rw [hq_len]; decide) (Nat.le_of_ble_eq_true rfl) (Nat.le_of_ble_eq_true rfl) dX1_init_36 rfl ?_
  refine g_heq (hq_push (cN_new hz (fun z => absurd z (by decide)) rfl)) (by rw [hq_len]) ?_
  replace hz := gfr_u (n1 := 42) (by decide) hz
  refine g_dup dX1_init_39 rfl rfl ?_
  refine g_bipush (v := 48) dX1_init_40 (by decide) rfl ?_
  refine g_calli mt_X0_init mi_X0_init rfl rfl ml_X1_25 (k_X0_41 l g _ _ _ _ hz) rfl (Nat.le_of_ble_eq_true rfl) (Nat.le_of_ble_eq_true rfl) (Nat.le_of_ble_eq_true rfl) (Nat.le_of_ble_eq_true rfl) rfl (Nat.le_of_ble_eq_true rfl) dX1_init_42 rfl (fun r h p => ?_)
  obtain ⟨rfl, rfl⟩ := p
  replace hz := gfr_u (n1 := 43) (by decide) hz
  replace hz := gfr_m (j := 41) (k := 0) (by decide) hz
  refine g_aast4 (hq_at (by decide)) (hq_at (by decide)) rfl (vinc (by decide +kernel)) (hq_aR (c := 1) (i := 2) (by decide) (by decide) (by decide +kernel) rfl rfl) dX1_init_45 rfl ?_
  replace hz := gfr_k (j := 35) (v := 3) (by decide) hz
  refine g_iincL (L1 := [(0, _), (1, _)]) dX1_init_46 rfl (by decide) rfl rfl ?_
  refine g_goto (tgt := 26) dX1_init_49 (by decide) ?_
  refine g_iload_n dX1_init_26 rfl rfl rfl ?_
  refine g_iconst (v := 4) dX1_init_27 (by decide) rfl ?_
  refine g_icmpge (tgt := 52) dX1_init_28 (by decide) rfl (fun z => absurd z (by decide +kernel)) (fun _ => ?_)
  refine g_aload_n dX1_init_31 rfl rfl rfl ?_
  refine g_get (v := .ref 35) gClX1 0 (by decide) fl_X1_11 dX1_init_32 (hq_at (by decide)) rfl rfl ?_
  refine g_iload_n dX1_init_35 rfl rfl rfl ?_
  refine g_new (fs := [.null, .int 0]) gClX0 cl_X1_9 it_X0 in_X0 (nf_X0 g) (by rw [hq_len]; decide) (Nat.le_of_ble_eq_true rfl) (Nat.le_of_ble_eq_true rfl) dX1_init_36 rfl ?_
  refine g_heq (hq_push (cN_new hz (fun z => absurd z (by decide)) rfl)) (by rw [hq_len]) ?_
  replace hz := gfr_u (n1 := 44) (by decide) hz
  refine g_dup dX1_init_39 rfl rfl ?_
  refine g_bipush (v := 48) dX1_init_40 (by decide) rfl ?_
  refine g_calli mt_X0_init mi_X0_init rfl rfl ml_X1_25 (k_X0_43 l g _ _ _ _ hz) rfl (Nat.le_of_ble_eq_true rfl) (Nat.le_of_ble_eq_true rfl) (Nat.le_of_ble_eq_true rfl) (Nat.le_of_ble_eq_true rfl) rfl (Nat.le_of_ble_eq_true rfl) dX1_init_42 rfl (fun r h p => ?_)
  obtain ⟨rfl, rfl⟩ := p
  replace hz := gfr_u (n1 := 45) (by decide) hz
  replace hz := gfr_m (j := 43) (k := 0) (by decide) hz
  refine g_aast4 (hq_at (by decide)) (hq_at (by decide)) rfl (vinc (by decide +kernel)) (hq_aR (c := 1) (i := 3) (by decide) (by decide) (by decide +kernel) rfl rfl) dX1_init_45 rfl ?_
  replace hz := gfr_k (j := 35) (v := 4) (by decide) hz
  refine g_iincL (L1 := [(0, _), (1, _)]) dX1_init_46 rfl (by decide) rfl rfl ?_
  refine g_goto (tgt := 26) dX1_init_49 (by decide) ?_
  refine g_iload_n dX1_init_26 rfl rfl rfl ?_
  refine g_iconst (v := 4) dX1_init_27 (by decide) rfl ?_
  refine g_icmpge (tgt := 52) dX1_init_28 (by decide) rfl (fun _ => ?_) (fun z => absurd z (by decide +kernel))
  exact g_vret rfl dX1_init_52 (Nat.le_of_ble_eq_true rfl) (Nat.le_of_ble_eq_true rfl) ⟨rfl, rfl⟩
set_option maxHeartbeats 4000000 in
set_option maxRecDepth 100000 in
theorem k_X0_48 (l : Launch) (g : gE) (m : gK) (κ : Nat → Nat) (σ : gS) (ζ : gQ) (hz : gfr 49 m κ σ) : gC l g mX0_init (rmc 1 1 48 21) [.ref 48, .int 48] (hq 49 m κ σ ζ) (fun r h => r = none ∧ h = hq 50 (mset m 48 0) κ σ ζ) := by
  refine gC_of (by decide) (Nat.le_of_ble_eq_true rfl) ?_
  refine g_aload_n dX0_init_0 rfl rfl rfl ?_
  refine g_obj ml_X0_3 im_obj cd_obj (Nat.le_of_ble_eq_true rfl) (Nat.le_of_ble_eq_true rfl) dX0_init_1 rfl ?_
  refine g_aload_n dX0_init_4 rfl rfl rfl ?_
  refine g_iload_n dX0_init_5 rfl rfl rfl ?_
  refine g_iconst (v := 0) dX0_init_6 (by decide) rfl ?_
  refine g_max ml_X0_9 st_max in_Math cd_max (Nat.le_of_ble_eq_true rfl) (Nat.le_of_ble_eq_true rfl) (Nat.le_of_ble_eq_true rfl) (Nat.le_of_ble_eq_true rfl) dX0_init_7 rfl ?_
  refine g_newa (at_ := .byte) (ty := .byte) (t := 1) (N := 48) rfl rfl aw_byte rfl (by decide +kernel) (by decide +kernel) (by decide) (by rw [hq_len]; decide) (Nat.le_of_ble_eq_true rfl) (Nat.le_of_ble_eq_true rfl) (fun _ z => by cases z) dX0_init_10 rfl ?_
  refine g_heq (hq_push (cN_new hz (fun z => absurd z (by decide)) rfl)) (by rw [hq_len]) ?_
  replace hz := gfr_u (n1 := 50) (by decide) hz
  refine g_putF gClX0 0 (by decide) fl_X0_15 rfl rfl rfl dX0_init_12 (hq_at (by decide)) rfl rfl (Nat.le_of_ble_eq_true rfl) (hq_ms (by decide) rfl) rfl ?_
  replace hz := gfr_m (j := 48) (k := 0) (by decide) hz
  exact g_vret rfl dX0_init_15 (Nat.le_of_ble_eq_true rfl) (Nat.le_of_ble_eq_true rfl) ⟨rfl, rfl⟩
set_option maxHeartbeats 4000000 in
set_option maxRecDepth 100000 in
theorem k_X0_50 (l : Launch) (g : gE) (m : gK) (κ : Nat → Nat) (σ : gS) (ζ : gQ) (hz : gfr 51 m κ σ) : gC l g mX0_init (rmc 1 1 48 21) [.ref 50, .int 48] (hq 51 m κ σ ζ) (fun r h => r = none ∧ h = hq 52 (mset m 50 0) κ σ ζ) := by
  refine gC_of (by decide) (Nat.le_of_ble_eq_true rfl) ?_
  refine g_aload_n dX0_init_0 rfl rfl rfl ?_
  refine g_obj ml_X0_3 im_obj cd_obj (Nat.le_of_ble_eq_true rfl) (Nat.le_of_ble_eq_true rfl) dX0_init_1 rfl ?_
  refine g_aload_n dX0_init_4 rfl rfl rfl ?_
  refine g_iload_n dX0_init_5 rfl rfl rfl ?_
  refine g_iconst (v := 0) dX0_init_6 (by decide) rfl ?_
  refine g_max ml_X0_9 st_max in_Math cd_max (Nat.le_of_ble_eq_true rfl) (Nat.le_of_ble_eq_true rfl) (Nat.le_of_ble_eq_true rfl) (Nat.le_of_ble_eq_true rfl) dX0_init_7 rfl ?_
  refine g_newa (at_ := .byte) (ty := .byte) (t := 1) (N := 48) rfl rfl aw_byte rfl (by decide +kernel) (by decide +kernel) (by decide) (by rw [hq_len]; decide) (Nat.le_of_ble_eq_true rfl) (Nat.le_of_ble_eq_true rfl) (fun _ z => by cases z) dX0_init_10 rfl ?_
  refine g_heq (hq_push (cN_new hz (fun z => absurd z (by decide)) rfl)) (by rw [hq_len]) ?_
  replace hz := gfr_u (n1 := 52) (by decide) hz
  refine g_putF gClX0 0 (by decide) fl_X0_15 rfl rfl rfl dX0_init_12 (hq_at (by decide)) rfl rfl (Nat.le_of_ble_eq_true rfl) (hq_ms (by decide) rfl) rfl ?_
  replace hz := gfr_m (j := 50) (k := 0) (by decide) hz
  exact g_vret rfl dX0_init_15 (Nat.le_of_ble_eq_true rfl) (Nat.le_of_ble_eq_true rfl) ⟨rfl, rfl⟩
set_option maxHeartbeats 4000000 in
set_option maxRecDepth 100000 in
theorem k_X0_52 (l : Launch) (g : gE) (m : gK) (κ : Nat → Nat) (σ : gS) (ζ : gQ) (hz : gfr 53 m κ σ) : gC l g mX0_init (rmc 1 1 48 21) [.ref 52, .int 48] (hq 53 m κ σ ζ) (fun r h => r = none ∧ h = hq 54 (mset m 52 0) κ σ ζ) := by
  refine gC_of (by decide) (Nat.le_of_ble_eq_true rfl) ?_
  refine g_aload_n dX0_init_0 rfl rfl rfl ?_
  refine g_obj ml_X0_3 im_obj cd_obj (Nat.le_of_ble_eq_true rfl) (Nat.le_of_ble_eq_true rfl) dX0_init_1 rfl ?_
  refine g_aload_n dX0_init_4 rfl rfl rfl ?_
  refine g_iload_n dX0_init_5 rfl rfl rfl ?_
  refine g_iconst (v := 0) dX0_init_6 (by decide) rfl ?_
  refine g_max ml_X0_9 st_max in_Math cd_max (Nat.le_of_ble_eq_true rfl) (Nat.le_of_ble_eq_true rfl) (Nat.le_of_ble_eq_true rfl) (Nat.le_of_ble_eq_true rfl) dX0_init_7 rfl ?_
  refine g_newa (at_ := .byte) (ty := .byte) (t := 1) (N := 48) rfl rfl aw_byte rfl (by decide +kernel) (by decide +kernel) (by decide) (by rw [hq_len]; decide) (Nat.le_of_ble_eq_true rfl) (Nat.le_of_ble_eq_true rfl) (fun _ z => by cases z) dX0_init_10 rfl ?_
  refine g_heq (hq_push (cN_new hz (fun z => absurd z (by decide)) rfl)) (by rw [hq_len]) ?_
  replace hz := gfr_u (n1 := 54) (by decide) hz
  refine g_putF gClX0 0 (by decide) fl_X0_15 rfl rfl rfl dX0_init_12 (hq_at (by decide)) rfl rfl (Nat.le_of_ble_eq_true rfl) (hq_ms (by decide) rfl) rfl ?_
  replace hz := gfr_m (j := 52) (k := 0) (by decide) hz
  exact g_vret rfl dX0_init_15 (Nat.le_of_ble_eq_true rfl) (Nat.le_of_ble_eq_true rfl) ⟨rfl, rfl⟩
set_option maxHeartbeats 4000000 in
set_option maxRecDepth 100000 in
theorem k_X0_54 (l : Launch) (g : gE) (m : gK) (κ : Nat → Nat) (σ : gS) (ζ : gQ) (hz : gfr 55 m κ σ) : gC l g mX0_init (rmc 1 1 48 21) [.ref 54, .int 48] (hq 55 m κ σ ζ) (fun r h => r = none ∧ h = hq 56 (mset m 54 0) κ σ ζ) := by
  refine gC_of (by decide) (Nat.le_of_ble_eq_true rfl) ?_
  refine g_aload_n dX0_init_0 rfl rfl rfl ?_
  refine g_obj ml_X0_3 im_obj cd_obj (Nat.le_of_ble_eq_true rfl) (Nat.le_of_ble_eq_true rfl) dX0_init_1 rfl ?_
  refine g_aload_n dX0_init_4 rfl rfl rfl ?_
  refine g_iload_n dX0_init_5 rfl rfl rfl ?_
  refine g_iconst (v := 0) dX0_init_6 (by decide) rfl ?_
  refine g_max ml_X0_9 st_max in_Math cd_max (Nat.le_of_ble_eq_true rfl) (Nat.le_of_ble_eq_true rfl) (Nat.le_of_ble_eq_true rfl) (Nat.le_of_ble_eq_true rfl) dX0_init_7 rfl ?_
  refine g_newa (at_ := .byte) (ty := .byte) (t := 1) (N := 48) rfl rfl aw_byte rfl (by decide +kernel) (by decide +kernel) (by decide) (by rw [hq_len]; decide) (Nat.le_of_ble_eq_true rfl) (Nat.le_of_ble_eq_true rfl) (fun _ z => by cases z) dX0_init_10 rfl ?_
  refine g_heq (hq_push (cN_new hz (fun z => absurd z (by decide)) rfl)) (by rw [hq_len]) ?_
  replace hz := gfr_u (n1 := 56) (by decide) hz
  refine g_putF gClX0 0 (by decide) fl_X0_15 rfl rfl rfl dX0_init_12 (hq_at (by decide)) rfl rfl (Nat.le_of_ble_eq_true rfl) (hq_ms (by decide) rfl) rfl ?_
  replace hz := gfr_m (j := 54) (k := 0) (by decide) hz
  exact g_vret rfl dX0_init_15 (Nat.le_of_ble_eq_true rfl) (Nat.le_of_ble_eq_true rfl) ⟨rfl, rfl⟩
set_option maxHeartbeats 4000000 in
set_option maxRecDepth 100000 in
theorem k_X1_45 (l : Launch) (g : gE) (m : gK) (κ : Nat → Nat) (σ : gS) (ζ : gQ) (hz : gfr 46 m κ σ) : gC l g mX1_init (rmc 2 10 208 42) [.ref 45] (hq 46 m κ σ ζ) (fun r h => r = none ∧ h = hq 56 (mset (mset (mset (mset (mset (mset m 45 0) 45 1) 48 0) 50 0) 52 0) 54 0) (va_up (va_up (va_up (va_up κ 46 1) 46 2) 46 3) 46 4) (pf σ 45 2 (1 : Int32)) ζ) := by
  refine gC_of (by decide) (Nat.le_of_ble_eq_true rfl) ?_
  refine g_aload_n dX1_init_0 rfl rfl rfl ?_
  refine g_obj ml_X1_3 im_obj cd_obj (Nat.le_of_ble_eq_true rfl) (Nat.le_of_ble_eq_true rfl) dX1_init_1 rfl ?_
  refine g_aload_n dX1_init_4 rfl rfl rfl ?_
  refine g_iconst (v := 4) dX1_init_5 (by decide) rfl ?_
  refine g_newq (t := 4) (N := 4) rfl cl_X1_9 (Or.inr rfl) (by decide +kernel) (by decide +kernel) (by decide) (by rw [hq_len]; decide) (Nat.le_of_ble_eq_true rfl) (Nat.le_of_ble_eq_true rfl) dX1_init_6 rfl ?_
  have hk46 := (hz 46 (by decide)).2.1
  refine g_heq (hq_push (cN_new hz (fun z => absurd z (by decide)) rfl)) (by rw [hq_len]) ?_
  replace hz := gfr_u (n1 := 47) (by decide) hz
  refine g_putF gClX1 0 (by decide) fl_X1_11 rfl rfl rfl dX1_init_9 (hq_at (by decide)) rfl rfl (Nat.le_of_ble_eq_true rfl) (hq_ms (by decide) rfl) rfl ?_
  replace hz := gfr_m (j := 45) (k := 0) (by decide) hz
  refine g_aload_n dX1_init_12 rfl rfl rfl ?_
  refine g_iconst (v := 4) dX1_init_13 (by decide) rfl ?_
  refine g_newa (at_ := .int) (ty := .int) (t := 0) (N := 4) rfl rfl aw_int rfl (by decide +kernel) (by decide +kernel) (by decide) (by rw [hq_len]; decide) (Nat.le_of_ble_eq_true rfl) (Nat.le_of_ble_eq_true rfl) (fun _ z => by cases z) dX1_init_14 rfl ?_
  refine g_heq (hq_push (cN_new hz (fun z => absurd z (by decide)) rfl)) (by rw [hq_len]) ?_
  replace hz := gfr_u (n1 := 48) (by decide) hz
  refine g_putF gClX1 1 (by decide) fl_X1_17 rfl rfl rfl dX1_init_16 (hq_at (by decide)) rfl rfl (Nat.le_of_ble_eq_true rfl) (hq_ms (by decide) rfl) rfl ?_
  replace hz := gfr_m (j := 45) (k := 1) (by decide) hz
  refine g_aload_n dX1_init_19 rfl rfl rfl ?_
  refine g_iconst (v := 1) dX1_init_20 (by decide) rfl ?_
  refine g_put gClX1 2 (by decide) fl_X1_21 rfl dX1_init_21 (hq_at (by decide)) rfl rfl (Nat.le_of_ble_eq_true rfl) (hq_pf (by decide) rfl) rfl ?_
  replace hz := gfr_p (j := 45) (k := 2) (x := (1 : Int32)) (by decide) hz
  refine g_iconst (v := 0) dX1_init_24 (by decide) rfl ?_
  refine g_istoreL_n (L1 := [(0, _), (1, _)]) dX1_init_25 rfl (by decide) rfl rfl ?_
  refine g_iload_n dX1_init_26 rfl rfl rfl ?_
  refine g_iconst (v := 4) dX1_init_27 (by decide) rfl ?_
  refine g_icmpge (tgt := 52) dX1_init_28 (by decide) rfl (fun z => absurd z (by decide +kernel)) (fun _ => ?_)
  refine g_aload_n dX1_init_31 rfl rfl rfl ?_
  refine g_get (v := .ref 46) gClX1 0 (by decide) fl_X1_11 dX1_init_32 (hq_at (by decide)) rfl rfl ?_
  refine g_iload_n dX1_init_35 rfl rfl rfl ?_
  refine g_new (fs := [.null, .int 0]) gClX0 cl_X1_9 it_X0 in_X0 (nf_X0 g) (by rw [hq_len]; decide) (Nat.le_of_ble_eq_true rfl) (Nat.le_of_ble_eq_true rfl) dX1_init_36 rfl ?_
  refine g_heq (hq_push (cN_new hz (fun z => absurd z (by decide)) rfl)) (by rw [hq_len]) ?_
  replace hz := gfr_u (n1 := 49) (by decide) hz
  refine g_dup dX1_init_39 rfl rfl ?_
  refine g_bipush (v := 48) dX1_init_40 (by decide) rfl ?_
  refine g_calli mt_X0_init mi_X0_init rfl rfl ml_X1_25 (k_X0_48 l g _ _ _ _ hz) rfl (Nat.le_of_ble_eq_true rfl) (Nat.le_of_ble_eq_true rfl) (Nat.le_of_ble_eq_true rfl) (Nat.le_of_ble_eq_true rfl) rfl (Nat.le_of_ble_eq_true rfl) dX1_init_42 rfl (fun r h p => ?_)
  obtain ⟨rfl, rfl⟩ := p
  replace hz := gfr_u (n1 := 50) (by decide) hz
  replace hz := gfr_m (j := 48) (k := 0) (by decide) hz
  refine g_aast4 (hq_at (by decide)) (hq_at (by decide)) rfl (vinc (by decide +kernel)) (hq_aR (c := 2) (i := 0) (by decide) (by decide) (by decide +kernel) hk46 rfl) dX1_init_45 rfl ?_
  replace hz := gfr_k (j := 46) (v := 1) (by decide) hz
  refine g_iincL (L1 := [(0, _), (1, _)]) dX1_init_46 rfl (by decide) rfl rfl ?_
  refine g_goto (tgt := 26) dX1_init_49 (by decide) ?_
  refine g_iload_n dX1_init_26 rfl rfl rfl ?_
  refine g_iconst (v := 4) dX1_init_27 (by decide) rfl ?_
  refine g_icmpge (tgt := 52) dX1_init_28 (by decide) rfl (fun z => absurd z (by decide +kernel)) (fun _ => ?_)
  refine g_aload_n dX1_init_31 rfl rfl rfl ?_
  refine g_get (v := .ref 46) gClX1 0 (by decide) fl_X1_11 dX1_init_32 (hq_at (by decide)) rfl rfl ?_
  refine g_iload_n dX1_init_35 rfl rfl rfl ?_
  refine g_new (fs := [.null, .int 0]) gClX0 cl_X1_9 it_X0 in_X0 (nf_X0 g) (by rw [hq_len]; decide) (Nat.le_of_ble_eq_true rfl) (Nat.le_of_ble_eq_true rfl) dX1_init_36 rfl ?_
  refine g_heq (hq_push (cN_new hz (fun z => absurd z (by decide)) rfl)) (by rw [hq_len]) ?_
  replace hz := gfr_u (n1 := 51) (by decide) hz
  refine g_dup dX1_init_39 rfl rfl ?_
  refine g_bipush (v := 48) dX1_init_40 (by decide) rfl ?_
  refine g_calli mt_X0_init mi_X0_init rfl rfl ml_X1_25 (k_X0_50 l g _ _ _ _ hz) rfl (Nat.le_of_ble_eq_true rfl) (Nat.le_of_ble_eq_true rfl) (Nat.le_of_ble_eq_true rfl) (Nat.le_of_ble_eq_true rfl) rfl (Nat.le_of_ble_eq_true rfl) dX1_init_42 rfl (fun r h p => ?_)
  obtain ⟨rfl, rfl⟩ := p
  replace hz := gfr_u (n1 := 52) (by decide) hz
  replace hz := gfr_m (j := 50) (k := 0) (by decide) hz
  refine g_aast4 (hq_at (by decide)) (hq_at (by decide)) rfl (vinc (by decide +kernel)) (hq_aR (c := 2) (i := 1) (by decide) (by decide) (by decide +kernel) rfl rfl) dX1_init_45 rfl ?_
  replace hz := gfr_k (j := 46) (v := 2) (by decide) hz
  refine g_iincL (L1 := [(0, _), (1, _)]) dX1_init_46 rfl (by decide) rfl rfl ?_
  refine g_goto (tgt := 26) dX1_init_49 (by decide) ?_
  refine g_iload_n dX1_init_26 rfl rfl rfl ?_
  refine g_iconst (v := 4) dX1_init_27 (by decide) rfl ?_
  refine g_icmpge (tgt := 52) dX1_init_28 (by decide) rfl (fun z => absurd z (by decide +kernel)) (fun _ => ?_)
  refine g_aload_n dX1_init_31 rfl rfl rfl ?_
  refine g_get (v := .ref 46) gClX1 0 (by decide) fl_X1_11 dX1_init_32 (hq_at (by decide)) rfl rfl ?_
  refine g_iload_n dX1_init_35 rfl rfl rfl ?_
  refine g_new (fs := [.null, .int 0]) gClX0 cl_X1_9 it_X0 in_X0 (nf_X0 g) (by rw [hq_len]; decide) (Nat.le_of_ble_eq_true rfl) (Nat.le_of_ble_eq_true rfl) dX1_init_36 rfl ?_
  refine g_heq (hq_push (cN_new hz (fun z => absurd z (by decide)) rfl)) (by rw [hq_len]) ?_
  replace hz := gfr_u (n1 := 53) (by decide) hz
  refine g_dup dX1_init_39 rfl rfl ?_
  refine g_bipush (v := 48) dX1_init_40 (by decide) rfl ?_
  refine g_calli mt_X0_init mi_X0_init rfl rfl ml_X1_25 (k_X0_52 l g _ _ _ _ hz) rfl (Nat.le_of_ble_eq_true rfl) (Nat.le_of_ble_eq_true rfl) (Nat.le_of_ble_eq_true rfl) (Nat.le_of_ble_eq_true rfl) rfl (Nat.le_of_ble_eq_true rfl) dX1_init_42 rfl (fun r h p => ?_)
  obtain ⟨rfl, rfl⟩ := p
  replace hz := gfr_u (n1 := 54) (by decide) hz
  replace hz := gfr_m (j := 52) (k := 0) (by decide) hz
  refine g_aast4 (hq_at (by decide)) (hq_at (by decide)) rfl (vinc (by decide +kernel)) (hq_aR (c := 2) (i := 2) (by decide) (by decide) (by decide +kernel) rfl rfl) dX1_init_45 rfl ?_
  replace hz := gfr_k (j := 46) (v := 3) (by decide) hz
  refine g_iincL (L1 := [(0, _), (1, _)]) dX1_init_46 rfl (by decide) rfl rfl ?_
  refine g_goto (tgt := 26) dX1_init_49 (by decide) ?_
  refine g_iload_n dX1_init_26 rfl rfl rfl ?_
  refine g_iconst (v := 4) dX1_init_27 (by decide) rfl ?_
  refine g_icmpge (tgt := 52) dX1_init_28 (by decide) rfl (fun z => absurd z (by decide +kernel)) (fun _ => ?_)
  refine g_aload_n dX1_init_31 rfl rfl rfl ?_
  refine g_get (v := .ref 46) gClX1 0 (by decide) fl_X1_11 dX1_init_32 (hq_at (by decide)) rfl rfl ?_
  refine g_iload_n dX1_init_35 rfl rfl rfl ?_
  refine g_new (fs := [.null, .int 0]) gClX0 cl_X1_9 it_X0 in_X0 (nf_X0 g) (by rw [hq_len]; decide) (Nat.le_of_ble_eq_true rfl) (Nat.le_of_ble_eq_true rfl) dX1_init_36 rfl ?_
  refine g_heq (hq_push (cN_new hz (fun z => absurd z (by decide)) rfl)) (by rw [hq_len]) ?_
  replace hz := gfr_u (n1 := 55) (by decide) hz
  refine g_dup dX1_init_39 rfl rfl ?_
  refine g_bipush (v := 48) dX1_init_40 (by decide) rfl ?_
  refine g_calli mt_X0_init mi_X0_init rfl rfl ml_X1_25 (k_X0_54 l g _ _ _ _ hz) rfl (Nat.le_of_ble_eq_true rfl) (Nat.le_of_ble_eq_true rfl) (Nat.le_of_ble_eq_true rfl) (Nat.le_of_ble_eq_true rfl) rfl (Nat.le_of_ble_eq_true rfl) dX1_init_42 rfl (fun r h p => ?_)
  obtain ⟨rfl, rfl⟩ := p
  replace hz := gfr_u (n1 := 56) (by decide) hz
  replace hz := gfr_m (j := 54) (k := 0) (by decide) hz
  refine g_aast4 (hq_at (by decide)) (hq_at (by decide)) rfl (vinc (by decide +kernel)) (hq_aR (c := 2) (i := 3) (by decide) (by decide) (by decide +kernel) rfl rfl) dX1_init_45 rfl ?_
  replace hz := gfr_k (j := 46) (v := 4) (by decide) hz
  refine g_iincL (L1 := [(0, _), (1, _)]) dX1_init_46 rfl (by decide) rfl rfl ?_
  refine g_goto (tgt := 26) dX1_init_49 (by decide) ?_
  refine g_iload_n dX1_init_26 rfl rfl rfl ?_
  refine g_iconst (v := 4) dX1_init_27 (by decide) rfl ?_
  refine g_icmpge (tgt := 52) dX1_init_28 (by decide) rfl (fun _ => ?_) (fun z => absurd z (by decide +kernel))
  exact g_vret rfl dX1_init_52 (Nat.le_of_ble_eq_true rfl) (Nat.le_of_ble_eq_true rfl) ⟨rfl, rfl⟩
set_option maxHeartbeats 4000000 in
set_option maxRecDepth 100000 in
theorem k_X0_59 (l : Launch) (g : gE) (m : gK) (κ : Nat → Nat) (σ : gS) (ζ : gQ) (hz : gfr 60 m κ σ) : gC l g mX0_init (rmc 1 1 48 21) [.ref 59, .int 48] (hq 60 m κ σ ζ) (fun r h => r = none ∧ h = hq 61 (mset m 59 0) κ σ ζ) := by
  refine gC_of (by decide) (Nat.le_of_ble_eq_true rfl) ?_
  refine g_aload_n dX0_init_0 rfl rfl rfl ?_
  refine g_obj ml_X0_3 im_obj cd_obj (Nat.le_of_ble_eq_true rfl) (Nat.le_of_ble_eq_true rfl) dX0_init_1 rfl ?_
  refine g_aload_n dX0_init_4 rfl rfl rfl ?_
  refine g_iload_n dX0_init_5 rfl rfl rfl ?_
  refine g_iconst (v := 0) dX0_init_6 (by decide) rfl ?_
  refine g_max ml_X0_9 st_max in_Math cd_max (Nat.le_of_ble_eq_true rfl) (Nat.le_of_ble_eq_true rfl) (Nat.le_of_ble_eq_true rfl) (Nat.le_of_ble_eq_true rfl) dX0_init_7 rfl ?_
  refine g_newa (at_ := .byte) (ty := .byte) (t := 1) (N := 48) rfl rfl aw_byte rfl (by decide +kernel) (by decide +kernel) (by decide) (by rw [hq_len]; decide) (Nat.le_of_ble_eq_true rfl) (Nat.le_of_ble_eq_true rfl) (fun _ z => by cases z) dX0_init_10 rfl ?_
  refine g_heq (hq_push (cN_new hz (fun z => absurd z (by decide)) rfl)) (by rw [hq_len]) ?_
  replace hz := gfr_u (n1 := 61) (by decide) hz
  refine g_putF gClX0 0 (by decide) fl_X0_15 rfl rfl rfl dX0_init_12 (hq_at (by decide)) rfl rfl (Nat.le_of_ble_eq_true rfl) (hq_ms (by decide) rfl) rfl ?_
  replace hz := gfr_m (j := 59) (k := 0) (by decide) hz
  exact g_vret rfl dX0_init_15 (Nat.le_of_ble_eq_true rfl) (Nat.le_of_ble_eq_true rfl) ⟨rfl, rfl⟩
set_option maxHeartbeats 4000000 in
set_option maxRecDepth 100000 in
theorem k_X0_61 (l : Launch) (g : gE) (m : gK) (κ : Nat → Nat) (σ : gS) (ζ : gQ) (hz : gfr 62 m κ σ) : gC l g mX0_init (rmc 1 1 48 21) [.ref 61, .int 48] (hq 62 m κ σ ζ) (fun r h => r = none ∧ h = hq 63 (mset m 61 0) κ σ ζ) := by
  refine gC_of (by decide) (Nat.le_of_ble_eq_true rfl) ?_
  refine g_aload_n dX0_init_0 rfl rfl rfl ?_
  refine g_obj ml_X0_3 im_obj cd_obj (Nat.le_of_ble_eq_true rfl) (Nat.le_of_ble_eq_true rfl) dX0_init_1 rfl ?_
  refine g_aload_n dX0_init_4 rfl rfl rfl ?_
  refine g_iload_n dX0_init_5 rfl rfl rfl ?_
  refine g_iconst (v := 0) dX0_init_6 (by decide) rfl ?_
  refine g_max ml_X0_9 st_max in_Math cd_max (Nat.le_of_ble_eq_true rfl) (Nat.le_of_ble_eq_true rfl) (Nat.le_of_ble_eq_true rfl) (Nat.le_of_ble_eq_true rfl) dX0_init_7 rfl ?_
  refine g_newa (at_ := .byte) (ty := .byte) (t := 1) (N := 48) rfl rfl aw_byte rfl (by decide +kernel) (by decide +kernel) (by decide) (by rw [hq_len]; decide) (Nat.le_of_ble_eq_true rfl) (Nat.le_of_ble_eq_true rfl) (fun _ z => by cases z) dX0_init_10 rfl ?_
  refine g_heq (hq_push (cN_new hz (fun z => absurd z (by decide)) rfl)) (by rw [hq_len]) ?_
  replace hz := gfr_u (n1 := 63) (by decide) hz
  refine g_putF gClX0 0 (by decide) fl_X0_15 rfl rfl rfl dX0_init_12 (hq_at (by decide)) rfl rfl (Nat.le_of_ble_eq_true rfl) (hq_ms (by decide) rfl) rfl ?_
  replace hz := gfr_m (j := 61) (k := 0) (by decide) hz
  exact g_vret rfl dX0_init_15 (Nat.le_of_ble_eq_true rfl) (Nat.le_of_ble_eq_true rfl) ⟨rfl, rfl⟩
set_option maxHeartbeats 4000000 in
set_option maxRecDepth 100000 in
theorem k_X0_63 (l : Launch) (g : gE) (m : gK) (κ : Nat → Nat) (σ : gS) (ζ : gQ) (hz : gfr 64 m κ σ) : gC l g mX0_init (rmc 1 1 48 21) [.ref 63, .int 48] (hq 64 m κ σ ζ) (fun r h => r = none ∧ h = hq 65 (mset m 63 0) κ σ ζ) := by
  refine gC_of (by decide) (Nat.le_of_ble_eq_true rfl) ?_
  refine g_aload_n dX0_init_0 rfl rfl rfl ?_
  refine g_obj ml_X0_3 im_obj cd_obj (Nat.le_of_ble_eq_true rfl) (Nat.le_of_ble_eq_true rfl) dX0_init_1 rfl ?_
  refine g_aload_n dX0_init_4 rfl rfl rfl ?_
  refine g_iload_n dX0_init_5 rfl rfl rfl ?_
  refine g_iconst (v := 0) dX0_init_6 (by decide) rfl ?_
  refine g_max ml_X0_9 st_max in_Math cd_max (Nat.le_of_ble_eq_true rfl) (Nat.le_of_ble_eq_true rfl) (Nat.le_of_ble_eq_true rfl) (Nat.le_of_ble_eq_true rfl) dX0_init_7 rfl ?_
  refine g_newa (at_ := .byte) (ty := .byte) (t := 1) (N := 48) rfl rfl aw_byte rfl (by decide +kernel) (by decide +kernel) (by decide) (by rw [hq_len]; decide) (Nat.le_of_ble_eq_true rfl) (Nat.le_of_ble_eq_true rfl) (fun _ z => by cases z) dX0_init_10 rfl ?_
  refine g_heq (hq_push (cN_new hz (fun z => absurd z (by decide)) rfl)) (by rw [hq_len]) ?_
  replace hz := gfr_u (n1 := 65) (by decide) hz
  refine g_putF gClX0 0 (by decide) fl_X0_15 rfl rfl rfl dX0_init_12 (hq_at (by decide)) rfl rfl (Nat.le_of_ble_eq_true rfl) (hq_ms (by decide) rfl) rfl ?_
  replace hz := gfr_m (j := 63) (k := 0) (by decide) hz
  exact g_vret rfl dX0_init_15 (Nat.le_of_ble_eq_true rfl) (Nat.le_of_ble_eq_true rfl) ⟨rfl, rfl⟩
set_option maxHeartbeats 4000000 in
set_option maxRecDepth 100000 in
theorem k_X0_65 (l : Launch) (g : gE) (m : gK) (κ : Nat → Nat) (σ : gS) (ζ : gQ) (hz : gfr 66 m κ σ) : gC l g mX0_init (rmc 1 1 48 21) [.ref 65, .int 48] (hq 66 m κ σ ζ) (fun r h => r = none ∧ h = hq 67 (mset m 65 0) κ σ ζ) := by
  refine gC_of (by decide) (Nat.le_of_ble_eq_true rfl) ?_
  refine g_aload_n dX0_init_0 rfl rfl rfl ?_
  refine g_obj ml_X0_3 im_obj cd_obj (Nat.le_of_ble_eq_true rfl) (Nat.le_of_ble_eq_true rfl) dX0_init_1 rfl ?_
  refine g_aload_n dX0_init_4 rfl rfl rfl ?_
  refine g_iload_n dX0_init_5 rfl rfl rfl ?_
  refine g_iconst (v := 0) dX0_init_6 (by decide) rfl ?_
  refine g_max ml_X0_9 st_max in_Math cd_max (Nat.le_of_ble_eq_true rfl) (Nat.le_of_ble_eq_true rfl) (Nat.le_of_ble_eq_true rfl) (Nat.le_of_ble_eq_true rfl) dX0_init_7 rfl ?_
  refine g_newa (at_ := .byte) (ty := .byte) (t := 1) (N := 48) rfl rfl aw_byte rfl (by decide +kernel) (by decide +kernel) (by decide) (by rw [hq_len]; decide) (Nat.le_of_ble_eq_true rfl) (Nat.le_of_ble_eq_true rfl) (fun _ z => by cases z) dX0_init_10 rfl ?_
  refine g_heq (hq_push (cN_new hz (fun z => absurd z (by decide)) rfl)) (by rw [hq_len]) ?_
  replace hz := gfr_u (n1 := 67) (by decide) hz
  refine g_putF gClX0 0 (by decide) fl_X0_15 rfl rfl rfl dX0_init_12 (hq_at (by decide)) rfl rfl (Nat.le_of_ble_eq_true rfl) (hq_ms (by decide) rfl) rfl ?_
  replace hz := gfr_m (j := 65) (k := 0) (by decide) hz
  exact g_vret rfl dX0_init_15 (Nat.le_of_ble_eq_true rfl) (Nat.le_of_ble_eq_true rfl) ⟨rfl, rfl⟩
set_option maxHeartbeats 4000000 in
set_option maxRecDepth 100000 in
theorem k_X1_56 (l : Launch) (g : gE) (m : gK) (κ : Nat → Nat) (σ : gS) (ζ : gQ) (hz : gfr 57 m κ σ) : gC l g mX1_init (rmc 2 10 208 42) [.ref 56] (hq 57 m κ σ ζ) (fun r h => r = none ∧ h = hq 67 (mset (mset (mset (mset (mset (mset m 56 0) 56 1) 59 0) 61 0) 63 0) 65 0) (va_up (va_up (va_up (va_up κ 57 1) 57 2) 57 3) 57 4) (pf σ 56 2 (1 : Int32)) ζ) := by
  refine gC_of (by decide) (Nat.le_of_ble_eq_true rfl) ?_
  refine g_aload_n dX1_init_0 rfl rfl rfl ?_
  refine g_obj ml_X1_3 im_obj cd_obj (Nat.le_of_ble_eq_true rfl) (Nat.le_of_ble_eq_true rfl) dX1_init_1 rfl ?_
  refine g_aload_n dX1_init_4 rfl rfl rfl ?_
  refine g_iconst (v := 4) dX1_init_5 (by decide) rfl ?_
  refine g_newq (t := 4) (N := 4) rfl cl_X1_9 (Or.inr rfl) (by decide +kernel) (by decide +kernel) (by decide) (by rw [hq_len]; decide) (Nat.le_of_ble_eq_true rfl) (Nat.le_of_ble_eq_true rfl) dX1_init_6 rfl ?_
  have hk57 := (hz 57 (by decide)).2.1
  refine g_heq (hq_push (cN_new hz (fun z => absurd z (by decide)) rfl)) (by rw [hq_len]) ?_
  replace hz := gfr_u (n1 := 58) (by decide) hz
  refine g_putF gClX1 0 (by decide) fl_X1_11 rfl rfl rfl dX1_init_9 (hq_at (by decide)) rfl rfl (Nat.le_of_ble_eq_true rfl) (hq_ms (by decide) rfl) rfl ?_
  replace hz := gfr_m (j := 56) (k := 0) (by decide) hz
  refine g_aload_n dX1_init_12 rfl rfl rfl ?_
  refine g_iconst (v := 4) dX1_init_13 (by decide) rfl ?_
  refine g_newa (at_ := .int) (ty := .int) (t := 0) (N := 4) rfl rfl aw_int rfl (by decide +kernel) (by decide +kernel) (by decide) (by rw [hq_len]; decide) (Nat.le_of_ble_eq_true rfl) (Nat.le_of_ble_eq_true rfl) (fun _ z => by cases z) dX1_init_14 rfl ?_
  refine g_heq (hq_push (cN_new hz (fun z => absurd z (by decide)) rfl)) (by rw [hq_len]) ?_
  replace hz := gfr_u (n1 := 59) (by decide) hz
  refine g_putF gClX1 1 (by decide) fl_X1_17 rfl rfl rfl dX1_init_16 (hq_at (by decide)) rfl rfl (Nat.le_of_ble_eq_true rfl) (hq_ms (by decide) rfl) rfl ?_
  replace hz := gfr_m (j := 56) (k := 1) (by decide) hz
  refine g_aload_n dX1_init_19 rfl rfl rfl ?_
  refine g_iconst (v := 1) dX1_init_20 (by decide) rfl ?_
  refine g_put gClX1 2 (by decide) fl_X1_21 rfl dX1_init_21 (hq_at (by decide)) rfl rfl (Nat.le_of_ble_eq_true rfl) (hq_pf (by decide) rfl) rfl ?_
  replace hz := gfr_p (j := 56) (k := 2) (x := (1 : Int32)) (by decide) hz
  refine g_iconst (v := 0) dX1_init_24 (by decide) rfl ?_
  refine g_istoreL_n (L1 := [(0, _), (1, _)]) dX1_init_25 rfl (by decide) rfl rfl ?_
  refine g_iload_n dX1_init_26 rfl rfl rfl ?_
  refine g_iconst (v := 4) dX1_init_27 (by decide) rfl ?_
  refine g_icmpge (tgt := 52) dX1_init_28 (by decide) rfl (fun z => absurd z (by decide +kernel)) (fun _ => ?_)
  refine g_aload_n dX1_init_31 rfl rfl rfl ?_
  refine g_get (v := .ref 57) gClX1 0 (by decide) fl_X1_11 dX1_init_32 (hq_at (by decide)) rfl rfl ?_
  refine g_iload_n dX1_init_35 rfl rfl rfl ?_
  refine g_new (fs := [.null, .int 0]) gClX0 cl_X1_9 it_X0 in_X0 (nf_X0 g) (by rw [hq_len]; decide) (Nat.le_of_ble_eq_true rfl) (Nat.le_of_ble_eq_true rfl) dX1_init_36 rfl ?_
  refine g_heq (hq_push (cN_new hz (fun z => absurd z (by decide)) rfl)) (by rw [hq_len]) ?_
  replace hz := gfr_u (n1 := 60) (by decide) hz
  refine g_dup dX1_init_39 rfl rfl ?_
  refine g_bipush (v := 48) dX1_init_40 (by decide) rfl ?_
  refine g_calli mt_X0_init mi_X0_init rfl rfl ml_X1_25 (k_X0_59 l g _ _ _ _ hz) rfl (Nat.le_of_ble_eq_true rfl) (Nat.le_of_ble_eq_true rfl) (Nat.le_of_ble_eq_true rfl) (Nat.le_of_ble_eq_true rfl) rfl (Nat.le_of_ble_eq_true rfl) dX1_init_42 rfl (fun r h p => ?_)
  obtain ⟨rfl, rfl⟩ := p
  replace hz := gfr_u (n1 := 61) (by decide) hz
  replace hz := gfr_m (j := 59) (k := 0) (by decide) hz
  refine g_aast4 (hq_at (by decide)) (hq_at (by decide)) rfl (vinc (by decide +kernel)) (hq_aR (c := 3) (i := 0) (by decide) (by decide) (by decide +kernel) hk57 rfl) dX1_init_45 rfl ?_
  replace hz := gfr_k (j := 57) (v := 1) (by decide) hz
  refine g_iincL (L1 := [(0, _), (1, _)]) dX1_init_46 rfl (by decide) rfl rfl ?_
  refine g_goto (tgt := 26) dX1_init_49 (by decide) ?_
  refine g_iload_n dX1_init_26 rfl rfl rfl ?_
  refine g_iconst (v := 4) dX1_init_27 (by decide) rfl ?_
  refine g_icmpge (tgt := 52) dX1_init_28 (by decide) rfl (fun z => absurd z (by decide +kernel)) (fun _ => ?_)
  refine g_aload_n dX1_init_31 rfl rfl rfl ?_
  refine g_get (v := .ref 57) gClX1 0 (by decide) fl_X1_11 dX1_init_32 (hq_at (by decide)) rfl rfl ?_
  refine g_iload_n dX1_init_35 rfl rfl rfl ?_
  refine g_new (fs := [.null, .int 0]) gClX0 cl_X1_9 it_X0 in_X0 (nf_X0 g) (by rw [hq_len]; decide) (Nat.le_of_ble_eq_true rfl) (Nat.le_of_ble_eq_true rfl) dX1_init_36 rfl ?_
  refine g_heq (hq_push (cN_new hz (fun z => absurd z (by decide)) rfl)) (by rw [hq_len]) ?_
  replace hz := gfr_u (n1 := 62) (by decide) hz
  refine g_dup dX1_init_39 rfl rfl ?_
  refine g_bipush (v := 48) dX1_init_40 (by decide) rfl ?_
  refine g_calli mt_X0_init mi_X0_init rfl rfl ml_X1_25 (k_X0_61 l g _ _ _ _ hz) rfl (Nat.le_of_ble_eq_true rfl) (Nat.le_of_ble_eq_true rfl) (Nat.le_of_ble_eq_true rfl) (Nat.le_of_ble_eq_true rfl) rfl (Nat.le_of_ble_eq_true rfl) dX1_init_42 rfl (fun r h p => ?_)
  obtain ⟨rfl, rfl⟩ := p
  replace hz := gfr_u (n1 := 63) (by decide) hz
  replace hz := gfr_m (j := 61) (k := 0) (by decide) hz
  refine g_aast4 (hq_at (by decide)) (hq_at (by decide)) rfl (vinc (by decide +kernel)) (hq_aR (c := 3) (i := 1) (by decide) (by decide) (by decide +kernel) rfl rfl) dX1_init_45 rfl ?_
  replace hz := gfr_k (j := 57) (v := 2) (by decide) hz
  refine g_iincL (L1 := [(0, _), (1, _)]) dX1_init_46 rfl (by decide) rfl rfl ?_
  refine g_goto (tgt := 26) dX1_init_49 (by decide) ?_
  refine g_iload_n dX1_init_26 rfl rfl rfl ?_
  refine g_iconst (v := 4) dX1_init_27 (by decide) rfl ?_
  refine g_icmpge (tgt := 52) dX1_init_28 (by decide) rfl (fun z => absurd z (by decide +kernel)) (fun _ => ?_)
  refine g_aload_n dX1_init_31 rfl rfl rfl ?_
  refine g_get (v := .ref 57) gClX1 0 (by decide) fl_X1_11 dX1_init_32 (hq_at (by decide)) rfl rfl ?_
  refine g_iload_n dX1_init_35 rfl rfl rfl ?_
  refine g_new (fs := [.null, .int 0]) gClX0 cl_X1_9 it_X0 in_X0 (nf_X0 g) (by rw [hq_len]; decide) (Nat.le_of_ble_eq_true rfl) (Nat.le_of_ble_eq_true rfl) dX1_init_36 rfl ?_
  refine g_heq (hq_push (cN_new hz (fun z => absurd z (by decide)) rfl)) (by rw [hq_len]) ?_
  replace hz := gfr_u (n1 := 64) (by decide) hz
  refine g_dup dX1_init_39 rfl rfl ?_
  refine g_bipush (v := 48) dX1_init_40 (by decide) rfl ?_
  refine g_calli mt_X0_init mi_X0_init rfl rfl ml_X1_25 (k_X0_63 l g _ _ _ _ hz) rfl (Nat.le_of_ble_eq_true rfl) (Nat.le_of_ble_eq_true rfl) (Nat.le_of_ble_eq_true rfl) (Nat.le_of_ble_eq_true rfl) rfl (Nat.le_of_ble_eq_true rfl) dX1_init_42 rfl (fun r h p => ?_)
  obtain ⟨rfl, rfl⟩ := p
  replace hz := gfr_u (n1 := 65) (by decide) hz
  replace hz := gfr_m (j := 63) (k := 0) (by decide) hz
  refine g_aast4 (hq_at (by decide)) (hq_at (by decide)) rfl (vinc (by decide +kernel)) (hq_aR (c := 3) (i := 2) (by decide) (by decide) (by decide +kernel) rfl rfl) dX1_init_45 rfl ?_
  replace hz := gfr_k (j := 57) (v := 3) (by decide) hz
  refine g_iincL (L1 := [(0, _), (1, _)]) dX1_init_46 rfl (by decide) rfl rfl ?_
  refine g_goto (tgt := 26) dX1_init_49 (by decide) ?_
  refine g_iload_n dX1_init_26 rfl rfl rfl ?_
  refine g_iconst (v := 4) dX1_init_27 (by decide) rfl ?_
  refine g_icmpge (tgt := 52) dX1_init_28 (by decide) rfl (fun z => absurd z (by decide +kernel)) (fun _ => ?_)
  refine g_aload_n dX1_init_31 rfl rfl rfl ?_
  refine g_get (v := .ref 57) gClX1 0 (by decide) fl_X1_11 dX1_init_32 (hq_at (by decide)) rfl rfl ?_
  refine g_iload_n dX1_init_35 rfl rfl rfl ?_
  refine g_new (fs := [.null, .int 0]) gClX0 cl_X1_9 it_X0 in_X0 (nf_X0 g) (by rw [hq_len]; decide) (Nat.le_of_ble_eq_true rfl) (Nat.le_of_ble_eq_true rfl) dX1_init_36 rfl ?_
  refine g_heq (hq_push (cN_new hz (fun z => absurd z (by decide)) rfl)) (by rw [hq_len]) ?_
  replace hz := gfr_u (n1 := 66) (by decide) hz
  refine g_dup dX1_init_39 rfl rfl ?_
  refine g_bipush (v := 48) dX1_init_40 (by decide) rfl ?_
  refine g_calli mt_X0_init mi_X0_init rfl rfl ml_X1_25 (k_X0_65 l g _ _ _ _ hz) rfl (Nat.le_of_ble_eq_true rfl) (Nat.le_of_ble_eq_true rfl) (Nat.le_of_ble_eq_true rfl) (Nat.le_of_ble_eq_true rfl) rfl (Nat.le_of_ble_eq_true rfl) dX1_init_42 rfl (fun r h p => ?_)
  obtain ⟨rfl, rfl⟩ := p
  replace hz := gfr_u (n1 := 67) (by decide) hz
  replace hz := gfr_m (j := 65) (k := 0) (by decide) hz
  refine g_aast4 (hq_at (by decide)) (hq_at (by decide)) rfl (vinc (by decide +kernel)) (hq_aR (c := 3) (i := 3) (by decide) (by decide) (by decide +kernel) rfl rfl) dX1_init_45 rfl ?_
  replace hz := gfr_k (j := 57) (v := 4) (by decide) hz
  refine g_iincL (L1 := [(0, _), (1, _)]) dX1_init_46 rfl (by decide) rfl rfl ?_
  refine g_goto (tgt := 26) dX1_init_49 (by decide) ?_
  refine g_iload_n dX1_init_26 rfl rfl rfl ?_
  refine g_iconst (v := 4) dX1_init_27 (by decide) rfl ?_
  refine g_icmpge (tgt := 52) dX1_init_28 (by decide) rfl (fun _ => ?_) (fun z => absurd z (by decide +kernel))
  exact g_vret rfl dX1_init_52 (Nat.le_of_ble_eq_true rfl) (Nat.le_of_ble_eq_true rfl) ⟨rfl, rfl⟩
set_option maxHeartbeats 4000000 in
set_option maxRecDepth 100000 in
theorem k_X0_70 (l : Launch) (g : gE) (m : gK) (κ : Nat → Nat) (σ : gS) (ζ : gQ) (hz : gfr 71 m κ σ) : gC l g mX0_init (rmc 1 1 48 21) [.ref 70, .int 48] (hq 71 m κ σ ζ) (fun r h => r = none ∧ h = hq 72 (mset m 70 0) κ σ ζ) := by
  refine gC_of (by decide) (Nat.le_of_ble_eq_true rfl) ?_
  refine g_aload_n dX0_init_0 rfl rfl rfl ?_
  refine g_obj ml_X0_3 im_obj cd_obj (Nat.le_of_ble_eq_true rfl) (Nat.le_of_ble_eq_true rfl) dX0_init_1 rfl ?_
  refine g_aload_n dX0_init_4 rfl rfl rfl ?_
  refine g_iload_n dX0_init_5 rfl rfl rfl ?_
  refine g_iconst (v := 0) dX0_init_6 (by decide) rfl ?_
  refine g_max ml_X0_9 st_max in_Math cd_max (Nat.le_of_ble_eq_true rfl) (Nat.le_of_ble_eq_true rfl) (Nat.le_of_ble_eq_true rfl) (Nat.le_of_ble_eq_true rfl) dX0_init_7 rfl ?_
  refine g_newa (at_ := .byte) (ty := .byte) (t := 1) (N := 48) rfl rfl aw_byte rfl (by decide +kernel) (by decide +kernel) (by decide) (by rw [hq_len]; decide) (Nat.le_of_ble_eq_true rfl) (Nat.le_of_ble_eq_true rfl) (fun _ z => by cases z) dX0_init_10 rfl ?_
  refine g_heq (hq_push (cN_new hz (fun z => absurd z (by decide)) rfl)) (by rw [hq_len]) ?_
  replace hz := gfr_u (n1 := 72) (by decide) hz
  refine g_putF gClX0 0 (by decide) fl_X0_15 rfl rfl rfl dX0_init_12 (hq_at (by decide)) rfl rfl (Nat.le_of_ble_eq_true rfl) (hq_ms (by decide) rfl) rfl ?_
  replace hz := gfr_m (j := 70) (k := 0) (by decide) hz
  exact g_vret rfl dX0_init_15 (Nat.le_of_ble_eq_true rfl) (Nat.le_of_ble_eq_true rfl) ⟨rfl, rfl⟩
set_option maxHeartbeats 4000000 in
set_option maxRecDepth 100000 in
theorem k_X0_72 (l : Launch) (g : gE) (m : gK) (κ : Nat → Nat) (σ : gS) (ζ : gQ) (hz : gfr 73 m κ σ) : gC l g mX0_init (rmc 1 1 48 21) [.ref 72, .int 48] (hq 73 m κ σ ζ) (fun r h => r = none ∧ h = hq 74 (mset m 72 0) κ σ ζ) := by
  refine gC_of (by decide) (Nat.le_of_ble_eq_true rfl) ?_
  refine g_aload_n dX0_init_0 rfl rfl rfl ?_
  refine g_obj ml_X0_3 im_obj cd_obj (Nat.le_of_ble_eq_true rfl) (Nat.le_of_ble_eq_true rfl) dX0_init_1 rfl ?_
  refine g_aload_n dX0_init_4 rfl rfl rfl ?_
  refine g_iload_n dX0_init_5 rfl rfl rfl ?_
  refine g_iconst (v := 0) dX0_init_6 (by decide) rfl ?_
  refine g_max ml_X0_9 st_max in_Math cd_max (Nat.le_of_ble_eq_true rfl) (Nat.le_of_ble_eq_true rfl) (Nat.le_of_ble_eq_true rfl) (Nat.le_of_ble_eq_true rfl) dX0_init_7 rfl ?_
  refine g_newa (at_ := .byte) (ty := .byte) (t := 1) (N := 48) rfl rfl aw_byte rfl (by decide +kernel) (by decide +kernel) (by decide) (by rw [hq_len]; decide) (Nat.le_of_ble_eq_true rfl) (Nat.le_of_ble_eq_true rfl) (fun _ z => by cases z) dX0_init_10 rfl ?_
  refine g_heq (hq_push (cN_new hz (fun z => absurd z (by decide)) rfl)) (by rw [hq_len]) ?_
  replace hz := gfr_u (n1 := 74) (by decide) hz
  refine g_putF gClX0 0 (by decide) fl_X0_15 rfl rfl rfl dX0_init_12 (hq_at (by decide)) rfl rfl (Nat.le_of_ble_eq_true rfl) (hq_ms (by decide) rfl) rfl ?_
  replace hz := gfr_m (j := 72) (k := 0) (by decide) hz
  exact g_vret rfl dX0_init_15 (Nat.le_of_ble_eq_true rfl) (Nat.le_of_ble_eq_true rfl) ⟨rfl, rfl⟩
set_option maxHeartbeats 4000000 in
set_option maxRecDepth 100000 in
theorem k_X0_74 (l : Launch) (g : gE) (m : gK) (κ : Nat → Nat) (σ : gS) (ζ : gQ) (hz : gfr 75 m κ σ) : gC l g mX0_init (rmc 1 1 48 21) [.ref 74, .int 48] (hq 75 m κ σ ζ) (fun r h => r = none ∧ h = hq 76 (mset m 74 0) κ σ ζ) := by
  refine gC_of (by decide) (Nat.le_of_ble_eq_true rfl) ?_
  refine g_aload_n dX0_init_0 rfl rfl rfl ?_
  refine g_obj ml_X0_3 im_obj cd_obj (Nat.le_of_ble_eq_true rfl) (Nat.le_of_ble_eq_true rfl) dX0_init_1 rfl ?_
  refine g_aload_n dX0_init_4 rfl rfl rfl ?_
  refine g_iload_n dX0_init_5 rfl rfl rfl ?_
  refine g_iconst (v := 0) dX0_init_6 (by decide) rfl ?_
  refine g_max ml_X0_9 st_max in_Math cd_max (Nat.le_of_ble_eq_true rfl) (Nat.le_of_ble_eq_true rfl) (Nat.le_of_ble_eq_true rfl) (Nat.le_of_ble_eq_true rfl) dX0_init_7 rfl ?_
  refine g_newa (at_ := .byte) (ty := .byte) (t := 1) (N := 48) rfl rfl aw_byte rfl (by decide +kernel) (by decide +kernel) (by decide) (by rw [hq_len]; decide) (Nat.le_of_ble_eq_true rfl) (Nat.le_of_ble_eq_true rfl) (fun _ z => by cases z) dX0_init_10 rfl ?_
  refine g_heq (hq_push (cN_new hz (fun z => absurd z (by decide)) rfl)) (by rw [hq_len]) ?_
  replace hz := gfr_u (n1 := 76) (by decide) hz
  refine g_putF gClX0 0 (by decide) fl_X0_15 rfl rfl rfl dX0_init_12 (hq_at (by decide)) rfl rfl (Nat.le_of_ble_eq_true rfl) (hq_ms (by decide) rfl) rfl ?_
  replace hz := gfr_m (j := 74) (k := 0) (by decide) hz
  exact g_vret rfl dX0_init_15 (Nat.le_of_ble_eq_true rfl) (Nat.le_of_ble_eq_true rfl) ⟨rfl, rfl⟩
