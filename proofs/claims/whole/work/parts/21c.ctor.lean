/-! constructors: by program -/
set_option maxHeartbeats 4000000 in
set_option maxRecDepth 100000 in
theorem k_X0_76 (l : Launch) (g : gE) (m : gK) (κ : Nat → Nat) (σ : gS) (ζ : gQ) (hz : gfr 77 m κ σ) : gC l g mX0_init (rmc 1 1 48 21) [.ref 76, .int 48] (hq 77 m κ σ ζ) (fun r h => r = none ∧ h = hq 78 (mset m 76 0) κ σ ζ) := by
  refine gC_of (by decide) (Nat.le_of_ble_eq_true rfl) ?_
  refine g_aload_n dX0_init_0 rfl rfl rfl ?_
  refine g_obj ml_X0_3 im_obj cd_obj (Nat.le_of_ble_eq_true rfl) (Nat.le_of_ble_eq_true rfl) dX0_init_1 rfl ?_
  refine g_aload_n dX0_init_4 rfl rfl rfl ?_
  refine g_iload_n dX0_init_5 rfl rfl rfl ?_
  refine g_iconst (v := 0) dX0_init_6 (by decide) rfl ?_
  refine g_max ml_X0_9 st_max in_Math cd_max (Nat.le_of_ble_eq_true rfl) (Nat.le_of_ble_eq_true rfl) (Nat.le_of_ble_eq_true rfl) (Nat.le_of_ble_eq_true rfl) dX0_init_7 rfl ?_
  refine g_newa (at_ := .byte) (ty := .byte) (t := 1) (N := 48) rfl rfl aw_byte rfl (by decide +kernel) (by decide +kernel) (by decide) (by rw [hq_len]; decide) (Nat.le_of_ble_eq_true rfl) (Nat.le_of_ble_eq_true rfl) (fun _ z => by cases z) dX0_init_10 rfl ?_
  refine g_heq (hq_push (cN_new hz (fun z => absurd z (by decide)) rfl)) (by rw [hq_len]) ?_
  replace hz := gfr_u (n1 := 78) (by decide) hz
  refine g_putF gClX0 0 (by decide) fl_X0_15 rfl rfl rfl dX0_init_12 (hq_at (by decide)) rfl rfl (Nat.le_of_ble_eq_true rfl) (hq_ms (by decide) rfl) rfl ?_
  replace hz := gfr_m (j := 76) (k := 0) (by decide) hz
  exact g_vret rfl dX0_init_15 (Nat.le_of_ble_eq_true rfl) (Nat.le_of_ble_eq_true rfl) ⟨rfl, rfl⟩
set_option maxHeartbeats 4000000 in
set_option maxRecDepth 100000 in
theorem k_X1_67 (l : Launch) (g : gE) (m : gK) (κ : Nat → Nat) (σ : gS) (ζ : gQ) (hz : gfr 68 m κ σ) : gC l g mX1_init (rmc 2 10 208 42) [.ref 67] (hq 68 m κ σ ζ) (fun r h => r = none ∧ h = hq 78 (mset (mset (mset (mset (mset (mset m 67 0) 67 1) 70 0) 72 0) 74 0) 76 0) (va_up (va_up (va_up (va_up κ 68 1) 68 2) 68 3) 68 4) (pf σ 67 2 (1 : Int32)) ζ) := by
  refine gC_of (by decide) (Nat.le_of_ble_eq_true rfl) ?_
  refine g_aload_n dX1_init_0 rfl rfl rfl ?_
  refine g_obj ml_X1_3 im_obj cd_obj (Nat.le_of_ble_eq_true rfl) (Nat.le_of_ble_eq_true rfl) dX1_init_1 rfl ?_
  refine g_aload_n dX1_init_4 rfl rfl rfl ?_
  refine g_iconst (v := 4) dX1_init_5 (by decide) rfl ?_
  refine g_newq (t := 4) (N := 4) rfl cl_X1_9 (Or.inr rfl) (by decide +kernel) (by decide +kernel) (by decide) (by rw [hq_len]; decide) (Nat.le_of_ble_eq_true rfl) (Nat.le_of_ble_eq_true rfl) dX1_init_6 rfl ?_
  have hk68 := (hz 68 (by decide)).2.1
  refine g_heq (hq_push (cN_new hz (fun z => absurd z (by decide)) rfl)) (by rw [hq_len]) ?_
  replace hz := gfr_u (n1 := 69) (by decide) hz
  refine g_putF gClX1 0 (by decide) fl_X1_11 rfl rfl rfl dX1_init_9 (hq_at (by decide)) rfl rfl (Nat.le_of_ble_eq_true rfl) (hq_ms (by decide) rfl) rfl ?_
  replace hz := gfr_m (j := 67) (k := 0) (by decide) hz
  refine g_aload_n dX1_init_12 rfl rfl rfl ?_
  refine g_iconst (v := 4) dX1_init_13 (by decide) rfl ?_
  refine g_newa (at_ := .int) (ty := .int) (t := 0) (N := 4) rfl rfl aw_int rfl (by decide +kernel) (by decide +kernel) (by decide) (by rw [hq_len]; decide) (Nat.le_of_ble_eq_true rfl) (Nat.le_of_ble_eq_true rfl) (fun _ z => by cases z) dX1_init_14 rfl ?_
  refine g_heq (hq_push (cN_new hz (fun z => absurd z (by decide)) rfl)) (by rw [hq_len]) ?_
  replace hz := gfr_u (n1 := 70) (by decide) hz
  refine g_putF gClX1 1 (by decide) fl_X1_17 rfl rfl rfl dX1_init_16 (hq_at (by decide)) rfl rfl (Nat.le_of_ble_eq_true rfl) (hq_ms (by decide) rfl) rfl ?_
  replace hz := gfr_m (j := 67) (k := 1) (by decide) hz
  refine g_aload_n dX1_init_19 rfl rfl rfl ?_
  refine g_iconst (v := 1) dX1_init_20 (by decide) rfl ?_
  refine g_put gClX1 2 (by decide) fl_X1_21 rfl dX1_init_21 (hq_at (by decide)) rfl rfl (Nat.le_of_ble_eq_true rfl) (hq_pf (by decide) rfl) rfl ?_
  replace hz := gfr_p (j := 67) (k := 2) (x := (1 : Int32)) (by decide) hz
  refine g_iconst (v := 0) dX1_init_24 (by decide) rfl ?_
  refine g_istoreL_n (L1 := [(0, _), (1, _)]) dX1_init_25 rfl (by decide) rfl rfl ?_
  refine g_iload_n dX1_init_26 rfl rfl rfl ?_
  refine g_iconst (v := 4) dX1_init_27 (by decide) rfl ?_
  refine g_icmpge (tgt := 52) dX1_init_28 (by decide) rfl (fun z => absurd z (by decide +kernel)) (fun _ => ?_)
  refine g_aload_n dX1_init_31 rfl rfl rfl ?_
  refine g_get (v := .ref 68) gClX1 0 (by decide) fl_X1_11 dX1_init_32 (hq_at (by decide)) rfl rfl ?_
  refine g_iload_n dX1_init_35 rfl rfl rfl ?_
  refine g_new (fs := [.null, .int 0]) gClX0 cl_X1_9 it_X0 in_X0 (nf_X0 g) (by rw [hq_len]; decide) (Nat.le_of_ble_eq_true rfl) (Nat.le_of_ble_eq_true rfl) dX1_init_36 rfl ?_
  refine g_heq (hq_push (cN_new hz (fun z => absurd z (by decide)) rfl)) (by rw [hq_len]) ?_
  replace hz := gfr_u (n1 := 71) (by decide) hz
  refine g_dup dX1_init_39 rfl rfl ?_
  refine g_bipush (v := 48) dX1_init_40 (by decide) rfl ?_
  refine g_calli mt_X0_init mi_X0_init rfl rfl ml_X1_25 (k_X0_70 l g _ _ _ _ hz) rfl (Nat.le_of_ble_eq_true rfl) (Nat.le_of_ble_eq_true rfl) (Nat.le_of_ble_eq_true rfl) (Nat.le_of_ble_eq_true rfl) rfl (Nat.le_of_ble_eq_true rfl) dX1_init_42 rfl (fun r h p => ?_)
  obtain ⟨rfl, rfl⟩ := p
  replace hz := gfr_u (n1 := 72) (by decide) hz
  replace hz := gfr_m (j := 70) (k := 0) (by decide) hz
  refine g_aast4 (hq_at (by decide)) (hq_at (by decide)) rfl (vinc (by decide +kernel)) (hq_aR (c := 4) (i := 0) (by decide) (by decide) (by decide +kernel) hk68 rfl) dX1_init_45 rfl ?_
  replace hz := gfr_k (j := 68) (v := 1) (by decide) hz
  refine g_iincL (L1 := [(0, _), (1, _)]) dX1_init_46 rfl (by decide) rfl rfl ?_
  refine g_goto (tgt := 26) dX1_init_49 (by decide) ?_
  refine g_iload_n dX1_init_26 rfl rfl rfl ?_
  refine g_iconst (v := 4) dX1_init_27 (by decide) rfl ?_
  refine g_icmpge (tgt := 52) dX1_init_28 (by decide) rfl (fun z => absurd z (by decide +kernel)) (fun _ => ?_)
  refine g_aload_n dX1_init_31 rfl rfl rfl ?_
  refine g_get (v := .ref 68) gClX1 0 (by decide) fl_X1_11 dX1_init_32 (hq_at (by decide)) rfl rfl ?_
  refine g_iload_n dX1_init_35 rfl rfl rfl ?_
  refine g_new (fs := [.null, .int 0]) gClX0 cl_X1_9 it_X0 in_X0 (nf_X0 g) (by rw [hq_len]; decide) (Nat.le_of_ble_eq_true rfl) (Nat.le_of_ble_eq_true rfl) dX1_init_36 rfl ?_
  refine g_heq (hq_push (cN_new hz (fun z => absurd z (by decide)) rfl)) (by rw [hq_len]) ?_
  replace hz := gfr_u (n1 := 73) (by decide) hz
  refine g_dup dX1_init_39 rfl rfl ?_
  refine g_bipush (v := 48) dX1_init_40 (by decide) rfl ?_
  refine g_calli mt_X0_init mi_X0_init rfl rfl ml_X1_25 (k_X0_72 l g _ _ _ _ hz) rfl (Nat.le_of_ble_eq_true rfl) (Nat.le_of_ble_eq_true rfl) (Nat.le_of_ble_eq_true rfl) (Nat.le_of_ble_eq_true rfl) rfl (Nat.le_of_ble_eq_true rfl) dX1_init_42 rfl (fun r h p => ?_)
  obtain ⟨rfl, rfl⟩ := p
  replace hz := gfr_u (n1 := 74) (by decide) hz
  replace hz := gfr_m (j := 72) (k := 0) (by decide) hz
  refine g_aast4 (hq_at (by decide)) (hq_at (by decide)) rfl (vinc (by decide +kernel)) (hq_aR (c := 4) (i := 1) (by decide) (by decide) (by decide +kernel) rfl rfl) dX1_init_45 rfl ?_
  replace hz := gfr_k (j := 68) (v := 2) (by decide) hz
  refine g_iincL (L1 := [(0, _), (1, _)]) dX1_init_46 rfl (by decide) rfl rfl ?_
  refine g_goto (tgt := 26) dX1_init_49 (by decide) ?_
  refine g_iload_n dX1_init_26 rfl rfl rfl ?_
  refine g_iconst (v := 4) dX1_init_27 (by decide) rfl ?_
  refine g_icmpge (tgt := 52) dX1_init_28 (by decide) rfl (fun z => absurd z (by decide +kernel)) (fun _ => ?_)
  refine g_aload_n dX1_init_31 rfl rfl rfl ?_
  refine g_get (v := .ref 68) gClX1 0 (by decide) fl_X1_11 dX1_init_32 (hq_at (by decide)) rfl rfl ?_
  refine g_iload_n dX1_init_35 rfl rfl rfl ?_
  refine g_new (fs := [.null, .int 0]) gClX0 cl_X1_9 it_X0 in_X0 (nf_X0 g) (by rw [hq_len]; decide) (Nat.le_of_ble_eq_true rfl) (Nat.le_of_ble_eq_true rfl) dX1_init_36 rfl ?_
  refine g_heq (hq_push (cN_new hz (fun z => absurd z (by decide)) rfl)) (by rw [hq_len]) ?_
  replace hz := gfr_u (n1 := 75) (by decide) hz
  refine g_dup dX1_init_39 rfl rfl ?_
  refine g_bipush (v := 48) dX1_init_40 (by decide) rfl ?_
  refine g_calli mt_X0_init mi_X0_init rfl rfl ml_X1_25 (k_X0_74 l g _ _ _ _ hz) rfl (Nat.le_of_ble_eq_true rfl) (Nat.le_of_ble_eq_true rfl) (Nat.le_of_ble_eq_true rfl) (Nat.le_of_ble_eq_true rfl) rfl (Nat.le_of_ble_eq_true rfl) dX1_init_42 rfl (fun r h p => ?_)
  obtain ⟨rfl, rfl⟩ := p
  replace hz := gfr_u (n1 := 76) (by decide) hz
  replace hz := gfr_m (j := 74) (k := 0) (by decide) hz
  refine g_aast4 (hq_at (by decide)) (hq_at (by decide)) rfl (vinc (by decide +kernel)) (hq_aR (c := 4) (i := 2) (by decide) (by decide) (by decide +kernel) rfl rfl) dX1_init_45 rfl ?_
  replace hz := gfr_k (j := 68) (v := 3) (by decide) hz
  refine g_iincL (L1 := [(0, _), (1, _)]) dX1_init_46 rfl (by decide) rfl rfl ?_
  refine g_goto (tgt := 26) dX1_init_49 (by decide) ?_
  refine g_iload_n dX1_init_26 rfl rfl rfl ?_
  refine g_iconst (v := 4) dX1_init_27 (by decide) rfl ?_
  refine g_icmpge (tgt := 52) dX1_init_28 (by decide) rfl (fun z => absurd z (by decide +kernel)) (fun _ => ?_)
  refine g_aload_n dX1_init_31 rfl rfl rfl ?_
  refine g_get (v := .ref 68) gClX1 0 (by decide) fl_X1_11 dX1_init_32 (hq_at (by decide)) rfl rfl ?_
  refine g_iload_n dX1_init_35 rfl rfl rfl ?_
  refine g_new (fs := [.null, .int 0]) gClX0 cl_X1_9 it_X0 in_X0 (nf_X0 g) (by rw [hq_len]; decide) (Nat.le_of_ble_eq_true rfl) (Nat.le_of_ble_eq_true rfl) dX1_init_36 rfl ?_
  refine g_heq (hq_push (cN_new hz (fun z => absurd z (by decide)) rfl)) (by rw [hq_len]) ?_
  replace hz := gfr_u (n1 := 77) (by decide) hz
  refine g_dup dX1_init_39 rfl rfl ?_
  refine g_bipush (v := 48) dX1_init_40 (by decide) rfl ?_
  refine g_calli mt_X0_init mi_X0_init rfl rfl ml_X1_25 (k_X0_76 l g _ _ _ _ hz) rfl (Nat.le_of_ble_eq_true rfl) (Nat.le_of_ble_eq_true rfl) (Nat.le_of_ble_eq_true rfl) (Nat.le_of_ble_eq_true rfl) rfl (Nat.le_of_ble_eq_true rfl) dX1_init_42 rfl (fun r h p => ?_)
  obtain ⟨rfl, rfl⟩ := p
  replace hz := gfr_u (n1 := 78) (by decide) hz
  replace hz := gfr_m (j := 76) (k := 0) (by decide) hz
  refine g_aast4 (hq_at (by decide)) (hq_at (by decide)) rfl (vinc (by decide +kernel)) (hq_aR (c := 4) (i := 3) (by decide) (by decide) (by decide +kernel) rfl rfl) dX1_init_45 rfl ?_
  replace hz := gfr_k (j := 68) (v := 4) (by decide) hz
  refine g_iincL (L1 := [(0, _), (1, _)]) dX1_init_46 rfl (by decide) rfl rfl ?_
  refine g_goto (tgt := 26) dX1_init_49 (by decide) ?_
  refine g_iload_n dX1_init_26 rfl rfl rfl ?_
  refine g_iconst (v := 4) dX1_init_27 (by decide) rfl ?_
  refine g_icmpge (tgt := 52) dX1_init_28 (by decide) rfl (fun _ => ?_) (fun z => absurd z (by decide +kernel))
  exact g_vret rfl dX1_init_52 (Nat.le_of_ble_eq_true rfl) (Nat.le_of_ble_eq_true rfl) ⟨rfl, rfl⟩
set_option maxHeartbeats 4000000 in
set_option maxRecDepth 100000 in
theorem k_X0_81 (l : Launch) (g : gE) (m : gK) (κ : Nat → Nat) (σ : gS) (ζ : gQ) (hz : gfr 82 m κ σ) : gC l g mX0_init (rmc 1 1 48 21) [.ref 81, .int 48] (hq 82 m κ σ ζ) (fun r h => r = none ∧ h = hq 83 (mset m 81 0) κ σ ζ) := by
  refine gC_of (by decide) (Nat.le_of_ble_eq_true rfl) ?_
  refine g_aload_n dX0_init_0 rfl rfl rfl ?_
  refine g_obj ml_X0_3 im_obj cd_obj (Nat.le_of_ble_eq_true rfl) (Nat.le_of_ble_eq_true rfl) dX0_init_1 rfl ?_
  refine g_aload_n dX0_init_4 rfl rfl rfl ?_
  refine g_iload_n dX0_init_5 rfl rfl rfl ?_
  refine g_iconst (v := 0) dX0_init_6 (by decide) rfl ?_
  refine g_max ml_X0_9 st_max in_Math cd_max (Nat.le_of_ble_eq_true rfl) (Nat.le_of_ble_eq_true rfl) (Nat.le_of_ble_eq_true rfl) (Nat.le_of_ble_eq_true rfl) dX0_init_7 rfl ?_
  refine g_newa (at_ := .byte) (ty := .byte) (t := 1) (N := 48) rfl rfl aw_byte rfl (by decide +kernel) (by decide +kernel) (by decide) (by rw [hq_len]; decide) (Nat.le_of_ble_eq_true rfl) (Nat.le_of_ble_eq_true rfl) (fun _ z => by cases z) dX0_init_10 rfl ?_
  refine g_heq (hq_push (cN_new hz (fun z => absurd z (by decide)) rfl)) (by rw [hq_len]) ?_
  replace hz := gfr_u (n1 := 83) (by decide) hz
  refine g_putF gClX0 0 (by decide) fl_X0_15 rfl rfl rfl dX0_init_12 (hq_at (by decide)) rfl rfl (Nat.le_of_ble_eq_true rfl) (hq_ms (by decide) rfl) rfl ?_
  replace hz := gfr_m (j := 81) (k := 0) (by decide) hz
  exact g_vret rfl dX0_init_15 (Nat.le_of_ble_eq_true rfl) (Nat.le_of_ble_eq_true rfl) ⟨rfl, rfl⟩
set_option maxHeartbeats 4000000 in
set_option maxRecDepth 100000 in
theorem k_X0_83 (l : Launch) (g : gE) (m : gK) (κ : Nat → Nat) (σ : gS) (ζ : gQ) (hz : gfr 84 m κ σ) : gC l g mX0_init (rmc 1 1 48 21) [.ref 83, .int 48] (hq 84 m κ σ ζ) (fun r h => r = none ∧ h = hq 85 (mset m 83 0) κ σ ζ) := by
  refine gC_of (by decide) (Nat.le_of_ble_eq_true rfl) ?_
  refine g_aload_n dX0_init_0 rfl rfl rfl ?_
  refine g_obj ml_X0_3 im_obj cd_obj (Nat.le_of_ble_eq_true rfl) (Nat.le_of_ble_eq_true rfl) dX0_init_1 rfl ?_
  refine g_aload_n dX0_init_4 rfl rfl rfl ?_
  refine g_iload_n dX0_init_5 rfl rfl rfl ?_
  refine g_iconst (v := 0) dX0_init_6 (by decide) rfl ?_
  refine g_max ml_X0_9 st_max in_Math cd_max (Nat.le_of_ble_eq_true rfl) (Nat.le_of_ble_eq_true rfl) (Nat.le_of_ble_eq_true rfl) (Nat.le_of_ble_eq_true rfl) dX0_init_7 rfl ?_
  refine g_newa (at_ := .byte) (ty := .byte) (t := 1) (N := 48) rfl rfl aw_byte rfl (by decide +kernel) (by decide +kernel) (by decide) (by rw [hq_len]; decide) (Nat.le_of_ble_eq_true rfl) (Nat.le_of_ble_eq_true rfl) (fun _ z => by cases z) dX0_init_10 rfl ?_
  refine g_heq (hq_push (cN_new hz (fun z => absurd z (by decide)) rfl)) (by rw [hq_len]) ?_
  replace hz := gfr_u (n1 := 85) (by decide) hz
  refine g_putF gClX0 0 (by decide) fl_X0_15 rfl rfl rfl dX0_init_12 (hq_at (by decide)) rfl rfl (Nat.le_of_ble_eq_true rfl) (hq_ms (by decide) rfl) rfl ?_
  replace hz := gfr_m (j := 83) (k := 0) (by decide) hz
  exact g_vret rfl dX0_init_15 (Nat.le_of_ble_eq_true rfl) (Nat.le_of_ble_eq_true rfl) ⟨rfl, rfl⟩
set_option maxHeartbeats 4000000 in
set_option maxRecDepth 100000 in
theorem k_X0_85 (l : Launch) (g : gE) (m : gK) (κ : Nat → Nat) (σ : gS) (ζ : gQ) (hz : gfr 86 m κ σ) : gC l g mX0_init (rmc 1 1 48 21) [.ref 85, .int 48] (hq 86 m κ σ ζ) (fun r h => r = none ∧ h = hq 87 (mset m 85 0) κ σ ζ) := by
  refine gC_of (by decide) (Nat.le_of_ble_eq_true rfl) ?_
  refine g_aload_n dX0_init_0 rfl rfl rfl ?_
  refine g_obj ml_X0_3 im_obj cd_obj (Nat.le_of_ble_eq_true rfl) (Nat.le_of_ble_eq_true rfl) dX0_init_1 rfl ?_
  refine g_aload_n dX0_init_4 rfl rfl rfl ?_
  refine g_iload_n dX0_init_5 rfl rfl rfl ?_
  refine g_iconst (v := 0) dX0_init_6 (by decide) rfl ?_
  refine g_max ml_X0_9 st_max in_Math cd_max (Nat.le_of_ble_eq_true rfl) (Nat.le_of_ble_eq_true rfl) (Nat.le_of_ble_eq_true rfl) (Nat.le_of_ble_eq_true rfl) dX0_init_7 rfl ?_
  refine g_newa (at_ := .byte) (ty := .byte) (t := 1) (N := 48) rfl rfl aw_byte rfl (by decide +kernel) (by decide +kernel) (by decide) (by rw [hq_len]; decide) (Nat.le_of_ble_eq_true rfl) (Nat.le_of_ble_eq_true rfl) (fun _ z => by cases z) dX0_init_10 rfl ?_
  refine g_heq (hq_push (cN_new hz (fun z => absurd z (by decide)) rfl)) (by rw [hq_len]) ?_
  replace hz := gfr_u (n1 := 87) (by decide) hz
  refine g_putF gClX0 0 (by decide) fl_X0_15 rfl rfl rfl dX0_init_12 (hq_at (by decide)) rfl rfl (Nat.le_of_ble_eq_true rfl) (hq_ms (by decide) rfl) rfl ?_
  replace hz := gfr_m (j := 85) (k := 0) (by decide) hz
  exact g_vret rfl dX0_init_15 (Nat.le_of_ble_eq_true rfl) (Nat.le_of_ble_eq_true rfl) ⟨rfl, rfl⟩
set_option maxHeartbeats 4000000 in
set_option maxRecDepth 100000 in
theorem k_X0_87 (l : Launch) (g : gE) (m : gK) (κ : Nat → Nat) (σ : gS) (ζ : gQ) (hz : gfr 88 m κ σ) : gC l g mX0_init (rmc 1 1 48 21) [.ref 87, .int 48] (hq 88 m κ σ ζ) (fun r h => r = none ∧ h = hq 89 (mset m 87 0) κ σ ζ) := by
  refine gC_of (by decide) (Nat.le_of_ble_eq_true rfl) ?_
  refine g_aload_n dX0_init_0 rfl rfl rfl ?_
  refine g_obj ml_X0_3 im_obj cd_obj (Nat.le_of_ble_eq_true rfl) (Nat.le_of_ble_eq_true rfl) dX0_init_1 rfl ?_
  refine g_aload_n dX0_init_4 rfl rfl rfl ?_
  refine g_iload_n dX0_init_5 rfl rfl rfl ?_
  refine g_iconst (v := 0) dX0_init_6 (by decide) rfl ?_
  refine g_max ml_X0_9 st_max in_Math cd_max (Nat.le_of_ble_eq_true rfl) (Nat.le_of_ble_eq_true rfl) (Nat.le_of_ble_eq_true rfl) (Nat.le_of_ble_eq_true rfl) dX0_init_7 rfl ?_
  refine g_newa (at_ := .byte) (ty := .byte) (t := 1) (N := 48) rfl rfl aw_byte rfl (by decide +kernel) (by decide +kernel) (by decide) (by rw [hq_len]; decide) (Nat.le_of_ble_eq_true rfl) (Nat.le_of_ble_eq_true rfl) (fun _ z => by cases z) dX0_init_10 rfl ?_
  refine g_heq (hq_push (cN_new hz (fun z => absurd z (by decide)) rfl)) (by rw [hq_len]) ?_
  replace hz := gfr_u (n1 := 89) (by decide) hz
  refine g_putF gClX0 0 (by decide) fl_X0_15 rfl rfl rfl dX0_init_12 (hq_at (by decide)) rfl rfl (Nat.le_of_ble_eq_true rfl) (hq_ms (by decide) rfl) rfl ?_
  replace hz := gfr_m (j := 87) (k := 0) (by decide) hz
  exact g_vret rfl dX0_init_15 (Nat.le_of_ble_eq_true rfl) (Nat.le_of_ble_eq_true rfl) ⟨rfl, rfl⟩
set_option maxHeartbeats 4000000 in
set_option maxRecDepth 100000 in
theorem k_X1_78 (l : Launch) (g : gE) (m : gK) (κ : Nat → Nat) (σ : gS) (ζ : gQ) (hz : gfr 79 m κ σ) : gC l g mX1_init (rmc 2 10 208 42) [.ref 78] (hq 79 m κ σ ζ) (fun r h => r = none ∧ h = hq 89 (mset (mset (mset (mset (mset (mset m 78 0) 78 1) 81 0) 83 0) 85 0) 87 0) (va_up (va_up (va_up (va_up κ 79 1) 79 2) 79 3) 79 4) (pf σ 78 2 (1 : Int32)) ζ) := by
  refine gC_of (by decide) (Nat.le_of_ble_eq_true rfl) ?_
  refine g_aload_n dX1_init_0 rfl rfl rfl ?_
  refine g_obj ml_X1_3 im_obj cd_obj (Nat.le_of_ble_eq_true rfl) (Nat.le_of_ble_eq_true rfl) dX1_init_1 rfl ?_
  refine g_aload_n dX1_init_4 rfl rfl rfl ?_
  refine g_iconst (v := 4) dX1_init_5 (by decide) rfl ?_
  refine g_newq (t := 4) (N := 4) rfl cl_X1_9 (Or.inr rfl) (by decide +kernel) (by decide +kernel) (by decide) (by rw [hq_len]; decide) (Nat.le_of_ble_eq_true rfl) (Nat.le_of_ble_eq_true rfl) dX1_init_6 rfl ?_
  have hk79 := (hz 79 (by decide)).2.1
  refine g_heq (hq_push (cN_new hz (fun z => absurd z (by decide)) rfl)) (by rw [hq_len]) ?_
  replace hz := gfr_u (n1 := 80) (by decide) hz
  refine g_putF gClX1 0 (by decide) fl_X1_11 rfl rfl rfl dX1_init_9 (hq_at (by decide)) rfl rfl (Nat.le_of_ble_eq_true rfl) (hq_ms (by decide) rfl) rfl ?_
  replace hz := gfr_m (j := 78) (k := 0) (by decide) hz
  refine g_aload_n dX1_init_12 rfl rfl rfl ?_
  refine g_iconst (v := 4) dX1_init_13 (by decide) rfl ?_
  refine g_newa (at_ := .int) (ty := .int) (t := 0) (N := 4) rfl rfl aw_int rfl (by decide +kernel) (by decide +kernel) (by decide) (by rw [hq_len]; decide) (Nat.le_of_ble_eq_true rfl) (Nat.le_of_ble_eq_true rfl) (fun _ z => by cases z) dX1_init_14 rfl ?_
  refine g_heq (hq_push (cN_new hz (fun z => absurd z (by decide)) rfl)) (by rw [hq_len]) ?_
  replace hz := gfr_u (n1 := 81) (by decide) hz
  refine g_putF gClX1 1 (by decide) fl_X1_17 rfl rfl rfl dX1_init_16 (hq_at (by decide)) rfl rfl (Nat.le_of_ble_eq_true rfl) (hq_ms (by decide) rfl) rfl ?_
  replace hz := gfr_m (j := 78) (k := 1) (by decide) hz
  refine g_aload_n dX1_init_19 rfl rfl rfl ?_
  refine g_iconst (v := 1) dX1_init_20 (by decide) rfl ?_
  refine g_put gClX1 2 (by decide) fl_X1_21 rfl dX1_init_21 (hq_at (by decide)) rfl rfl (Nat.le_of_ble_eq_true rfl) (hq_pf (by decide) rfl) rfl ?_
  replace hz := gfr_p (j := 78) (k := 2) (x := (1 : Int32)) (by decide) hz
  refine g_iconst (v := 0) dX1_init_24 (by decide) rfl ?_
  refine g_istoreL_n (L1 := [(0, _), (1, _)]) dX1_init_25 rfl (by decide) rfl rfl ?_
  refine g_iload_n dX1_init_26 rfl rfl rfl ?_
  refine g_iconst (v := 4) dX1_init_27 (by decide) rfl ?_
  refine g_icmpge (tgt := 52) dX1_init_28 (by decide) rfl (fun z => absurd z (by decide +kernel)) (fun _ => ?_)
  refine g_aload_n dX1_init_31 rfl rfl rfl ?_
  refine g_get (v := .ref 79) gClX1 0 (by decide) fl_X1_11 dX1_init_32 (hq_at (by decide)) rfl rfl ?_
  refine g_iload_n dX1_init_35 rfl rfl rfl ?_
  refine g_new (fs := [.null, .int 0]) gClX0 cl_X1_9 it_X0 in_X0 (nf_X0 g) (by rw [hq_len]; decide) (Nat.le_of_ble_eq_true rfl) (Nat.le_of_ble_eq_true rfl) dX1_init_36 rfl ?_
  refine g_heq (hq_push (cN_new hz (fun z => absurd z (by decide)) rfl)) (by rw [hq_len]) ?_
  replace hz := gfr_u (n1 := 82) (by decide) hz
  refine g_dup dX1_init_39 rfl rfl ?_
  refine g_bipush (v := 48) dX1_init_40 (by decide) rfl ?_
  refine g_calli mt_X0_init mi_X0_init rfl rfl ml_X1_25 (k_X0_81 l g _ _ _ _ hz) rfl (Nat.le_of_ble_eq_true rfl) (Nat.le_of_ble_eq_true rfl) (Nat.le_of_ble_eq_true rfl) (Nat.le_of_ble_eq_true rfl) rfl (Nat.le_of_ble_eq_true rfl) dX1_init_42 rfl (fun r h p => ?_)
  obtain ⟨rfl, rfl⟩ := p
  replace hz := gfr_u (n1 := 83) (by decide) hz
  replace hz := gfr_m (j := 81) (k := 0) (by decide) hz
  refine g_aast4 (hq_at (by decide)) (hq_at (by decide)) rfl (vinc (by decide +kernel)) (hq_aR (c := 5) (i := 0) (by decide) (by decide) (by decide +kernel) hk79 rfl) dX1_init_45 rfl ?_
  replace hz := gfr_k (j := 79) (v := 1) (by decide) hz
  refine g_iincL (L1 := [(0, _), (1, _)]) dX1_init_46 rfl (by decide) rfl rfl ?_
  refine g_goto (tgt := 26) dX1_init_49 (by decide) ?_
  refine g_iload_n dX1_init_26 rfl rfl rfl ?_
  refine g_iconst (v := 4) dX1_init_27 (by decide) rfl ?_
  refine g_icmpge (tgt := 52) dX1_init_28 (by decide) rfl (fun z => absurd z (by decide +kernel)) (fun _ => ?_)
  refine g_aload_n dX1_init_31 rfl rfl rfl ?_
  refine g_get (v := .ref 79) gClX1 0 (by decide) fl_X1_11 dX1_init_32 (hq_at (by decide)) rfl rfl ?_
  refine g_iload_n dX1_init_35 rfl rfl rfl ?_
  refine g_new (fs := [.null, .int 0]) gClX0 cl_X1_9 it_X0 in_X0 (nf_X0 g) (by rw [hq_len]; decide) (Nat.le_of_ble_eq_true rfl) (Nat.le_of_ble_eq_true rfl) dX1_init_36 rfl ?_
  refine g_heq (hq_push (cN_new hz (fun z => absurd z (by decide)) rfl)) (by rw [hq_len]) ?_
  replace hz := gfr_u (n1 := 84) (by decide) hz
  refine g_dup dX1_init_39 rfl rfl ?_
  refine g_bipush (v := 48) dX1_init_40 (by decide) rfl ?_
  refine g_calli mt_X0_init mi_X0_init rfl rfl ml_X1_25 (k_X0_83 l g _ _ _ _ hz) rfl (Nat.le_of_ble_eq_true rfl) (Nat.le_of_ble_eq_true rfl) (Nat.le_of_ble_eq_true rfl) (Nat.le_of_ble_eq_true rfl) rfl (Nat.le_of_ble_eq_true rfl) dX1_init_42 rfl (fun r h p => ?_)
  obtain ⟨rfl, rfl⟩ := p
  replace hz := gfr_u (n1 := 85) (by decide) hz
  replace hz := gfr_m (j := 83) (k := 0) (by decide) hz
  refine g_aast4 (hq_at (by decide)) (hq_at (by decide)) rfl (vinc (by decide +kernel)) (hq_aR (c := 5) (i := 1) (by decide) (by decide) (by decide +kernel) rfl rfl) dX1_init_45 rfl ?_
  replace hz := gfr_k (j := 79) (v := 2) (by decide) hz
  refine g_iincL (L1 := [(0, _), (1, _)]) dX1_init_46 rfl (by decide) rfl rfl ?_
  refine g_goto (tgt := 26) dX1_init_49 (by decide) ?_
  refine g_iload_n dX1_init_26 rfl rfl rfl ?_
  refine g_iconst (v := 4) dX1_init_27 (by decide) rfl ?_
  refine g_icmpge (tgt := 52) dX1_init_28 (by decide) rfl (fun z => absurd z (by decide +kernel)) (fun _ => ?_)
  refine g_aload_n dX1_init_31 rfl rfl rfl ?_
  refine g_get (v := .ref 79) gClX1 0 (by decide) fl_X1_11 dX1_init_32 (hq_at (by decide)) rfl rfl ?_
  refine g_iload_n dX1_init_35 rfl rfl rfl ?_
  refine g_new (fs := [.null, .int 0]) gClX0 cl_X1_9 it_X0 in_X0 (nf_X0 g) (by rw [hq_len]; decide) (Nat.le_of_ble_eq_true rfl) (Nat.le_of_ble_eq_true rfl) dX1_init_36 rfl ?_
  refine g_heq (hq_push (cN_new hz (fun z => absurd z (by decide)) rfl)) (by rw [hq_len]) ?_
  replace hz := gfr_u (n1 := 86) (by decide) hz
  refine g_dup dX1_init_39 rfl rfl ?_
  refine g_bipush (v := 48) dX1_init_40 (by decide) rfl ?_
  refine g_calli mt_X0_init mi_X0_init rfl rfl ml_X1_25 (k_X0_85 l g _ _ _ _ hz) rfl (Nat.le_of_ble_eq_true rfl) (Nat.le_of_ble_eq_true rfl) (Nat.le_of_ble_eq_true rfl) (Nat.le_of_ble_eq_true rfl) rfl (Nat.le_of_ble_eq_true rfl) dX1_init_42 rfl (fun r h p => ?_)
  obtain ⟨rfl, rfl⟩ := p
  replace hz := gfr_u (n1 := 87) (by decide) hz
  replace hz := gfr_m (j := 85) (k := 0) (by decide) hz
  refine g_aast4 (hq_at (by decide)) (hq_at (by decide)) rfl (vinc (by decide +kernel)) (hq_aR (c := 5) (i := 2) (by decide) (by decide) (by decide +kernel) rfl rfl) dX1_init_45 rfl ?_
  replace hz := gfr_k (j := 79) (v := 3) (by decide) hz
  refine g_iincL (L1 := [(0, _), (1, _)]) dX1_init_46 rfl (by decide) rfl rfl ?_
  refine g_goto (tgt := 26) dX1_init_49 (by decide) ?_
  refine g_iload_n dX1_init_26 rfl rfl rfl ?_
  refine g_iconst (v := 4) dX1_init_27 (by decide) rfl ?_
  refine g_icmpge (tgt := 52) dX1_init_28 (by decide) rfl (fun z => absurd z (by decide +kernel)) (fun _ => ?_)
  refine g_aload_n dX1_init_31 rfl rfl rfl ?_
  refine g_get (v := .ref 79) gClX1 0 (by decide) fl_X1_11 dX1_init_32 (hq_at (by decide)) rfl rfl ?_
  refine g_iload_n dX1_init_35 rfl rfl rfl ?_
  refine g_new (fs := [.null, .int 0]) gClX0 cl_X1_9 it_X0 in_X0 (nf_X0 g) (by rw [hq_len]; decide) (Nat.le_of_ble_eq_true rfl) (Nat.le_of_ble_eq_true rfl) dX1_init_36 rfl ?_
  refine g_heq (hq_push (cN_new hz (fun z => absurd z (by decide)) rfl)) (by rw [hq_len]) ?_
  replace hz := gfr_u (n1 := 88) (by decide) hz
  refine g_dup dX1_init_39 rfl rfl ?_
  refine g_bipush (v := 48) dX1_init_40 (by decide) rfl ?_
  refine g_calli mt_X0_init mi_X0_init rfl rfl ml_X1_25 (k_X0_87 l g _ _ _ _ hz) rfl (Nat.le_of_ble_eq_true rfl) (Nat.le_of_ble_eq_true rfl) (Nat.le_of_ble_eq_true rfl) (Nat.le_of_ble_eq_true rfl) rfl (Nat.le_of_ble_eq_true rfl) dX1_init_42 rfl (fun r h p => ?_)
  obtain ⟨rfl, rfl⟩ := p
  replace hz := gfr_u (n1 := 89) (by decide) hz
  replace hz := gfr_m (j := 87) (k := 0) (by decide) hz
  refine g_aast4 (hq_at (by decide)) (hq_at (by decide)) rfl (vinc (by decide +kernel)) (hq_aR (c := 5) (i := 3) (by decide) (by decide) (by decide +kernel) rfl rfl) dX1_init_45 rfl ?_
  replace hz := gfr_k (j := 79) (v := 4) (by decide) hz
  refine g_iincL (L1 := [(0, _), (1, _)]) dX1_init_46 rfl (by decide) rfl rfl ?_
  refine g_goto (tgt := 26) dX1_init_49 (by decide) ?_
  refine g_iload_n dX1_init_26 rfl rfl rfl ?_
  refine g_iconst (v := 4) dX1_init_27 (by decide) rfl ?_
  refine g_icmpge (tgt := 52) dX1_init_28 (by decide) rfl (fun _ => ?_) (fun z => absurd z (by decide +kernel))
  exact g_vret rfl dX1_init_52 (Nat.le_of_ble_eq_true rfl) (Nat.le_of_ble_eq_true rfl) ⟨rfl, rfl⟩
set_option maxHeartbeats 4000000 in
set_option maxRecDepth 100000 in
theorem k_X0_92 (l : Launch) (g : gE) (m : gK) (κ : Nat → Nat) (σ : gS) (ζ : gQ) (hz : gfr 93 m κ σ) : gC l g mX0_init (rmc 1 1 48 21) [.ref 92, .int 48] (hq 93 m κ σ ζ) (fun r h => r = none ∧ h = hq 94 (mset m 92 0) κ σ ζ) := by
  refine gC_of (by decide) (Nat.le_of_ble_eq_true rfl) ?_
  refine g_aload_n dX0_init_0 rfl rfl rfl ?_
  refine g_obj ml_X0_3 im_obj cd_obj (Nat.le_of_ble_eq_true rfl) (Nat.le_of_ble_eq_true rfl) dX0_init_1 rfl ?_
  refine g_aload_n dX0_init_4 rfl rfl rfl ?_
  refine g_iload_n dX0_init_5 rfl rfl rfl ?_
  refine g_iconst (v := 0) dX0_init_6 (by decide) rfl ?_
  refine g_max ml_X0_9 st_max in_Math cd_max (Nat.le_of_ble_eq_true rfl) (Nat.le_of_ble_eq_true rfl) (Nat.le_of_ble_eq_true rfl) (Nat.le_of_ble_eq_true rfl) dX0_init_7 rfl ?_
  refine g_newa (at_ := .byte) (ty := .byte) (t := 1) (N := 48) rfl rfl aw_byte rfl (by decide +kernel) (by decide +kernel) (by decide) (by rw [hq_len]; decide) (Nat.le_of_ble_eq_true rfl) (Nat.le_of_ble_eq_true rfl) (fun _ z => by cases z) dX0_init_10 rfl ?_
  refine g_heq (hq_push (cN_new hz (fun z => absurd z (by decide)) rfl)) (by rw [hq_len]) ?_
  replace hz := gfr_u (n1 := 94) (by decide) hz
  refine g_putF gClX0 0 (by decide) fl_X0_15 rfl rfl rfl dX0_init_12 (hq_at (by decide)) rfl rfl (Nat.le_of_ble_eq_true rfl) (hq_ms (by decide) rfl) rfl ?_
  replace hz := gfr_m (j := 92) (k := 0) (by decide) hz
  exact g_vret rfl dX0_init_15 (Nat.le_of_ble_eq_true rfl) (Nat.le_of_ble_eq_true rfl) ⟨rfl, rfl⟩
set_option maxHeartbeats 4000000 in
set_option maxRecDepth 100000 in
theorem k_X0_94 (l : Launch) (g : gE) (m : gK) (κ : Nat → Nat) (σ : gS) (ζ : gQ) (hz : gfr 95 m κ σ) : gC l g mX0_init (rmc 1 1 48 21) [.ref 94, .int 48] (hq 95 m κ σ ζ) (fun r h => r = none ∧ h = hq 96 (mset m 94 0) κ σ ζ) := by
  refine gC_of (by decide) (Nat.le_of_ble_eq_true rfl) ?_
  refine g_aload_n dX0_init_0 rfl rfl rfl ?_
  refine g_obj ml_X0_3 im_obj cd_obj (Nat.le_of_ble_eq_true rfl) (Nat.le_of_ble_eq_true rfl) dX0_init_1 rfl ?_
  refine g_aload_n dX0_init_4 rfl rfl rfl ?_
  refine g_iload_n dX0_init_5 rfl rfl rfl ?_
  refine g_iconst (v := 0) dX0_init_6 (by decide) rfl ?_
  refine g_max ml_X0_9 st_max in_Math cd_max (Nat.le_of_ble_eq_true rfl) (Nat.le_of_ble_eq_true rfl) (Nat.le_of_ble_eq_true rfl) (Nat.le_of_ble_eq_true rfl) dX0_init_7 rfl ?_
  refine g_newa (at_ := .byte) (ty := .byte) (t := 1) (N := 48) rfl rfl aw_byte rfl (by decide +kernel) (by decide +kernel) (by decide) (by rw [hq_len]; decide) (Nat.le_of_ble_eq_true rfl) (Nat.le_of_ble_eq_true rfl) (fun _ z => by cases z) dX0_init_10 rfl ?_
  refine g_heq (hq_push (cN_new hz (fun z => absurd z (by decide)) rfl)) (by rw [hq_len]) ?_
  replace hz := gfr_u (n1 := 96) (by decide) hz
  refine g_putF gClX0 0 (by decide) fl_X0_15 rfl rfl rfl dX0_init_12 (hq_at (by decide)) rfl rfl (Nat.le_of_ble_eq_true rfl) (hq_ms (by decide) rfl) rfl ?_
  replace hz := gfr_m (j := 94) (k := 0) (by decide) hz
  exact g_vret rfl dX0_init_15 (Nat.le_of_ble_eq_true rfl) (Nat.le_of_ble_eq_true rfl) ⟨rfl, rfl⟩
set_option maxHeartbeats 4000000 in
set_option maxRecDepth 100000 in
theorem k_X0_96 (l : Launch) (g : gE) (m : gK) (κ : Nat → Nat) (σ : gS) (ζ : gQ) (hz : gfr 97 m κ σ) : gC l g mX0_init (rmc 1 1 48 21) [.ref 96, .int 48] (hq 97 m κ σ ζ) (fun r h => r = none ∧ h = hq 98 (mset m 96 0) κ σ ζ) := by
  refine gC_of (by decide) (Nat.le_of_ble_eq_true rfl) ?_
  refine g_aload_n dX0_init_0 rfl rfl rfl ?_
  refine g_obj ml_X0_3 im_obj cd_obj (Nat.le_of_ble_eq_true rfl) (Nat.le_of_ble_eq_true rfl) dX0_init_1 rfl ?_
  refine g_aload_n dX0_init_4 rfl rfl rfl ?_
  refine g_iload_n dX0_init_5 rfl rfl rfl ?_
  refine g_iconst (v := 0) dX0_init_6 (by decide) rfl ?_
  refine g_max ml_X0_9 st_max in_Math cd_max (Nat.le_of_ble_eq_true rfl) (Nat.le_of_ble_eq_true rfl) (Nat.le_of_ble_eq_true rfl) (Nat.le_of_ble_eq_true rfl) dX0_init_7 rfl ?_
  refine g_newa (at_ := .byte) (ty := .byte) (t := 1) (N := 48) rfl rfl aw_byte rfl (by decide +kernel) (by decide +kernel) (by decide) (by rw [hq_len]; decide) (Nat.le_of_ble_eq_true rfl) (Nat.le_of_ble_eq_true rfl) (fun _ z => by cases z) dX0_init_10 rfl ?_
  refine g_heq (hq_push (cN_new hz (fun z => absurd z (by decide)) rfl)) (by rw [hq_len]) ?_
  replace hz := gfr_u (n1 := 98) (by decide) hz
  refine g_putF gClX0 0 (by decide) fl_X0_15 rfl rfl rfl dX0_init_12 (hq_at (by decide)) rfl rfl (Nat.le_of_ble_eq_true rfl) (hq_ms (by decide) rfl) rfl ?_
  replace hz := gfr_m (j := 96) (k := 0) (by decide) hz
  exact g_vret rfl dX0_init_15 (Nat.le_of_ble_eq_true rfl) (Nat.le_of_ble_eq_true rfl) ⟨rfl, rfl⟩
set_option maxHeartbeats 4000000 in
set_option maxRecDepth 100000 in
theorem k_X0_98 (l : Launch) (g : gE) (m : gK) (κ : Nat → Nat) (σ : gS) (ζ : gQ) (hz : gfr 99 m κ σ) : gC l g mX0_init (rmc 1 1 48 21) [.ref 98, .int 48] (hq 99 m κ σ ζ) (fun r h => r = none ∧ h = hq 100 (mset m 98 0) κ σ ζ) := by
  refine gC_of (by decide) (Nat.le_of_ble_eq_true rfl) ?_
  refine g_aload_n dX0_init_0 rfl rfl rfl ?_
  refine g_obj ml_X0_3 im_obj cd_obj (Nat.le_of_ble_eq_true rfl) (Nat.le_of_ble_eq_true rfl) dX0_init_1 rfl ?_
  refine g_aload_n dX0_init_4 rfl rfl rfl ?_
  refine g_iload_n dX0_init_5 rfl rfl rfl ?_
  refine g_iconst (v := 0) dX0_init_6 (by decide) rfl ?_
  refine g_max ml_X0_9 st_max in_Math cd_max (Nat.le_of_ble_eq_true rfl) (Nat.le_of_ble_eq_true rfl) (Nat.le_of_ble_eq_true rfl) (Nat.le_of_ble_eq_true rfl) dX0_init_7 rfl ?_
  refine g_newa (at_ := .byte) (ty := .byte) (t := 1) (N := 48) rfl rfl aw_byte rfl (by decide +kernel) (by decide +kernel) (by decide) (by rw [hq_len]; decide) (Nat.le_of_ble_eq_true rfl) (Nat.le_of_ble_eq_true rfl) (fun _ z => by cases z) dX0_init_10 rfl ?_
  refine g_heq (hq_push (cN_new hz (fun z => absurd z (by decide)) rfl)) (by rw [hq_len]) ?_
  replace hz := gfr_u (n1 := 100) (by decide) hz
  refine g_putF gClX0 0 (by decide) fl_X0_15 rfl rfl rfl dX0_init_12 (hq_at (by decide)) rfl rfl (Nat.le_of_ble_eq_true rfl) (hq_ms (by decide) rfl) rfl ?_
  replace hz := gfr_m (j := 98) (k := 0) (by decide) hz
  exact g_vret rfl dX0_init_15 (Nat.le_of_ble_eq_true rfl) (Nat.le_of_ble_eq_true rfl) ⟨rfl, rfl⟩
set_option maxHeartbeats 4000000 in
set_option maxRecDepth 100000 in
theorem k_X1_89 (l : Launch) (g : gE) (m : gK) (κ : Nat → Nat) (σ : gS) (ζ : gQ) (hz : gfr 90 m κ σ) : gC l g mX1_init (rmc 2 10 208 42) [.ref 89] (hq 90 m κ σ ζ) (fun r h => r = none ∧ h = hq 100 (mset (mset (mset (mset (mset (mset m 89 0) 89 1) 92 0) 94 0) 96 0) 98 0) (va_up (va_up (va_up (va_up κ 90 1) 90 2) 90 3) 90 4) (pf σ 89 2 (1 : Int32)) ζ) := by
  refine gC_of (by decide) (Nat.le_of_ble_eq_true rfl) ?_
  refine g_aload_n dX1_init_0 rfl rfl rfl ?_
  refine g_obj ml_X1_3 im_obj cd_obj (Nat.le_of_ble_eq_true rfl) (Nat.le_of_ble_eq_true rfl) dX1_init_1 rfl ?_
  refine g_aload_n dX1_init_4 rfl rfl rfl ?_
  refine g_iconst (v := 4) dX1_init_5 (by decide) rfl ?_
  refine g_newq (t := 4) (N := 4) rfl cl_X1_9 (Or.inr rfl) (by decide +kernel) (by decide +kernel) (by decide) (by rw [hq_len]; decide) (Nat.le_of_ble_eq_true rfl) (Nat.le_of_ble_eq_true rfl) dX1_init_6 rfl ?_
  have hk90 := (hz 90 (by decide)).2.1
  refine g_heq (hq_push (cN_new hz (fun z => absurd z (by decide)) rfl)) (by rw [hq_len]) ?_
  replace hz := gfr_u (n1 := 91) (by decide) hz
  refine g_putF gClX1 0 (by decide) fl_X1_11 rfl rfl rfl dX1_init_9 (hq_at (by decide)) rfl rfl (Nat.le_of_ble_eq_true rfl) (hq_ms (by decide) rfl) rfl ?_
  replace hz := gfr_m (j := 89) (k := 0) (by decide) hz
  refine g_aload_n dX1_init_12 rfl rfl rfl ?_
  refine g_iconst (v := 4) dX1_init_13 (by decide) rfl ?_
  refine g_newa (at_ := .int) (ty := .int) (t := 0) (N := 4) rfl rfl aw_int rfl (by decide +kernel) (by decide +kernel) (by decide) (by rw [hq_len]; decide) (Nat.le_of_ble_eq_true rfl) (Nat.le_of_ble_eq_true rfl) (fun _ z => by cases z) dX1_init_14 rfl ?_
  refine g_heq (hq_push (cN_new hz (fun z => absurd z (by decide)) rfl)) (by rw [hq_len]) ?_
  replace hz := gfr_u (n1 := 92) (by decide) hz
  refine g_putF gClX1 1 (by decide) fl_X1_17 rfl rfl rfl dX1_init_16 (hq_at (by decide)) rfl rfl (Nat.le_of_ble_eq_true rfl) (hq_ms (by decide) rfl) rfl ?_
  replace hz := gfr_m (j := 89) (k := 1) (by decide) hz
  refine g_aload_n dX1_init_19 rfl rfl rfl ?_
  refine g_iconst (v := 1) dX1_init_20 (by decide) rfl ?_
  refine g_put gClX1 2 (by decide) fl_X1_21 rfl dX1_init_21 (hq_at (by decide)) rfl rfl (Nat.le_of_ble_eq_true rfl) (hq_pf (by decide) rfl) rfl ?_
  replace hz := gfr_p (j := 89) (k := 2) (x := (1 : Int32)) (by decide) hz
  refine g_iconst (v := 0) dX1_init_24 (by decide) rfl ?_
  refine g_istoreL_n (L1 := [(0, _), (1, _)]) dX1_init_25 rfl (by decide) rfl rfl ?_
  refine g_iload_n dX1_init_26 rfl rfl rfl ?_
  refine g_iconst (v := 4) dX1_init_27 (by decide) rfl ?_
  refine g_icmpge (tgt := 52) dX1_init_28 (by decide) rfl (fun z => absurd z (by decide +kernel)) (fun _ => ?_)
  refine g_aload_n dX1_init_31 rfl rfl rfl ?_
  refine g_get (v := .ref 90) gClX1 0 (by decide) fl_X1_11 dX1_init_32 (hq_at (by decide)) rfl rfl ?_
  refine g_iload_n dX1_init_35 rfl rfl rfl ?_
  refine g_new (fs := [.null, .int 0]) gClX0 cl_X1_9 it_X0 in_X0 (nf_X0 g) (by rw [hq_len]; decide) (Nat.le_of_ble_eq_true rfl) (Nat.le_of_ble_eq_true rfl) dX1_init_36 rfl ?_
  refine g_heq (hq_push (cN_new hz (fun z => absurd z (by decide)) rfl)) (by rw [hq_len]) ?_
  replace hz := gfr_u (n1 := 93) (by decide) hz
  refine g_dup dX1_init_39 rfl rfl ?_
  refine g_bipush (v := 48) dX1_init_40 (by decide) rfl ?_
  refine g_calli mt_X0_init mi_X0_init rfl rfl ml_X1_25 (k_X0_92 l g _ _ _ _ hz) rfl (Nat.le_of_ble_eq_true rfl) (Nat.le_of_ble_eq_true rfl) (Nat.le_of_ble_eq_true rfl) (Nat.le_of_ble_eq_true rfl) rfl (Nat.le_of_ble_eq_true rfl) dX1_init_42 rfl (fun r h p => ?_)
  obtain ⟨rfl, rfl⟩ := p
  replace hz := gfr_u (n1 := 94) (by decide) hz
  replace hz := gfr_m (j := 92) (k := 0) (by decide) hz
  refine g_aast4 (hq_at (by decide)) (hq_at (by decide)) rfl (vinc (by decide +kernel)) (hq_aR (c := 6) (i := 0) (by decide) (by decide) (by decide +kernel) hk90 rfl) dX1_init_45 rfl ?_
  replace hz := gfr_k (j := 90) (v := 1) (by decide) hz
  refine g_iincL (L1 := [(0, _), (1, _)]) dX1_init_46 rfl (by decide) rfl rfl ?_
  refine g_goto (tgt := 26) dX1_init_49 (by decide) ?_
  refine g_iload_n dX1_init_26 rfl rfl rfl ?_
  refine g_iconst (v := 4) dX1_init_27 (by decide) rfl ?_
  refine g_icmpge (tgt := 52) dX1_init_28 (by decide) rfl (fun z => absurd z (by decide +kernel)) (fun _ => ?_)
  refine g_aload_n dX1_init_31 rfl rfl rfl ?_
  refine g_get (v := .ref 90) gClX1 0 (by decide) fl_X1_11 dX1_init_32 (hq_at (by decide)) rfl rfl ?_
  refine g_iload_n dX1_init_35 rfl rfl rfl ?_
  refine g_new (fs := [.null, .int 0]) gClX0 cl_X1_9 it_X0 in_X0 (nf_X0 g) (by rw [hq_len]; decide) (Nat.le_of_ble_eq_true rfl) (Nat.le_of_ble_eq_true rfl) dX1_init_36 rfl ?_
  refine g_heq (hq_push (cN_new hz (fun z => absurd z (by decide)) rfl)) (by rw [hq_len]) ?_
  replace hz := gfr_u (n1 := 95) (by decide) hz
  refine g_dup dX1_init_39 rfl rfl ?_
  refine g_bipush (v := 48) dX1_init_40 (by decide) rfl ?_
  refine g_calli mt_X0_init mi_X0_init rfl rfl ml_X1_25 (k_X0_94 l g _ _ _ _ hz) rfl (Nat.le_of_ble_eq_true rfl) (Nat.le_of_ble_eq_true rfl) (Nat.le_of_ble_eq_true rfl) (Nat.le_of_ble_eq_true rfl) rfl (Nat.le_of_ble_eq_true rfl) dX1_init_42 rfl (fun r h p => ?_)
  obtain ⟨rfl, rfl⟩ := p
  replace hz := gfr_u (n1 := 96) (by decide) hz
  replace hz := gfr_m (j := 94) (k := 0) (by decide) hz
  refine g_aast4 (hq_at (by decide)) (hq_at (by decide)) rfl (vinc (by decide +kernel)) (hq_aR (c := 6) (i := 1) (by decide) (by decide) (by decide +kernel) rfl rfl) dX1_init_45 rfl ?_
  replace hz := gfr_k (j := 90) (v := 2) (by decide) hz
  refine g_iincL (L1 := [(0, _), (1, _)]) dX1_init_46 rfl (by decide) rfl rfl ?_
  refine g_goto (tgt := 26) dX1_init_49 (by decide) ?_
  refine g_iload_n dX1_init_26 rfl rfl rfl ?_
  refine g_iconst (v := 4) dX1_init_27 (by decide) rfl ?_
  refine g_icmpge (tgt := 52) dX1_init_28 (by decide) rfl (fun z => absurd z (by decide +kernel)) (fun _ => ?_)
  refine g_aload_n dX1_init_31 rfl rfl rfl ?_
  refine g_get (v := .ref 90) gClX1 0 (by decide) fl_X1_11 dX1_init_32 (hq_at (by decide)) rfl rfl ?_
  refine g_iload_n dX1_init_35 rfl rfl rfl ?_
  refine g_new (fs := [.null, .int 0]) gClX0 cl_X1_9 it_X0 in_X0 (nf_X0 g) (by rw [hq_len]; decide) (Nat.le_of_ble_eq_true rfl) (Nat.le_of_ble_eq_true rfl) dX1_init_36 rfl ?_
  refine g_heq (hq_push (cN_new hz (fun z => absurd z (by decide)) rfl)) (by rw [hq_len]) ?_
  replace hz := gfr_u (n1 := 97) (by decide) hz
  refine g_dup dX1_init_39 rfl rfl ?_
  refine g_bipush (v := 48) dX1_init_40 (by decide) rfl ?_
  refine g_calli mt_X0_init mi_X0_init rfl rfl ml_X1_25 (k_X0_96 l g _ _ _ _ hz) rfl (Nat.le_of_ble_eq_true rfl) (Nat.le_of_ble_eq_true rfl) (Nat.le_of_ble_eq_true rfl) (Nat.le_of_ble_eq_true rfl) rfl (Nat.le_of_ble_eq_true rfl) dX1_init_42 rfl (fun r h p => ?_)
  obtain ⟨rfl, rfl⟩ := p
  replace hz := gfr_u (n1 := 98) (by decide) hz
  replace hz := gfr_m (j := 96) (k := 0) (by decide) hz
  refine g_aast4 (hq_at (by decide)) (hq_at (by decide)) rfl (vinc (by decide +kernel)) (hq_aR (c := 6) (i := 2) (by decide) (by decide) (by decide +kernel) rfl rfl) dX1_init_45 rfl ?_
  replace hz := gfr_k (j := 90) (v := 3) (by decide) hz
  refine g_iincL (L1 := [(0, _), (1, _)]) dX1_init_46 rfl (by decide) rfl rfl ?_
  refine g_goto (tgt := 26) dX1_init_49 (by decide) ?_
  refine g_iload_n dX1_init_26 rfl rfl rfl ?_
  refine g_iconst (v := 4) dX1_init_27 (by decide) rfl ?_
  refine g_icmpge (tgt := 52) dX1_init_28 (by decide) rfl (fun z => absurd z (by decide +kernel)) (fun _ => ?_)
  refine g_aload_n dX1_init_31 rfl rfl rfl ?_
  refine g_get (v := .ref 90) gClX1 0 (by decide) fl_X1_11 dX1_init_32 (hq_at (by decide)) rfl rfl ?_
  refine g_iload_n dX1_init_35 rfl rfl rfl ?_
  refine g_new (fs := [.null, .int 0]) gClX0 cl_X1_9 it_X0 in_X0 (nf_X0 g) (by rw [hq_len]; decide) (Nat.le_of_ble_eq_true rfl) (Nat.le_of_ble_eq_true rfl) dX1_init_36 rfl ?_
  refine g_heq (hq_push (cN_new hz (fun z => absurd z (by decide)) rfl)) (by rw [hq_len]) ?_
  replace hz := gfr_u (n1 := 99) (by decide) hz
  refine g_dup dX1_init_39 rfl rfl ?_
  refine g_bipush (v := 48) dX1_init_40 (by decide) rfl ?_
  refine g_calli mt_X0_init mi_X0_init rfl rfl ml_X1_25 (k_X0_98 l g _ _ _ _ hz) rfl (Nat.le_of_ble_eq_true rfl) (Nat.le_of_ble_eq_true rfl) (Nat.le_of_ble_eq_true rfl) (Nat.le_of_ble_eq_true rfl) rfl (Nat.le_of_ble_eq_true rfl) dX1_init_42 rfl (fun r h p => ?_)
  obtain ⟨rfl, rfl⟩ := p
  replace hz := gfr_u (n1 := 100) (by decide) hz
  replace hz := gfr_m (j := 98) (k := 0) (by decide) hz
  refine g_aast4 (hq_at (by decide)) (hq_at (by decide)) rfl (vinc (by decide +kernel)) (hq_aR (c := 6) (i := 3) (by decide) (by decide) (by decide +kernel) rfl rfl) dX1_init_45 rfl ?_
  replace hz := gfr_k (j := 90) (v := 4) (by decide) hz
  refine g_iincL (L1 := [(0, _), (1, _)]) dX1_init_46 rfl (by decide) rfl rfl ?_
  refine g_goto (tgt := 26) dX1_init_49 (by decide) ?_
  refine g_iload_n dX1_init_26 rfl rfl rfl ?_
  refine g_iconst (v := 4) dX1_init_27 (by decide) rfl ?_
  refine g_icmpge (tgt := 52) dX1_init_28 (by decide) rfl (fun _ => ?_) (fun z => absurd z (by decide +kernel))
  exact g_vret rfl dX1_init_52 (Nat.le_of_ble_eq_true rfl) (Nat.le_of_ble_eq_true rfl) ⟨rfl, rfl⟩
set_option maxHeartbeats 4000000 in
set_option maxRecDepth 100000 in
theorem k_X0_103 (l : Launch) (g : gE) (m : gK) (κ : Nat → Nat) (σ : gS) (ζ : gQ) (hz : gfr 104 m κ σ) : gC l g mX0_init (rmc 1 1 48 21) [.ref 103, .int 48] (hq 104 m κ σ ζ) (fun r h => r = none ∧ h = hq 105 (mset m 103 0) κ σ ζ) := by
  refine gC_of (by decide) (Nat.le_of_ble_eq_true rfl) ?_
  refine g_aload_n dX0_init_0 rfl rfl rfl ?_
  refine g_obj ml_X0_3 im_obj cd_obj (Nat.le_of_ble_eq_true rfl) (Nat.le_of_ble_eq_true rfl) dX0_init_1 rfl ?_
  refine g_aload_n dX0_init_4 rfl rfl rfl ?_
  refine g_iload_n dX0_init_5 rfl rfl rfl ?_
  refine g_iconst (v := 0) dX0_init_6 (by decide) rfl ?_
  refine g_max ml_X0_9 st_max in_Math cd_max (Nat.le_of_ble_eq_true rfl) (Nat.le_of_ble_eq_true rfl) (Nat.le_of_ble_eq_true rfl) (Nat.le_of_ble_eq_true rfl) dX0_init_7 rfl ?_
  refine g_newa (at_ := .byte) (ty := .byte) (t := 1) (N := 48) rfl rfl aw_byte rfl (by decide +kernel) (by decide +kernel) (by decide) (by rw [hq_len]; decide) (Nat.le_of_ble_eq_true rfl) (Nat.le_of_ble_eq_true rfl) (fun _ z => by cases z) dX0_init_10 rfl ?_
  refine g_heq (hq_push (cN_new hz (fun z => absurd z (by decide)) rfl)) (by rw [hq_len]) ?_
  replace hz := gfr_u (n1 := 105) (by decide) hz
  refine g_putF gClX0 0 (by decide) fl_X0_15 rfl rfl rfl dX0_init_12 (hq_at (by decide)) rfl rfl (Nat.le_of_ble_eq_true rfl) (hq_ms (by decide) rfl) rfl ?_
  replace hz := gfr_m (j := 103) (k := 0) (by decide) hz
  exact g_vret rfl dX0_init_15 (Nat.le_of_ble_eq_true rfl) (Nat.le_of_ble_eq_true rfl) ⟨rfl, rfl⟩
set_option maxHeartbeats 4000000 in
set_option maxRecDepth 100000 in
theorem k_X0_105 (l : Launch) (g : gE) (m : gK) (κ : Nat → Nat) (σ : gS) (ζ : gQ) (hz : gfr 106 m κ σ) : gC l g mX0_init (rmc 1 1 48 21) [.ref 105, .int 48] (hq 106 m κ σ ζ) (fun r h => r = none ∧ h = hq 107 (mset m 105 0) κ σ ζ) := by
  refine gC_of (by decide) (Nat.le_of_ble_eq_true rfl) ?_
  refine g_aload_n dX0_init_0 rfl rfl rfl ?_
  refine g_obj ml_X0_3 im_obj cd_obj (Nat.le_of_ble_eq_true rfl) (Nat.le_of_ble_eq_true rfl) dX0_init_1 rfl ?_
  refine g_aload_n dX0_init_4 rfl rfl rfl ?_
  refine g_iload_n dX0_init_5 rfl rfl rfl ?_
  refine g_iconst (v := 0) dX0_init_6 (by decide) rfl ?_
  refine g_max ml_X0_9 st_max in_Math cd_max (Nat.le_of_ble_eq_true rfl) (Nat.le_of_ble_eq_true rfl) (Nat.le_of_ble_eq_true rfl) (Nat.le_of_ble_eq_true rfl) dX0_init_7 rfl ?_
  refine g_newa (at_ := .byte) (ty := .byte) (t := 1) (N := 48) rfl rfl aw_byte rfl (by decide +kernel) (by decide +kernel) (by decide) (by rw [hq_len]; decide) (Nat.le_of_ble_eq_true rfl) (Nat.le_of_ble_eq_true rfl) (fun _ z => by cases z) dX0_init_10 rfl ?_
  refine g_heq (hq_push (cN_new hz (fun z => absurd z (by decide)) rfl)) (by rw [hq_len]) ?_
  replace hz := gfr_u (n1 := 107) (by decide) hz
  refine g_putF gClX0 0 (by decide) fl_X0_15 rfl rfl rfl dX0_init_12 (hq_at (by decide)) rfl rfl (Nat.le_of_ble_eq_true rfl) (hq_ms (by decide) rfl) rfl ?_
  replace hz := gfr_m (j := 105) (k := 0) (by decide) hz
  exact g_vret rfl dX0_init_15 (Nat.le_of_ble_eq_true rfl) (Nat.le_of_ble_eq_true rfl) ⟨rfl, rfl⟩
set_option maxHeartbeats 4000000 in
set_option maxRecDepth 100000 in
theorem k_X0_107 (l : Launch) (g : gE) (m : gK) (κ : Nat → Nat) (σ : gS) (ζ : gQ) (hz : gfr 108 m κ σ) : gC l g mX0_init (rmc 1 1 48 21) [.ref 107, .int 48] (hq 108 m κ σ ζ) (fun r h => r = none ∧ h = hq 109 (mset m 107 0) κ σ ζ) := by
  refine gC_of (by decide) (Nat.le_of_ble_eq_true rfl) ?_
  refine g_aload_n dX0_init_0 rfl rfl rfl ?_
  refine g_obj ml_X0_3 im_obj cd_obj (Nat.le_of_ble_eq_true rfl) (Nat.le_of_ble_eq_true rfl) dX0_init_1 rfl ?_
  refine g_aload_n dX0_init_4 rfl rfl rfl ?_
  refine g_iload_n dX0_init_5 rfl rfl rfl ?_
  refine g_iconst (v := 0) dX0_init_6 (by decide) rfl ?_
  refine g_max ml_X0_9 st_max in_Math cd_max (Nat.le_of_ble_eq_true rfl) (Nat.le_of_ble_eq_true rfl) (Nat.le_of_ble_eq_true rfl) (Nat.le_of_ble_eq_true rfl) dX0_init_7 rfl ?_
  refine g_newa (at_ := .byte) (ty := .byte) (t := 1) (N := 48) rfl rfl aw_byte rfl (by decide +kernel) (by decide +kernel) (by decide) (by rw [hq_len]; decide) (Nat.le_of_ble_eq_true rfl) (Nat.le_of_ble_eq_true rfl) (fun _ z => by cases z) dX0_init_10 rfl ?_
  refine g_heq (hq_push (cN_new hz (fun z => absurd z (by decide)) rfl)) (by rw [hq_len]) ?_
  replace hz := gfr_u (n1 := 109) (by decide) hz
  refine g_putF gClX0 0 (by decide) fl_X0_15 rfl rfl rfl dX0_init_12 (hq_at (by decide)) rfl rfl (Nat.le_of_ble_eq_true rfl) (hq_ms (by decide) rfl) rfl ?_
  replace hz := gfr_m (j := 107) (k := 0) (by decide) hz
  exact g_vret rfl dX0_init_15 (Nat.le_of_ble_eq_true rfl) (Nat.le_of_ble_eq_true rfl) ⟨rfl, rfl⟩
set_option maxHeartbeats 4000000 in
set_option maxRecDepth 100000 in
theorem k_X0_109 (l : Launch) (g : gE) (m : gK) (κ : Nat → Nat) (σ : gS) (ζ : gQ) (hz : gfr 110 m κ σ) : gC l g mX0_init (rmc 1 1 48 21) [.ref 109, .int 48] (hq 110 m κ σ ζ) (fun r h => r = none ∧ h = hq 111 (mset m 109 0) κ σ ζ) := by
  refine gC_of (by decide) (Nat.le_of_ble_eq_true rfl) ?_
  refine g_aload_n dX0_init_0 rfl rfl rfl ?_
  refine g_obj ml_X0_3 im_obj cd_obj (Nat.le_of_ble_eq_true rfl) (Nat.le_of_ble_eq_true rfl) dX0_init_1 rfl ?_
  refine g_aload_n dX0_init_4 rfl rfl rfl ?_
  refine g_iload_n dX0_init_5 rfl rfl rfl ?_
  refine g_iconst (v := 0) dX0_init_6 (by decide) rfl ?_
  refine g_max ml_X0_9 st_max in_Math cd_max (Nat.le_of_ble_eq_true rfl) (Nat.le_of_ble_eq_true rfl) (Nat.le_of_ble_eq_true rfl) (Nat.le_of_ble_eq_true rfl) dX0_init_7 rfl ?_
  refine g_newa (at_ := .byte) (ty := .byte) (t := 1) (N := 48) rfl rfl aw_byte rfl (by decide +kernel) (by decide +kernel) (by decide) (by rw [hq_len]; decide) (Nat.le_of_ble_eq_true rfl) (Nat.le_of_ble_eq_true rfl) (fun _ z => by cases z) dX0_init_10 rfl ?_
  refine g_heq (hq_push (cN_new hz (fun z => absurd z (by decide)) rfl)) (by rw [hq_len]) ?_
  replace hz := gfr_u (n1 := 111) (by decide) hz
  refine g_putF gClX0 0 (by decide) fl_X0_15 rfl rfl rfl dX0_init_12 (hq_at (by decide)) rfl rfl (Nat.le_of_ble_eq_true rfl) (hq_ms (by decide) rfl) rfl ?_
  replace hz := gfr_m (j := 109) (k := 0) (by decide) hz
  exact g_vret rfl dX0_init_15 (Nat.le_of_ble_eq_true rfl) (Nat.le_of_ble_eq_true rfl) ⟨rfl, rfl⟩
set_option maxHeartbeats 4000000 in
set_option maxRecDepth 100000 in
theorem k_X1_100 (l : Launch) (g : gE) (m : gK) (κ : Nat → Nat) (σ : gS) (ζ : gQ) (hz : gfr 101 m κ σ) : gC l g mX1_init (rmc 2 10 208 42) [.ref 100] (hq 101 m κ σ ζ) (fun r h => r = none ∧ h = hq 111 (mset (mset (mset (mset (mset (mset m 100 0) 100 1) 103 0) 105 0) 107 0) 109 0) (va_up (va_up (va_up (va_up κ 101 1) 101 2) 101 3) 101 4) (pf σ 100 2 (1 : Int32)) ζ) := by
  refine gC_of (by decide) (Nat.le_of_ble_eq_true rfl) ?_
  refine g_aload_n dX1_init_0 rfl rfl rfl ?_
  refine g_obj ml_X1_3 im_obj cd_obj (Nat.le_of_ble_eq_true rfl) (Nat.le_of_ble_eq_true rfl) dX1_init_1 rfl ?_
  refine g_aload_n dX1_init_4 rfl rfl rfl ?_
  refine g_iconst (v := 4) dX1_init_5 (by decide) rfl ?_
  refine g_newq (t := 4) (N := 4) rfl cl_X1_9 (Or.inr rfl) (by decide +kernel) (by decide +kernel) (by decide) (by rw [hq_len]; decide) (Nat.le_of_ble_eq_true rfl) (Nat.le_of_ble_eq_true rfl) dX1_init_6 rfl ?_
  have hk101 := (hz 101 (by decide)).2.1
  refine g_heq (hq_push (cN_new hz (fun z => absurd z (by decide)) rfl)) (by rw [hq_len]) ?_
  replace hz := gfr_u (n1 := 102) (by decide) hz
  refine g_putF gClX1 0 (by decide) fl_X1_11 rfl rfl rfl dX1_init_9 (hq_at (by decide)) rfl rfl (Nat.le_of_ble_eq_true rfl) (hq_ms (by decide) rfl) rfl ?_
  replace hz := gfr_m (j := 100) (k := 0) (by decide) hz
  refine g_aload_n dX1_init_12 rfl rfl rfl ?_
  refine g_iconst (v := 4) dX1_init_13 (by decide) rfl ?_
  refine g_newa (at_ := .int) (ty := .int) (t := 0) (N := 4) rfl rfl aw_int rfl (by decide +kernel) (by decide +kernel) (by decide) (by rw [hq_len]; decide) (Nat.le_of_ble_eq_true rfl) (Nat.le_of_ble_eq_true rfl) (fun _ z => by cases z) dX1_init_14 rfl ?_
  refine g_heq (hq_push (cN_new hz (fun z => absurd z (by decide)) rfl)) (by rw [hq_len]) ?_
  replace hz := gfr_u (n1 := 103) (by decide) hz
  refine g_putF gClX1 1 (by decide) fl_X1_17 rfl rfl rfl dX1_init_16 (hq_at (by decide)) rfl rfl (Nat.le_of_ble_eq_true rfl) (hq_ms (by decide) rfl) rfl ?_
  replace hz := gfr_m (j := 100) (k := 1) (by decide) hz
  refine g_aload_n dX1_init_19 rfl rfl rfl ?_
  refine g_iconst (v := 1) dX1_init_20 (by decide) rfl ?_
  refine g_put gClX1 2 (by decide) fl_X1_21 rfl dX1_init_21 (hq_at (by decide)) rfl rfl (Nat.le_of_ble_eq_true rfl) (hq_pf (by decide) rfl) rfl ?_
  replace hz := gfr_p (j := 100) (k := 2) (x := (1 : Int32)) (by decide) hz
  refine g_iconst (v := 0) dX1_init_24 (by decide) rfl ?_
  refine g_istoreL_n (L1 := [(0, _), (1, _)]) dX1_init_25 rfl (by decide) rfl rfl ?_
  refine g_iload_n dX1_init_26 rfl rfl rfl ?_
  refine g_iconst (v := 4) dX1_init_27 (by decide) rfl ?_
  refine g_icmpge (tgt := 52) dX1_init_28 (by decide) rfl (fun z => absurd z (by decide +kernel)) (fun _ => ?_)
  refine g_aload_n dX1_init_31 rfl rfl rfl ?_
  refine g_get (v := .ref 101) gClX1 0 (by decide) fl_X1_11 dX1_init_32 (hq_at (by decide)) rfl rfl ?_
  refine g_iload_n dX1_init_35 rfl rfl rfl ?_
  refine g_new (fs := [.null, .int 0]) gClX0 cl_X1_9 it_X0 in_X0 (nf_X0 g) (by rw [hq_len]; decide) (Nat.le_of_ble_eq_true rfl) (Nat.le_of_ble_eq_true rfl) dX1_init_36 rfl ?_
  refine g_heq (hq_push (cN_new hz (fun z => absurd z (by decide)) rfl)) (by rw [hq_len]) ?_
  replace hz := gfr_u (n1 := 104) (by decide) hz
  refine g_dup dX1_init_39 rfl rfl ?_
  refine g_bipush (v := 48) dX1_init_40 (by decide) rfl ?_
  refine g_calli mt_X0_init mi_X0_init rfl rfl ml_X1_25 (k_X0_103 l g _ _ _ _ hz) rfl (Nat.le_of_ble_eq_true rfl) (Nat.le_of_ble_eq_true rfl) (Nat.le_of_ble_eq_true rfl) (Nat.le_of_ble_eq_true rfl) rfl (Nat.le_of_ble_eq_true rfl) dX1_init_42 rfl (fun r h p => ?_)
  obtain ⟨rfl, rfl⟩ := p
  replace hz := gfr_u (n1 := 105) (by decide) hz
  replace hz := gfr_m (j := 103) (k := 0) (by decide) hz
  refine g_aast4 (hq_at (by decide)) (hq_at (by decide)) rfl (vinc (by decide +kernel)) (hq_aR (c := 7) (i := 0) (by decide) (by decide) (by decide +kernel) hk101 rfl) dX1_init_45 rfl ?_
  replace hz := gfr_k (j := 101) (v := 1) (by decide) hz
  refine g_iincL (L1 := [(0, _), (1, _)]) dX1_init_46 rfl (by decide) rfl rfl ?_
  refine g_goto (tgt := 26) dX1_init_49 (by decide) ?_
  refine g_iload_n dX1_init_26 rfl rfl rfl ?_
  refine g_iconst (v := 4) dX1_init_27 (by decide) rfl ?_
  refine g_icmpge (tgt := 52) dX1_init_28 (by decide) rfl (fun z => absurd z (by decide +kernel)) (fun _ => ?_)
  refine g_aload_n dX1_init_31 rfl rfl rfl ?_
  refine g_get (v := .ref 101) gClX1 0 (by decide) fl_X1_11 dX1_init_32 (hq_at (by decide)) rfl rfl ?_
  refine g_iload_n dX1_init_35 rfl rfl rfl ?_
  refine g_new (fs := [.null, .int 0]) gClX0 cl_X1_9 it_X0 in_X0 (nf_X0 g) (by rw [hq_len]; decide) (Nat.le_of_ble_eq_true rfl) (Nat.le_of_ble_eq_true rfl) dX1_init_36 rfl ?_
  refine g_heq (hq_push (cN_new hz (fun z => absurd z (by decide)) rfl)) (by rw [hq_len]) ?_
  replace hz := gfr_u (n1 := 106) (by decide) hz
  refine g_dup dX1_init_39 rfl rfl ?_
  refine g_bipush (v := 48) dX1_init_40 (by decide) rfl ?_
  refine g_calli mt_X0_init mi_X0_init rfl rfl ml_X1_25 (k_X0_105 l g _ _ _ _ hz) rfl (Nat.le_of_ble_eq_true rfl) (Nat.le_of_ble_eq_true rfl) (Nat.le_of_ble_eq_true rfl) (Nat.le_of_ble_eq_true rfl) rfl (Nat.le_of_ble_eq_true rfl) dX1_init_42 rfl (fun r h p => ?_)
  obtain ⟨rfl, rfl⟩ := p
  replace hz := gfr_u (n1 := 107) (by decide) hz
  replace hz := gfr_m (j := 105) (k := 0) (by decide) hz
  refine g_aast4 (hq_at (by decide)) (hq_at (by decide)) rfl (vinc (by decide +kernel)) (hq_aR (c := 7) (i := 1) (by decide) (by decide) (by decide +kernel) rfl rfl) dX1_init_45 rfl ?_
  replace hz := gfr_k (j := 101) (v := 2) (by decide) hz
  refine g_iincL (L1 := [(0, _), (1, _)]) dX1_init_46 rfl (by decide) rfl rfl ?_
  refine g_goto (tgt := 26) dX1_init_49 (by decide) ?_
  refine g_iload_n dX1_init_26 rfl rfl rfl ?_
  refine g_iconst (v := 4) dX1_init_27 (by decide) rfl ?_
  refine g_icmpge (tgt := 52) dX1_init_28 (by decide) rfl (fun z => absurd z (by decide +kernel)) (fun _ => ?_)
  refine g_aload_n dX1_init_31 rfl rfl rfl ?_
  refine g_get (v := .ref 101) gClX1 0 (by decide) fl_X1_11 dX1_init_32 (hq_at (by decide)) rfl rfl ?_
  refine g_iload_n dX1_init_35 rfl rfl rfl ?_
  refine g_new (fs := [.null, .int 0]) gClX0 cl_X1_9 it_X0 in_X0 (nf_X0 g) (by rw [hq_len]; decide) (Nat.le_of_ble_eq_true rfl) (Nat.le_of_ble_eq_true rfl) dX1_init_36 rfl ?_
  refine g_heq (hq_push (cN_new hz (fun z => absurd z (by decide)) rfl)) (by rw [hq_len]) ?_
  replace hz := gfr_u (n1 := 108) (by decide) hz
  refine g_dup dX1_init_39 rfl rfl ?_
  refine g_bipush (v := 48) dX1_init_40 (by decide) rfl ?_
  refine g_calli mt_X0_init mi_X0_init rfl rfl ml_X1_25 (k_X0_107 l g _ _ _ _ hz) rfl (Nat.le_of_ble_eq_true rfl) (Nat.le_of_ble_eq_true rfl) (Nat.le_of_ble_eq_true rfl) (Nat.le_of_ble_eq_true rfl) rfl (Nat.le_of_ble_eq_true rfl) dX1_init_42 rfl (fun r h p => ?_)
  obtain ⟨rfl, rfl⟩ := p
  replace hz := gfr_u (n1 := 109) (by decide) hz
  replace hz := gfr_m (j := 107) (k := 0) (by decide) hz
  refine g_aast4 (hq_at (by decide)) (hq_at (by decide)) rfl (vinc (by decide +kernel)) (hq_aR (c := 7) (i := 2) (by decide) (by decide) (by decide +kernel) rfl rfl) dX1_init_45 rfl ?_
  replace hz := gfr_k (j := 101) (v := 3) (by decide) hz
  refine g_iincL (L1 := [(0, _), (1, _)]) dX1_init_46 rfl (by decide) rfl rfl ?_
  refine g_goto (tgt := 26) dX1_init_49 (by decide) ?_
  refine g_iload_n dX1_init_26 rfl rfl rfl ?_
  refine g_iconst (v := 4) dX1_init_27 (by decide) rfl ?_
  refine g_icmpge (tgt := 52) dX1_init_28 (by decide) rfl (fun z => absurd z (by decide +kernel)) (fun _ => ?_)
  refine g_aload_n dX1_init_31 rfl rfl rfl ?_
  refine g_get (v := .ref 101) gClX1 0 (by decide) fl_X1_11 dX1_init_32 (hq_at (by decide)) rfl rfl ?_
  refine g_iload_n dX1_init_35 rfl rfl rfl ?_
  refine g_new (fs := [.null, .int 0]) gClX0 cl_X1_9 it_X0 in_X0 (nf_X0 g) (by rw [hq_len]; decide) (Nat.le_of_ble_eq_true rfl) (Nat.le_of_ble_eq_true rfl) dX1_init_36 rfl ?_
  refine g_heq (hq_push (cN_new hz (fun z => absurd z (by decide)) rfl)) (by rw [hq_len]) ?_
  replace hz := gfr_u (n1 := 110) (by decide) hz
  refine g_dup dX1_init_39 rfl rfl ?_
  refine g_bipush (v := 48) dX1_init_40 (by decide) rfl ?_
  refine g_calli mt_X0_init mi_X0_init rfl rfl ml_X1_25 (k_X0_109 l g _ _ _ _ hz) rfl (Nat.le_of_ble_eq_true rfl) (Nat.le_of_ble_eq_true rfl) (Nat.le_of_ble_eq_true rfl) (Nat.le_of_ble_eq_true rfl) rfl (Nat.le_of_ble_eq_true rfl) dX1_init_42 rfl (fun r h p => ?_)
  obtain ⟨rfl, rfl⟩ := p
  replace hz := gfr_u (n1 := 111) (by decide) hz
  replace hz := gfr_m (j := 109) (k := 0) (by decide) hz
  refine g_aast4 (hq_at (by decide)) (hq_at (by decide)) rfl (vinc (by decide +kernel)) (hq_aR (c := 7) (i := 3) (by decide) (by decide) (by decide +kernel) rfl rfl) dX1_init_45 rfl ?_
  replace hz := gfr_k (j := 101) (v := 4) (by decide) hz
  refine g_iincL (L1 := [(0, _), (1, _)]) dX1_init_46 rfl (by decide) rfl rfl ?_
  refine g_goto (tgt := 26) dX1_init_49 (by decide) ?_
  refine g_iload_n dX1_init_26 rfl rfl rfl ?_
  refine g_iconst (v := 4) dX1_init_27 (by decide) rfl ?_
  refine g_icmpge (tgt := 52) dX1_init_28 (by decide) rfl (fun _ => ?_) (fun z => absurd z (by decide +kernel))
  exact g_vret rfl dX1_init_52 (Nat.le_of_ble_eq_true rfl) (Nat.le_of_ble_eq_true rfl) ⟨rfl, rfl⟩
set_option maxHeartbeats 4000000 in
set_option maxRecDepth 100000 in
theorem k_X0_114 (l : Launch) (g : gE) (m : gK) (κ : Nat → Nat) (σ : gS) (ζ : gQ) (hz : gfr 115 m κ σ) : gC l g mX0_init (rmc 1 1 48 21) [.ref 114, .int 48] (hq 115 m κ σ ζ) (fun r h => r = none ∧ h = hq 116 (mset m 114 0) κ σ ζ) := by
  refine gC_of (by decide) (Nat.le_of_ble_eq_true rfl) ?_
  refine g_aload_n dX0_init_0 rfl rfl rfl ?_
  refine g_obj ml_X0_3 im_obj cd_obj (Nat.le_of_ble_eq_true rfl) (Nat.le_of_ble_eq_true rfl) dX0_init_1 rfl ?_
  refine g_aload_n dX0_init_4 rfl rfl rfl ?_
  refine g_iload_n dX0_init_5 rfl rfl rfl ?_
  refine g_iconst (v := 0) dX0_init_6 (by decide) rfl ?_
  refine g_max ml_X0_9 st_max in_Math cd_max (Nat.le_of_ble_eq_true rfl) (Nat.le_of_ble_eq_true rfl) (Nat.le_of_ble_eq_true rfl) (Nat.le_of_ble_eq_true rfl) dX0_init_7 rfl ?_
  refine g_newa (at_ := .byte) (ty := .byte) (t := 1) (N := 48) rfl rfl aw_byte rfl (by decide +kernel) (by decide +kernel) (by decide) (by rw [hq_len]; decide) (Nat.le_of_ble_eq_true rfl) (Nat.le_of_ble_eq_true rfl) (fun _ z => by cases z) dX0_init_10 rfl ?_
  refine g_heq (hq_push (cN_new hz (fun z => absurd z (by decide)) rfl)) (by rw [hq_len]) ?_
  replace hz := gfr_u (n1 := 116) (by decide) hz
  refine g_putF gClX0 0 (by decide) fl_X0_15 rfl rfl rfl dX0_init_12 (hq_at (by decide)) rfl rfl (Nat.le_of_ble_eq_true rfl) (hq_ms (by decide) rfl) rfl ?_
  replace hz := gfr_m (j := 114) (k := 0) (by decide) hz
  exact g_vret rfl dX0_init_15 (Nat.le_of_ble_eq_true rfl) (Nat.le_of_ble_eq_true rfl) ⟨rfl, rfl⟩
set_option maxHeartbeats 4000000 in
set_option maxRecDepth 100000 in
theorem k_X0_116 (l : Launch) (g : gE) (m : gK) (κ : Nat → Nat) (σ : gS) (ζ : gQ) (hz : gfr 117 m κ σ) : gC l g mX0_init (rmc 1 1 48 21) [.ref 116, .int 48] (hq 117 m κ σ ζ) (fun r h => r = none ∧ h = hq 118 (mset m 116 0) κ σ ζ) := by
  refine gC_of (by decide) (Nat.le_of_ble_eq_true rfl) ?_
  refine g_aload_n dX0_init_0 rfl rfl rfl ?_
  refine g_obj ml_X0_3 im_obj cd_obj (Nat.le_of_ble_eq_true rfl) (Nat.le_of_ble_eq_true rfl) dX0_init_1 rfl ?_
  refine g_aload_n dX0_init_4 rfl rfl rfl ?_
  refine g_iload_n dX0_init_5 rfl rfl rfl ?_
  refine g_iconst (v := 0) dX0_init_6 (by decide) rfl ?_
  refine g_max ml_X0_9 st_max in_Math cd_max (Nat.le_of_ble_eq_true rfl) (Nat.le_of_ble_eq_true rfl) (Nat.le_of_ble_eq_true rfl) (Nat.le_of_ble_eq_true rfl) dX0_init_7 rfl ?_
  refine g_newa (at_ := .byte) (ty := .byte) (t := 1) (N := 48) rfl rfl aw_byte rfl (by decide +kernel) (by decide +kernel) (by decide) (by rw [hq_len]; decide) (Nat.le_of_ble_eq_true rfl) (Nat.le_of_ble_eq_true rfl) (fun _ z => by cases z) dX0_init_10 rfl ?_
  refine g_heq (hq_push (cN_new hz (fun z => absurd z (by decide)) rfl)) (by rw [hq_len]) ?_
  replace hz := gfr_u (n1 := 118) (by decide) hz
  refine g_putF gClX0 0 (by decide) fl_X0_15 rfl rfl rfl dX0_init_12 (hq_at (by decide)) rfl rfl (Nat.le_of_ble_eq_true rfl) (hq_ms (by decide) rfl) rfl ?_
  replace hz := gfr_m (j := 116) (k := 0) (by decide) hz
  exact g_vret rfl dX0_init_15 (Nat.le_of_ble_eq_true rfl) (Nat.le_of_ble_eq_true rfl) ⟨rfl, rfl⟩
set_option maxHeartbeats 4000000 in
set_option maxRecDepth 100000 in
theorem k_X0_118 (l : Launch) (g : gE) (m : gK) (κ : Nat → Nat) (σ : gS) (ζ : gQ) (hz : gfr 119 m κ σ) : gC l g mX0_init (rmc 1 1 48 21) [.ref 118, .int 48] (hq 119 m κ σ ζ) (fun r h => r = none ∧ h = hq 120 (mset m 118 0) κ σ ζ) := by
  refine gC_of (by decide) (Nat.le_of_ble_eq_true rfl) ?_
  refine g_aload_n dX0_init_0 rfl rfl rfl ?_
  refine g_obj ml_X0_3 im_obj cd_obj (Nat.le_of_ble_eq_true rfl) (Nat.le_of_ble_eq_true rfl) dX0_init_1 rfl ?_
  refine g_aload_n dX0_init_4 rfl rfl rfl ?_
  refine g_iload_n dX0_init_5 rfl rfl rfl ?_
  refine g_iconst (v := 0) dX0_init_6 (by decide) rfl ?_
  refine g_max ml_X0_9 st_max in_Math cd_max (Nat.le_of_ble_eq_true rfl) (Nat.le_of_ble_eq_true rfl) (Nat.le_of_ble_eq_true rfl) (Nat.le_of_ble_eq_true rfl) dX0_init_7 rfl ?_
  refine g_newa (at_ := .byte) (ty := .byte) (t := 1) (N := 48) rfl rfl aw_byte rfl (by decide +kernel) (by decide +kernel) (by decide) (by rw [hq_len]; decide) (Nat.le_of_ble_eq_true rfl) (Nat.le_of_ble_eq_true rfl) (fun _ z => by cases z) dX0_init_10 rfl ?_
  refine g_heq (hq_push (cN_new hz (fun z => absurd z (by decide)) rfl)) (by rw [hq_len]) ?_
  replace hz := gfr_u (n1 := 120) (by decide) hz
  refine g_putF gClX0 0 (by decide) fl_X0_15 rfl rfl rfl dX0_init_12 (hq_at (by decide)) rfl rfl (Nat.le_of_ble_eq_true rfl) (hq_ms (by decide) rfl) rfl ?_
  replace hz := gfr_m (j := 118) (k := 0) (by decide) hz
  exact g_vret rfl dX0_init_15 (Nat.le_of_ble_eq_true rfl) (Nat.le_of_ble_eq_true rfl) ⟨rfl, rfl⟩
set_option maxHeartbeats 4000000 in
set_option maxRecDepth 100000 in
theorem k_X0_120 (l : Launch) (g : gE) (m : gK) (κ : Nat → Nat) (σ : gS) (ζ : gQ) (hz : gfr 121 m κ σ) : gC l g mX0_init (rmc 1 1 48 21) [.ref 120, .int 48] (hq 121 m κ σ ζ) (fun r h => r = none ∧ h = hq 122 (mset m 120 0) κ σ ζ) := by
  refine gC_of (by decide) (Nat.le_of_ble_eq_true rfl) ?_
  refine g_aload_n dX0_init_0 rfl rfl rfl ?_
  refine g_obj ml_X0_3 im_obj cd_obj (Nat.le_of_ble_eq_true rfl) (Nat.le_of_ble_eq_true rfl) dX0_init_1 rfl ?_
  refine g_aload_n dX0_init_4 rfl rfl rfl ?_
  refine g_iload_n dX0_init_5 rfl rfl rfl ?_
  refine g_iconst (v := 0) dX0_init_6 (by decide) rfl ?_
  refine g_max ml_X0_9 st_max in_Math cd_max (Nat.le_of_ble_eq_true rfl) (Nat.le_of_ble_eq_true rfl) (Nat.le_of_ble_eq_true rfl) (Nat.le_of_ble_eq_true rfl) dX0_init_7 rfl ?_
  refine g_newa (at_ := .byte) (ty := .byte) (t := 1) (N := 48) rfl rfl aw_byte rfl (by decide +kernel) (by decide +kernel) (by decide) (by rw [hq_len]; decide) (Nat.le_of_ble_eq_true rfl) (Nat.le_of_ble_eq_true rfl) (fun _ z => by cases z) dX0_init_10 rfl ?_
  refine g_heq (hq_push (cN_new hz (fun z => absurd z (by decide)) rfl)) (by rw [hq_len]) ?_
  replace hz := gfr_u (n1 := 122) (by decide) hz
  refine g_putF gClX0 0 (by decide) fl_X0_15 rfl rfl rfl dX0_init_12 (hq_at (by decide)) rfl rfl (Nat.le_of_ble_eq_true rfl) (hq_ms (by decide) rfl) rfl ?_
  replace hz := gfr_m (j := 120) (k := 0) (by decide) hz
  exact g_vret rfl dX0_init_15 (Nat.le_of_ble_eq_true rfl) (Nat.le_of_ble_eq_true rfl) ⟨rfl, rfl⟩
set_option maxHeartbeats 4000000 in
set_option maxRecDepth 100000 in
theorem k_X1_111 (l : Launch) (g : gE) (m : gK) (κ : Nat → Nat) (σ : gS) (ζ : gQ) (hz : gfr 112 m κ σ) : gC l g mX1_init (rmc 2 10 208 42) [.ref 111] (hq 112 m κ σ ζ) (fun r h => r = none ∧ h = hq 122 (mset (mset (mset (mset (mset (mset m 111 0) 111 1) 114 0) 116 0) 118 0) 120 0) (va_up (va_up (va_up (va_up κ 112 1) 112 2) 112 3) 112 4) (pf σ 111 2 (1 : Int32)) ζ) := by
  refine gC_of (by decide) (Nat.le_of_ble_eq_true rfl) ?_
  refine g_aload_n dX1_init_0 rfl rfl rfl ?_
  refine g_obj ml_X1_3 im_obj cd_obj (Nat.le_of_ble_eq_true rfl) (Nat.le_of_ble_eq_true rfl) dX1_init_1 rfl ?_
  refine g_aload_n dX1_init_4 rfl rfl rfl ?_
  refine g_iconst (v := 4) dX1_init_5 (by decide) rfl ?_
  refine g_newq (t := 4) (N := 4) rfl cl_X1_9 (Or.inr rfl) (by decide +kernel) (by decide +kernel) (by decide) (by rw [hq_len]; decide) (Nat.le_of_ble_eq_true rfl) (Nat.le_of_ble_eq_true rfl) dX1_init_6 rfl ?_
  have hk112 := (hz 112 (by decide)).2.1
  refine g_heq (hq_push (cN_new hz (fun z => absurd z (by decide)) rfl)) (by rw [hq_len]) ?_
  replace hz := gfr_u (n1 := 113) (by decide) hz
  refine g_putF gClX1 0 (by decide) fl_X1_11 rfl rfl rfl dX1_init_9 (hq_at (by decide)) rfl rfl (Nat.le_of_ble_eq_true rfl) (hq_ms (by decide) rfl) rfl ?_
  replace hz := gfr_m (j := 111) (k := 0) (by decide) hz
  refine g_aload_n dX1_init_12 rfl rfl rfl ?_
  refine g_iconst (v := 4) dX1_init_13 (by decide) rfl ?_
  refine g_newa (at_ := .int) (ty := .int) (t := 0) (N := 4) rfl rfl aw_int rfl (by decide +kernel) (by decide +kernel) (by decide) (by rw [hq_len]; decide) (Nat.le_of_ble_eq_true rfl) (Nat.le_of_ble_eq_true rfl) (fun _ z => by cases z) dX1_init_14 rfl ?_
  refine g_heq (hq_push (cN_new hz (fun z => absurd z (by decide)) rfl)) (by rw [hq_len]) ?_
  replace hz := gfr_u (n1 := 114) (by decide) hz
  refine g_putF gClX1 1 (by decide) fl_X1_17 rfl rfl rfl dX1_init_16 (hq_at (by decide)) rfl rfl (Nat.le_of_ble_eq_true rfl) (hq_ms (by decide) rfl) rfl ?_
  replace hz := gfr_m (j := 111) (k := 1) (by decide) hz
  refine g_aload_n dX1_init_19 rfl rfl rfl ?_
  refine g_iconst (v := 1) dX1_init_20 (by decide) rfl ?_
  refine g_put gClX1 2 (by decide) fl_X1_21 rfl dX1_init_21 (hq_at (by decide)) rfl rfl (Nat.le_of_ble_eq_true rfl) (hq_pf (by decide) rfl) rfl ?_
  replace hz := gfr_p (j := 111) (k := 2) (x := (1 : Int32)) (by decide) hz
  refine g_iconst (v := 0) dX1_init_24 (by decide) rfl ?_
  refine g_istoreL_n (L1 := [(0, _), (1, _)]) dX1_init_25 rfl (by decide) rfl rfl ?_
  refine g_iload_n dX1_init_26 rfl rfl rfl ?_
  refine g_iconst (v := 4) dX1_init_27 (by decide) rfl ?_
  refine g_icmpge (tgt := 52) dX1_init_28 (by decide) rfl (fun z => absurd z (by decide +kernel)) (fun _ => ?_)
  refine g_aload_n dX1_init_31 rfl rfl rfl ?_
  refine g_get (v := .ref 112) gClX1 0 (by decide) fl_X1_11 dX1_init_32 (hq_at (by decide)) rfl rfl ?_
  refine g_iload_n dX1_init_35 rfl rfl rfl ?_
  refine g_new (fs := [.null, .int 0]) gClX0 cl_X1_9 it_X0 in_X0 (nf_X0 g) (by rw [hq_len]; decide) (Nat.le_of_ble_eq_true rfl) (Nat.le_of_ble_eq_true rfl) dX1_init_36 rfl ?_
  refine g_heq (hq_push (cN_new hz (fun z => absurd z (by decide)) rfl)) (by rw [hq_len]) ?_
  replace hz := gfr_u (n1 := 115) (by decide) hz
  refine g_dup dX1_init_39 rfl rfl ?_
  refine g_bipush (v := 48) dX1_init_40 (by decide) rfl ?_
  refine g_calli mt_X0_init mi_X0_init rfl rfl ml_X1_25 (k_X0_114 l g _ _ _ _ hz) rfl (Nat.le_of_ble_eq_true rfl) (Nat.le_of_ble_eq_true rfl) (Nat.le_of_ble_eq_true rfl) (Nat.le_of_ble_eq_true rfl) rfl (Nat.le_of_ble_eq_true rfl) dX1_init_42 rfl (fun r h p => ?_)
  obtain ⟨rfl, rfl⟩ := p
  replace hz := gfr_u (n1 := 116) (by decide) hz
  replace hz := gfr_m (j := 114) (k := 0) (by decide) hz
  refine g_aast4 (hq_at (by decide)) (hq_at (by decide)) rfl (vinc (by decide +kernel)) (hq_aR (c := 8) (i := 0) (by decide) (by decide) (by decide +kernel) hk112 rfl) dX1_init_45 rfl ?_
  replace hz := gfr_k (j := 112) (v := 1) (by decide) hz
  refine g_iincL (L1 := [(0, _), (1, _)]) dX1_init_46 rfl (by decide) rfl rfl ?_
  refine g_goto (tgt := 26) dX1_init_49 (by decide) ?_
  refine g_iload_n dX1_init_26 rfl rfl rfl ?_
  refine g_iconst (v := 4) dX1_init_27 (by decide) rfl ?_
  refine g_icmpge (tgt := 52) dX1_init_28 (by decide) rfl (fun z => absurd z (by decide +kernel)) (fun _ => ?_)
  refine g_aload_n dX1_init_31 rfl rfl rfl ?_
  refine g_get (v := .ref 112) gClX1 0 (by decide) fl_X1_11 dX1_init_32 (hq_at (by decide)) rfl rfl ?_
  refine g_iload_n dX1_init_35 rfl rfl rfl ?_
  refine g_new (fs := [.null, .int 0]) gClX0 cl_X1_9 it_X0 in_X0 (nf_X0 g) (by rw [hq_len]; decide) (Nat.le_of_ble_eq_true rfl) (Nat.le_of_ble_eq_true rfl) dX1_init_36 rfl ?_
  refine g_heq (hq_push (cN_new hz (fun z => absurd z (by decide)) rfl)) (by rw [hq_len]) ?_
  replace hz := gfr_u (n1 := 117) (by decide) hz
  refine g_dup dX1_init_39 rfl rfl ?_
  refine g_bipush (v := 48) dX1_init_40 (by decide) rfl ?_
  refine g_calli mt_X0_init mi_X0_init rfl rfl ml_X1_25 (k_X0_116 l g _ _ _ _ hz) rfl (Nat.le_of_ble_eq_true rfl) (Nat.le_of_ble_eq_true rfl) (Nat.le_of_ble_eq_true rfl) (Nat.le_of_ble_eq_true rfl) rfl (Nat.le_of_ble_eq_true rfl) dX1_init_42 rfl (fun r h p => ?_)
  obtain ⟨rfl, rfl⟩ := p
  replace hz := gfr_u (n1 := 118) (by decide) hz
  replace hz := gfr_m (j := 116) (k := 0) (by decide) hz
  refine g_aast4 (hq_at (by decide)) (hq_at (by decide)) rfl (vinc (by decide +kernel)) (hq_aR (c := 8) (i := 1) (by decide) (by decide) (by decide +kernel) rfl rfl) dX1_init_45 rfl ?_
  replace hz := gfr_k (j := 112) (v := 2) (by decide) hz
  refine g_iincL (L1 := [(0, _), (1, _)]) dX1_init_46 rfl (by decide) rfl rfl ?_
  refine g_goto (tgt := 26) dX1_init_49 (by decide) ?_
  refine g_iload_n dX1_init_26 rfl rfl rfl ?_
  refine g_iconst (v := 4) dX1_init_27 (by decide) rfl ?_
  refine g_icmpge (tgt := 52) dX1_init_28 (by decide) rfl (fun z => absurd z (by decide +kernel)) (fun _ => ?_)
  refine g_aload_n dX1_init_31 rfl rfl rfl ?_
  refine g_get (v := .ref 112) gClX1 0 (by decide) fl_X1_11 dX1_init_32 (hq_at (by decide)) rfl rfl ?_
  refine g_iload_n dX1_init_35 rfl rfl rfl ?_
  refine g_new (fs := [.null, .int 0]) gClX0 cl_X1_9 it_X0 in_X0 (nf_X0 g) (by rw [hq_len]; decide) (Nat.le_of_ble_eq_true rfl) (Nat.le_of_ble_eq_true rfl) dX1_init_36 rfl ?_
  refine g_heq (hq_push (cN_new hz (fun z => absurd z (by decide)) rfl)) (by rw [hq_len]) ?_
  replace hz := gfr_u (n1 := 119) (by decide) hz
  refine g_dup dX1_init_39 rfl rfl ?_
  refine g_bipush (v := 48) dX1_init_40 (by decide) rfl ?_
  refine g_calli mt_X0_init mi_X0_init rfl rfl ml_X1_25 (k_X0_118 l g _ _ _ _ hz) rfl (Nat.le_of_ble_eq_true rfl) (Nat.le_of_ble_eq_true rfl) (Nat.le_of_ble_eq_true rfl) (Nat.le_of_ble_eq_true rfl) rfl (Nat.le_of_ble_eq_true rfl) dX1_init_42 rfl (fun r h p => ?_)
  obtain ⟨rfl, rfl⟩ := p
  replace hz := gfr_u (n1 := 120) (by decide) hz
  replace hz := gfr_m (j := 118) (k := 0) (by decide) hz
  refine g_aast4 (hq_at (by decide)) (hq_at (by decide)) rfl (vinc (by decide +kernel)) (hq_aR (c := 8) (i := 2) (by decide) (by decide) (by decide +kernel) rfl rfl) dX1_init_45 rfl ?_
  replace hz := gfr_k (j := 112) (v := 3) (by decide) hz
  refine g_iincL (L1 := [(0, _), (1, _)]) dX1_init_46 rfl (by decide) rfl rfl ?_
  refine g_goto (tgt := 26) dX1_init_49 (by decide) ?_
  refine g_iload_n dX1_init_26 rfl rfl rfl ?_
  refine g_iconst (v := 4) dX1_init_27 (by decide) rfl ?_
  refine g_icmpge (tgt := 52) dX1_init_28 (by decide) rfl (fun z => absurd z (by decide +kernel)) (fun _ => ?_)
  refine g_aload_n dX1_init_31 rfl rfl rfl ?_
  refine g_get (v := .ref 112) gClX1 0 (by decide) fl_X1_11 dX1_init_32 (hq_at (by decide)) rfl rfl ?_
  refine g_iload_n dX1_init_35 rfl rfl rfl ?_
  refine g_new (fs := [.null, .int 0]) gClX0 cl_X1_9 it_X0 in_X0 (nf_X0 g) (by rw [hq_len]; decide) (Nat.le_of_ble_eq_true rfl) (Nat.le_of_ble_eq_true rfl) dX1_init_36 rfl ?_
  refine g_heq (hq_push (cN_new hz (fun z => absurd z (by decide)) rfl)) (by rw [hq_len]) ?_
  replace hz := gfr_u (n1 := 121) (by decide) hz
  refine g_dup dX1_init_39 rfl rfl ?_
  refine g_bipush (v := 48) dX1_init_40 (by decide) rfl ?_
  refine g_calli mt_X0_init mi_X0_init rfl rfl ml_X1_25 (k_X0_120 l g _ _ _ _ hz) rfl (Nat.le_of_ble_eq_true rfl) (Nat.le_of_ble_eq_true rfl) (Nat.le_of_ble_eq_true rfl) (Nat.le_of_ble_eq_true rfl) rfl (Nat.le_of_ble_eq_true rfl) dX1_init_42 rfl (fun r h p => ?_)
  obtain ⟨rfl, rfl⟩ := p
  replace hz := gfr_u (n1 := 122) (by decide) hz
  replace hz := gfr_m (j := 120) (k := 0) (by decide) hz
  refine g_aast4 (hq_at (by decide)) (hq_at (by decide)) rfl (vinc (by decide +kernel)) (hq_aR (c := 8) (i := 3) (by decide) (by decide) (by decide +kernel) rfl rfl) dX1_init_45 rfl ?_
  replace hz := gfr_k (j := 112) (v := 4) (by decide) hz
  refine g_iincL (L1 := [(0, _), (1, _)]) dX1_init_46 rfl (by decide) rfl rfl ?_
  refine g_goto (tgt := 26) dX1_init_49 (by decide) ?_
  refine g_iload_n dX1_init_26 rfl rfl rfl ?_
  refine g_iconst (v := 4) dX1_init_27 (by decide) rfl ?_
  refine g_icmpge (tgt := 52) dX1_init_28 (by decide) rfl (fun _ => ?_) (fun z => absurd z (by decide +kernel))
  exact g_vret rfl dX1_init_52 (Nat.le_of_ble_eq_true rfl) (Nat.le_of_ble_eq_true rfl) ⟨rfl, rfl⟩
set_option maxHeartbeats 4000000 in
set_option maxRecDepth 100000 in
theorem k_X0_125 (l : Launch) (g : gE) (m : gK) (κ : Nat → Nat) (σ : gS) (ζ : gQ) (hz : gfr 126 m κ σ) : gC l g mX0_init (rmc 1 1 48 21) [.ref 125, .int 48] (hq 126 m κ σ ζ) (fun r h => r = none ∧ h = hq 127 (mset m 125 0) κ σ ζ) := by
  refine gC_of (by decide) (Nat.le_of_ble_eq_true rfl) ?_
  refine g_aload_n dX0_init_0 rfl rfl rfl ?_
  refine g_obj ml_X0_3 im_obj cd_obj (Nat.le_of_ble_eq_true rfl) (Nat.le_of_ble_eq_true rfl) dX0_init_1 rfl ?_
  refine g_aload_n dX0_init_4 rfl rfl rfl ?_
  refine g_iload_n dX0_init_5 rfl rfl rfl ?_
  refine g_iconst (v := 0) dX0_init_6 (by decide) rfl ?_
  refine g_max ml_X0_9 st_max in_Math cd_max (Nat.le_of_ble_eq_true rfl) (Nat.le_of_ble_eq_true rfl) (Nat.le_of_ble_eq_true rfl) (Nat.le_of_ble_eq_true rfl) dX0_init_7 rfl ?_
  refine g_newa (at_ := .byte) (ty := .byte) (t := 1) (N := 48) rfl rfl aw_byte rfl (by decide +kernel) (by decide +kernel) (by decide) (by rw [hq_len]; decide) (Nat.le_of_ble_eq_true rfl) (Nat.le_of_ble_eq_true rfl) (fun _ z => by cases z) dX0_init_10 rfl ?_
  refine g_heq (hq_push (cN_new hz (fun z => absurd z (by decide)) rfl)) (by rw [hq_len]) ?_
  replace hz := gfr_u (n1 := 127) (by decide) hz
  refine g_putF gClX0 0 (by decide) fl_X0_15 rfl rfl rfl dX0_init_12 (hq_at (by decide)) rfl rfl (Nat.le_of_ble_eq_true rfl) (hq_ms (by decide) rfl) rfl ?_
  replace hz := gfr_m (j := 125) (k := 0) (by decide) hz
  exact g_vret rfl dX0_init_15 (Nat.le_of_ble_eq_true rfl) (Nat.le_of_ble_eq_true rfl) ⟨rfl, rfl⟩
set_option maxHeartbeats 4000000 in
set_option maxRecDepth 100000 in
theorem k_X0_127 (l : Launch) (g : gE) (m : gK) (κ : Nat → Nat) (σ : gS) (ζ : gQ) (hz : gfr 128 m κ σ) : gC l g mX0_init (rmc 1 1 48 21) [.ref 127, .int 48] (hq 128 m κ σ ζ) (fun r h => r = none ∧ h = hq 129 (mset m 127 0) κ σ ζ) := by
  refine gC_of (by decide) (Nat.le_of_ble_eq_true rfl) ?_
  refine g_aload_n dX0_init_0 rfl rfl rfl ?_
  refine g_obj ml_X0_3 im_obj cd_obj (Nat.le_of_ble_eq_true rfl) (Nat.le_of_ble_eq_true rfl) dX0_init_1 rfl ?_
  refine g_aload_n dX0_init_4 rfl rfl rfl ?_
  refine g_iload_n dX0_init_5 rfl rfl rfl ?_
  refine g_iconst (v := 0) dX0_init_6 (by decide) rfl ?_
  refine g_max ml_X0_9 st_max in_Math cd_max (Nat.le_of_ble_eq_true rfl) (Nat.le_of_ble_eq_true rfl) (Nat.le_of_ble_eq_true rfl) (Nat.le_of_ble_eq_true rfl) dX0_init_7 rfl ?_
  refine g_newa (at_ := .byte) (ty := .byte) (t := 1) (N := 48) rfl rfl aw_byte rfl (by decide +kernel) (by decide +kernel) (by decide) (by rw [hq_len]; decide) (Nat.le_of_ble_eq_true rfl) (Nat.le_of_ble_eq_true rfl) (fun _ z => by cases z) dX0_init_10 rfl ?_
  refine g_heq (hq_push (cN_new hz (fun z => absurd z (by decide)) rfl)) (by rw [hq_len]) ?_
  replace hz := gfr_u (n1 := 129) (by decide) hz
  refine g_putF gClX0 0 (by decide) fl_X0_15 rfl rfl rfl dX0_init_12 (hq_at (by decide)) rfl rfl (Nat.le_of_ble_eq_true rfl) (hq_ms (by decide) rfl) rfl ?_
  replace hz := gfr_m (j := 127) (k := 0) (by decide) hz
  exact g_vret rfl dX0_init_15 (Nat.le_of_ble_eq_true rfl) (Nat.le_of_ble_eq_true rfl) ⟨rfl, rfl⟩
set_option maxHeartbeats 4000000 in
set_option maxRecDepth 100000 in
theorem k_X0_129 (l : Launch) (g : gE) (m : gK) (κ : Nat → Nat) (σ : gS) (ζ : gQ) (hz : gfr 130 m κ σ) : gC l g mX0_init (rmc 1 1 48 21) [.ref 129, .int 48] (hq 130 m κ σ ζ) (fun r h => r = none ∧ h = hq 131 (mset m 129 0) κ σ ζ) := by
  refine gC_of (by decide) (Nat.le_of_ble_eq_true rfl) ?_
  refine g_aload_n dX0_init_0 rfl rfl rfl ?_
  refine g_obj ml_X0_3 im_obj cd_obj (Nat.le_of_ble_eq_true rfl) (Nat.le_of_ble_eq_true rfl) dX0_init_1 rfl ?_
  refine g_aload_n dX0_init_4 rfl rfl rfl ?_
  refine g_iload_n dX0_init_5 rfl rfl rfl ?_
  refine g_iconst (v := 0) dX0_init_6 (by decide) rfl ?_
  refine g_max ml_X0_9 st_max in_Math cd_max (Nat.le_of_ble_eq_true rfl) (Nat.le_of_ble_eq_true rfl) (Nat.le_of_ble_eq_true rfl) (Nat.le_of_ble_eq_true rfl) dX0_init_7 rfl ?_
  refine g_newa (at_ := .byte) (ty := .byte) (t := 1) (N := 48) rfl rfl aw_byte rfl (by decide +kernel) (by decide +kernel) (by decide) (by rw [hq_len]; decide) (Nat.le_of_ble_eq_true rfl) (Nat.le_of_ble_eq_true rfl) (fun _ z => by cases z) dX0_init_10 rfl ?_
  refine g_heq (hq_push (cN_new hz (fun z => absurd z (by decide)) rfl)) (by rw [hq_len]) ?_
  replace hz := gfr_u (n1 := 131) (by decide) hz
  refine g_putF gClX0 0 (by decide) fl_X0_15 rfl rfl rfl dX0_init_12 (hq_at (by decide)) rfl rfl (Nat.le_of_ble_eq_true rfl) (hq_ms (by decide) rfl) rfl ?_
  replace hz := gfr_m (j := 129) (k := 0) (by decide) hz
  exact g_vret rfl dX0_init_15 (Nat.le_of_ble_eq_true rfl) (Nat.le_of_ble_eq_true rfl) ⟨rfl, rfl⟩
set_option maxHeartbeats 4000000 in
set_option maxRecDepth 100000 in
theorem k_X0_131 (l : Launch) (g : gE) (m : gK) (κ : Nat → Nat) (σ : gS) (ζ : gQ) (hz : gfr 132 m κ σ) : gC l g mX0_init (rmc 1 1 48 21) [.ref 131, .int 48] (hq 132 m κ σ ζ) (fun r h => r = none ∧ h = hq 133 (mset m 131 0) κ σ ζ) := by
  refine gC_of (by decide) (Nat.le_of_ble_eq_true rfl) ?_
  refine g_aload_n dX0_init_0 rfl rfl rfl ?_
  refine g_obj ml_X0_3 im_obj cd_obj (Nat.le_of_ble_eq_true rfl) (Nat.le_of_ble_eq_true rfl) dX0_init_1 rfl ?_
  refine g_aload_n dX0_init_4 rfl rfl rfl ?_
  refine g_iload_n dX0_init_5 rfl rfl rfl ?_
  refine g_iconst (v := 0) dX0_init_6 (by decide) rfl ?_
  refine g_max ml_X0_9 st_max in_Math cd_max (Nat.le_of_ble_eq_true rfl) (Nat.le_of_ble_eq_true rfl) (Nat.le_of_ble_eq_true rfl) (Nat.le_of_ble_eq_true rfl) dX0_init_7 rfl ?_
  refine g_newa (at_ := .byte) (ty := .byte) (t := 1) (N := 48) rfl rfl aw_byte rfl (by decide +kernel) (by decide +kernel) (by decide) (by rw [hq_len]; decide) (Nat.le_of_ble_eq_true rfl) (Nat.le_of_ble_eq_true rfl) (fun _ z => by cases z) dX0_init_10 rfl ?_
  refine g_heq (hq_push (cN_new hz (fun z => absurd z (by decide)) rfl)) (by rw [hq_len]) ?_
  replace hz := gfr_u (n1 := 133) (by decide) hz
  refine g_putF gClX0 0 (by decide) fl_X0_15 rfl rfl rfl dX0_init_12 (hq_at (by decide)) rfl rfl (Nat.le_of_ble_eq_true rfl) (hq_ms (by decide) rfl) rfl ?_
  replace hz := gfr_m (j := 131) (k := 0) (by decide) hz
  exact g_vret rfl dX0_init_15 (Nat.le_of_ble_eq_true rfl) (Nat.le_of_ble_eq_true rfl) ⟨rfl, rfl⟩
set_option maxHeartbeats 4000000 in
set_option maxRecDepth 100000 in
theorem k_X1_122 (l : Launch) (g : gE) (m : gK) (κ : Nat → Nat) (σ : gS) (ζ : gQ) (hz : gfr 123 m κ σ) : gC l g mX1_init (rmc 2 10 208 42) [.ref 122] (hq 123 m κ σ ζ) (fun r h => r = none ∧ h = hq 133 (mset (mset (mset (mset (mset (mset m 122 0) 122 1) 125 0) 127 0) 129 0) 131 0) (va_up (va_up (va_up (va_up κ 123 1) 123 2) 123 3) 123 4) (pf σ 122 2 (1 : Int32)) ζ) := by
  refine gC_of (by decide) (Nat.le_of_ble_eq_true rfl) ?_
  refine g_aload_n dX1_init_0 rfl rfl rfl ?_
  refine g_obj ml_X1_3 im_obj cd_obj (Nat.le_of_ble_eq_true rfl) (Nat.le_of_ble_eq_true rfl) dX1_init_1 rfl ?_
  refine g_aload_n dX1_init_4 rfl rfl rfl ?_
  refine g_iconst (v := 4) dX1_init_5 (by decide) rfl ?_
  refine g_newq (t := 4) (N := 4) rfl cl_X1_9 (Or.inr rfl) (by decide +kernel) (by decide +kernel) (by decide) (by rw [hq_len]; decide) (Nat.le_of_ble_eq_true rfl) (Nat.le_of_ble_eq_true rfl) dX1_init_6 rfl ?_
  have hk123 := (hz 123 (by decide)).2.1
  refine g_heq (hq_push (cN_new hz (fun z => absurd z (by decide)) rfl)) (by rw [hq_len]) ?_
  replace hz := gfr_u (n1 := 124) (by decide) hz
  refine g_putF gClX1 0 (by decide) fl_X1_11 rfl rfl rfl dX1_init_9 (hq_at (by decide)) rfl rfl (Nat.le_of_ble_eq_true rfl) (hq_ms (by decide) rfl) rfl ?_
  replace hz := gfr_m (j := 122) (k := 0) (by decide) hz
  refine g_aload_n dX1_init_12 rfl rfl rfl ?_
  refine g_iconst (v := 4) dX1_init_13 (by decide) rfl ?_
  refine g_newa (at_ := .int) (ty := .int) (t := 0) (N := 4) rfl rfl aw_int rfl (by decide +kernel) (by decide +kernel) (by decide) (by rw [hq_len]; decide) (Nat.le_of_ble_eq_true rfl) (Nat.le_of_ble_eq_true rfl) (fun _ z => by cases z) dX1_init_14 rfl ?_
  refine g_heq (hq_push (cN_new hz (fun z => absurd z (by decide)) rfl)) (by rw [hq_len]) ?_
  replace hz := gfr_u (n1 := 125) (by decide) hz
  refine g_putF gClX1 1 (by decide) fl_X1_17 rfl rfl rfl dX1_init_16 (hq_at (by decide)) rfl rfl (Nat.le_of_ble_eq_true rfl) (hq_ms (by decide) rfl) rfl ?_
  replace hz := gfr_m (j := 122) (k := 1) (by decide) hz
  refine g_aload_n dX1_init_19 rfl rfl rfl ?_
  refine g_iconst (v := 1) dX1_init_20 (by decide) rfl ?_
  refine g_put gClX1 2 (by decide) fl_X1_21 rfl dX1_init_21 (hq_at (by decide)) rfl rfl (Nat.le_of_ble_eq_true rfl) (hq_pf (by decide) rfl) rfl ?_
  replace hz := gfr_p (j := 122) (k := 2) (x := (1 : Int32)) (by decide) hz
  refine g_iconst (v := 0) dX1_init_24 (by decide) rfl ?_
  refine g_istoreL_n (L1 := [(0, _), (1, _)]) dX1_init_25 rfl (by decide) rfl rfl ?_
  refine g_iload_n dX1_init_26 rfl rfl rfl ?_
  refine g_iconst (v := 4) dX1_init_27 (by decide) rfl ?_
  refine g_icmpge (tgt := 52) dX1_init_28 (by decide) rfl (fun z => absurd z (by decide +kernel)) (fun _ => ?_)
  refine g_aload_n dX1_init_31 rfl rfl rfl ?_
  refine g_get (v := .ref 123) gClX1 0 (by decide) fl_X1_11 dX1_init_32 (hq_at (by decide)) rfl rfl ?_
  refine g_iload_n dX1_init_35 rfl rfl rfl ?_
  refine g_new (fs := [.null, .int 0]) gClX0 cl_X1_9 it_X0 in_X0 (nf_X0 g) (by rw [hq_len]; decide) (Nat.le_of_ble_eq_true rfl) (Nat.le_of_ble_eq_true rfl) dX1_init_36 rfl ?_
  refine g_heq (hq_push (cN_new hz (fun z => absurd z (by decide)) rfl)) (by rw [hq_len]) ?_
  replace hz := gfr_u (n1 := 126) (by decide) hz
  refine g_dup dX1_init_39 rfl rfl ?_
  refine g_bipush (v := 48) dX1_init_40 (by decide) rfl ?_
  refine g_calli mt_X0_init mi_X0_init rfl rfl ml_X1_25 (k_X0_125 l g _ _ _ _ hz) rfl (Nat.le_of_ble_eq_true rfl) (Nat.le_of_ble_eq_true rfl) (Nat.le_of_ble_eq_true rfl) (Nat.le_of_ble_eq_true rfl) rfl (Nat.le_of_ble_eq_true rfl) dX1_init_42 rfl (fun r h p => ?_)
  obtain ⟨rfl, rfl⟩ := p
  replace hz := gfr_u (n1 := 127) (by decide) hz
  replace hz := gfr_m (j := 125) (k := 0) (by decide) hz
  refine g_aast4 (hq_at (by decide)) (hq_at (by decide)) rfl (vinc (by decide +kernel)) (hq_aR (c := 9) (i := 0) (by decide) (by decide) (by decide +kernel) hk123 rfl) dX1_init_45 rfl ?_
  replace hz := gfr_k (j := 123) (v := 1) (by decide) hz
  refine g_iincL (L1 := [(0, _), (1, _)]) dX1_init_46 rfl (by decide) rfl rfl ?_
  refine g_goto (tgt := 26) dX1_init_49 (by decide) ?_
  refine g_iload_n dX1_init_26 rfl rfl rfl ?_
  refine g_iconst (v := 4) dX1_init_27 (by decide) rfl ?_
  refine g_icmpge (tgt := 52) dX1_init_28 (by decide) rfl (fun z => absurd z (by decide +kernel)) (fun _ => ?_)
  refine g_aload_n dX1_init_31 rfl rfl rfl ?_
  refine g_get (v := .ref 123) gClX1 0 (by decide) fl_X1_11 dX1_init_32 (hq_at (by decide)) rfl rfl ?_
  refine g_iload_n dX1_init_35 rfl rfl rfl ?_
  refine g_new (fs := [.null, .int 0]) gClX0 cl_X1_9 it_X0 in_X0 (nf_X0 g) (by rw [hq_len]; decide) (Nat.le_of_ble_eq_true rfl) (Nat.le_of_ble_eq_true rfl) dX1_init_36 rfl ?_
  refine g_heq (hq_push (cN_new hz (fun z => absurd z (by decide)) rfl)) (by rw [hq_len]) ?_
  replace hz := gfr_u (n1 := 128) (by decide) hz
  refine g_dup dX1_init_39 rfl rfl ?_
  refine g_bipush (v := 48) dX1_init_40 (by decide) rfl ?_
  refine g_calli mt_X0_init mi_X0_init rfl rfl ml_X1_25 (k_X0_127 l g _ _ _ _ hz) rfl (Nat.le_of_ble_eq_true rfl) (Nat.le_of_ble_eq_true rfl) (Nat.le_of_ble_eq_true rfl) (Nat.le_of_ble_eq_true rfl) rfl (Nat.le_of_ble_eq_true rfl) dX1_init_42 rfl (fun r h p => ?_)
  obtain ⟨rfl, rfl⟩ := p
  replace hz := gfr_u (n1 := 129) (by decide) hz
  replace hz := gfr_m (j := 127) (k := 0) (by decide) hz
  refine g_aast4 (hq_at (by decide)) (hq_at (by decide)) rfl (vinc (by decide +kernel)) (hq_aR (c := 9) (i := 1) (by decide) (by decide) (by decide +kernel) rfl rfl) dX1_init_45 rfl ?_
  replace hz := gfr_k (j := 123) (v := 2) (by decide) hz
  refine g_iincL (L1 := [(0, _), (1, _)]) dX1_init_46 rfl (by decide) rfl rfl ?_
  refine g_goto (tgt := 26) dX1_init_49 (by decide) ?_
  refine g_iload_n dX1_init_26 rfl rfl rfl ?_
  refine g_iconst (v := 4) dX1_init_27 (by decide) rfl ?_
  refine g_icmpge (tgt := 52) dX1_init_28 (by decide) rfl (fun z => absurd z (by decide +kernel)) (fun _ => ?_)
  refine g_aload_n dX1_init_31 rfl rfl rfl ?_
  refine g_get (v := .ref 123) gClX1 0 (by decide) fl_X1_11 dX1_init_32 (hq_at (by decide)) rfl rfl ?_
  refine g_iload_n dX1_init_35 rfl rfl rfl ?_
  refine g_new (fs := [.null, .int 0]) gClX0 cl_X1_9 it_X0 in_X0 (nf_X0 g) (by rw [hq_len]; decide) (Nat.le_of_ble_eq_true rfl) (Nat.le_of_ble_eq_true rfl) dX1_init_36 rfl ?_
  refine g_heq (hq_push (cN_new hz (fun z => absurd z (by decide)) rfl)) (by rw [hq_len]) ?_
  replace hz := gfr_u (n1 := 130) (by decide) hz
  refine g_dup dX1_init_39 rfl rfl ?_
  refine g_bipush (v := 48) dX1_init_40 (by decide) rfl ?_
  refine g_calli mt_X0_init mi_X0_init rfl rfl ml_X1_25 (k_X0_129 l g _ _ _ _ hz) rfl (Nat.le_of_ble_eq_true rfl) (Nat.le_of_ble_eq_true rfl) (Nat.le_of_ble_eq_true rfl) (Nat.le_of_ble_eq_true rfl) rfl (Nat.le_of_ble_eq_true rfl) dX1_init_42 rfl (fun r h p => ?_)
  obtain ⟨rfl, rfl⟩ := p
  replace hz := gfr_u (n1 := 131) (by decide) hz
  replace hz := gfr_m (j := 129) (k := 0) (by decide) hz
  refine g_aast4 (hq_at (by decide)) (hq_at (by decide)) rfl (vinc (by decide +kernel)) (hq_aR (c := 9) (i := 2) (by decide) (by decide) (by decide +kernel) rfl rfl) dX1_init_45 rfl ?_
  replace hz := gfr_k (j := 123) (v := 3) (by decide) hz
  refine g_iincL (L1 := [(0, _), (1, _)]) dX1_init_46 rfl (by decide) rfl rfl ?_
  refine g_goto (tgt := 26) dX1_init_49 (by decide) ?_
  refine g_iload_n dX1_init_26 rfl rfl rfl ?_
  refine g_iconst (v := 4) dX1_init_27 (by decide) rfl ?_
  refine g_icmpge (tgt := 52) dX1_init_28 (by decide) rfl (fun z => absurd z (by decide +kernel)) (fun _ => ?_)
  refine g_aload_n dX1_init_31 rfl rfl rfl ?_
  refine g_get (v := .ref 123) gClX1 0 (by decide) fl_X1_11 dX1_init_32 (hq_at (by decide)) rfl rfl ?_
  refine g_iload_n dX1_init_35 rfl rfl rfl ?_
  refine g_new (fs := [.null, .int 0]) gClX0 cl_X1_9 it_X0 in_X0 (nf_X0 g) (by rw [hq_len]; decide) (Nat.le_of_ble_eq_true rfl) (Nat.le_of_ble_eq_true rfl) dX1_init_36 rfl ?_
  refine g_heq (hq_push (cN_new hz (fun z => absurd z (by decide)) rfl)) (by rw [hq_len]) ?_
  replace hz := gfr_u (n1 := 132) (by decide) hz
  refine g_dup dX1_init_39 rfl rfl ?_
  refine g_bipush (v := 48) dX1_init_40 (by decide) rfl ?_
  refine g_calli mt_X0_init mi_X0_init rfl rfl ml_X1_25 (k_X0_131 l g _ _ _ _ hz) rfl (Nat.le_of_ble_eq_true rfl) (Nat.le_of_ble_eq_true rfl) (Nat.le_of_ble_eq_true rfl) (Nat.le_of_ble_eq_true rfl) rfl (Nat.le_of_ble_eq_true rfl) dX1_init_42 rfl (fun r h p => ?_)
  obtain ⟨rfl, rfl⟩ := p
  replace hz := gfr_u (n1 := 133) (by decide) hz
  replace hz := gfr_m (j := 131) (k := 0) (by decide) hz
  refine g_aast4 (hq_at (by decide)) (hq_at (by decide)) rfl (vinc (by decide +kernel)) (hq_aR (c := 9) (i := 3) (by decide) (by decide) (by decide +kernel) rfl rfl) dX1_init_45 rfl ?_
  replace hz := gfr_k (j := 123) (v := 4) (by decide) hz
  refine g_iincL (L1 := [(0, _), (1, _)]) dX1_init_46 rfl (by decide) rfl rfl ?_
  refine g_goto (tgt := 26) dX1_init_49 (by decide) ?_
  refine g_iload_n dX1_init_26 rfl rfl rfl ?_
  refine g_iconst (v := 4) dX1_init_27 (by decide) rfl ?_
  refine g_icmpge (tgt := 52) dX1_init_28 (by decide) rfl (fun _ => ?_) (fun z => absurd z (by decide +kernel))
  exact g_vret rfl dX1_init_52 (Nat.le_of_ble_eq_true rfl) (Nat.le_of_ble_eq_true rfl) ⟨rfl, rfl⟩
set_option maxHeartbeats 4000000 in
set_option maxRecDepth 100000 in
theorem k_X0_136 (l : Launch) (g : gE) (m : gK) (κ : Nat → Nat) (σ : gS) (ζ : gQ) (hz : gfr 137 m κ σ) : gC l g mX0_init (rmc 1 1 48 21) [.ref 136, .int 48] (hq 137 m κ σ ζ) (fun r h => r = none ∧ h = hq 138 (mset m 136 0) κ σ ζ) := by
  refine gC_of (by decide) (Nat.le_of_ble_eq_true rfl) ?_
  refine g_aload_n dX0_init_0 rfl rfl rfl ?_
  refine g_obj ml_X0_3 im_obj cd_obj (Nat.le_of_ble_eq_true rfl) (Nat.le_of_ble_eq_true rfl) dX0_init_1 rfl ?_
  refine g_aload_n dX0_init_4 rfl rfl rfl ?_
  refine g_iload_n dX0_init_5 rfl rfl rfl ?_
  refine g_iconst (v := 0) dX0_init_6 (by decide) rfl ?_
  refine g_max ml_X0_9 st_max in_Math cd_max (Nat.le_of_ble_eq_true rfl) (Nat.le_of_ble_eq_true rfl) (Nat.le_of_ble_eq_true rfl) (Nat.le_of_ble_eq_true rfl) dX0_init_7 rfl ?_
  refine g_newa (at_ := .byte) (ty := .byte) (t := 1) (N := 48) rfl rfl aw_byte rfl (by decide +kernel) (by decide +kernel) (by decide) (by rw [hq_len]; decide) (Nat.le_of_ble_eq_true rfl) (Nat.le_of_ble_eq_true rfl) (fun _ z => by cases z) dX0_init_10 rfl ?_
  refine g_heq (hq_push (cN_new hz (fun z => absurd z (by decide)) rfl)) (by rw [hq_len]) ?_
  replace hz := gfr_u (n1 := 138) (by decide) hz
  refine g_putF gClX0 0 (by decide) fl_X0_15 rfl rfl rfl dX0_init_12 (hq_at (by decide)) rfl rfl (Nat.le_of_ble_eq_true rfl) (hq_ms (by decide) rfl) rfl ?_
  replace hz := gfr_m (j := 136) (k := 0) (by decide) hz
  exact g_vret rfl dX0_init_15 (Nat.le_of_ble_eq_true rfl) (Nat.le_of_ble_eq_true rfl) ⟨rfl, rfl⟩
