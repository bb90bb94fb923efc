/-! constructors: by program -/
set_option maxHeartbeats 4000000 in
set_option maxRecDepth 100000 in
theorem k_X0_138 (l : Launch) (g : gE) (m : gK) (κ : Nat → Nat) (σ : gS) (ζ : gQ) (hz : gfr 139 m κ σ) : gC l g mX0_init (rmc 1 1 48 21) [.ref 138, .int 48] (hq 139 m κ σ ζ) (fun r h => r = none ∧ h = hq 140 (mset m 138 0) κ σ ζ) := by
  refine gC_of (by decide) (Nat.le_of_ble_eq_true rfl) ?_
  refine g_aload_n dX0_init_0 rfl rfl rfl ?_
  refine g_obj ml_X0_3 im_obj cd_obj (Nat.le_of_ble_eq_true rfl) (Nat.le_of_ble_eq_true rfl) dX0_init_1 rfl ?_
  refine g_aload_n dX0_init_4 rfl rfl rfl ?_
  refine g_iload_n dX0_init_5 rfl rfl rfl ?_
  refine g_iconst (v := 0) dX0_init_6 (by decide) rfl ?_
  refine g_max ml_X0_9 st_max in_Math cd_max (Nat.le_of_ble_eq_true rfl) (Nat.le_of_ble_eq_true rfl) (Nat.le_of_ble_eq_true rfl) (Nat.le_of_ble_eq_true rfl) dX0_init_7 rfl ?_
  refine g_newa (at_ := .byte) (ty := .byte) (t := 1) (N := 48) rfl rfl aw_byte rfl (by decide +kernel) (by decide +kernel) (by decide) (by rw [hq_len]; decide) (Nat.le_of_ble_eq_true rfl) (Nat.le_of_ble_eq_true rfl) (fun _ z => by cases z) dX0_init_10 rfl ?_
  refine g_heq (hq_push (cN_new hz (fun z => absurd z (by decide)) rfl)) (by rw [hq_len]) ?_
  replace hz := gfr_u (n1 := 140) (by decide) hz
  refine g_putF gClX0 0 (by decide) fl_X0_15 rfl rfl rfl dX0_init_12 (hq_at (by decide)) rfl rfl (Nat.le_of_ble_eq_true rfl) (hq_ms (by decide) rfl) rfl ?_
  replace hz := gfr_m (j := 138) (k := 0) (by decide) hz
  exact g_vret rfl dX0_init_15 (Nat.le_of_ble_eq_true rfl) (Nat.le_of_ble_eq_true rfl) ⟨rfl, rfl⟩
set_option maxHeartbeats 4000000 in
set_option maxRecDepth 100000 in
theorem k_X0_140 (l : Launch) (g : gE) (m : gK) (κ : Nat → Nat) (σ : gS) (ζ : gQ) (hz : gfr 141 m κ σ) : gC l g mX0_init (rmc 1 1 48 21) [.ref 140, .int 48] (hq 141 m κ σ ζ) (fun r h => r = none ∧ h = hq 142 (mset m 140 0) κ σ ζ) := by
  refine gC_of (by decide) (Nat.le_of_ble_eq_true rfl) ?_
  refine g_aload_n dX0_init_0 rfl rfl rfl ?_
  refine g_obj ml_X0_3 im_obj cd_obj (Nat.le_of_ble_eq_true rfl) (Nat.le_of_ble_eq_true rfl) dX0_init_1 rfl ?_
  refine g_aload_n dX0_init_4 rfl rfl rfl ?_
  refine g_iload_n dX0_init_5 rfl rfl rfl ?_
  refine g_iconst (v := 0) dX0_init_6 (by decide) rfl ?_
  refine g_max ml_X0_9 st_max in_Math cd_max (Nat.le_of_ble_eq_true rfl) (Nat.le_of_ble_eq_true rfl) (Nat.le_of_ble_eq_true rfl) (Nat.le_of_ble_eq_true rfl) dX0_init_7 rfl ?_
  refine g_newa (at_ := .byte) (ty := .byte) (t := 1) (N := 48) rfl rfl aw_byte rfl (by decide +kernel) (by decide +kernel) (by decide) (by rw [hq_len]; decide) (Nat.le_of_ble_eq_true rfl) (Nat.le_of_ble_eq_true rfl) (fun _ z => by cases z) dX0_init_10 rfl ?_
  refine g_heq (hq_push (cN_new hz (fun z => absurd z (by decide)) rfl)) (by rw [hq_len]) ?_
  replace hz := gfr_u (n1 := 142) (by decide) hz
  refine g_putF gClX0 0 (by decide) fl_X0_15 rfl rfl rfl dX0_init_12 (hq_at (by decide)) rfl rfl (Nat.le_of_ble_eq_true rfl) (hq_ms (by decide) rfl) rfl ?_
  replace hz := gfr_m (j := 140) (k := 0) (by decide) hz
  exact g_vret rfl dX0_init_15 (Nat.le_of_ble_eq_true rfl) (Nat.le_of_ble_eq_true rfl) ⟨rfl, rfl⟩
set_option maxHeartbeats 4000000 in
set_option maxRecDepth 100000 in
theorem k_X0_142 (l : Launch) (g : gE) (m : gK) (κ : Nat → Nat) (σ : gS) (ζ : gQ) (hz : gfr 143 m κ σ) : gC l g mX0_init (rmc 1 1 48 21) [.ref 142, .int 48] (hq 143 m κ σ ζ) (fun r h => r = none ∧ h = hq 144 (mset m 142 0) κ σ ζ) := by
  refine gC_of (by decide) (Nat.le_of_ble_eq_true rfl) ?_
  refine g_aload_n dX0_init_0 rfl rfl rfl ?_
  refine g_obj ml_X0_3 im_obj cd_obj (Nat.le_of_ble_eq_true rfl) (Nat.le_of_ble_eq_true rfl) dX0_init_1 rfl ?_
  refine g_aload_n dX0_init_4 rfl rfl rfl ?_
  refine g_iload_n dX0_init_5 rfl rfl rfl ?_
  refine g_iconst (v := 0) dX0_init_6 (by decide) rfl ?_
  refine g_max ml_X0_9 st_max in_Math cd_max (Nat.le_of_ble_eq_true rfl) (Nat.le_of_ble_eq_true rfl) (Nat.le_of_ble_eq_true rfl) (Nat.le_of_ble_eq_true rfl) dX0_init_7 rfl ?_
  refine g_newa (at_ := .byte) (ty := .byte) (t := 1) (N := 48) rfl rfl aw_byte rfl (by decide +kernel) (by decide +kernel) (by decide) (by rw [hq_len]; decide) (Nat.le_of_ble_eq_true rfl) (Nat.le_of_ble_eq_true rfl) (fun _ z => by cases z) dX0_init_10 rfl ?_
  refine g_heq (hq_push (cN_new hz (fun z => absurd z (by decide)) rfl)) (by rw [hq_len]) ?_
  replace hz := gfr_u (n1 := 144) (by decide) hz
  refine g_putF gClX0 0 (by decide) fl_X0_15 rfl rfl rfl dX0_init_12 (hq_at (by decide)) rfl rfl (Nat.le_of_ble_eq_true rfl) (hq_ms (by decide) rfl) rfl ?_
  replace hz := gfr_m (j := 142) (k := 0) (by decide) hz
  exact g_vret rfl dX0_init_15 (Nat.le_of_ble_eq_true rfl) (Nat.le_of_ble_eq_true rfl) ⟨rfl, rfl⟩
set_option maxHeartbeats 4000000 in
set_option maxRecDepth 100000 in
theorem k_X1_133 (l : Launch) (g : gE) (m : gK) (κ : Nat → Nat) (σ : gS) (ζ : gQ) (hz : gfr 134 m κ σ) : gC l g mX1_init (rmc 2 10 208 42) [.ref 133] (hq 134 m κ σ ζ) (fun r h => r = none ∧ h = hq 144 (mset (mset (mset (mset (mset (mset m 133 0) 133 1) 136 0) 138 0) 140 0) 142 0) (va_up (va_up (va_up (va_up κ 134 1) 134 2) 134 3) 134 4) (pf σ 133 2 (1 : Int32)) ζ) := by
  refine gC_of (by decide) (Nat.le_of_ble_eq_true rfl) ?_
  refine g_aload_n dX1_init_0 rfl rfl rfl ?_
  refine g_obj ml_X1_3 im_obj cd_obj (Nat.le_of_ble_eq_true rfl) (Nat.le_of_ble_eq_true rfl) dX1_init_1 rfl ?_
  refine g_aload_n dX1_init_4 rfl rfl rfl ?_
  refine g_iconst (v := 4) dX1_init_5 (by decide) rfl ?_
  refine g_newq (t := 4) (N := 4) rfl cl_X1_9 (Or.inr rfl) (by decide +kernel) (by decide +kernel) (by decide) (by rw [hq_len]; decide) (Nat.le_of_ble_eq_true rfl) (Nat.le_of_ble_eq_true rfl) dX1_init_6 rfl ?_
  have hk134 := (hz 134 (by decide)).2.1
  refine g_heq (hq_push (cN_new hz (fun z => absurd z (by decide)) rfl)) (by rw [hq_len]) ?_
  replace hz := gfr_u (n1 := 135) (by decide) hz
  refine g_putF gClX1 0 (by decide) fl_X1_11 rfl rfl rfl dX1_init_9 (hq_at (by decide)) rfl rfl (Nat.le_of_ble_eq_true rfl) (hq_ms (by decide) rfl) rfl ?_
  replace hz := gfr_m (j := 133) (k := 0) (by decide) hz
  refine g_aload_n dX1_init_12 rfl rfl rfl ?_
  refine g_iconst (v := 4) dX1_init_13 (by decide) rfl ?_
  refine g_newa (at_ := .int) (ty := .int) (t := 0) (N := 4) rfl rfl aw_int rfl (by decide +kernel) (by decide +kernel) (by decide) (by rw [hq_len]; decide) (Nat.le_of_ble_eq_true rfl) (Nat.le_of_ble_eq_true rfl) (fun _ z => by cases z) dX1_init_14 rfl ?_
  refine g_heq (hq_push (cN_new hz (fun z => absurd z (by decide)) rfl)) (by rw [hq_len]) ?_
  replace hz := gfr_u (n1 := 136) (by decide) hz
  refine g_putF gClX1 1 (by decide) fl_X1_17 rfl rfl rfl dX1_init_16 (hq_at (by decide)) rfl rfl (Nat.le_of_ble_eq_true rfl) (hq_ms (by decide) rfl) rfl ?_
  replace hz := gfr_m (j := 133) (k := 1) (by decide) hz
  refine g_aload_n dX1_init_19 rfl rfl rfl ?_
  refine g_iconst (v := 1) dX1_init_20 (by decide) rfl ?_
  refine g_put gClX1 2 (by decide) fl_X1_21 rfl dX1_init_21 (hq_at (by decide)) rfl rfl (Nat.le_of_ble_eq_true rfl) (hq_pf (by decide) rfl) rfl ?_
  replace hz := gfr_p (j := 133) (k := 2) (x := (1 : Int32)) (by decide) hz
  refine g_iconst (v := 0) dX1_init_24 (by decide) rfl ?_
  refine g_istoreL_n (L1 := [(0, _), (1, _)]) dX1_init_25 rfl (by decide) rfl rfl ?_
  refine g_iload_n dX1_init_26 rfl rfl rfl ?_
  refine g_iconst (v := 4) dX1_init_27 (by decide) rfl ?_
  refine g_icmpge (tgt := 52) dX1_init_28 (by decide) rfl (fun z => absurd z (by decide +kernel)) (fun _ => ?_)
  refine g_aload_n dX1_init_31 rfl rfl rfl ?_
  refine g_get (v := .ref 134) gClX1 0 (by decide) fl_X1_11 dX1_init_32 (hq_at (by decide)) rfl rfl ?_
  refine g_iload_n dX1_init_35 rfl rfl rfl ?_
  refine g_new (fs := [.null, .int 0]) gClX0 cl_X1_9 it_X0 in_X0 (nf_X0 g) (by rw [hq_len]; decide) (Nat.le_of_ble_eq_true rfl) (Nat.le_of_ble_eq_true rfl) dX1_init_36 rfl ?_
  refine g_heq (hq_push (cN_new hz (fun z => absurd z (by decide)) rfl)) (by rw [hq_len]) ?_
  replace hz := gfr_u (n1 := 137) (by decide) hz
  refine g_dup dX1_init_39 rfl rfl ?_
  refine g_bipush (v := 48) dX1_init_40 (by decide) rfl ?_
  refine g_calli mt_X0_init mi_X0_init rfl rfl ml_X1_25 (k_X0_136 l g _ _ _ _ hz) rfl (Nat.le_of_ble_eq_true rfl) (Nat.le_of_ble_eq_true rfl) (Nat.le_of_ble_eq_true rfl) (Nat.le_of_ble_eq_true rfl) rfl (Nat.le_of_ble_eq_true rfl) dX1_init_42 rfl (fun r h p => ?_)
  obtain ⟨rfl, rfl⟩ := p
  replace hz := gfr_u (n1 := 138) (by decide) hz
  replace hz := gfr_m (j := 136) (k := 0) (by decide) hz
  refine g_aast4 (hq_at (by decide)) (hq_at (by decide)) rfl (vinc (by decide +kernel)) (hq_aR (c := 10) (i := 0) (by decide) (by decide) (by decide +kernel) hk134 rfl) dX1_init_45 rfl ?_
  replace hz := gfr_k (j := 134) (v := 1) (by decide) hz
  refine g_iincL (L1 := [(0, _), (1, _)]) dX1_init_46 rfl (by decide) rfl rfl ?_
  refine g_goto (tgt := 26) dX1_init_49 (by decide) ?_
  refine g_iload_n dX1_init_26 rfl rfl rfl ?_
  refine g_iconst (v := 4) dX1_init_27 (by decide) rfl ?_
  refine g_icmpge (tgt := 52) dX1_init_28 (by decide) rfl (fun z => absurd z (by decide +kernel)) (fun _ => ?_)
  refine g_aload_n dX1_init_31 rfl rfl rfl ?_
  refine g_get (v := .ref 134) gClX1 0 (by decide) fl_X1_11 dX1_init_32 (hq_at (by decide)) rfl rfl ?_
  refine g_iload_n dX1_init_35 rfl rfl rfl ?_
  refine g_new (fs := [.null, .int 0]) gClX0 cl_X1_9 it_X0 in_X0 (nf_X0 g) (by rw [hq_len]; decide) (Nat.le_of_ble_eq_true rfl) (Nat.le_of_ble_eq_true rfl) dX1_init_36 rfl ?_
  refine g_heq (hq_push (cN_new hz (fun z => absurd z (by decide)) rfl)) (by rw [hq_len]) ?_
  replace hz := gfr_u (n1 := 139) (by decide) hz
  refine g_dup dX1_init_39 rfl rfl ?_
  refine g_bipush (v := 48) dX1_init_40 (by decide) rfl ?_
  refine g_calli mt_X0_init mi_X0_init rfl rfl ml_X1_25 (k_X0_138 l g _ _ _ _ hz) rfl (Nat.le_of_ble_eq_true rfl) (Nat.le_of_ble_eq_true rfl) (Nat.le_of_ble_eq_true rfl) (Nat.le_of_ble_eq_true rfl) rfl (Nat.le_of_ble_eq_true rfl) dX1_init_42 rfl (fun r h p => ?_)
  obtain ⟨rfl, rfl⟩ := p
  replace hz := gfr_u (n1 := 140) (by decide) hz
  replace hz := gfr_m (j := 138) (k := 0) (by decide) hz
  refine g_aast4 (hq_at (by decide)) (hq_at (by decide)) rfl (vinc (by decide +kernel)) (hq_aR (c := 10) (i := 1) (by decide) (by decide) (by decide +kernel) rfl rfl) dX1_init_45 rfl ?_
  replace hz := gfr_k (j := 134) (v := 2) (by decide) hz
  refine g_iincL (L1 := [(0, _), (1, _)]) dX1_init_46 rfl (by decide) rfl rfl ?_
  refine g_goto (tgt := 26) dX1_init_49 (by decide) ?_
  refine g_iload_n dX1_init_26 rfl rfl rfl ?_
  refine g_iconst (v := 4) dX1_init_27 (by decide) rfl ?_
  refine g_icmpge (tgt := 52) dX1_init_28 (by decide) rfl (fun z => absurd z (by decide +kernel)) (fun _ => ?_)
  refine g_aload_n dX1_init_31 rfl rfl rfl ?_
  refine g_get (v := .ref 134) gClX1 0 (by decide) fl_X1_11 dX1_init_32 (hq_at (by decide)) rfl rfl ?_
  refine g_iload_n dX1_init_35 rfl rfl rfl ?_
  refine g_new (fs := [.null, .int 0]) gClX0 cl_X1_9 it_X0 in_X0 (nf_X0 g) (by rw [hq_len]; decide) (Nat.le_of_ble_eq_true rfl) (Nat.le_of_ble_eq_true rfl) dX1_init_36 rfl ?_
  refine g_heq (hq_push (cN_new hz (fun z => absurd z (by decide)) rfl)) (by rw [hq_len]) ?_
  replace hz := gfr_u (n1 := 141) (by decide) hz
  refine g_dup dX1_init_39 rfl rfl ?_
  refine g_bipush (v := 48) dX1_init_40 (by decide) rfl ?_
  refine g_calli mt_X0_init mi_X0_init rfl rfl ml_X1_25 (k_X0_140 l g _ _ _ _ hz) rfl (Nat.le_of_ble_eq_true rfl) (Nat.le_of_ble_eq_true rfl) (Nat.le_of_ble_eq_true rfl) (Nat.le_of_ble_eq_true rfl) rfl (Nat.le_of_ble_eq_true rfl) dX1_init_42 rfl (fun r h p => ?_)
  obtain ⟨rfl, rfl⟩ := p
  replace hz := gfr_u (n1 := 142) (by decide) hz
  replace hz := gfr_m (j := 140) (k := 0) (by decide) hz
  refine g_aast4 (hq_at (by decide)) (hq_at (by decide)) rfl (vinc (by decide +kernel)) (hq_aR (c := 10) (i := 2) (by decide) (by decide) (by decide +kernel) rfl rfl) dX1_init_45 rfl ?_
  replace hz := gfr_k (j := 134) (v := 3) (by decide) hz
  refine g_iincL (L1 := [(0, _), (1, _)]) dX1_init_46 rfl (by decide) rfl rfl ?_
  refine g_goto (tgt := 26) dX1_init_49 (by decide) ?_
  refine g_iload_n dX1_init_26 rfl rfl rfl ?_
  refine g_iconst (v := 4) dX1_init_27 (by decide) rfl ?_
  refine g_icmpge (tgt := 52) dX1_init_28 (by decide) rfl (fun z => absurd z (by decide +kernel)) (fun _ => ?_)
  refine g_aload_n dX1_init_31 rfl rfl rfl ?_
  refine g_get (v := .ref 134) gClX1 0 (by decide) fl_X1_11 dX1_init_32 (hq_at (by decide)) rfl rfl ?_
  refine g_iload_n dX1_init_35 rfl rfl rfl ?_
  refine g_new (fs := [.null, .int 0]) gClX0 cl_X1_9 it_X0 in_X0 (nf_X0 g) (by rw [hq_len]; decide) (Nat.le_of_ble_eq_true rfl) (Nat.le_of_ble_eq_true rfl) dX1_init_36 rfl ?_
  refine g_heq (hq_push (cN_new hz (fun z => absurd z (by decide)) rfl)) (by rw [hq_len]) ?_
  replace hz := gfr_u (n1 := 143) (by decide) hz
  refine g_dup dX1_init_39 rfl rfl ?_
  refine g_bipush (v := 48) dX1_init_40 (by decide) rfl ?_
  refine g_calli mt_X0_init mi_X0_init rfl rfl ml_X1_25 (k_X0_142 l g _ _ _ _ hz) rfl (Nat.le_of_ble_eq_true rfl) (Nat.le_of_ble_eq_true rfl) (Nat.le_of_ble_eq_true rfl) (Nat.le_of_ble_eq_true rfl) rfl (Nat.le_of_ble_eq_true rfl) dX1_init_42 rfl (fun r h p => ?_)
  obtain ⟨rfl, rfl⟩ := p
  replace hz := gfr_u (n1 := 144) (by decide) hz
  replace hz := gfr_m (j := 142) (k := 0) (by decide) hz
  refine g_aast4 (hq_at (by decide)) (hq_at (by decide)) rfl (vinc (by decide +kernel)) (hq_aR (c := 10) (i := 3) (by decide) (by decide) (by decide +kernel) rfl rfl) dX1_init_45 rfl ?_
  replace hz := gfr_k (j := 134) (v := 4) (by decide) hz
  refine g_iincL (L1 := [(0, _), (1, _)]) dX1_init_46 rfl (by decide) rfl rfl ?_
  refine g_goto (tgt := 26) dX1_init_49 (by decide) ?_
  refine g_iload_n dX1_init_26 rfl rfl rfl ?_
  refine g_iconst (v := 4) dX1_init_27 (by decide) rfl ?_
  refine g_icmpge (tgt := 52) dX1_init_28 (by decide) rfl (fun _ => ?_) (fun z => absurd z (by decide +kernel))
  exact g_vret rfl dX1_init_52 (Nat.le_of_ble_eq_true rfl) (Nat.le_of_ble_eq_true rfl) ⟨rfl, rfl⟩
set_option maxHeartbeats 4000000 in
set_option maxRecDepth 100000 in
theorem k_X0_147 (l : Launch) (g : gE) (m : gK) (κ : Nat → Nat) (σ : gS) (ζ : gQ) (hz : gfr 148 m κ σ) : gC l g mX0_init (rmc 1 1 48 21) [.ref 147, .int 48] (hq 148 m κ σ ζ) (fun r h => r = none ∧ h = hq 149 (mset m 147 0) κ σ ζ) := by
  refine gC_of (by decide) (Nat.le_of_ble_eq_true rfl) ?_
  refine g_aload_n dX0_init_0 rfl rfl rfl ?_
  refine g_obj ml_X0_3 im_obj cd_obj (Nat.le_of_ble_eq_true rfl) (Nat.le_of_ble_eq_true rfl) dX0_init_1 rfl ?_
  refine g_aload_n dX0_init_4 rfl rfl rfl ?_
  refine g_iload_n dX0_init_5 rfl rfl rfl ?_
  refine g_iconst (v := 0) dX0_init_6 (by decide) rfl ?_
  refine g_max ml_X0_9 st_max in_Math cd_max (Nat.le_of_ble_eq_true rfl) (Nat.le_of_ble_eq_true rfl) (Nat.le_of_ble_eq_true rfl) (Nat.le_of_ble_eq_true rfl) dX0_init_7 rfl ?_
  refine g_newa (at_ := .byte) (ty := .byte) (t := 1) (N := 48) rfl rfl aw_byte rfl (by decide +kernel) (by decide +kernel) (by decide) (by rw [hq_len]; decide) (Nat.le_of_ble_eq_true rfl) (Nat.le_of_ble_eq_true rfl) (fun _ z => by cases z) dX0_init_10 rfl ?_
  refine g_heq (hq_push (cN_new hz (fun z => absurd z (by decide)) rfl)) (by rw [hq_len]) ?_
  replace hz := gfr_u (n1 := 149) (by decide) hz
  refine g_putF gClX0 0 (by decide) fl_X0_15 rfl rfl rfl dX0_init_12 (hq_at (by decide)) rfl rfl (Nat.le_of_ble_eq_true rfl) (hq_ms (by decide) rfl) rfl ?_
  replace hz := gfr_m (j := 147) (k := 0) (by decide) hz
  exact g_vret rfl dX0_init_15 (Nat.le_of_ble_eq_true rfl) (Nat.le_of_ble_eq_true rfl) ⟨rfl, rfl⟩
set_option maxHeartbeats 4000000 in
set_option maxRecDepth 100000 in
theorem k_X0_149 (l : Launch) (g : gE) (m : gK) (κ : Nat → Nat) (σ : gS) (ζ : gQ) (hz : gfr 150 m κ σ) : gC l g mX0_init (rmc 1 1 48 21) [.ref 149, .int 48] (hq 150 m κ σ ζ) (fun r h => r = none ∧ h = hq 151 (mset m 149 0) κ σ ζ) := by
  refine gC_of (by decide) (Nat.le_of_ble_eq_true rfl) ?_
  refine g_aload_n dX0_init_0 rfl rfl rfl ?_
  refine g_obj ml_X0_3 im_obj cd_obj (Nat.le_of_ble_eq_true rfl) (Nat.le_of_ble_eq_true rfl) dX0_init_1 rfl ?_
  refine g_aload_n dX0_init_4 rfl rfl rfl ?_
  refine g_iload_n dX0_init_5 rfl rfl rfl ?_
  refine g_iconst (v := 0) dX0_init_6 (by decide) rfl ?_
  refine g_max ml_X0_9 st_max in_Math cd_max (Nat.le_of_ble_eq_true rfl) (Nat.le_of_ble_eq_true rfl) (Nat.le_of_ble_eq_true rfl) (Nat.le_of_ble_eq_true rfl) dX0_init_7 rfl ?_
  refine g_newa (at_ := .byte) (ty := .byte) (t := 1) (N := 48) rfl rfl aw_byte rfl (by decide +kernel) (by decide +kernel) (by decide) (by rw [hq_len]; decide) (Nat.le_of_ble_eq_true rfl) (Nat.le_of_ble_eq_true rfl) (fun _ z => by cases z) dX0_init_10 rfl ?_
  refine g_heq (hq_push (cN_new hz (fun z => absurd z (by decide)) rfl)) (by rw [hq_len]) ?_
  replace hz := gfr_u (n1 := 151) (by decide) hz
  refine g_putF gClX0 0 (by decide) fl_X0_15 rfl rfl rfl dX0_init_12 (hq_at (by decide)) rfl rfl (Nat.le_of_ble_eq_true rfl) (hq_ms (by decide) rfl) rfl ?_
  replace hz := gfr_m (j := 149) (k := 0) (by decide) hz
  exact g_vret rfl dX0_init_15 (Nat.le_of_ble_eq_true rfl) (Nat.le_of_ble_eq_true rfl) ⟨rfl, rfl⟩
set_option maxHeartbeats 4000000 in
set_option maxRecDepth 100000 in
theorem k_X0_151 (l : Launch) (g : gE) (m : gK) (κ : Nat → Nat) (σ : gS) (ζ : gQ) (hz : gfr 152 m κ σ) : gC l g mX0_init (rmc 1 1 48 21) [.ref 151, .int 48] (hq 152 m κ σ ζ) (fun r h => r = none ∧ h = hq 153 (mset m 151 0) κ σ ζ) := by
  refine gC_of (by decide) (Nat.le_of_ble_eq_true rfl) ?_
  refine g_aload_n dX0_init_0 rfl rfl rfl ?_
  refine g_obj ml_X0_3 im_obj cd_obj (Nat.le_of_ble_eq_true rfl) (Nat.le_of_ble_eq_true rfl) dX0_init_1 rfl ?_
  refine g_aload_n dX0_init_4 rfl rfl rfl ?_
  refine g_iload_n dX0_init_5 rfl rfl rfl ?_
  refine g_iconst (v := 0) dX0_init_6 (by decide) rfl ?_
  refine g_max ml_X0_9 st_max in_Math cd_max (Nat.le_of_ble_eq_true rfl) (Nat.le_of_ble_eq_true rfl) (Nat.le_of_ble_eq_true rfl) (Nat.le_of_ble_eq_true rfl) dX0_init_7 rfl ?_
  refine g_newa (at_ := .byte) (ty := .byte) (t := 1) (N := 48) rfl rfl aw_byte rfl (by decide +kernel) (by decide +kernel) (by decide) (by rw [hq_len]; decide) (Nat.le_of_ble_eq_true rfl) (Nat.le_of_ble_eq_true rfl) (fun _ z => by cases z) dX0_init_10 rfl ?_
  refine g_heq (hq_push (cN_new hz (fun z => absurd z (by decide)) rfl)) (by rw [hq_len]) ?_
  replace hz := gfr_u (n1 := 153) (by decide) hz
  refine g_putF gClX0 0 (by decide) fl_X0_15 rfl rfl rfl dX0_init_12 (hq_at (by decide)) rfl rfl (Nat.le_of_ble_eq_true rfl) (hq_ms (by decide) rfl) rfl ?_
  replace hz := gfr_m (j := 151) (k := 0) (by decide) hz
  exact g_vret rfl dX0_init_15 (Nat.le_of_ble_eq_true rfl) (Nat.le_of_ble_eq_true rfl) ⟨rfl, rfl⟩
set_option maxHeartbeats 4000000 in
set_option maxRecDepth 100000 in
theorem k_X0_153 (l : Launch) (g : gE) (m : gK) (κ : Nat → Nat) (σ : gS) (ζ : gQ) (hz : gfr 154 m κ σ) : gC l g mX0_init (rmc 1 1 48 21) [.ref 153, .int 48] (hq 154 m κ σ ζ) (fun r h => r = none ∧ h = hq 155 (mset m 153 0) κ σ ζ) := by
  refine gC_of (by decide) (Nat.le_of_ble_eq_true rfl) ?_
  refine g_aload_n dX0_init_0 rfl rfl rfl ?_
  refine g_obj ml_X0_3 im_obj cd_obj (Nat.le_of_ble_eq_true rfl) (Nat.le_of_ble_eq_true rfl) dX0_init_1 rfl ?_
  refine g_aload_n dX0_init_4 rfl rfl rfl ?_
  refine g_iload_n dX0_init_5 rfl rfl rfl ?_
  refine g_iconst (v := 0) dX0_init_6 (by decide) rfl ?_
  refine g_max ml_X0_9 st_max in_Math cd_max (Nat.le_of_ble_eq_true rfl) (Nat.le_of_ble_eq_true rfl) (Nat.le_of_ble_eq_true rfl) (Nat.le_of_ble_eq_true rfl) dX0_init_7 rfl ?_
  refine g_newa (at_ := .byte) (ty := .byte) (t := 1) (N := 48) rfl rfl aw_byte rfl (by decide +kernel) (by decide +kernel) (by decide) (by rw [hq_len]; decide) (Nat.le_of_ble_eq_true rfl) (Nat.le_of_ble_eq_true rfl) (fun _ z => by cases z) dX0_init_10 rfl ?_
  refine g_heq (hq_push (cN_new hz (fun z => absurd z (by decide)) rfl)) (by rw [hq_len]) ?_
  replace hz := gfr_u (n1 := 155) (by decide) hz
  refine g_putF gClX0 0 (by decide) fl_X0_15 rfl rfl rfl dX0_init_12 (hq_at (by decide)) rfl rfl (Nat.le_of_ble_eq_true rfl) (hq_ms (by decide) rfl) rfl ?_
  replace hz := gfr_m (j := 153) (k := 0) (by decide) hz
  exact g_vret rfl dX0_init_15 (Nat.le_of_ble_eq_true rfl) (Nat.le_of_ble_eq_true rfl) ⟨rfl, rfl⟩
set_option maxHeartbeats 4000000 in
set_option maxRecDepth 100000 in
theorem k_X1_144 (l : Launch) (g : gE) (m : gK) (κ : Nat → Nat) (σ : gS) (ζ : gQ) (hz : gfr 145 m κ σ) : gC l g mX1_init (rmc 2 10 208 42) [.ref 144] (hq 145 m κ σ ζ) (fun r h => r = none ∧ h = hq 155 (mset (mset (mset (mset (mset (mset m 144 0) 144 1) 147 0) 149 0) 151 0) 153 0) (va_up (va_up (va_up (va_up κ 145 1) 145 2) 145 3) 145 4) (pf σ 144 2 (1 : Int32)) ζ) := by
  refine gC_of (by decide) (Nat.le_of_ble_eq_true rfl) ?_
  refine g_aload_n dX1_init_0 rfl rfl rfl ?_
  refine g_obj ml_X1_3 im_obj cd_obj (Nat.le_of_ble_eq_true rfl) (Nat.le_of_ble_eq_true rfl) dX1_init_1 rfl ?_
  refine g_aload_n dX1_init_4 rfl rfl rfl ?_
  refine g_iconst (v := 4) dX1_init_5 (by decide) rfl ?_
  refine g_newq (t := 4) (N := 4) rfl cl_X1_9 (Or.inr rfl) (by decide +kernel) (by decide +kernel) (by decide) (by rw [hq_len]; decide) (Nat.le_of_ble_eq_true rfl) (Nat.le_of_ble_eq_true rfl) dX1_init_6 rfl ?_
  have hk145 := (hz 145 (by decide)).2.1
  refine g_heq (hq_push (cN_new hz (fun z => absurd z (by decide)) rfl)) (by rw [hq_len]) ?_
  replace hz := gfr_u (n1 := 146) (by decide) hz
  refine g_putF gClX1 0 (by decide) fl_X1_11 rfl rfl rfl dX1_init_9 (hq_at (by decide)) rfl rfl (Nat.le_of_ble_eq_true rfl) (hq_ms (by decide) rfl) rfl ?_
  replace hz := gfr_m (j := 144) (k := 0) (by decide) hz
  refine g_aload_n dX1_init_12 rfl rfl rfl ?_
  refine g_iconst (v := 4) dX1_init_13 (by decide) rfl ?_
  refine g_newa (at_ := .int) (ty := .int) (t := 0) (N := 4) rfl rfl aw_int rfl (by decide +kernel) (by decide +kernel) (by decide) (by rw [hq_len]; decide) (Nat.le_of_ble_eq_true rfl) (Nat.le_of_ble_eq_true rfl) (fun _ z => by cases z) dX1_init_14 rfl ?_
  refine g_heq (hq_push (cN_new hz (fun z => absurd z (by decide)) rfl)) (by rw [hq_len]) ?_
  replace hz := gfr_u (n1 := 147) (by decide) hz
  refine g_putF gClX1 1 (by decide) fl_X1_17 rfl rfl rfl dX1_init_16 (hq_at (by decide)) rfl rfl (Nat.le_of_ble_eq_true rfl) (hq_ms (by decide) rfl) rfl ?_
  replace hz := gfr_m (j := 144) (k := 1) (by decide) hz
  refine g_aload_n dX1_init_19 rfl rfl rfl ?_
  refine g_iconst (v := 1) dX1_init_20 (by decide) rfl ?_
  refine g_put gClX1 2 (by decide) fl_X1_21 rfl dX1_init_21 (hq_at (by decide)) rfl rfl (Nat.le_of_ble_eq_true rfl) (hq_pf (by decide) rfl) rfl ?_
  replace hz := gfr_p (j := 144) (k := 2) (x := (1 : Int32)) (by decide) hz
  refine g_iconst (v := 0) dX1_init_24 (by decide) rfl ?_
  refine g_istoreL_n (L1 := [(0, _), (1, _)]) dX1_init_25 rfl (by decide) rfl rfl ?_
  refine g_iload_n dX1_init_26 rfl rfl rfl ?_
  refine g_iconst (v := 4) dX1_init_27 (by decide) rfl ?_
  refine g_icmpge (tgt := 52) dX1_init_28 (by decide) rfl (fun z => absurd z (by decide +kernel)) (fun _ => ?_)
  refine g_aload_n dX1_init_31 rfl rfl rfl ?_
  refine g_get (v := .ref 145) gClX1 0 (by decide) fl_X1_11 dX1_init_32 (hq_at (by decide)) rfl rfl ?_
  refine g_iload_n dX1_init_35 rfl rfl rfl ?_
  refine g_new (fs := [.null, .int 0]) gClX0 cl_X1_9 it_X0 in_X0 (nf_X0 g) (by rw [hq_len]; decide) (Nat.le_of_ble_eq_true rfl) (Nat.le_of_ble_eq_true rfl) dX1_init_36 rfl ?_
  refine g_heq (hq_push (cN_new hz (fun z => absurd z (by decide)) rfl)) (by rw [hq_len]) ?_
  replace hz := gfr_u (n1 := 148) (by decide) hz
  refine g_dup dX1_init_39 rfl rfl ?_
  refine g_bipush (v := 48) dX1_init_40 (by decide) rfl ?_
  refine g_calli mt_X0_init mi_X0_init rfl rfl ml_X1_25 (k_X0_147 l g _ _ _ _ hz) rfl (Nat.le_of_ble_eq_true rfl) (Nat.le_of_ble_eq_true rfl) (Nat.le_of_ble_eq_true rfl) (Nat.le_of_ble_eq_true rfl) rfl (Nat.le_of_ble_eq_true rfl) dX1_init_42 rfl (fun r h p => ?_)
  obtain ⟨rfl, rfl⟩ := p
  replace hz := gfr_u (n1 := 149) (by decide) hz
  replace hz := gfr_m (j := 147) (k := 0) (by decide) hz
  refine g_aast4 (hq_at (by decide)) (hq_at (by decide)) rfl (vinc (by decide +kernel)) (hq_aR (c := 11) (i := 0) (by decide) (by decide) (by decide +kernel) hk145 rfl) dX1_init_45 rfl ?_
  replace hz := gfr_k (j := 145) (v := 1) (by decide) hz
  refine g_iincL (L1 := [(0, _), (1, _)]) dX1_init_46 rfl (by decide) rfl rfl ?_
  refine g_goto (tgt := 26) dX1_init_49 (by decide) ?_
  refine g_iload_n dX1_init_26 rfl rfl rfl ?_
  refine g_iconst (v := 4) dX1_init_27 (by decide) rfl ?_
  refine g_icmpge (tgt := 52) dX1_init_28 (by decide) rfl (fun z => absurd z (by decide +kernel)) (fun _ => ?_)
  refine g_aload_n dX1_init_31 rfl rfl rfl ?_
  refine g_get (v := .ref 145) gClX1 0 (by decide) fl_X1_11 dX1_init_32 (hq_at (by decide)) rfl rfl ?_
  refine g_iload_n dX1_init_35 rfl rfl rfl ?_
  refine g_new (fs := [.null, .int 0]) gClX0 cl_X1_9 it_X0 in_X0 (nf_X0 g) (by rw [hq_len]; decide) (Nat.le_of_ble_eq_true rfl) (Nat.le_of_ble_eq_true rfl) dX1_init_36 rfl ?_
  refine g_heq (hq_push (cN_new hz (fun z => absurd z (by decide)) rfl)) (by rw [hq_len]) ?_
  replace hz := gfr_u (n1 := 150) (by decide) hz
  refine g_dup dX1_init_39 rfl rfl ?_
  refine g_bipush (v := 48) dX1_init_40 (by decide) rfl ?_
  refine g_calli mt_X0_init mi_X0_init rfl rfl ml_X1_25 (k_X0_149 l g _ _ _ _ hz) rfl (Nat.le_of_ble_eq_true rfl) (Nat.le_of_ble_eq_true rfl) (Nat.le_of_ble_eq_true rfl) (Nat.le_of_ble_eq_true rfl) rfl (Nat.le_of_ble_eq_true rfl) dX1_init_42 rfl (fun r h p => ?_)
  obtain ⟨rfl, rfl⟩ := p
  replace hz := gfr_u (n1 := 151) (by decide) hz
  replace hz := gfr_m (j := 149) (k := 0) (by decide) hz
  refine g_aast4 (hq_at (by decide)) (hq_at (by decide)) rfl (vinc (by decide +kernel)) (hq_aR (c := 11) (i := 1) (by decide) (by decide) (by decide +kernel) rfl rfl) dX1_init_45 rfl ?_
  replace hz := gfr_k (j := 145) (v := 2) (by decide) hz
  refine g_iincL (L1 := [(0, _), (1, _)]) dX1_init_46 rfl (by decide) rfl rfl ?_
  refine g_goto (tgt := 26) dX1_init_49 (by decide) ?_
  refine g_iload_n dX1_init_26 rfl rfl rfl ?_
  refine g_iconst (v := 4) dX1_init_27 (by decide) rfl ?_
  refine g_icmpge (tgt := 52) dX1_init_28 (by decide) rfl (fun z => absurd z (by decide +kernel)) (fun _ => ?_)
  refine g_aload_n dX1_init_31 rfl rfl rfl ?_
  refine g_get (v := .ref 145) gClX1 0 (by decide) fl_X1_11 dX1_init_32 (hq_at (by decide)) rfl rfl ?_
  refine g_iload_n dX1_init_35 rfl rfl rfl ?_
  refine g_new (fs := [.null, .int 0]) gClX0 cl_X1_9 it_X0 in_X0 (nf_X0 g) (by rw [hq_len]; decide) (Nat.le_of_ble_eq_true rfl) (Nat.le_of_ble_eq_true rfl) dX1_init_36 rfl ?_
  refine g_heq (hq_push (cN_new hz (fun z => absurd z (by decide)) rfl)) (by rw [hq_len]) ?_
  replace hz := gfr_u (n1 := 152) (by decide) hz
  refine g_dup dX1_init_39 rfl rfl ?_
  refine g_bipush (v := 48) dX1_init_40 (by decide) rfl ?_
  refine g_calli mt_X0_init mi_X0_init rfl rfl ml_X1_25 (k_X0_151 l g _ _ _ _ hz) rfl (Nat.le_of_ble_eq_true rfl) (Nat.le_of_ble_eq_true rfl) (Nat.le_of_ble_eq_true rfl) (Nat.le_of_ble_eq_true rfl) rfl (Nat.le_of_ble_eq_true rfl) dX1_init_42 rfl (fun r h p => ?_)
  obtain ⟨rfl, rfl⟩ := p
  replace hz := gfr_u (n1 := 153) (by decide) hz
  replace hz := gfr_m (j := 151) (k := 0) (by decide) hz
  refine g_aast4 (hq_at (by decide)) (hq_at (by decide)) rfl (vinc (by decide +kernel)) (hq_aR (c := 11) (i := 2) (by decide) (by decide) (by decide +kernel) rfl rfl) dX1_init_45 rfl ?_
  replace hz := gfr_k (j := 145) (v := 3) (by decide) hz
  refine g_iincL (L1 := [(0, _), (1, _)]) dX1_init_46 rfl (by decide) rfl rfl ?_
  refine g_goto (tgt := 26) dX1_init_49 (by decide) ?_
  refine g_iload_n dX1_init_26 rfl rfl rfl ?_
  refine g_iconst (v := 4) dX1_init_27 (by decide) rfl ?_
  refine g_icmpge (tgt := 52) dX1_init_28 (by decide) rfl (fun z => absurd z (by decide +kernel)) (fun _ => ?_)
  refine g_aload_n dX1_init_31 rfl rfl rfl ?_
  refine g_get (v := .ref 145) gClX1 0 (by decide) fl_X1_11 dX1_init_32 (hq_at (by decide)) rfl rfl ?_
  refine g_iload_n dX1_init_35 rfl rfl rfl ?_
  refine g_new (fs := [.null, .int 0]) gClX0 cl_X1_9 it_X0 in_X0 (nf_X0 g) (by rw [hq_len]; decide) (Nat.le_of_ble_eq_true rfl) (Nat.le_of_ble_eq_true rfl) dX1_init_36 rfl ?_
  refine g_heq (hq_push (cN_new hz (fun z => absurd z (by decide)) rfl)) (by rw [hq_len]) ?_
  replace hz := gfr_u (n1 := 154) (by decide) hz
  refine g_dup dX1_init_39 rfl rfl ?_
  refine g_bipush (v := 48) dX1_init_40 (by decide) rfl ?_
  refine g_calli mt_X0_init mi_X0_init rfl rfl ml_X1_25 (k_X0_153 l g _ _ _ _ hz) rfl (Nat.le_of_ble_eq_true rfl) (Nat.le_of_ble_eq_true rfl) (Nat.le_of_ble_eq_true rfl) (Nat.le_of_ble_eq_true rfl) rfl (Nat.le_of_ble_eq_true rfl) dX1_init_42 rfl (fun r h p => ?_)
  obtain ⟨rfl, rfl⟩ := p
  replace hz := gfr_u (n1 := 155) (by decide) hz
  replace hz := gfr_m (j := 153) (k := 0) (by decide) hz
  refine g_aast4 (hq_at (by decide)) (hq_at (by decide)) rfl (vinc (by decide +kernel)) (hq_aR (c := 11) (i := 3) (by decide) (by decide) (by decide +kernel) rfl rfl) dX1_init_45 rfl ?_
  replace hz := gfr_k (j := 145) (v := 4) (by decide) hz
  refine g_iincL (L1 := [(0, _), (1, _)]) dX1_init_46 rfl (by decide) rfl rfl ?_
  refine g_goto (tgt := 26) dX1_init_49 (by decide) ?_
  refine g_iload_n dX1_init_26 rfl rfl rfl ?_
  refine g_iconst (v := 4) dX1_init_27 (by decide) rfl ?_
  refine g_icmpge (tgt := 52) dX1_init_28 (by decide) rfl (fun _ => ?_) (fun z => absurd z (by decide +kernel))
  exact g_vret rfl dX1_init_52 (Nat.le_of_ble_eq_true rfl) (Nat.le_of_ble_eq_true rfl) ⟨rfl, rfl⟩
set_option maxHeartbeats 4000000 in
set_option maxRecDepth 100000 in
theorem k_X0_158 (l : Launch) (g : gE) (m : gK) (κ : Nat → Nat) (σ : gS) (ζ : gQ) (hz : gfr 159 m κ σ) : gC l g mX0_init (rmc 1 1 48 21) [.ref 158, .int 48] (hq 159 m κ σ ζ) (fun r h => r = none ∧ h = hq 160 (mset m 158 0) κ σ ζ) := by
  refine gC_of (by decide) (Nat.le_of_ble_eq_true rfl) ?_
  refine g_aload_n dX0_init_0 rfl rfl rfl ?_
  refine g_obj ml_X0_3 im_obj cd_obj (Nat.le_of_ble_eq_true rfl) (Nat.le_of_ble_eq_true rfl) dX0_init_1 rfl ?_
  refine g_aload_n dX0_init_4 rfl rfl rfl ?_
  refine g_iload_n dX0_init_5 rfl rfl rfl ?_
  refine g_iconst (v := 0) dX0_init_6 (by decide) rfl ?_
  refine g_max ml_X0_9 st_max in_Math cd_max (Nat.le_of_ble_eq_true rfl) (Nat.le_of_ble_eq_true rfl) (Nat.le_of_ble_eq_true rfl) (Nat.le_of_ble_eq_true rfl) dX0_init_7 rfl ?_
  refine g_newa (at_ := .byte) (ty := .byte) (t := 1) (N := 48) rfl rfl aw_byte rfl (by decide +kernel) (by decide +kernel) (by decide) (by rw [hq_len]; decide) (Nat.le_of_ble_eq_true rfl) (Nat.le_of_ble_eq_true rfl) (fun _ z => by cases z) dX0_init_10 rfl ?_
  refine g_heq (hq_push (cN_new hz (fun z => absurd z (by decide)) rfl)) (by rw [hq_len]) ?_
  replace hz := gfr_u (n1 := 160) (by decide) hz
  refine g_putF gClX0 0 (by decide) fl_X0_15 rfl rfl rfl dX0_init_12 (hq_at (by decide)) rfl rfl (Nat.le_of_ble_eq_true rfl) (hq_ms (by decide) rfl) rfl ?_
  replace hz := gfr_m (j := 158) (k := 0) (by decide) hz
  exact g_vret rfl dX0_init_15 (Nat.le_of_ble_eq_true rfl) (Nat.le_of_ble_eq_true rfl) ⟨rfl, rfl⟩
set_option maxHeartbeats 4000000 in
set_option maxRecDepth 100000 in
theorem k_X0_160 (l : Launch) (g : gE) (m : gK) (κ : Nat → Nat) (σ : gS) (ζ : gQ) (hz : gfr 161 m κ σ) : gC l g mX0_init (rmc 1 1 48 21) [.ref 160, .int 48] (hq 161 m κ σ ζ) (fun r h => r = none ∧ h = hq 162 (mset m 160 0) κ σ ζ) := by
  refine gC_of (by decide) (Nat.le_of_ble_eq_true rfl) ?_
  refine g_aload_n dX0_init_0 rfl rfl rfl ?_
  refine g_obj ml_X0_3 im_obj cd_obj (Nat.le_of_ble_eq_true rfl) (Nat.le_of_ble_eq_true rfl) dX0_init_1 rfl ?_
  refine g_aload_n dX0_init_4 rfl rfl rfl ?_
  refine g_iload_n dX0_init_5 rfl rfl rfl ?_
  refine g_iconst (v := 0) dX0_init_6 (by decide) rfl ?_
  refine g_max ml_X0_9 st_max in_Math cd_max (Nat.le_of_ble_eq_true rfl) (Nat.le_of_ble_eq_true rfl) (Nat.le_of_ble_eq_true rfl) (Nat.le_of_ble_eq_true rfl) dX0_init_7 rfl ?_
  refine g_newa (at_ := .byte) (ty := .byte) (t := 1) (N := 48) rfl rfl aw_byte rfl (by decide +kernel) (by decide +kernel) (by decide) (by rw [hq_len]; decide) (Nat.le_of_ble_eq_true rfl) (Nat.le_of_ble_eq_true rfl) (fun _ z => by cases z) dX0_init_10 rfl ?_
  refine g_heq (hq_push (cN_new hz (fun z => absurd z (by decide)) rfl)) (by rw [hq_len]) ?_
  replace hz := gfr_u (n1 := 162) (by decide) hz
  refine g_putF gClX0 0 (by decide) fl_X0_15 rfl rfl rfl dX0_init_12 (hq_at (by decide)) rfl rfl (Nat.le_of_ble_eq_true rfl) (hq_ms (by decide) rfl) rfl ?_
  replace hz := gfr_m (j := 160) (k := 0) (by decide) hz
  exact g_vret rfl dX0_init_15 (Nat.le_of_ble_eq_true rfl) (Nat.le_of_ble_eq_true rfl) ⟨rfl, rfl⟩
set_option maxHeartbeats 4000000 in
set_option maxRecDepth 100000 in
theorem k_X0_162 (l : Launch) (g : gE) (m : gK) (κ : Nat → Nat) (σ : gS) (ζ : gQ) (hz : gfr 163 m κ σ) : gC l g mX0_init (rmc 1 1 48 21) [.ref 162, .int 48] (hq 163 m κ σ ζ) (fun r h => r = none ∧ h = hq 164 (mset m 162 0) κ σ ζ) := by
  refine gC_of (by decide) (Nat.le_of_ble_eq_true rfl) ?_
  refine g_aload_n dX0_init_0 rfl rfl rfl ?_
  refine g_obj ml_X0_3 im_obj cd_obj (Nat.le_of_ble_eq_true rfl) (Nat.le_of_ble_eq_true rfl) dX0_init_1 rfl ?_
  refine g_aload_n dX0_init_4 rfl rfl rfl ?_
  refine g_iload_n dX0_init_5 rfl rfl rfl ?_
  refine g_iconst (v := 0) dX0_init_6 (by decide) rfl ?_
  refine g_max ml_X0_9 st_max in_Math cd_max (Nat.le_of_ble_eq_true rfl) (Nat.le_of_ble_eq_true rfl) (Nat.le_of_ble_eq_true rfl) (Nat.le_of_ble_eq_true rfl) dX0_init_7 rfl ?_
  refine g_newa (at_ := .byte) (ty := .byte) (t := 1) (N := 48) rfl rfl aw_byte rfl (by decide +kernel) (by decide +kernel) (by decide) (by rw [hq_len]; decide) (Nat.le_of_ble_eq_true rfl) (Nat.le_of_ble_eq_true rfl) (fun _ z => by cases z) dX0_init_10 rfl ?_
  refine g_heq (hq_push (cN_new hz (fun z => absurd z (by decide)) rfl)) (by rw [hq_len]) ?_
  replace hz := gfr_u (n1 := 164) (by decide) hz
  refine g_putF gClX0 0 (by decide) fl_X0_15 rfl rfl rfl dX0_init_12 (hq_at (by decide)) rfl rfl (Nat.le_of_ble_eq_true rfl) (hq_ms (by decide) rfl) rfl ?_
  replace hz := gfr_m (j := 162) (k := 0) (by decide) hz
  exact g_vret rfl dX0_init_15 (Nat.le_of_ble_eq_true rfl) (Nat.le_of_ble_eq_true rfl) ⟨rfl, rfl⟩
set_option maxHeartbeats 4000000 in
set_option maxRecDepth 100000 in
theorem k_X0_164 (l : Launch) (g : gE) (m : gK) (κ : Nat → Nat) (σ : gS) (ζ : gQ) (hz : gfr 165 m κ σ) : gC l g mX0_init (rmc 1 1 48 21) [.ref 164, .int 48] (hq 165 m κ σ ζ) (fun r h => r = none ∧ h = hq 166 (mset m 164 0) κ σ ζ) := by
  refine gC_of (by decide) (Nat.le_of_ble_eq_true rfl) ?_
  refine g_aload_n dX0_init_0 rfl rfl rfl ?_
  refine g_obj ml_X0_3 im_obj cd_obj (Nat.le_of_ble_eq_true rfl) (Nat.le_of_ble_eq_true rfl) dX0_init_1 rfl ?_
  refine g_aload_n dX0_init_4 rfl rfl rfl ?_
  refine g_iload_n dX0_init_5 rfl rfl rfl ?_
  refine g_iconst (v := 0) dX0_init_6 (by decide) rfl ?_
  refine g_max ml_X0_9 st_max in_Math cd_max (Nat.le_of_ble_eq_true rfl) (Nat.le_of_ble_eq_true rfl) (Nat.le_of_ble_eq_true rfl) (Nat.le_of_ble_eq_true rfl) dX0_init_7 rfl ?_
  refine g_newa (at_ := .byte) (ty := .byte) (t := 1) (N := 48) rfl rfl aw_byte rfl (by decide +kernel) (by decide +kernel) (by decide) (by rw [hq_len]; decide) (Nat.le_of_ble_eq_true rfl) (Nat.le_of_ble_eq_true rfl) (fun _ z => by cases z) dX0_init_10 rfl ?_
  refine g_heq (hq_push (cN_new hz (fun z => absurd z (by decide)) rfl)) (by rw [hq_len]) ?_
  replace hz := gfr_u (n1 := 166) (by decide) hz
  refine g_putF gClX0 0 (by decide) fl_X0_15 rfl rfl rfl dX0_init_12 (hq_at (by decide)) rfl rfl (Nat.le_of_ble_eq_true rfl) (hq_ms (by decide) rfl) rfl ?_
  replace hz := gfr_m (j := 164) (k := 0) (by decide) hz
  exact g_vret rfl dX0_init_15 (Nat.le_of_ble_eq_true rfl) (Nat.le_of_ble_eq_true rfl) ⟨rfl, rfl⟩
set_option maxHeartbeats 4000000 in
set_option maxRecDepth 100000 in
theorem k_X1_155 (l : Launch) (g : gE) (m : gK) (κ : Nat → Nat) (σ : gS) (ζ : gQ) (hz : gfr 156 m κ σ) : gC l g mX1_init (rmc 2 10 208 42) [.ref 155] (hq 156 m κ σ ζ) (fun r h => r = none ∧ h = hq 166 (mset (mset (mset (mset (mset (mset m 155 0) 155 1) 158 0) 160 0) 162 0) 164 0) (va_up (va_up (va_up (va_up κ 156 1) 156 2) 156 3) 156 4) (pf σ 155 2 (1 : Int32)) ζ) := by
  refine gC_of (by decide) (Nat.le_of_ble_eq_true rfl) ?_
  refine g_aload_n dX1_init_0 rfl rfl rfl ?_
  refine g_obj ml_X1_3 im_obj cd_obj (Nat.le_of_ble_eq_true rfl) (Nat.le_of_ble_eq_true rfl) dX1_init_1 rfl ?_
  refine g_aload_n dX1_init_4 rfl rfl rfl ?_
  refine g_iconst (v := 4) dX1_init_5 (by decide) rfl ?_
  refine g_newq (t := 4) (N := 4) rfl cl_X1_9 (Or.inr rfl) (by decide +kernel) (by decide +kernel) (by decide) (by rw [hq_len]; decide) (Nat.le_of_ble_eq_true rfl) (Nat.le_of_ble_eq_true rfl) dX1_init_6 rfl ?_
  have hk156 := (hz 156 (by decide)).2.1
  refine g_heq (hq_push (cN_new hz (fun z => absurd z (by decide)) rfl)) (by rw [hq_len]) ?_
  replace hz := gfr_u (n1 := 157) (by decide) hz
  refine g_putF gClX1 0 (by decide) fl_X1_11 rfl rfl rfl dX1_init_9 (hq_at (by decide)) rfl rfl (Nat.le_of_ble_eq_true rfl) (hq_ms (by decide) rfl) rfl ?_
  replace hz := gfr_m (j := 155) (k := 0) (by decide) hz
  refine g_aload_n dX1_init_12 rfl rfl rfl ?_
  refine g_iconst (v := 4) dX1_init_13 (by decide) rfl ?_
  refine g_newa (at_ := .int) (ty := .int) (t := 0) (N := 4) rfl rfl aw_int rfl (by decide +kernel) (by decide +kernel) (by decide) (by rw [hq_len]; decide) (Nat.le_of_ble_eq_true rfl) (Nat.le_of_ble_eq_true rfl) (fun _ z => by cases z) dX1_init_14 rfl ?_
  refine g_heq (hq_push (cN_new hz (fun z => absurd z (by decide)) rfl)) (by rw [hq_len]) ?_
  replace hz := gfr_u (n1 := 158) (by decide) hz
  refine g_putF gClX1 1 (by decide) fl_X1_17 rfl rfl rfl dX1_init_16 (hq_at (by decide)) rfl rfl (Nat.le_of_ble_eq_true rfl) (hq_ms (by decide) rfl) rfl ?_
  replace hz := gfr_m (j := 155) (k := 1) (by decide) hz
  refine g_aload_n dX1_init_19 rfl rfl rfl ?_
  refine g_iconst (v := 1) dX1_init_20 (by decide) rfl ?_
  refine g_put gClX1 2 (by decide) fl_X1_21 rfl dX1_init_21 (hq_at (by decide)) rfl rfl (Nat.le_of_ble_eq_true rfl) (hq_pf (by decide) rfl) rfl ?_
  replace hz := gfr_p (j := 155) (k := 2) (x := (1 : Int32)) (by decide) hz
  refine g_iconst (v := 0) dX1_init_24 (by decide) rfl ?_
  refine g_istoreL_n (L1 := [(0, _), (1, _)]) dX1_init_25 rfl (by decide) rfl rfl ?_
  refine g_iload_n dX1_init_26 rfl rfl rfl ?_
  refine g_iconst (v := 4) dX1_init_27 (by decide) rfl ?_
  refine g_icmpge (tgt := 52) dX1_init_28 (by decide) rfl (fun z => absurd z (by decide +kernel)) (fun _ => ?_)
  refine g_aload_n dX1_init_31 rfl rfl rfl ?_
  refine g_get (v := .ref 156) gClX1 0 (by decide) fl_X1_11 dX1_init_32 (hq_at (by decide)) rfl rfl ?_
  refine g_iload_n dX1_init_35 rfl rfl rfl ?_
  refine g_new (fs := [.null, .int 0]) gClX0 cl_X1_9 it_X0 in_X0 (nf_X0 g) (by rw [hq_len]; decide) (Nat.le_of_ble_eq_true rfl) (Nat.le_of_ble_eq_true rfl) dX1_init_36 rfl ?_
  refine g_heq (hq_push (cN_new hz (fun z => absurd z (by decide)) rfl)) (by rw [hq_len]) ?_
  replace hz := gfr_u (n1 := 159) (by decide) hz
  refine g_dup dX1_init_39 rfl rfl ?_
  refine g_bipush (v := 48) dX1_init_40 (by decide) rfl ?_
  refine g_calli mt_X0_init mi_X0_init rfl rfl ml_X1_25 (k_X0_158 l g _ _ _ _ hz) rfl (Nat.le_of_ble_eq_true rfl) (Nat.le_of_ble_eq_true rfl) (Nat.le_of_ble_eq_true rfl) (Nat.le_of_ble_eq_true rfl) rfl (Nat.le_of_ble_eq_true rfl) dX1_init_42 rfl (fun r h p => ?_)
  obtain ⟨rfl, rfl⟩ := p
  replace hz := gfr_u (n1 := 160) (by decide) hz
  replace hz := gfr_m (j := 158) (k := 0) (by decide) hz
  refine g_aast4 (hq_at (by decide)) (hq_at (by decide)) rfl (vinc (by decide +kernel)) (hq_aR (c := 12) (i := 0) (by decide) (by decide) (by decide +kernel) hk156 rfl) dX1_init_45 rfl ?_
  replace hz := gfr_k (j := 156) (v := 1) (by decide) hz
  refine g_iincL (L1 := [(0, _), (1, _)]) dX1_init_46 rfl (by decide) rfl rfl ?_
  refine g_goto (tgt := 26) dX1_init_49 (by decide) ?_
  refine g_iload_n dX1_init_26 rfl rfl rfl ?_
  refine g_iconst (v := 4) dX1_init_27 (by decide) rfl ?_
  refine g_icmpge (tgt := 52) dX1_init_28 (by decide) rfl (fun z => absurd z (by decide +kernel)) (fun _ => ?_)
  refine g_aload_n dX1_init_31 rfl rfl rfl ?_
  refine g_get (v := .ref 156) gClX1 0 (by decide) fl_X1_11 dX1_init_32 (hq_at (by decide)) rfl rfl ?_
  refine g_iload_n dX1_init_35 rfl rfl rfl ?_
  refine g_new (fs := [.null, .int 0]) gClX0 cl_X1_9 it_X0 in_X0 (nf_X0 g) (by rw [hq_len]; decide) (Nat.le_of_ble_eq_true rfl) (Nat.le_of_ble_eq_true rfl) dX1_init_36 rfl ?_
  refine g_heq (hq_push (cN_new hz (fun z => absurd z (by decide)) rfl)) (by rw [hq_len]) ?_
  replace hz := gfr_u (n1 := 161) (by decide) hz
  refine g_dup dX1_init_39 rfl rfl ?_
  refine g_bipush (v := 48) dX1_init_40 (by decide) rfl ?_
  refine g_calli mt_X0_init mi_X0_init rfl rfl ml_X1_25 (k_X0_160 l g _ _ _ _ hz) rfl (Nat.le_of_ble_eq_true rfl) (Nat.le_of_ble_eq_true rfl) (Nat.le_of_ble_eq_true rfl) (Nat.le_of_ble_eq_true rfl) rfl (Nat.le_of_ble_eq_true rfl) dX1_init_42 rfl (fun r h p => ?_)
  obtain ⟨rfl, rfl⟩ := p
  replace hz := gfr_u (n1 := 162) (by decide) hz
  replace hz := gfr_m (j := 160) (k := 0) (by decide) hz
  refine g_aast4 (hq_at (by decide)) (hq_at (by decide)) rfl (vinc (by decide +kernel)) (hq_aR (c := 12) (i := 1) (by decide) (by decide) (by decide +kernel) rfl rfl) dX1_init_45 rfl ?_
  replace hz := gfr_k (j := 156) (v := 2) (by decide) hz
  refine g_iincL (L1 := [(0, _), (1, _)]) dX1_init_46 rfl (by decide) rfl rfl ?_
  refine g_goto (tgt := 26) dX1_init_49 (by decide) ?_
  refine g_iload_n dX1_init_26 rfl rfl rfl ?_
  refine g_iconst (v := 4) dX1_init_27 (by decide) rfl ?_
  refine g_icmpge (tgt := 52) dX1_init_28 (by decide) rfl (fun z => absurd z (by decide +kernel)) (fun _ => ?_)
  refine g_aload_n dX1_init_31 rfl rfl rfl ?_
  refine g_get (v := .ref 156) gClX1 0 (by decide) fl_X1_11 dX1_init_32 (hq_at (by decide)) rfl rfl ?_
  refine g_iload_n dX1_init_35 rfl rfl rfl ?_
  refine g_new (fs := [.null, .int 0]) gClX0 cl_X1_9 it_X0 in_X0 (nf_X0 g) (by rw [hq_len]; decide) (Nat.le_of_ble_eq_true rfl) (Nat.le_of_ble_eq_true rfl) dX1_init_36 rfl ?_
  refine g_heq (hq_push (cN_new hz (fun z => absurd z (by decide)) rfl)) (by rw [hq_len]) ?_
  replace hz := gfr_u (n1 := 163) (by decide) hz
  refine g_dup dX1_init_39 rfl rfl ?_
  refine g_bipush (v := 48) dX1_init_40 (by decide) rfl ?_
  refine g_calli mt_X0_init mi_X0_init rfl rfl ml_X1_25 (k_X0_162 l g _ _ _ _ hz) rfl (Nat.le_of_ble_eq_true rfl) (Nat.le_of_ble_eq_true rfl) (Nat.le_of_ble_eq_true rfl) (Nat.le_of_ble_eq_true rfl) rfl (Nat.le_of_ble_eq_true rfl) dX1_init_42 rfl (fun r h p => ?_)
  obtain ⟨rfl, rfl⟩ := p
  replace hz := gfr_u (n1 := 164) (by decide) hz
  replace hz := gfr_m (j := 162) (k := 0) (by decide) hz
  refine g_aast4 (hq_at (by decide)) (hq_at (by decide)) rfl (vinc (by decide +kernel)) (hq_aR (c := 12) (i := 2) (by decide) (by decide) (by decide +kernel) rfl rfl) dX1_init_45 rfl ?_
  replace hz := gfr_k (j := 156) (v := 3) (by decide) hz
  refine g_iincL (L1 := [(0, _), (1, _)]) dX1_init_46 rfl (by decide) rfl rfl ?_
  refine g_goto (tgt := 26) dX1_init_49 (by decide) ?_
  refine g_iload_n dX1_init_26 rfl rfl rfl ?_
  refine g_iconst (v := 4) dX1_init_27 (by decide) rfl ?_
  refine g_icmpge (tgt := 52) dX1_init_28 (by decide) rfl (fun z => absurd z (by decide +kernel)) (fun _ => ?_)
  refine g_aload_n dX1_init_31 rfl rfl rfl ?_
  refine g_get (v := .ref 156) gClX1 0 (by decide) fl_X1_11 dX1_init_32 (hq_at (by decide)) rfl rfl ?_
  refine g_iload_n dX1_init_35 rfl rfl rfl ?_
  refine g_new (fs := [.null, .int 0]) gClX0 cl_X1_9 it_X0 in_X0 (nf_X0 g) (by rw [hq_len]; decide) (Nat.le_of_ble_eq_true rfl) (Nat.le_of_ble_eq_true rfl) dX1_init_36 rfl ?_
  refine g_heq (hq_push (cN_new hz (fun z => absurd z (by decide)) rfl)) (by rw [hq_len]) ?_
  replace hz := gfr_u (n1 := 165) (by decide) hz
  refine g_dup dX1_init_39 rfl rfl ?_
  refine g_bipush (v := 48) dX1_init_40 (by decide) rfl ?_
  refine g_calli mt_X0_init mi_X0_init rfl rfl ml_X1_25 (k_X0_164 l g _ _ _ _ hz) rfl (Nat.le_of_ble_eq_true rfl) (Nat.le_of_ble_eq_true rfl) (Nat.le_of_ble_eq_true rfl) (Nat.le_of_ble_eq_true rfl) rfl (Nat.le_of_ble_eq_true rfl) dX1_init_42 rfl (fun r h p => ?_)
  obtain ⟨rfl, rfl⟩ := p
  replace hz := gfr_u (n1 := 166) (by decide) hz
  replace hz := gfr_m (j := 164) (k := 0) (by decide) hz
  refine g_aast4 (hq_at (by decide)) (hq_at (by decide)) rfl (vinc (by decide +kernel)) (hq_aR (c := 12) (i := 3) (by decide) (by decide) (by decide +kernel) rfl rfl) dX1_init_45 rfl ?_
  replace hz := gfr_k (j := 156) (v := 4) (by decide) hz
  refine g_iincL (L1 := [(0, _), (1, _)]) dX1_init_46 rfl (by decide) rfl rfl ?_
  refine g_goto (tgt := 26) dX1_init_49 (by decide) ?_
  refine g_iload_n dX1_init_26 rfl rfl rfl ?_
  refine g_iconst (v := 4) dX1_init_27 (by decide) rfl ?_
  refine g_icmpge (tgt := 52) dX1_init_28 (by decide) rfl (fun _ => ?_) (fun z => absurd z (by decide +kernel))
  exact g_vret rfl dX1_init_52 (Nat.le_of_ble_eq_true rfl) (Nat.le_of_ble_eq_true rfl) ⟨rfl, rfl⟩
set_option maxHeartbeats 4000000 in
set_option maxRecDepth 100000 in
theorem k_X0_169 (l : Launch) (g : gE) (m : gK) (κ : Nat → Nat) (σ : gS) (ζ : gQ) (hz : gfr 170 m κ σ) : gC l g mX0_init (rmc 1 1 48 21) [.ref 169, .int 48] (hq 170 m κ σ ζ) (fun r h => r = none ∧ h = hq 171 (mset m 169 0) κ σ ζ) := by
  refine gC_of (by decide) (Nat.le_of_ble_eq_true rfl) ?_
  refine g_aload_n dX0_init_0 rfl rfl rfl ?_
  refine g_obj ml_X0_3 im_obj cd_obj (Nat.le_of_ble_eq_true rfl) (Nat.le_of_ble_eq_true rfl) dX0_init_1 rfl ?_
  refine g_aload_n dX0_init_4 rfl rfl rfl ?_
  refine g_iload_n dX0_init_5 rfl rfl rfl ?_
  refine g_iconst (v := 0) dX0_init_6 (by decide) rfl ?_
  refine g_max ml_X0_9 st_max in_Math cd_max (Nat.le_of_ble_eq_true rfl) (Nat.le_of_ble_eq_true rfl) (Nat.le_of_ble_eq_true rfl) (Nat.le_of_ble_eq_true rfl) dX0_init_7 rfl ?_
  refine g_newa (at_ := .byte) (ty := .byte) (t := 1) (N := 48) rfl rfl aw_byte rfl (by decide +kernel) (by decide +kernel) (by decide) (by rw [hq_len]; decide) (Nat.le_of_ble_eq_true rfl) (Nat.le_of_ble_eq_true rfl) (fun _ z => by cases z) dX0_init_10 rfl ?_
  refine g_heq (hq_push (cN_new hz (fun z => absurd z (by decide)) rfl)) (by rw [hq_len]) ?_
  replace hz := gfr_u (n1 := 171) (by decide) hz
  refine g_putF gClX0 0 (by decide) fl_X0_15 rfl rfl rfl dX0_init_12 (hq_at (by decide)) rfl rfl (Nat.le_of_ble_eq_true rfl) (hq_ms (by decide) rfl) rfl ?_
  replace hz := gfr_m (j := 169) (k := 0) (by decide) hz
  exact g_vret rfl dX0_init_15 (Nat.le_of_ble_eq_true rfl) (Nat.le_of_ble_eq_true rfl) ⟨rfl, rfl⟩
set_option maxHeartbeats 4000000 in
set_option maxRecDepth 100000 in
theorem k_X0_171 (l : Launch) (g : gE) (m : gK) (κ : Nat → Nat) (σ : gS) (ζ : gQ) (hz : gfr 172 m κ σ) : gC l g mX0_init (rmc 1 1 48 21) [.ref 171, .int 48] (hq 172 m κ σ ζ) (fun r h => r = none ∧ h = hq 173 (mset m 171 0) κ σ ζ) := by
  refine gC_of (by decide) (Nat.le_of_ble_eq_true rfl) ?_
  refine g_aload_n dX0_init_0 rfl rfl rfl ?_
  refine g_obj ml_X0_3 im_obj cd_obj (Nat.le_of_ble_eq_true rfl) (Nat.le_of_ble_eq_true rfl) dX0_init_1 rfl ?_
  refine g_aload_n dX0_init_4 rfl rfl rfl ?_
  refine g_iload_n dX0_init_5 rfl rfl rfl ?_
  refine g_iconst (v := 0) dX0_init_6 (by decide) rfl ?_
  refine g_max ml_X0_9 st_max in_Math cd_max (Nat.le_of_ble_eq_true rfl) (Nat.le_of_ble_eq_true rfl) (Nat.le_of_ble_eq_true rfl) (Nat.le_of_ble_eq_true rfl) dX0_init_7 rfl ?_
  refine g_newa (at_ := .byte) (ty := .byte) (t := 1) (N := 48) rfl rfl aw_byte rfl (by decide +kernel) (by decide +kernel) (by decide) (by rw [hq_len]; decide) (Nat.le_of_ble_eq_true rfl) (Nat.le_of_ble_eq_true rfl) (fun _ z => by cases z) dX0_init_10 rfl ?_
  refine g_heq (hq_push (cN_new hz (fun z => absurd z (by decide)) rfl)) (by rw [hq_len]) ?_
  replace hz := gfr_u (n1 := 173) (by decide) hz
  refine g_putF gClX0 0 (by decide) fl_X0_15 rfl rfl rfl dX0_init_12 (hq_at (by decide)) rfl rfl (Nat.le_of_ble_eq_true rfl) (hq_ms (by decide) rfl) rfl ?_
  replace hz := gfr_m (j := 171) (k := 0) (by decide) hz
  exact g_vret rfl dX0_init_15 (Nat.le_of_ble_eq_true rfl) (Nat.le_of_ble_eq_true rfl) ⟨rfl, rfl⟩
set_option maxHeartbeats 4000000 in
set_option maxRecDepth 100000 in
theorem k_X0_173 (l : Launch) (g : gE) (m : gK) (κ : Nat → Nat) (σ : gS) (ζ : gQ) (hz : gfr 174 m κ σ) : gC l g mX0_init (rmc 1 1 48 21) [.ref 173, .int 48] (hq 174 m κ σ ζ) (fun r h => r = none ∧ h = hq 175 (mset m 173 0) κ σ ζ) := by
  refine gC_of (by decide) (Nat.le_of_ble_eq_true rfl) ?_
  refine g_aload_n dX0_init_0 rfl rfl rfl ?_
  refine g_obj ml_X0_3 im_obj cd_obj (Nat.le_of_ble_eq_true rfl) (Nat.le_of_ble_eq_true rfl) dX0_init_1 rfl ?_
  refine g_aload_n dX0_init_4 rfl rfl rfl ?_
  refine g_iload_n dX0_init_5 rfl rfl rfl ?_
  refine g_iconst (v := 0) dX0_init_6 (by decide) rfl ?_
  refine g_max ml_X0_9 st_max in_Math cd_max (Nat.le_of_ble_eq_true rfl) (Nat.le_of_ble_eq_true rfl) (Nat.le_of_ble_eq_true rfl) (Nat.le_of_ble_eq_true rfl) dX0_init_7 rfl ?_
  refine g_newa (at_ := .byte) (ty := .byte) (t := 1) (N := 48) rfl rfl aw_byte rfl (by decide +kernel) (by decide +kernel) (by decide) (by rw [hq_len]; decide) (Nat.le_of_ble_eq_true rfl) (Nat.le_of_ble_eq_true rfl) (fun _ z => by cases z) dX0_init_10 rfl ?_
  refine g_heq (hq_push (cN_new hz (fun z => absurd z (by decide)) rfl)) (by rw [hq_len]) ?_
  replace hz := gfr_u (n1 := 175) (by decide) hz
  refine g_putF gClX0 0 (by decide) fl_X0_15 rfl rfl rfl dX0_init_12 (hq_at (by decide)) rfl rfl (Nat.le_of_ble_eq_true rfl) (hq_ms (by decide) rfl) rfl ?_
  replace hz := gfr_m (j := 173) (k := 0) (by decide) hz
  exact g_vret rfl dX0_init_15 (Nat.le_of_ble_eq_true rfl) (Nat.le_of_ble_eq_true rfl) ⟨rfl, rfl⟩
set_option maxHeartbeats 4000000 in
set_option maxRecDepth 100000 in
theorem k_X0_175 (l : Launch) (g : gE) (m : gK) (κ : Nat → Nat) (σ : gS) (ζ : gQ) (hz : gfr 176 m κ σ) : gC l g mX0_init (rmc 1 1 48 21) [.ref 175, .int 48] (hq 176 m κ σ ζ) (fun r h => r = none ∧ h = hq 177 (mset m 175 0) κ σ ζ) := by
  refine gC_of (by decide) (Nat.le_of_ble_eq_true rfl) ?_
  refine g_aload_n dX0_init_0 rfl rfl rfl ?_
  refine g_obj ml_X0_3 im_obj cd_obj (Nat.le_of_ble_eq_true rfl) (Nat.le_of_ble_eq_true rfl) dX0_init_1 rfl ?_
  refine g_aload_n dX0_init_4 rfl rfl rfl ?_
  refine g_iload_n dX0_init_5 rfl rfl rfl ?_
  refine g_iconst (v := 0) dX0_init_6 (by decide) rfl ?_
  refine g_max ml_X0_9 st_max in_Math cd_max (Nat.le_of_ble_eq_true rfl) (Nat.le_of_ble_eq_true rfl) (Nat.le_of_ble_eq_true rfl) (Nat.le_of_ble_eq_true rfl) dX0_init_7 rfl ?_
  refine g_newa (at_ := .byte) (ty := .byte) (t := 1) (N := 48) rfl rfl aw_byte rfl (by decide +kernel) (by decide +kernel) (by decide) (by rw [hq_len]; decide) (Nat.le_of_ble_eq_true rfl) (Nat.le_of_ble_eq_true rfl) (fun _ z => by cases z) dX0_init_10 rfl ?_
  refine g_heq (hq_push (cN_new hz (fun z => absurd z (by decide)) rfl)) (by rw [hq_len]) ?_
  replace hz := gfr_u (n1 := 177) (by decide) hz
  refine g_putF gClX0 0 (by decide) fl_X0_15 rfl rfl rfl dX0_init_12 (hq_at (by decide)) rfl rfl (Nat.le_of_ble_eq_true rfl) (hq_ms (by decide) rfl) rfl ?_
  replace hz := gfr_m (j := 175) (k := 0) (by decide) hz
  exact g_vret rfl dX0_init_15 (Nat.le_of_ble_eq_true rfl) (Nat.le_of_ble_eq_true rfl) ⟨rfl, rfl⟩
set_option maxHeartbeats 4000000 in
set_option maxRecDepth 100000 in
theorem k_X1_166 (l : Launch) (g : gE) (m : gK) (κ : Nat → Nat) (σ : gS) (ζ : gQ) (hz : gfr 167 m κ σ) : gC l g mX1_init (rmc 2 10 208 42) [.ref 166] (hq 167 m κ σ ζ) (fun r h => r = none ∧ h = hq 177 (mset (mset (mset (mset (mset (mset m 166 0) 166 1) 169 0) 171 0) 173 0) 175 0) (va_up (va_up (va_up (va_up κ 167 1) 167 2) 167 3) 167 4) (pf σ 166 2 (1 : Int32)) ζ) := by
  refine gC_of (by decide) (Nat.le_of_ble_eq_true rfl) ?_
  refine g_aload_n dX1_init_0 rfl rfl rfl ?_
  refine g_obj ml_X1_3 im_obj cd_obj (Nat.le_of_ble_eq_true rfl) (Nat.le_of_ble_eq_true rfl) dX1_init_1 rfl ?_
  refine g_aload_n dX1_init_4 rfl rfl rfl ?_
  refine g_iconst (v := 4) dX1_init_5 (by decide) rfl ?_
  refine g_newq (t := 4) (N := 4) rfl cl_X1_9 (Or.inr rfl) (by decide +kernel) (by decide +kernel) (by decide) (by rw [hq_len]; decide) (Nat.le_of_ble_eq_true rfl) (Nat.le_of_ble_eq_true rfl) dX1_init_6 rfl ?_
  have hk167 := (hz 167 (by decide)).2.1
  refine g_heq (hq_push (cN_new hz (fun z => absurd z (by decide)) rfl)) (by rw [hq_len]) ?_
  replace hz := gfr_u (n1 := 168) (by decide) hz
  refine g_putF gClX1 0 (by decide) fl_X1_11 rfl rfl rfl dX1_init_9 (hq_at (by decide)) rfl rfl (Nat.le_of_ble_eq_true rfl) (hq_ms (by decide) rfl) rfl ?_
  replace hz := gfr_m (j := 166) (k := 0) (by decide) hz
  refine g_aload_n dX1_init_12 rfl rfl rfl ?_
  refine g_iconst (v := 4) dX1_init_13 (by decide) rfl ?_
  refine g_newa (at_ := .int) (ty := .int) (t := 0) (N := 4) rfl rfl aw_int rfl (by decide +kernel) (by decide +kernel) (by decide) (by rw [hq_len]; decide) (Nat.le_of_ble_eq_true rfl) (Nat.le_of_ble_eq_true rfl) (fun _ z => by cases z) dX1_init_14 rfl ?_
  refine g_heq (hq_push (cN_new hz (fun z => absurd z (by decide)) rfl)) (by rw [hq_len]) ?_
  replace hz := gfr_u (n1 := 169) (by decide) hz
  refine g_putF gClX1 1 (by decide) fl_X1_17 rfl rfl rfl dX1_init_16 (hq_at (by decide)) rfl rfl (Nat.le_of_ble_eq_true rfl) (hq_ms (by decide) rfl) rfl ?_
  replace hz := gfr_m (j := 166) (k := 1) (by decide) hz
  refine g_aload_n dX1_init_19 rfl rfl rfl ?_
  refine g_iconst (v := 1) dX1_init_20 (by decide) rfl ?_
  refine g_put gClX1 2 (by decide) fl_X1_21 rfl dX1_init_21 (hq_at (by decide)) rfl rfl (Nat.le_of_ble_eq_true rfl) (hq_pf (by decide) rfl) rfl ?_
  replace hz := gfr_p (j := 166) (k := 2) (x := (1 : Int32)) (by decide) hz
  refine g_iconst (v := 0) dX1_init_24 (by decide) rfl ?_
  refine g_istoreL_n (L1 := [(0, _), (1, _)]) dX1_init_25 rfl (by decide) rfl rfl ?_
  refine g_iload_n dX1_init_26 rfl rfl rfl ?_
  refine g_iconst (v := 4) dX1_init_27 (by decide) rfl ?_
  refine g_icmpge (tgt := 52) dX1_init_28 (by decide) rfl (fun z => absurd z (by decide +kernel)) (fun _ => ?_)
  refine g_aload_n dX1_init_31 rfl rfl rfl ?_
  refine g_get (v := .ref 167) gClX1 0 (by decide) fl_X1_11 dX1_init_32 (hq_at (by decide)) rfl rfl ?_
  refine g_iload_n dX1_init_35 rfl rfl rfl ?_
  refine g_new (fs := [.null, .int 0]) gClX0 cl_X1_9 it_X0 in_X0 (nf_X0 g) (by rw [hq_len]; decide) (Nat.le_of_ble_eq_true rfl) (Nat.le_of_ble_eq_true rfl) dX1_init_36 rfl ?_
  refine g_heq (hq_push (cN_new hz (fun z => absurd z (by decide)) rfl)) (by rw [hq_len]) ?_
  replace hz := gfr_u (n1 := 170) (by decide) hz
  refine g_dup dX1_init_39 rfl rfl ?_
  refine g_bipush (v := 48) dX1_init_40 (by decide) rfl ?_
  refine g_calli mt_X0_init mi_X0_init rfl rfl ml_X1_25 (k_X0_169 l g _ _ _ _ hz) rfl (Nat.le_of_ble_eq_true rfl) (Nat.le_of_ble_eq_true rfl) (Nat.le_of_ble_eq_true rfl) (Nat.le_of_ble_eq_true rfl) rfl (Nat.le_of_ble_eq_true rfl) dX1_init_42 rfl (fun r h p => ?_)
  obtain ⟨rfl, rfl⟩ := p
  replace hz := gfr_u (n1 := 171) (by decide) hz
  replace hz := gfr_m (j := 169) (k := 0) (by decide) hz
  refine g_aast4 (hq_at (by decide)) (hq_at (by decide)) rfl (vinc (by decide +kernel)) (hq_aR (c := 13) (i := 0) (by decide) (by decide) (by decide +kernel) hk167 rfl) dX1_init_45 rfl ?_
  replace hz := gfr_k (j := 167) (v := 1) (by decide) hz
  refine g_iincL (L1 := [(0, _), (1, _)]) dX1_init_46 rfl (by decide) rfl rfl ?_
  refine g_goto (tgt := 26) dX1_init_49 (by decide) ?_
  refine g_iload_n dX1_init_26 rfl rfl rfl ?_
  refine g_iconst (v := 4) dX1_init_27 (by decide) rfl ?_
  refine g_icmpge (tgt := 52) dX1_init_28 (by decide) rfl (fun z => absurd z (by decide +kernel)) (fun _ => ?_)
  refine g_aload_n dX1_init_31 rfl rfl rfl ?_
  refine g_get (v := .ref 167) gClX1 0 (by decide) fl_X1_11 dX1_init_32 (hq_at (by decide)) rfl rfl ?_
  refine g_iload_n dX1_init_35 rfl rfl rfl ?_
  refine g_new (fs := [.null, .int 0]) gClX0 cl_X1_9 it_X0 in_X0 (nf_X0 g) (by rw [hq_len]; decide) (Nat.le_of_ble_eq_true rfl) (Nat.le_of_ble_eq_true rfl) dX1_init_36 rfl ?_
  refine g_heq (hq_push (cN_new hz (fun z => absurd z (by decide)) rfl)) (by rw [hq_len]) ?_
  replace hz := gfr_u (n1 := 172) (by decide) hz
  refine g_dup dX1_init_39 rfl rfl ?_
  refine g_bipush (v := 48) dX1_init_40 (by decide) rfl ?_
  refine g_calli mt_X0_init mi_X0_init rfl rfl ml_X1_25 (k_X0_171 l g _ _ _ _ hz) rfl (Nat.le_of_ble_eq_true rfl) (Nat.le_of_ble_eq_true rfl) (Nat.le_of_ble_eq_true rfl) (Nat.le_of_ble_eq_true rfl) rfl (Nat.le_of_ble_eq_true rfl) dX1_init_42 rfl (fun r h p => ?_)
  obtain ⟨rfl, rfl⟩ := p
  replace hz := gfr_u (n1 := 173) (by decide) hz
  replace hz := gfr_m (j := 171) (k := 0) (by decide) hz
  refine g_aast4 (hq_at (by decide)) (hq_at (by decide)) rfl (vinc (by decide +kernel)) (hq_aR (c := 13) (i := 1) (by decide) (by decide) (by decide +kernel) rfl rfl) dX1_init_45 rfl ?_
  replace hz := gfr_k (j := 167) (v := 2) (by decide) hz
  refine g_iincL (L1 := [(0, _), (1, _)]) dX1_init_46 rfl (by decide) rfl rfl ?_
  refine g_goto (tgt := 26) dX1_init_49 (by decide) ?_
  refine g_iload_n dX1_init_26 rfl rfl rfl ?_
  refine g_iconst (v := 4) dX1_init_27 (by decide) rfl ?_
  refine g_icmpge (tgt := 52) dX1_init_28 (by decide) rfl (fun z => absurd z (by decide +kernel)) (fun _ => ?_)
  refine g_aload_n dX1_init_31 rfl rfl rfl ?_
  refine g_get (v := .ref 167) gClX1 0 (by decide) fl_X1_11 dX1_init_32 (hq_at (by decide)) rfl rfl ?_
  refine g_iload_n dX1_init_35 rfl rfl rfl ?_
  refine g_new (fs := [.null, .int 0]) gClX0 cl_X1_9 it_X0 in_X0 (nf_X0 g) (by rw [hq_len]; decide) (Nat.le_of_ble_eq_true rfl) (Nat.le_of_ble_eq_true rfl) dX1_init_36 rfl ?_
  refine g_heq (hq_push (cN_new hz (fun z => absurd z (by decide)) rfl)) (by rw [hq_len]) ?_
  replace hz := gfr_u (n1 := 174) (by decide) hz
  refine g_dup dX1_init_39 rfl rfl ?_
  refine g_bipush (v := 48) dX1_init_40 (by decide) rfl ?_
  refine g_calli mt_X0_init mi_X0_init rfl rfl ml_X1_25 (k_X0_173 l g _ _ _ _ hz) rfl (Nat.le_of_ble_eq_true rfl) (Nat.le_of_ble_eq_true rfl) (Nat.le_of_ble_eq_true rfl) (Nat.le_of_ble_eq_true rfl) rfl (Nat.le_of_ble_eq_true rfl) dX1_init_42 rfl (fun r h p => ?_)
  obtain ⟨rfl, rfl⟩ := p
  replace hz := gfr_u (n1 := 175) (by decide) hz
  replace hz := gfr_m (j := 173) (k := 0) (by decide) hz
  refine g_aast4 (hq_at (by decide)) (hq_at (by decide)) rfl (vinc (by decide +kernel)) (hq_aR (c := 13) (i := 2) (by decide) (by decide) (by decide +kernel) rfl rfl) dX1_init_45 rfl ?_
  replace hz := gfr_k (j := 167) (v := 3) (by decide) hz
  refine g_iincL (L1 := [(0, _), (1, _)]) dX1_init_46 rfl (by decide) rfl rfl ?_
  refine g_goto (tgt := 26) dX1_init_49 (by decide) ?_
  refine g_iload_n dX1_init_26 rfl rfl rfl ?_
  refine g_iconst (v := 4) dX1_init_27 (by decide) rfl ?_
  refine g_icmpge (tgt := 52) dX1_init_28 (by decide) rfl (fun z => absurd z (by decide +kernel)) (fun _ => ?_)
  refine g_aload_n dX1_init_31 rfl rfl rfl ?_
  refine g_get (v := .ref 167) gClX1 0 (by decide) fl_X1_11 dX1_init_32 (hq_at (by decide)) rfl rfl ?_
  refine g_iload_n dX1_init_35 rfl rfl rfl ?_
  refine g_new (fs := [.null, .int 0]) gClX0 cl_X1_9 it_X0 in_X0 (nf_X0 g) (by rw [hq_len]; decide) (Nat.le_of_ble_eq_true rfl) (Nat.le_of_ble_eq_true rfl) dX1_init_36 rfl ?_
  refine g_heq (hq_push (cN_new hz (fun z => absurd z (by decide)) rfl)) (by rw [hq_len]) ?_
  replace hz := gfr_u (n1 := 176) (by decide) hz
  refine g_dup dX1_init_39 rfl rfl ?_
  refine g_bipush (v := 48) dX1_init_40 (by decide) rfl ?_
  refine g_calli mt_X0_init mi_X0_init rfl rfl ml_X1_25 (k_X0_175 l g _ _ _ _ hz) rfl (Nat.le_of_ble_eq_true rfl) (Nat.le_of_ble_eq_true rfl) (Nat.le_of_ble_eq_true rfl) (Nat.le_of_ble_eq_true rfl) rfl (Nat.le_of_ble_eq_true rfl) dX1_init_42 rfl (fun r h p => ?_)
  obtain ⟨rfl, rfl⟩ := p
  replace hz := gfr_u (n1 := 177) (by decide) hz
  replace hz := gfr_m (j := 175) (k := 0) (by decide) hz
  refine g_aast4 (hq_at (by decide)) (hq_at (by decide)) rfl (vinc (by decide +kernel)) (hq_aR (c := 13) (i := 3) (by decide) (by decide) (by decide +kernel) rfl rfl) dX1_init_45 rfl ?_
  replace hz := gfr_k (j := 167) (v := 4) (by decide) hz
  refine g_iincL (L1 := [(0, _), (1, _)]) dX1_init_46 rfl (by decide) rfl rfl ?_
  refine g_goto (tgt := 26) dX1_init_49 (by decide) ?_
  refine g_iload_n dX1_init_26 rfl rfl rfl ?_
  refine g_iconst (v := 4) dX1_init_27 (by decide) rfl ?_
  refine g_icmpge (tgt := 52) dX1_init_28 (by decide) rfl (fun _ => ?_) (fun z => absurd z (by decide +kernel))
  exact g_vret rfl dX1_init_52 (Nat.le_of_ble_eq_true rfl) (Nat.le_of_ble_eq_true rfl) ⟨rfl, rfl⟩
set_option maxHeartbeats 4000000 in
set_option maxRecDepth 100000 in
theorem k_X0_180 (l : Launch) (g : gE) (m : gK) (κ : Nat → Nat) (σ : gS) (ζ : gQ) (hz : gfr 181 m κ σ) : gC l g mX0_init (rmc 1 1 48 21) [.ref 180, .int 48] (hq 181 m κ σ ζ) (fun r h => r = none ∧ h = hq 182 (mset m 180 0) κ σ ζ) := by
  refine gC_of (by decide) (Nat.le_of_ble_eq_true rfl) ?_
  refine g_aload_n dX0_init_0 rfl rfl rfl ?_
  refine g_obj ml_X0_3 im_obj cd_obj (Nat.le_of_ble_eq_true rfl) (Nat.le_of_ble_eq_true rfl) dX0_init_1 rfl ?_
  refine g_aload_n dX0_init_4 rfl rfl rfl ?_
  refine g_iload_n dX0_init_5 rfl rfl rfl ?_
  refine g_iconst (v := 0) dX0_init_6 (by decide) rfl ?_
  refine g_max ml_X0_9 st_max in_Math cd_max (Nat.le_of_ble_eq_true rfl) (Nat.le_of_ble_eq_true rfl) (Nat.le_of_ble_eq_true rfl) (Nat.le_of_ble_eq_true rfl) dX0_init_7 rfl ?_
  refine g_newa (at_ := .byte) (ty := .byte) (t := 1) (N := 48) rfl rfl aw_byte rfl (by decide +kernel) (by decide +kernel) (by decide) (by rw [hq_len]; decide) (Nat.le_of_ble_eq_true rfl) (Nat.le_of_ble_eq_true rfl) (fun _ z => by cases z) dX0_init_10 rfl ?_
  refine g_heq (hq_push (cN_new hz (fun z => absurd z (by decide)) rfl)) (by rw [hq_len]) ?_
  replace hz := gfr_u (n1 := 182) (by decide) hz
  refine g_putF gClX0 0 (by decide) fl_X0_15 rfl rfl rfl dX0_init_12 (hq_at (by decide)) rfl rfl (Nat.le_of_ble_eq_true rfl) (hq_ms (by decide) rfl) rfl ?_
  replace hz := gfr_m (j := 180) (k := 0) (by decide) hz
  exact g_vret rfl dX0_init_15 (Nat.le_of_ble_eq_true rfl) (Nat.le_of_ble_eq_true rfl) ⟨rfl, rfl⟩
set_option maxHeartbeats 4000000 in
set_option maxRecDepth 100000 in
theorem k_X0_182 (l : Launch) (g : gE) (m : gK) (κ : Nat → Nat) (σ : gS) (ζ : gQ) (hz : gfr 183 m κ σ) : gC l g mX0_init (rmc 1 1 48 21) [.ref 182, .int 48] (hq 183 m κ σ ζ) (fun r h => r = none ∧ h = hq 184 (mset m 182 0) κ σ ζ) := by
  refine gC_of (by decide) (Nat.le_of_ble_eq_true rfl) ?_
  refine g_aload_n dX0_init_0 rfl rfl rfl ?_
  refine g_obj ml_X0_3 im_obj cd_obj (Nat.le_of_ble_eq_true rfl) (Nat.le_of_ble_eq_true rfl) dX0_init_1 rfl ?_
  refine g_aload_n dX0_init_4 rfl rfl rfl ?_
  refine g_iload_n dX0_init_5 rfl rfl rfl ?_
  refine g_iconst (v := 0) dX0_init_6 (by decide) rfl ?_
  refine g_max ml_X0_9 st_max in_Math cd_max (Nat.le_of_ble_eq_true rfl) (Nat.le_of_ble_eq_true rfl) (Nat.le_of_ble_eq_true rfl) (Nat.le_of_ble_eq_true rfl) dX0_init_7 rfl ?_
  refine g_newa (at_ := .byte) (ty := .byte) (t := 1) (N := 48) rfl rfl aw_byte rfl (by decide +kernel) (by decide +kernel) (by decide) (by rw [hq_len]; decide) (Nat.le_of_ble_eq_true rfl) (Nat.le_of_ble_eq_true rfl) (fun _ z => by cases z) dX0_init_10 rfl ?_
  refine g_heq (hq_push (cN_new hz (fun z => absurd z (by decide)) rfl)) (by rw [hq_len]) ?_
  replace hz := gfr_u (n1 := 184) (by decide) hz
  refine g_putF gClX0 0 (by decide) fl_X0_15 rfl rfl rfl dX0_init_12 (hq_at (by decide)) rfl rfl (Nat.le_of_ble_eq_true rfl) (hq_ms (by decide) rfl) rfl ?_
  replace hz := gfr_m (j := 182) (k := 0) (by decide) hz
  exact g_vret rfl dX0_init_15 (Nat.le_of_ble_eq_true rfl) (Nat.le_of_ble_eq_true rfl) ⟨rfl, rfl⟩
set_option maxHeartbeats 4000000 in
set_option maxRecDepth 100000 in
theorem k_X0_184 (l : Launch) (g : gE) (m : gK) (κ : Nat → Nat) (σ : gS) (ζ : gQ) (hz : gfr 185 m κ σ) : gC l g mX0_init (rmc 1 1 48 21) [.ref 184, .int 48] (hq 185 m κ σ ζ) (fun r h => r = none ∧ h = hq 186 (mset m 184 0) κ σ ζ) := by
  refine gC_of (by decide) (Nat.le_of_ble_eq_true rfl) ?_
  refine g_aload_n dX0_init_0 rfl rfl rfl ?_
  refine g_obj ml_X0_3 im_obj cd_obj (Nat.le_of_ble_eq_true rfl) (Nat.le_of_ble_eq_true rfl) dX0_init_1 rfl ?_
  refine g_aload_n dX0_init_4 rfl rfl rfl ?_
  refine g_iload_n dX0_init_5 rfl rfl rfl ?_
  refine g_iconst (v := 0) dX0_init_6 (by decide) rfl ?_
  refine g_max ml_X0_9 st_max in_Math cd_max (Nat.le_of_ble_eq_true rfl) (Nat.le_of_ble_eq_true rfl) (Nat.le_of_ble_eq_true rfl) (Nat.le_of_ble_eq_true rfl) dX0_init_7 rfl ?_
  refine g_newa (at_ := .byte) (ty := .byte) (t := 1) (N := 48) rfl rfl aw_byte rfl (by decide +kernel) (by decide +kernel) (by decide) (by rw [hq_len]; decide) (Nat.le_of_ble_eq_true rfl) (Nat.le_of_ble_eq_true rfl) (fun _ z => by cases z) dX0_init_10 rfl ?_
  refine g_heq (hq_push (cN_new hz (fun z => absurd z (by decide)) rfl)) (by rw [hq_len]) ?_
  replace hz := gfr_u (n1 := 186) (by decide) hz
  refine g_putF gClX0 0 (by decide) fl_X0_15 rfl rfl rfl dX0_init_12 (hq_at (by decide)) rfl rfl (Nat.le_of_ble_eq_true rfl) (hq_ms (by decide) rfl) rfl ?_
  replace hz := gfr_m (j := 184) (k := 0) (by decide) hz
  exact g_vret rfl dX0_init_15 (Nat.le_of_ble_eq_true rfl) (Nat.le_of_ble_eq_true rfl) ⟨rfl, rfl⟩
set_option maxHeartbeats 4000000 in
set_option maxRecDepth 100000 in
theorem k_X0_186 (l : Launch) (g : gE) (m : gK) (κ : Nat → Nat) (σ : gS) (ζ : gQ) (hz : gfr 187 m κ σ) : gC l g mX0_init (rmc 1 1 48 21) [.ref 186, .int 48] (hq 187 m κ σ ζ) (fun r h => r = none ∧ h = hq 188 (mset m 186 0) κ σ ζ) := by
  refine gC_of (by decide) (Nat.le_of_ble_eq_true rfl) ?_
  refine g_aload_n dX0_init_0 rfl rfl rfl ?_
  refine g_obj ml_X0_3 im_obj cd_obj (Nat.le_of_ble_eq_true rfl) (Nat.le_of_ble_eq_true rfl) dX0_init_1 rfl ?_
  refine g_aload_n dX0_init_4 rfl rfl rfl ?_
  refine g_iload_n dX0_init_5 rfl rfl rfl ?_
  refine g_iconst (v := 0) dX0_init_6 (by decide) rfl ?_
  refine g_max ml_X0_9 st_max in_Math cd_max (Nat.le_of_ble_eq_true rfl) (Nat.le_of_ble_eq_true rfl) (Nat.le_of_ble_eq_true rfl) (Nat.le_of_ble_eq_true rfl) dX0_init_7 rfl ?_
  refine g_newa (at_ := .byte) (ty := .byte) (t := 1) (N := 48) rfl rfl aw_byte rfl (by decide +kernel) (by decide +kernel) (by decide) (by rw [hq_len]; decide) (Nat.le_of_ble_eq_true rfl) (Nat.le_of_ble_eq_true rfl) (fun _ z => by cases z) dX0_init_10 rfl ?_
  refine g_heq (hq_push (cN_new hz (fun z => absurd z (by decide)) rfl)) (by rw [hq_len]) ?_
  replace hz := gfr_u (n1 := 188) (by decide) hz
  refine g_putF gClX0 0 (by decide) fl_X0_15 rfl rfl rfl dX0_init_12 (hq_at (by decide)) rfl rfl (Nat.le_of_ble_eq_true rfl) (hq_ms (by decide) rfl) rfl ?_
  replace hz := gfr_m (j := 186) (k := 0) (by decide) hz
  exact g_vret rfl dX0_init_15 (Nat.le_of_ble_eq_true rfl) (Nat.le_of_ble_eq_true rfl) ⟨rfl, rfl⟩
set_option maxHeartbeats 4000000 in
set_option maxRecDepth 100000 in
theorem k_X1_177 (l : Launch) (g : gE) (m : gK) (κ : Nat → Nat) (σ : gS) (ζ : gQ) (hz : gfr 178 m κ σ) : gC l g mX1_init (rmc 2 10 208 42) [.ref 177] (hq 178 m κ σ ζ) (fun r h => r = none ∧ h = hq 188 (mset (mset (mset (mset (mset (mset m 177 0) 177 1) 180 0) 182 0) 184 0) 186 0) (va_up (va_up (va_up (va_up κ 178 1) 178 2) 178 3) 178 4) (pf σ 177 2 (1 : Int32)) ζ) := by
  refine gC_of (by decide) (Nat.le_of_ble_eq_true rfl) ?_
  refine g_aload_n dX1_init_0 rfl rfl rfl ?_
  refine g_obj ml_X1_3 im_obj cd_obj (Nat.le_of_ble_eq_true rfl) (Nat.le_of_ble_eq_true rfl) dX1_init_1 rfl ?_
  refine g_aload_n dX1_init_4 rfl rfl rfl ?_
  refine g_iconst (v := 4) dX1_init_5 (by decide) rfl ?_
  refine g_newq (t := 4) (N := 4) rfl cl_X1_9 (Or.inr rfl) (by decide +kernel) (by decide +kernel) (by decide) (by rw [hq_len]; decide) (Nat.le_of_ble_eq_true rfl) (Nat.le_of_ble_eq_true rfl) dX1_init_6 rfl ?_
  have hk178 := (hz 178 (by decide)).2.1
  refine g_heq (hq_push (cN_new hz (fun z => absurd z (by decide)) rfl)) (by rw [hq_len]) ?_
  replace hz := gfr_u (n1 := 179) (by decide) hz
  refine g_putF gClX1 0 (by decide) fl_X1_11 rfl rfl rfl dX1_init_9 (hq_at (by decide)) rfl rfl (Nat.le_of_ble_eq_true rfl) (hq_ms (by decide) rfl) rfl ?_
  replace hz := gfr_m (j := 177) (k := 0) (by decide) hz
  refine g_aload_n dX1_init_12 rfl rfl rfl ?_
  refine g_iconst (v := 4) dX1_init_13 (by decide) rfl ?_
  refine g_newa (at_ := .int) (ty := .int) (t := 0) (N := 4) rfl rfl aw_int rfl (by decide +kernel) (by decide +kernel) (by decide) (by rw [hq_len]; decide) (Nat.le_of_ble_eq_true rfl) (Nat.le_of_ble_eq_true rfl) (fun _ z => by cases z) dX1_init_14 rfl ?_
  refine g_heq (hq_push (cN_new hz (fun z => absurd z (by decide)) rfl)) (by rw [hq_len]) ?_
  replace hz := gfr_u (n1 := 180) (by decide) hz
  refine g_putF gClX1 1 (by decide) fl_X1_17 rfl rfl rfl dX1_init_16 (hq_at (by decide)) rfl rfl (Nat.le_of_ble_eq_true rfl) (hq_ms (by decide) rfl) rfl ?_
  replace hz := gfr_m (j := 177) (k := 1) (by decide) hz
  refine g_aload_n dX1_init_19 rfl rfl rfl ?_
  refine g_iconst (v := 1) dX1_init_20 (by decide) rfl ?_
  refine g_put gClX1 2 (by decide) fl_X1_21 rfl dX1_init_21 (hq_at (by decide)) rfl rfl (Nat.le_of_ble_eq_true rfl) (hq_pf (by decide) rfl) rfl ?_
  replace hz := gfr_p (j := 177) (k := 2) (x := (1 : Int32)) (by decide) hz
  refine g_iconst (v := 0) dX1_init_24 (by decide) rfl ?_
  refine g_istoreL_n (L1 := [(0, _), (1, _)]) dX1_init_25 rfl (by decide) rfl rfl ?_
  refine g_iload_n dX1_init_26 rfl rfl rfl ?_
  refine g_iconst (v := 4) dX1_init_27 (by decide) rfl ?_
  refine g_icmpge (tgt := 52) dX1_init_28 (by decide) rfl (fun z => absurd z (by decide +kernel)) (fun _ => ?_)
  refine g_aload_n dX1_init_31 rfl rfl rfl ?_
  refine g_get (v := .ref 178) gClX1 0 (by decide) fl_X1_11 dX1_init_32 (hq_at (by decide)) rfl rfl ?_
  refine g_iload_n dX1_init_35 rfl rfl rfl ?_
  refine g_new (fs := [.null, .int 0]) gClX0 cl_X1_9 it_X0 in_X0 (nf_X0 g) (by rw [hq_len]; decide) (Nat.le_of_ble_eq_true rfl) (Nat.le_of_ble_eq_true rfl) dX1_init_36 rfl ?_
  refine g_heq (hq_push (cN_new hz (fun z => absurd z (by decide)) rfl)) (by rw [hq_len]) ?_
  replace hz := gfr_u (n1 := 181) (by decide) hz
  refine g_dup dX1_init_39 rfl rfl ?_
  refine g_bipush (v := 48) dX1_init_40 (by decide) rfl ?_
  refine g_calli mt_X0_init mi_X0_init rfl rfl ml_X1_25 (k_X0_180 l g _ _ _ _ hz) rfl (Nat.le_of_ble_eq_true rfl) (Nat.le_of_ble_eq_true rfl) (Nat.le_of_ble_eq_true rfl) (Nat.le_of_ble_eq_true rfl) rfl (Nat.le_of_ble_eq_true rfl) dX1_init_42 rfl (fun r h p => ?_)
  obtain ⟨rfl, rfl⟩ := p
  replace hz := gfr_u (n1 := 182) (by decide) hz
  replace hz := gfr_m (j := 180) (k := 0) (by decide) hz
  refine g_aast4 (hq_at (by decide)) (hq_at (by decide)) rfl (vinc (by decide +kernel)) (hq_aR (c := 14) (i := 0) (by decide) (by decide) (by decide +kernel) hk178 rfl) dX1_init_45 rfl ?_
  replace hz := gfr_k (j := 178) (v := 1) (by decide) hz
  refine g_iincL (L1 := [(0, _), (1, _)]) dX1_init_46 rfl (by decide) rfl rfl ?_
  refine g_goto (tgt := 26) dX1_init_49 (by decide) ?_
  refine g_iload_n dX1_init_26 rfl rfl rfl ?_
  refine g_iconst (v := 4) dX1_init_27 (by decide) rfl ?_
  refine g_icmpge (tgt := 52) dX1_init_28 (by decide) rfl (fun z => absurd z (by decide +kernel)) (fun _ => ?_)
  refine g_aload_n dX1_init_31 rfl rfl rfl ?_
  refine g_get (v := .ref 178) gClX1 0 (by decide) fl_X1_11 dX1_init_32 (hq_at (by decide)) rfl rfl ?_
  refine g_iload_n dX1_init_35 rfl rfl rfl ?_
  refine g_new (fs := [.null, .int 0]) gClX0 cl_X1_9 it_X0 in_X0 (nf_X0 g) (by rw [hq_len]; decide) (Nat.le_of_ble_eq_true rfl) (Nat.le_of_ble_eq_true rfl) dX1_init_36 rfl ?_
  refine g_heq (hq_push (cN_new hz (fun z => absurd z (by decide)) rfl)) (by rw [hq_len]) ?_
  replace hz := gfr_u (n1 := 183) (by decide) hz
  refine g_dup dX1_init_39 rfl rfl ?_
  refine g_bipush (v := 48) dX1_init_40 (by decide) rfl ?_
  refine g_calli mt_X0_init mi_X0_init rfl rfl ml_X1_25 (k_X0_182 l g _ _ _ _ hz) rfl (Nat.le_of_ble_eq_true rfl) (Nat.le_of_ble_eq_true rfl) (Nat.le_of_ble_eq_true rfl) (Nat.le_of_ble_eq_true rfl) rfl (Nat.le_of_ble_eq_true rfl) dX1_init_42 rfl (fun r h p => ?_)
  obtain ⟨rfl, rfl⟩ := p
  replace hz := gfr_u (n1 := 184) (by decide) hz
  replace hz := gfr_m (j := 182) (k := 0) (by decide) hz
  refine g_aast4 (hq_at (by decide)) (hq_at (by decide)) rfl (vinc (by decide +kernel)) (hq_aR (c := 14) (i := 1) (by decide) (by decide) (by decide +kernel) rfl rfl) dX1_init_45 rfl ?_
  replace hz := gfr_k (j := 178) (v := 2) (by decide) hz
  refine g_iincL (L1 := [(0, _), (1, _)]) dX1_init_46 rfl (by decide) rfl rfl ?_
  refine g_goto (tgt := 26) dX1_init_49 (by decide) ?_
  refine g_iload_n dX1_init_26 rfl rfl rfl ?_
  refine g_iconst (v := 4) dX1_init_27 (by decide) rfl ?_
  refine g_icmpge (tgt := 52) dX1_init_28 (by decide) rfl (fun z => absurd z (by decide +kernel)) (fun _ => ?_)
  refine g_aload_n dX1_init_31 rfl rfl rfl ?_
  refine g_get (v := .ref 178) gClX1 0 (by decide) fl_X1_11 dX1_init_32 (hq_at (by decide)) rfl rfl ?_
  refine g_iload_n dX1_init_35 rfl rfl rfl ?_
  refine g_new (fs := [.null, .int 0]) gClX0 cl_X1_9 it_X0 in_X0 (nf_X0 g) (by rw [hq_len]; decide) (Nat.le_of_ble_eq_true rfl) (Nat.le_of_ble_eq_true rfl) dX1_init_36 rfl ?_
  refine g_heq (hq_push (cN_new hz (fun z => absurd z (by decide)) rfl)) (by rw [hq_len]) ?_
  replace hz := gfr_u (n1 := 185) (by decide) hz
  refine g_dup dX1_init_39 rfl rfl ?_
  refine g_bipush (v := 48) dX1_init_40 (by decide) rfl ?_
  refine g_calli mt_X0_init mi_X0_init rfl rfl ml_X1_25 (k_X0_184 l g _ _ _ _ hz) rfl (Nat.le_of_ble_eq_true rfl) (Nat.le_of_ble_eq_true rfl) (Nat.le_of_ble_eq_true rfl) (Nat.le_of_ble_eq_true rfl) rfl (Nat.le_of_ble_eq_true rfl) dX1_init_42 rfl (fun r h p => ?_)
  obtain ⟨rfl, rfl⟩ := p
  replace hz := gfr_u (n1 := 186) (by decide) hz
  replace hz := gfr_m (j := 184) (k := 0) (by decide) hz
  refine g_aast4 (hq_at (by decide)) (hq_at (by decide)) rfl (vinc (by decide +kernel)) (hq_aR (c := 14) (i := 2) (by decide) (by decide) (by decide +kernel) rfl rfl) dX1_init_45 rfl ?_
  replace hz := gfr_k (j := 178) (v := 3) (by decide) hz
  refine g_iincL (L1 := [(0, _), (1, _)]) dX1_init_46 rfl (by decide) rfl rfl ?_
  refine g_goto (tgt := 26) dX1_init_49 (by decide) ?_
  refine g_iload_n dX1_init_26 rfl rfl rfl ?_
  refine g_iconst (v := 4) dX1_init_27 (by decide) rfl ?_
  refine g_icmpge (tgt := 52) dX1_init_28 (by decide) rfl (fun z => absurd z (by decide +kernel)) (fun _ => ?_)
  refine g_aload_n dX1_init_31 rfl rfl rfl ?_
  refine g_get (v := .ref 178) gClX1 0 (by decide) fl_X1_11 dX1_init_32 (hq_at (by decide)) rfl rfl ?_
  refine g_iload_n dX1_init_35 rfl rfl rfl ?_
  refine g_new (fs := [.null, .int 0]) gClX0 cl_X1_9 it_X0 in_X0 (nf_X0 g) (by rw [hq_len]; decide) (Nat.le_of_ble_eq_true rfl) (Nat.le_of_ble_eq_true rfl) dX1_init_36 rfl ?_
  refine g_heq (hq_push (cN_new hz (fun z => absurd z (by decide)) rfl)) (by rw [hq_len]) ?_
  replace hz := gfr_u (n1 := 187) (by decide) hz
  refine g_dup dX1_init_39 rfl rfl ?_
  refine g_bipush (v := 48) dX1_init_40 (by decide) rfl ?_
  refine g_calli mt_X0_init mi_X0_init rfl rfl ml_X1_25 (k_X0_186 l g _ _ _ _ hz) rfl (Nat.le_of_ble_eq_true rfl) (Nat.le_of_ble_eq_true rfl) (Nat.le_of_ble_eq_true rfl) (Nat.le_of_ble_eq_true rfl) rfl (Nat.le_of_ble_eq_true rfl) dX1_init_42 rfl (fun r h p => ?_)
  obtain ⟨rfl, rfl⟩ := p
  replace hz := gfr_u (n1 := 188) (by decide) hz
  replace hz := gfr_m (j := 186) (k := 0) (by decide) hz
  refine g_aast4 (hq_at (by decide)) (hq_at (by decide)) rfl (vinc (by decide +kernel)) (hq_aR (c := 14) (i := 3) (by decide) (by decide) (by decide +kernel) rfl rfl) dX1_init_45 rfl ?_
  replace hz := gfr_k (j := 178) (v := 4) (by decide) hz
  refine g_iincL (L1 := [(0, _), (1, _)]) dX1_init_46 rfl (by decide) rfl rfl ?_
  refine g_goto (tgt := 26) dX1_init_49 (by decide) ?_
  refine g_iload_n dX1_init_26 rfl rfl rfl ?_
  refine g_iconst (v := 4) dX1_init_27 (by decide) rfl ?_
  refine g_icmpge (tgt := 52) dX1_init_28 (by decide) rfl (fun _ => ?_) (fun z => absurd z (by decide +kernel))
  exact g_vret rfl dX1_init_52 (Nat.le_of_ble_eq_true rfl) (Nat.le_of_ble_eq_true rfl) ⟨rfl, rfl⟩
set_option maxHeartbeats 4000000 in
set_option maxRecDepth 100000 in
theorem k_X0_191 (l : Launch) (g : gE) (m : gK) (κ : Nat → Nat) (σ : gS) (ζ : gQ) (hz : gfr 192 m κ σ) : gC l g mX0_init (rmc 1 1 48 21) [.ref 191, .int 48] (hq 192 m κ σ ζ) (fun r h => r = none ∧ h = hq 193 (mset m 191 0) κ σ ζ) := by
  refine gC_of (by decide) (Nat.le_of_ble_eq_true rfl) ?_
  refine g_aload_n dX0_init_0 rfl rfl rfl ?_
  refine g_obj ml_X0_3 im_obj cd_obj (Nat.le_of_ble_eq_true rfl) (Nat.le_of_ble_eq_true rfl) dX0_init_1 rfl ?_
  refine g_aload_n dX0_init_4 rfl rfl rfl ?_
  refine g_iload_n dX0_init_5 rfl rfl rfl ?_
  refine g_iconst (v := 0) dX0_init_6 (by decide) rfl ?_
  refine g_max ml_X0_9 st_max in_Math cd_max (Nat.le_of_ble_eq_true rfl) (Nat.le_of_ble_eq_true rfl) (Nat.le_of_ble_eq_true rfl) (Nat.le_of_ble_eq_true rfl) dX0_init_7 rfl ?_
  refine g_newa (at_ := .byte) (ty := .byte) (t := 1) (N := 48) rfl rfl aw_byte rfl (by decide +kernel) (by decide +kernel) (by decide) (by rw [hq_len]; decide) (Nat.le_of_ble_eq_true rfl) (Nat.le_of_ble_eq_true rfl) (fun _ z => by cases z) dX0_init_10 rfl ?_
  refine g_heq (hq_push (cN_new hz (fun z => absurd z (by decide)) rfl)) (by rw [hq_len]) ?_
  replace hz := gfr_u (n1 := 193) (by decide) hz
  refine g_putF gClX0 0 (by decide) fl_X0_15 rfl rfl rfl dX0_init_12 (hq_at (by decide)) rfl rfl (Nat.le_of_ble_eq_true rfl) (hq_ms (by decide) rfl) rfl ?_
  replace hz := gfr_m (j := 191) (k := 0) (by decide) hz
  exact g_vret rfl dX0_init_15 (Nat.le_of_ble_eq_true rfl) (Nat.le_of_ble_eq_true rfl) ⟨rfl, rfl⟩
set_option maxHeartbeats 4000000 in
set_option maxRecDepth 100000 in
theorem k_X0_193 (l : Launch) (g : gE) (m : gK) (κ : Nat → Nat) (σ : gS) (ζ : gQ) (hz : gfr 194 m κ σ) : gC l g mX0_init (rmc 1 1 48 21) [.ref 193, .int 48] (hq 194 m κ σ ζ) (fun r h => r = none ∧ h = hq 195 (mset m 193 0) κ σ ζ) := by
  refine gC_of (by decide) (Nat.le_of_ble_eq_true rfl) ?_
  refine g_aload_n dX0_init_0 rfl rfl rfl ?_
  refine g_obj ml_X0_3 im_obj cd_obj (Nat.le_of_ble_eq_true rfl) (Nat.le_of_ble_eq_true rfl) dX0_init_1 rfl ?_
  refine g_aload_n dX0_init_4 rfl rfl rfl ?_
  refine g_iload_n dX0_init_5 rfl rfl rfl ?_
  refine g_iconst (v := 0) dX0_init_6 (by decide) rfl ?_
  refine g_max ml_X0_9 st_max in_Math cd_max (Nat.le_of_ble_eq_true rfl) (Nat.le_of_ble_eq_true rfl) (Nat.le_of_ble_eq_true rfl) (Nat.le_of_ble_eq_true rfl) dX0_init_7 rfl ?_
  refine g_newa (at_ := .byte) (ty := .byte) (t := 1) (N := 48) rfl rfl aw_byte rfl (by decide +kernel) (by decide +kernel) (by decide) (by rw [hq_len]; decide) (Nat.le_of_ble_eq_true rfl) (Nat.le_of_ble_eq_true rfl) (fun _ z => by cases z) dX0_init_10 rfl ?_
  refine g_heq (hq_push (cN_new hz (fun z => absurd z (by decide)) rfl)) (by rw [hq_len]) ?_
  replace hz := gfr_u (n1 := 195) (by decide) hz
  refine g_putF gClX0 0 (by decide) fl_X0_15 rfl rfl rfl dX0_init_12 (hq_at (by decide)) rfl rfl (Nat.le_of_ble_eq_true rfl) (hq_ms (by decide) rfl) rfl ?_
  replace hz := gfr_m (j := 193) (k := 0) (by decide) hz
  exact g_vret rfl dX0_init_15 (Nat.le_of_ble_eq_true rfl) (Nat.le_of_ble_eq_true rfl) ⟨rfl, rfl⟩
set_option maxHeartbeats 4000000 in
set_option maxRecDepth 100000 in
theorem k_X0_195 (l : Launch) (g : gE) (m : gK) (κ : Nat → Nat) (σ : gS) (ζ : gQ) (hz : gfr 196 m κ σ) : gC l g mX0_init (rmc 1 1 48 21) [.ref 195, .int 48] (hq 196 m κ σ ζ) (fun r h => r = none ∧ h = hq 197 (mset m 195 0) κ σ ζ) := by
  refine gC_of (by decide) (Nat.le_of_ble_eq_true rfl) ?_
  refine g_aload_n dX0_init_0 rfl rfl rfl ?_
  refine g_obj ml_X0_3 im_obj cd_obj (Nat.le_of_ble_eq_true rfl) (Nat.le_of_ble_eq_true rfl) dX0_init_1 rfl ?_
  refine g_aload_n dX0_init_4 rfl rfl rfl ?_
  refine g_iload_n dX0_init_5 rfl rfl rfl ?_
  refine g_iconst (v := 0) dX0_init_6 (by decide) rfl ?_
  refine g_max ml_X0_9 st_max in_Math cd_max (Nat.le_of_ble_eq_true rfl) (Nat.le_of_ble_eq_true rfl) (Nat.le_of_ble_eq_true rfl) (Nat.le_of_ble_eq_true rfl) dX0_init_7 rfl ?_
  refine g_newa (at_ := .byte) (ty := .byte) (t := 1) (N := 48) rfl rfl aw_byte rfl (by decide +kernel) (by decide +kernel) (by decide) (by rw [hq_len]; decide) (Nat.le_of_ble_eq_true rfl) (Nat.le_of_ble_eq_true rfl) (fun _ z => by cases z) dX0_init_10 rfl ?_
  refine g_heq (hq_push (cN_new hz (fun z => absurd z (by decide)) rfl)) (by rw [hq_len]) ?_
  replace hz := gfr_u (n1 := 197) (by decide) hz
  refine g_putF gClX0 0 (by decide) fl_X0_15 rfl rfl rfl dX0_init_12 (hq_at (by decide)) rfl rfl (Nat.le_of_ble_eq_true rfl) (hq_ms (by decide) rfl) rfl ?_
  replace hz := gfr_m (j := 195) (k := 0) (by decide) hz
  exact g_vret rfl dX0_init_15 (Nat.le_of_ble_eq_true rfl) (Nat.le_of_ble_eq_true rfl) ⟨rfl, rfl⟩
set_option maxHeartbeats 4000000 in
set_option maxRecDepth 100000 in
theorem k_X0_197 (l : Launch) (g : gE) (m : gK) (κ : Nat → Nat) (σ : gS) (ζ : gQ) (hz : gfr 198 m κ σ) : gC l g mX0_init (rmc 1 1 48 21) [.ref 197, .int 48] (hq 198 m κ σ ζ) (fun r h => r = none ∧ h = hq 199 (mset m 197 0) κ σ ζ) := by
  refine gC_of (by decide) (Nat.le_of_ble_eq_true rfl) ?_
  refine g_aload_n dX0_init_0 rfl rfl rfl ?_
  refine g_obj ml_X0_3 im_obj cd_obj (Nat.le_of_ble_eq_true rfl) (Nat.le_of_ble_eq_true rfl) dX0_init_1 rfl ?_
  refine g_aload_n dX0_init_4 rfl rfl rfl ?_
  refine g_iload_n dX0_init_5 rfl rfl rfl ?_
  refine g_iconst (v := 0) dX0_init_6 (by decide) rfl ?_
  refine g_max ml_X0_9 st_max in_Math cd_max (Nat.le_of_ble_eq_true rfl) (Nat.le_of_ble_eq_true rfl) (Nat.le_of_ble_eq_true rfl) (Nat.le_of_ble_eq_true rfl) dX0_init_7 rfl ?_
  refine g_newa (at_ := .byte) (ty := .byte) (t := 1) (N := 48) rfl rfl aw_byte rfl (by decide +kernel) (by decide +kernel) (by decide) (by rw [hq_len]; decide) (Nat.le_of_ble_eq_true rfl) (Nat.le_of_ble_eq_true rfl) (fun _ z => by cases z) dX0_init_10 rfl ?_
  refine g_heq (hq_push (cN_new hz (fun z => absurd z (by decide)) rfl)) (by rw [hq_len]) ?_
  replace hz := gfr_u (n1 := 199) (by decide) hz
  refine g_putF gClX0 0 (by decide) fl_X0_15 rfl rfl rfl dX0_init_12 (hq_at (by decide)) rfl rfl (Nat.le_of_ble_eq_true rfl) (hq_ms (by decide) rfl) rfl ?_
  replace hz := gfr_m (j := 197) (k := 0) (by decide) hz
  exact g_vret rfl dX0_init_15 (Nat.le_of_ble_eq_true rfl) (Nat.le_of_ble_eq_true rfl) ⟨rfl, rfl⟩
set_option maxHeartbeats 4000000 in
set_option maxRecDepth 100000 in
theorem k_X1_188 (l : Launch) (g : gE) (m : gK) (κ : Nat → Nat) (σ : gS) (ζ : gQ) (hz : gfr 189 m κ σ) : gC l g mX1_init (rmc 2 10 208 42) [.ref 188] (hq 189 m κ σ ζ) (fun r h => r = none ∧ h = hq 199 (mset (mset (mset (mset (mset (mset m 188 0) 188 1) 191 0) 193 0) 195 0) 197 0) (va_up (va_up (va_up (va_up κ 189 1) 189 2) 189 3) 189 4) (pf σ 188 2 (1 : Int32)) ζ) := by
  refine gC_of (by decide) (Nat.le_of_ble_eq_true rfl) ?_
  refine g_aload_n dX1_init_0 rfl rfl rfl ?_
  refine g_obj ml_X1_3 im_obj cd_obj (Nat.le_of_ble_eq_true rfl) (Nat.le_of_ble_eq_true rfl) dX1_init_1 rfl ?_
  refine g_aload_n dX1_init_4 rfl rfl rfl ?_
  refine g_iconst (v := 4) dX1_init_5 (by decide) rfl ?_
  refine g_newq (t := 4) (N := 4) rfl cl_X1_9 (Or.inr rfl) (by decide +kernel) (by decide +kernel) (by decide) (by rw [hq_len]; decide) (Nat.le_of_ble_eq_true rfl) (Nat.le_of_ble_eq_true rfl) dX1_init_6 rfl ?_
  have hk189 := (hz 189 (by decide)).2.1
  refine g_heq (hq_push (cN_new hz (fun z => absurd z (by decide)) rfl)) (by rw [hq_len]) ?_
  replace hz := gfr_u (n1 := 190) (by decide) hz
  refine g_putF gClX1 0 (by decide) fl_X1_11 rfl rfl rfl dX1_init_9 (hq_at (by decide)) rfl rfl (Nat.le_of_ble_eq_true rfl) (hq_ms (by decide) rfl) rfl ?_
  replace hz := gfr_m (j := 188) (k := 0) (by decide) hz
  refine g_aload_n dX1_init_12 rfl rfl rfl ?_
  refine g_iconst (v := 4) dX1_init_13 (by decide) rfl ?_
  refine g_newa (at_ := .int) (ty := .int) (t := 0) (N := 4) rfl rfl aw_int rfl (by decide +kernel) (by decide +kernel) (by decide) (by rw [hq_len]; decide) (Nat.le_of_ble_eq_true rfl) (Nat.le_of_ble_eq_true rfl) (fun _ z => by cases z) dX1_init_14 rfl ?_
  refine g_heq (hq_push (cN_new hz (fun z => absurd z (by decide)) rfl)) (by rw [hq_len]) ?_
  replace hz := gfr_u (n1 := 191) (by decide) hz
  refine g_putF gClX1 1 (by decide) fl_X1_17 rfl rfl rfl dX1_init_16 (hq_at (by decide)) rfl rfl (Nat.le_of_ble_eq_true rfl) (hq_ms (by decide) rfl) rfl ?_
  replace hz := gfr_m (j := 188) (k := 1) (by decide) hz
  refine g_aload_n dX1_init_19 rfl rfl rfl ?_
  refine g_iconst (v := 1) dX1_init_20 (by decide) rfl ?_
  refine g_put gClX1 2 (by decide) fl_X1_21 rfl dX1_init_21 (hq_at (by decide)) rfl rfl (Nat.le_of_ble_eq_true rfl) (hq_pf (by decide) rfl) rfl ?_
  replace hz := gfr_p (j := 188) (k := 2) (x := (1 : Int32)) (by decide) hz
  refine g_iconst (v := 0) dX1_init_24 (by decide) rfl ?_
  refine g_istoreL_n (L1 := [(0, _), (1, _)]) dX1_init_25 rfl (by decide) rfl rfl ?_
  refine g_iload_n dX1_init_26 rfl rfl rfl ?_
  refine g_iconst (v := 4) dX1_init_27 (by decide) rfl ?_
  refine g_icmpge (tgt := 52) dX1_init_28 (by decide) rfl (fun z => absurd z (by decide +kernel)) (fun _ => ?_)
  refine g_aload_n dX1_init_31 rfl rfl rfl ?_
  refine g_get (v := .ref 189) gClX1 0 (by decide) fl_X1_11 dX1_init_32 (hq_at (by decide)) rfl rfl ?_
  refine g_iload_n dX1_init_35 rfl rfl rfl ?_
  refine g_new (fs := [.null, .int 0]) gClX0 cl_X1_9 it_X0 in_X0 (nf_X0 g) (by rw [hq_len]; decide) (Nat.le_of_ble_eq_true rfl) (Nat.le_of_ble_eq_true rfl) dX1_init_36 rfl ?_
  refine g_heq (hq_push (cN_new hz (fun z => absurd z (by decide)) rfl)) (by rw [hq_len]) ?_
  replace hz := gfr_u (n1 := 192) (by decide) hz
  refine g_dup dX1_init_39 rfl rfl ?_
  refine g_bipush (v := 48) dX1_init_40 (by decide) rfl ?_
  refine g_calli mt_X0_init mi_X0_init rfl rfl ml_X1_25 (k_X0_191 l g _ _ _ _ hz) rfl (Nat.le_of_ble_eq_true rfl) (Nat.le_of_ble_eq_true rfl) (Nat.le_of_ble_eq_true rfl) (Nat.le_of_ble_eq_true rfl) rfl (Nat.le_of_ble_eq_true rfl) dX1_init_42 rfl (fun r h p => ?_)
  obtain ⟨rfl, rfl⟩ := p
  replace hz := gfr_u (n1 := 193) (by decide) hz
  replace hz := gfr_m (j := 191) (k := 0) (by decide) hz
  refine g_aast4 (hq_at (by decide)) (hq_at (by decide)) rfl (vinc (by decide +kernel)) (hq_aR (c := 15) (i := 0) (by decide) (by decide) (by decide +kernel) hk189 rfl) dX1_init_45 rfl ?_
  replace hz := gfr_k (j := 189) (v := 1) (by decide) hz
  refine g_iincL (L1 := [(0, _), (1, _)]) dX1_init_46 rfl (by decide) rfl rfl ?_
  refine g_goto (tgt := 26) dX1_init_49 (by decide) ?_
  refine g_iload_n dX1_init_26 rfl rfl rfl ?_
  refine g_iconst (v := 4) dX1_init_27 (by decide) rfl ?_
  refine g_icmpge (tgt := 52) dX1_init_28 (by decide) rfl (fun z => absurd z (by decide +kernel)) (fun _ => ?_)
  refine g_aload_n dX1_init_31 rfl rfl rfl ?_
  refine g_get (v := .ref 189) gClX1 0 (by decide) fl_X1_11 dX1_init_32 (hq_at (by decide)) rfl rfl ?_
  refine g_iload_n dX1_init_35 rfl rfl rfl ?_
  refine g_new (fs := [.null, .int 0]) gClX0 cl_X1_9 it_X0 in_X0 (nf_X0 g) (by rw [hq_len]; decide) (Nat.le_of_ble_eq_true rfl) (Nat.le_of_ble_eq_true rfl) dX1_init_36 rfl ?_
  refine g_heq (hq_push (cN_new hz (fun z => absurd z (by decide)) rfl)) (by rw [hq_len]) ?_
  replace hz := gfr_u (n1 := 194) (by decide) hz
  refine g_dup dX1_init_39 rfl rfl ?_
  refine g_bipush (v := 48) dX1_init_40 (by decide) rfl ?_
  refine g_calli mt_X0_init mi_X0_init rfl rfl ml_X1_25 (k_X0_193 l g _ _ _ _ hz) rfl (Nat.le_of_ble_eq_true rfl) (Nat.le_of_ble_eq_true rfl) (Nat.le_of_ble_eq_true rfl) (Nat.le_of_ble_eq_true rfl) rfl (Nat.le_of_ble_eq_true rfl) dX1_init_42 rfl (fun r h p => ?_)
  obtain ⟨rfl, rfl⟩ := p
  replace hz := gfr_u (n1 := 195) (by decide) hz
  replace hz := gfr_m (j := 193) (k := 0) (by decide) hz
  refine g_aast4 (hq_at (by decide)) (hq_at (by decide)) rfl (vinc (by decide +kernel)) (hq_aR (c := 15) (i := 1) (by decide) (by decide) (by decide +kernel) rfl rfl) dX1_init_45 rfl ?_
  replace hz := gfr_k (j := 189) (v := 2) (by decide) hz
  refine g_iincL (L1 := [(0, _), (1, _)]) dX1_init_46 rfl (by decide) rfl rfl ?_
  refine g_goto (tgt := 26) dX1_init_49 (by decide) ?_
  refine g_iload_n dX1_init_26 rfl rfl rfl ?_
  refine g_iconst (v := 4) dX1_init_27 (by decide) rfl ?_
  refine g_icmpge (tgt := 52) dX1_init_28 (by decide) rfl (fun z => absurd z (by decide +kernel)) (fun _ => ?_)
  refine g_aload_n dX1_init_31 rfl rfl rfl ?_
  refine g_get (v := .ref 189) gClX1 0 (by decide) fl_X1_11 dX1_init_32 (hq_at (by decide)) rfl rfl ?_
  refine g_iload_n dX1_init_35 rfl rfl rfl ?_
  refine g_new (fs := [.null, .int 0]) gClX0 cl_X1_9 it_X0 in_X0 (nf_X0 g) (by rw [hq_len]; decide) (Nat.le_of_ble_eq_true rfl) (Nat.le_of_ble_eq_true rfl) dX1_init_36 rfl ?_
  refine g_heq (hq_push (cN_new hz (fun z => absurd z (by decide)) rfl)) (by rw [hq_len]) ?_
  replace hz := gfr_u (n1 := 196) (by decide) hz
  refine g_dup dX1_init_39 rfl rfl ?_
  refine g_bipush (v := 48) dX1_init_40 (by decide) rfl ?_
  refine g_calli mt_X0_init mi_X0_init rfl rfl ml_X1_25 (k_X0_195 l g _ _ _ _ hz) rfl (Nat.le_of_ble_eq_true rfl) (Nat.le_of_ble_eq_true rfl) (Nat.le_of_ble_eq_true rfl) (Nat.le_of_ble_eq_true rfl) rfl (Nat.le_of_ble_eq_true rfl) dX1_init_42 rfl (fun r h p => ?_)
  obtain ⟨rfl, rfl⟩ := p
  replace hz := gfr_u (n1 := 197) (by decide) hz
  replace hz := gfr_m (j := 195) (k := 0) (by decide) hz
  refine g_aast4 (hq_at (by decide)) (hq_at (by decide)) rfl (vinc (by decide +kernel)) (hq_aR (c := 15) (i := 2) (by decide) (by decide) (by decide +kernel) rfl rfl) dX1_init_45 rfl ?_
  replace hz := gfr_k (j := 189) (v := 3) (by decide) hz
  refine g_iincL (L1 := [(0, _), (1, _)]) dX1_init_46 rfl (by decide) rfl rfl ?_
  refine g_goto (tgt := 26) dX1_init_49 (by decide) ?_
  refine g_iload_n dX1_init_26 rfl rfl rfl ?_
  refine g_iconst (v := 4) dX1_init_27 (by decide) rfl ?_
  refine g_icmpge (tgt := 52) dX1_init_28 (by decide) rfl (fun z => absurd z (by decide +kernel)) (fun _ => ?_)
  refine g_aload_n dX1_init_31 rfl rfl rfl ?_
  refine g_get (v := .ref 189) gClX1 0 (by decide) fl_X1_11 dX1_init_32 (hq_at (by decide)) rfl rfl ?_
  refine g_iload_n dX1_init_35 rfl rfl rfl ?_
  refine g_new (fs := [.null, .int 0]) gClX0 cl_X1_9 it_X0 in_X0 (nf_X0 g) (by rw [hq_len]; decide) (Nat.le_of_ble_eq_true rfl) (Nat.le_of_ble_eq_true rfl) dX1_init_36 rfl ?_
  refine g_heq (hq_push (cN_new hz (fun z => absurd z (by decide)) rfl)) (by rw [hq_len]) ?_
  replace hz := gfr_u (n1 := 198) (by decide) hz
  refine g_dup dX1_init_39 rfl rfl ?_
  refine g_bipush (v := 48) dX1_init_40 (by decide) rfl ?_
  refine g_calli mt_X0_init mi_X0_init rfl rfl ml_X1_25 (k_X0_197 l g _ _ _ _ hz) rfl (Nat.le_of_ble_eq_true rfl) (Nat.le_of_ble_eq_true rfl) (Nat.le_of_ble_eq_true rfl) (Nat.le_of_ble_eq_true rfl) rfl (Nat.le_of_ble_eq_true rfl) dX1_init_42 rfl (fun r h p => ?_)
  obtain ⟨rfl, rfl⟩ := p
  replace hz := gfr_u (n1 := 199) (by decide) hz
  replace hz := gfr_m (j := 197) (k := 0) (by decide) hz
  refine g_aast4 (hq_at (by decide)) (hq_at (by decide)) rfl (vinc (by decide +kernel)) (hq_aR (c := 15) (i := 3) (by decide) (by decide) (by decide +kernel) rfl rfl) dX1_init_45 rfl ?_
  replace hz := gfr_k (j := 189) (v := 4) (by decide) hz
  refine g_iincL (L1 := [(0, _), (1, _)]) dX1_init_46 rfl (by decide) rfl rfl ?_
  refine g_goto (tgt := 26) dX1_init_49 (by decide) ?_
  refine g_iload_n dX1_init_26 rfl rfl rfl ?_
  refine g_iconst (v := 4) dX1_init_27 (by decide) rfl ?_
  refine g_icmpge (tgt := 52) dX1_init_28 (by decide) rfl (fun _ => ?_) (fun z => absurd z (by decide +kernel))
  exact g_vret rfl dX1_init_52 (Nat.le_of_ble_eq_true rfl) (Nat.le_of_ble_eq_true rfl) ⟨rfl, rfl⟩
