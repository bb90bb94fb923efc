/-! StationHouse: by program -/
noncomputable def J_X9_actOutside_41  (u0 : Int32) (σ : gS) : Int32 × gS :=
  if (σ 19 1) = 0 then
    let f8 := (F_X9_meetOuterCard σ )
    (f8.1, f8.2)
  else
    if (σ 19 1) = 1 then
      if u0 = 0 then
        let f14 := (F_X9_loseOuterCard σ )
        (f14.1, f14.2)
      else
        let f18 := (F_X9_judgeOuterCard σ )
        (f18.1, f18.2)
    else
      if (σ 19 1) = 2 then
        if u0 = 0 then
          let f24 := (F_X9_loseOuterCard σ )
          (f24.1, f24.2)
        else
          let f28 := (F_X9_waitForFinger σ )
          (f28.1, f28.2)
      else
        if (σ 19 1) = 3 then
          if u0 = 0 then
            let f34 := (F_X9_loseOuterCard σ )
            (f34.1, f34.2)
          else
            let f38 := (F_X9_judgeFinger σ )
            (f38.1, f38.2)
        else
          if (σ 19 1) = 4 then
            if u0 = 0 then
              let f44 := (F_X9_loseOuterCard σ )
              (f44.1, f44.2)
            else
              let f48 := (F_X9_writePass σ )
              (f48.1, f48.2)
          else
            if (σ 19 1) = 5 then
              if u0 = 0 then
                let f54 := (F_X9_loseOuterCard σ )
                (f54.1, f54.2)
              else
                let f58 := (F_X9_judgeEntry σ )
                (f58.1, f58.2)
            else
              if (σ 19 1) = 6 then
                let f63 := (F_X9_waitForRemoval σ )
                (f63.1, f63.2)
              else
                if (σ 19 1) = 7 then
                  let f68 := (F_X9_endIllVisit σ )
                  (f68.1, f68.2)
                else
                  ((0 : Int32), σ)
def QJ_X9_actOutside_41  (u0 : Int32) (σ : gS) : Prop :=
  if (σ 19 1) = 0 then
    ((Q_X9_meetOuterCard σ ) ∧ (let f8 := (F_X9_meetOuterCard σ )
    (f8.1 = 0 ∨ f8.1 = 1) ∧ (True)))
  else
    (if (σ 19 1) = 1 then
      (if u0 = 0 then
        ((Q_X9_loseOuterCard σ ) ∧ (let f14 := (F_X9_loseOuterCard σ )
        (f14.1 = 0 ∨ f14.1 = 1) ∧ (True)))
      else
        ((Q_X9_judgeOuterCard σ ) ∧ (let f18 := (F_X9_judgeOuterCard σ )
        (f18.1 = 0 ∨ f18.1 = 1) ∧ (True))))
    else
      (if (σ 19 1) = 2 then
        (if u0 = 0 then
          ((Q_X9_loseOuterCard σ ) ∧ (let f24 := (F_X9_loseOuterCard σ )
          (f24.1 = 0 ∨ f24.1 = 1) ∧ (True)))
        else
          ((Q_X9_waitForFinger σ ) ∧ (let f28 := (F_X9_waitForFinger σ )
          (f28.1 = 0 ∨ f28.1 = 1) ∧ (True))))
      else
        (if (σ 19 1) = 3 then
          (if u0 = 0 then
            ((Q_X9_loseOuterCard σ ) ∧ (let f34 := (F_X9_loseOuterCard σ )
            (f34.1 = 0 ∨ f34.1 = 1) ∧ (True)))
          else
            ((Q_X9_judgeFinger σ ) ∧ (let f38 := (F_X9_judgeFinger σ )
            (f38.1 = 0 ∨ f38.1 = 1) ∧ (True))))
        else
          (if (σ 19 1) = 4 then
            (if u0 = 0 then
              ((Q_X9_loseOuterCard σ ) ∧ (let f44 := (F_X9_loseOuterCard σ )
              (f44.1 = 0 ∨ f44.1 = 1) ∧ (True)))
            else
              ((Q_X9_writePass σ ) ∧ (let f48 := (F_X9_writePass σ )
              (f48.1 = 0 ∨ f48.1 = 1) ∧ (True))))
          else
            (if (σ 19 1) = 5 then
              (if u0 = 0 then
                ((Q_X9_loseOuterCard σ ) ∧ (let f54 := (F_X9_loseOuterCard σ )
                (f54.1 = 0 ∨ f54.1 = 1) ∧ (True)))
              else
                ((Q_X9_judgeEntry σ ) ∧ (let f58 := (F_X9_judgeEntry σ )
                (f58.1 = 0 ∨ f58.1 = 1) ∧ (True))))
            else
              (if (σ 19 1) = 6 then
                ((Q_X9_waitForRemoval σ ) ∧ (let f63 := (F_X9_waitForRemoval σ )
                (f63.1 = 0 ∨ f63.1 = 1) ∧ (True)))
              else
                (if (σ 19 1) = 7 then
                  ((Q_X9_endIllVisit σ ) ∧ (let f68 := (F_X9_endIllVisit σ )
                  (f68.1 = 0 ∨ f68.1 = 1) ∧ (True)))
                else
                  (True))))))))
set_option maxHeartbeats 4000000 in
set_option maxRecDepth 100000 in
theorem j_X9_actOutside_41 (l : Launch) (g : gE)  {ζ : gQ} {fr : Int32 × gS} (hT : gTab g) : ∀ (u0 : Int32) (σ : gS), QJ_X9_actOutside_41  u0 σ → J_X9_actOutside_41  u0 σ = fr → gG l g mX9_actOutside (rm 5 134) (gZm g (rm 5 134) (fun r h => r = some (.int fr.1) ∧ h = hp fr.2 ζ)) 41 [(0, .ref 0)] [.int u0] (hp σ ζ) 0 0 := by
  intro u0 σ hQ hF
  unfold J_X9_actOutside_41 at hF
  unfold QJ_X9_actOutside_41 at hQ
  refine g_istoreL_n (L1 := [(0, _), (1, _)]) dX9_actOutside_41 rfl (by decide) rfl rfl ?_
  refine g_aload_n dX9_actOutside_42 rfl rfl rfl ?_
  refine g_get gClX9 17 (by decide) fl_X9_75 dX9_actOutside_43 (ho_0 _ _) rfl rfl ?_
  refine g_get gClX6 1 (by decide) fl_X9_168 dX9_actOutside_46 (ho_19 _ _) rfl rfl ?_
  refine g_case 0 (fun c5 => ?_) (fun c5 => ?_)
  · replace hF := ite_p hF c5
    try replace hQ := ite_q hQ c5
    refine g_table (tgt := 96) dX9_actOutside_49 (by decide) (by decide) ?_
    refine g_aload_n dX9_actOutside_96 rfl rfl rfl ?_
    have o6 := hQ.1
    replace hQ := hQ.2
    refine g_callv mv_X9_meetOuterCard ml_X9_269 (c_X9_meetOuterCard l g o6) (ho_0 _ _) rfl rfl (Nat.le_of_ble_eq_true rfl) (Nat.le_of_ble_eq_true rfl) (Nat.le_of_ble_eq_true rfl) (Nat.le_of_ble_eq_true rfl) rfl (Nat.le_of_ble_eq_true rfl) dX9_actOutside_97 rfl (fun r7 hr7 pr7 => ?_)
    obtain ⟨rfl, rfl⟩ := pr7
    have o9 := hQ.1
    replace hQ := hQ.2
    subst hF
    exact g_zret rfl dX9_actOutside_100 (gz_n o9) (Nat.le_of_ble_eq_true rfl) (Nat.le_of_ble_eq_true rfl) ⟨rfl, rfl⟩
  · replace hF := ite_n hF c5
    try replace hQ := ite_r hQ c5
    refine g_case 1 (fun c10 => ?_) (fun c10 => ?_)
    · replace hF := ite_p hF c10
      try replace hQ := ite_q hQ c10
      refine g_table (tgt := 101) dX9_actOutside_49 (by decide) (by decide) ?_
      refine g_iload_n dX9_actOutside_101 rfl rfl rfl ?_
      refine g_ifeq (tgt := 112) dX9_actOutside_102 (by decide) rfl (fun c11 => ?_) (fun c11 => ?_)
      · replace hF := ite_p hF c11
        try replace hQ := ite_q hQ c11
        refine g_aload_n dX9_actOutside_112 rfl rfl rfl ?_
        have o12 := hQ.1
        replace hQ := hQ.2
        refine g_callv mv_X9_loseOuterCard ml_X9_275 (c_X9_loseOuterCard l g o12) (ho_0 _ _) rfl rfl (Nat.le_of_ble_eq_true rfl) (Nat.le_of_ble_eq_true rfl) (Nat.le_of_ble_eq_true rfl) (Nat.le_of_ble_eq_true rfl) rfl (Nat.le_of_ble_eq_true rfl) dX9_actOutside_113 rfl (fun r13 hr13 pr13 => ?_)
        obtain ⟨rfl, rfl⟩ := pr13
        have o15 := hQ.1
        replace hQ := hQ.2
        subst hF
        exact g_zret rfl dX9_actOutside_116 (gz_n o15) (Nat.le_of_ble_eq_true rfl) (Nat.le_of_ble_eq_true rfl) ⟨rfl, rfl⟩
      · replace hF := ite_n hF c11
        try replace hQ := ite_r hQ c11
        refine g_aload_n dX9_actOutside_105 rfl rfl rfl ?_
        have o16 := hQ.1
        replace hQ := hQ.2
        refine g_callv mv_X9_judgeOuterCard ml_X9_272 (c_X9_judgeOuterCard l g o16) (ho_0 _ _) rfl rfl (Nat.le_of_ble_eq_true rfl) (Nat.le_of_ble_eq_true rfl) (Nat.le_of_ble_eq_true rfl) (Nat.le_of_ble_eq_true rfl) rfl (Nat.le_of_ble_eq_true rfl) dX9_actOutside_106 rfl (fun r17 hr17 pr17 => ?_)
        obtain ⟨rfl, rfl⟩ := pr17
        refine g_goto (tgt := 116) dX9_actOutside_109 (by decide) ?_
        have o19 := hQ.1
        replace hQ := hQ.2
        subst hF
        exact g_zret rfl dX9_actOutside_116 (gz_n o19) (Nat.le_of_ble_eq_true rfl) (Nat.le_of_ble_eq_true rfl) ⟨rfl, rfl⟩
    · replace hF := ite_n hF c10
      try replace hQ := ite_r hQ c10
      refine g_case 2 (fun c20 => ?_) (fun c20 => ?_)
      · replace hF := ite_p hF c20
        try replace hQ := ite_q hQ c20
        refine g_table (tgt := 117) dX9_actOutside_49 (by decide) (by decide) ?_
        refine g_iload_n dX9_actOutside_117 rfl rfl rfl ?_
        refine g_ifeq (tgt := 128) dX9_actOutside_118 (by decide) rfl (fun c21 => ?_) (fun c21 => ?_)
        · replace hF := ite_p hF c21
          try replace hQ := ite_q hQ c21
          refine g_aload_n dX9_actOutside_128 rfl rfl rfl ?_
          have o22 := hQ.1
          replace hQ := hQ.2
          refine g_callv mv_X9_loseOuterCard ml_X9_275 (c_X9_loseOuterCard l g o22) (ho_0 _ _) rfl rfl (Nat.le_of_ble_eq_true rfl) (Nat.le_of_ble_eq_true rfl) (Nat.le_of_ble_eq_true rfl) (Nat.le_of_ble_eq_true rfl) rfl (Nat.le_of_ble_eq_true rfl) dX9_actOutside_129 rfl (fun r23 hr23 pr23 => ?_)
          obtain ⟨rfl, rfl⟩ := pr23
          have o25 := hQ.1
          replace hQ := hQ.2
          subst hF
          exact g_zret rfl dX9_actOutside_132 (gz_n o25) (Nat.le_of_ble_eq_true rfl) (Nat.le_of_ble_eq_true rfl) ⟨rfl, rfl⟩
        · replace hF := ite_n hF c21
          try replace hQ := ite_r hQ c21
          refine g_aload_n dX9_actOutside_121 rfl rfl rfl ?_
          have o26 := hQ.1
          replace hQ := hQ.2
          refine g_callv mv_X9_waitForFinger ml_X9_278 (c_X9_waitForFinger l g o26) (ho_0 _ _) rfl rfl (Nat.le_of_ble_eq_true rfl) (Nat.le_of_ble_eq_true rfl) (Nat.le_of_ble_eq_true rfl) (Nat.le_of_ble_eq_true rfl) rfl (Nat.le_of_ble_eq_true rfl) dX9_actOutside_122 rfl (fun r27 hr27 pr27 => ?_)
          obtain ⟨rfl, rfl⟩ := pr27
          refine g_goto (tgt := 132) dX9_actOutside_125 (by decide) ?_
          have o29 := hQ.1
          replace hQ := hQ.2
          subst hF
          exact g_zret rfl dX9_actOutside_132 (gz_n o29) (Nat.le_of_ble_eq_true rfl) (Nat.le_of_ble_eq_true rfl) ⟨rfl, rfl⟩
      · replace hF := ite_n hF c20
        try replace hQ := ite_r hQ c20
        refine g_case 3 (fun c30 => ?_) (fun c30 => ?_)
        · replace hF := ite_p hF c30
          try replace hQ := ite_q hQ c30
          refine g_table (tgt := 133) dX9_actOutside_49 (by decide) (by decide) ?_
          refine g_iload_n dX9_actOutside_133 rfl rfl rfl ?_
          refine g_ifeq (tgt := 144) dX9_actOutside_134 (by decide) rfl (fun c31 => ?_) (fun c31 => ?_)
          · replace hF := ite_p hF c31
            try replace hQ := ite_q hQ c31
            refine g_aload_n dX9_actOutside_144 rfl rfl rfl ?_
            have o32 := hQ.1
            replace hQ := hQ.2
            refine g_callv mv_X9_loseOuterCard ml_X9_275 (c_X9_loseOuterCard l g o32) (ho_0 _ _) rfl rfl (Nat.le_of_ble_eq_true rfl) (Nat.le_of_ble_eq_true rfl) (Nat.le_of_ble_eq_true rfl) (Nat.le_of_ble_eq_true rfl) rfl (Nat.le_of_ble_eq_true rfl) dX9_actOutside_145 rfl (fun r33 hr33 pr33 => ?_)
            obtain ⟨rfl, rfl⟩ := pr33
            have o35 := hQ.1
            replace hQ := hQ.2
            subst hF
            exact g_zret rfl dX9_actOutside_148 (gz_n o35) (Nat.le_of_ble_eq_true rfl) (Nat.le_of_ble_eq_true rfl) ⟨rfl, rfl⟩
          · replace hF := ite_n hF c31
            try replace hQ := ite_r hQ c31
            refine g_aload_n dX9_actOutside_137 rfl rfl rfl ?_
            have o36 := hQ.1
            replace hQ := hQ.2
            refine g_callv mv_X9_judgeFinger ml_X9_281 (c_X9_judgeFinger l g o36) (ho_0 _ _) rfl rfl (Nat.le_of_ble_eq_true rfl) (Nat.le_of_ble_eq_true rfl) (Nat.le_of_ble_eq_true rfl) (Nat.le_of_ble_eq_true rfl) rfl (Nat.le_of_ble_eq_true rfl) dX9_actOutside_138 rfl (fun r37 hr37 pr37 => ?_)
            obtain ⟨rfl, rfl⟩ := pr37
            refine g_goto (tgt := 148) dX9_actOutside_141 (by decide) ?_
            have o39 := hQ.1
            replace hQ := hQ.2
            subst hF
            exact g_zret rfl dX9_actOutside_148 (gz_n o39) (Nat.le_of_ble_eq_true rfl) (Nat.le_of_ble_eq_true rfl) ⟨rfl, rfl⟩
        · replace hF := ite_n hF c30
          try replace hQ := ite_r hQ c30
          refine g_case 4 (fun c40 => ?_) (fun c40 => ?_)
          · replace hF := ite_p hF c40
            try replace hQ := ite_q hQ c40
            refine g_table (tgt := 149) dX9_actOutside_49 (by decide) (by decide) ?_
            refine g_iload_n dX9_actOutside_149 rfl rfl rfl ?_
            refine g_ifeq (tgt := 160) dX9_actOutside_150 (by decide) rfl (fun c41 => ?_) (fun c41 => ?_)
            · replace hF := ite_p hF c41
              try replace hQ := ite_q hQ c41
              refine g_aload_n dX9_actOutside_160 rfl rfl rfl ?_
              have o42 := hQ.1
              replace hQ := hQ.2
              refine g_callv mv_X9_loseOuterCard ml_X9_275 (c_X9_loseOuterCard l g o42) (ho_0 _ _) rfl rfl (Nat.le_of_ble_eq_true rfl) (Nat.le_of_ble_eq_true rfl) (Nat.le_of_ble_eq_true rfl) (Nat.le_of_ble_eq_true rfl) rfl (Nat.le_of_ble_eq_true rfl) dX9_actOutside_161 rfl (fun r43 hr43 pr43 => ?_)
              obtain ⟨rfl, rfl⟩ := pr43
              have o45 := hQ.1
              replace hQ := hQ.2
              subst hF
              exact g_zret rfl dX9_actOutside_164 (gz_n o45) (Nat.le_of_ble_eq_true rfl) (Nat.le_of_ble_eq_true rfl) ⟨rfl, rfl⟩
            · replace hF := ite_n hF c41
              try replace hQ := ite_r hQ c41
              refine g_aload_n dX9_actOutside_153 rfl rfl rfl ?_
              have o46 := hQ.1
              replace hQ := hQ.2
              refine g_callv mv_X9_writePass ml_X9_284 (c_X9_writePass l g hT o46) (ho_0 _ _) rfl rfl (Nat.le_of_ble_eq_true rfl) (Nat.le_of_ble_eq_true rfl) (Nat.le_of_ble_eq_true rfl) (Nat.le_of_ble_eq_true rfl) rfl (Nat.le_of_ble_eq_true rfl) dX9_actOutside_154 rfl (fun r47 hr47 pr47 => ?_)
              obtain ⟨rfl, rfl⟩ := pr47
              refine g_goto (tgt := 164) dX9_actOutside_157 (by decide) ?_
              have o49 := hQ.1
              replace hQ := hQ.2
              subst hF
              exact g_zret rfl dX9_actOutside_164 (gz_n o49) (Nat.le_of_ble_eq_true rfl) (Nat.le_of_ble_eq_true rfl) ⟨rfl, rfl⟩
          · replace hF := ite_n hF c40
            try replace hQ := ite_r hQ c40
            refine g_case 5 (fun c50 => ?_) (fun c50 => ?_)
            · replace hF := ite_p hF c50
              try replace hQ := ite_q hQ c50
              refine g_table (tgt := 165) dX9_actOutside_49 (by decide) (by decide) ?_
              refine g_iload_n dX9_actOutside_165 rfl rfl rfl ?_
              refine g_ifeq (tgt := 176) dX9_actOutside_166 (by decide) rfl (fun c51 => ?_) (fun c51 => ?_)
              · replace hF := ite_p hF c51
                try replace hQ := ite_q hQ c51
                refine g_aload_n dX9_actOutside_176 rfl rfl rfl ?_
                have o52 := hQ.1
                replace hQ := hQ.2
                refine g_callv mv_X9_loseOuterCard ml_X9_275 (c_X9_loseOuterCard l g o52) (ho_0 _ _) rfl rfl (Nat.le_of_ble_eq_true rfl) (Nat.le_of_ble_eq_true rfl) (Nat.le_of_ble_eq_true rfl) (Nat.le_of_ble_eq_true rfl) rfl (Nat.le_of_ble_eq_true rfl) dX9_actOutside_177 rfl (fun r53 hr53 pr53 => ?_)
                obtain ⟨rfl, rfl⟩ := pr53
                have o55 := hQ.1
                replace hQ := hQ.2
                subst hF
                exact g_zret rfl dX9_actOutside_180 (gz_n o55) (Nat.le_of_ble_eq_true rfl) (Nat.le_of_ble_eq_true rfl) ⟨rfl, rfl⟩
              · replace hF := ite_n hF c51
                try replace hQ := ite_r hQ c51
                refine g_aload_n dX9_actOutside_169 rfl rfl rfl ?_
                have o56 := hQ.1
                replace hQ := hQ.2
                refine g_callv mv_X9_judgeEntry ml_X9_287 (c_X9_judgeEntry l g o56) (ho_0 _ _) rfl rfl (Nat.le_of_ble_eq_true rfl) (Nat.le_of_ble_eq_true rfl) (Nat.le_of_ble_eq_true rfl) (Nat.le_of_ble_eq_true rfl) rfl (Nat.le_of_ble_eq_true rfl) dX9_actOutside_170 rfl (fun r57 hr57 pr57 => ?_)
                obtain ⟨rfl, rfl⟩ := pr57
                refine g_goto (tgt := 180) dX9_actOutside_173 (by decide) ?_
                have o59 := hQ.1
                replace hQ := hQ.2
                subst hF
                exact g_zret rfl dX9_actOutside_180 (gz_n o59) (Nat.le_of_ble_eq_true rfl) (Nat.le_of_ble_eq_true rfl) ⟨rfl, rfl⟩
            · replace hF := ite_n hF c50
              try replace hQ := ite_r hQ c50
              refine g_case 6 (fun c60 => ?_) (fun c60 => ?_)
              · replace hF := ite_p hF c60
                try replace hQ := ite_q hQ c60
                refine g_table (tgt := 181) dX9_actOutside_49 (by decide) (by decide) ?_
                refine g_aload_n dX9_actOutside_181 rfl rfl rfl ?_
                have o61 := hQ.1
                replace hQ := hQ.2
                refine g_callv mv_X9_waitForRemoval ml_X9_290 (c_X9_waitForRemoval l g o61) (ho_0 _ _) rfl rfl (Nat.le_of_ble_eq_true rfl) (Nat.le_of_ble_eq_true rfl) (Nat.le_of_ble_eq_true rfl) (Nat.le_of_ble_eq_true rfl) rfl (Nat.le_of_ble_eq_true rfl) dX9_actOutside_182 rfl (fun r62 hr62 pr62 => ?_)
                obtain ⟨rfl, rfl⟩ := pr62
                have o64 := hQ.1
                replace hQ := hQ.2
                subst hF
                exact g_zret rfl dX9_actOutside_185 (gz_n o64) (Nat.le_of_ble_eq_true rfl) (Nat.le_of_ble_eq_true rfl) ⟨rfl, rfl⟩
              · replace hF := ite_n hF c60
                try replace hQ := ite_r hQ c60
                refine g_case 7 (fun c65 => ?_) (fun c65 => ?_)
                · replace hF := ite_p hF c65
                  try replace hQ := ite_q hQ c65
                  refine g_table (tgt := 186) dX9_actOutside_49 (by decide) (by decide) ?_
                  refine g_aload_n dX9_actOutside_186 rfl rfl rfl ?_
                  have o66 := hQ.1
                  replace hQ := hQ.2
                  refine g_callv mv_X9_endIllVisit ml_X9_293 (c_X9_endIllVisit l g o66) (ho_0 _ _) rfl rfl (Nat.le_of_ble_eq_true rfl) (Nat.le_of_ble_eq_true rfl) (Nat.le_of_ble_eq_true rfl) (Nat.le_of_ble_eq_true rfl) rfl (Nat.le_of_ble_eq_true rfl) dX9_actOutside_187 rfl (fun r67 hr67 pr67 => ?_)
                  obtain ⟨rfl, rfl⟩ := pr67
                  have o69 := hQ.1
                  replace hQ := hQ.2
                  subst hF
                  exact g_zret rfl dX9_actOutside_190 (gz_n o69) (Nat.le_of_ble_eq_true rfl) (Nat.le_of_ble_eq_true rfl) ⟨rfl, rfl⟩
                · replace hF := ite_n hF c65
                  try replace hQ := ite_r hQ c65
                  refine g_table (tgt := 191) dX9_actOutside_49 (by decide) (gt_out (lo := 0) (hi := 7) (by decide) (fun k h1 h2 => by rcases (show k = 0 ∨ k = 1 ∨ k = 2 ∨ k = 3 ∨ k = 4 ∨ k = 5 ∨ k = 6 ∨ k = 7 by omega) with rfl | rfl | rfl | rfl | rfl | rfl | rfl | rfl <;> first | exact c5 | exact c10 | exact c20 | exact c30 | exact c40 | exact c50 | exact c60 | exact c65) (by decide)) ?_
                  refine g_iconst (v := 0) dX9_actOutside_191 (by decide) rfl ?_
                  subst hF
                  exact g_zret rfl dX9_actOutside_192 (by decide) (Nat.le_of_ble_eq_true rfl) (Nat.le_of_ble_eq_true rfl) ⟨rfl, rfl⟩
noncomputable def Fr_X9_actOutside (σ : gS)  : Int32 × gS :=
  if (σ 15 6) = 0 then
    ((0 : Int32), σ)
  else
    if (F_X4_isEnrolled σ ) = 0 then
      ((0 : Int32), σ)
    else
      if (σ 0 4) = (σ 19 3) then
        J_X9_actOutside_41  (1 : Int32) σ
      else
        J_X9_actOutside_41  (0 : Int32) σ
noncomputable def F_X9_actOutside : gS → Int32 × gS := Classical.choose (⟨Fr_X9_actOutside, rfl⟩ : ∃ f : gS → Int32 × gS, f = Fr_X9_actOutside)
theorem F_X9_actOutside_eq : F_X9_actOutside = Fr_X9_actOutside := Classical.choose_spec (⟨Fr_X9_actOutside, rfl⟩ : ∃ f : gS → Int32 × gS, f = Fr_X9_actOutside)
def Q_X9_actOutside (σ : gS)  : Prop :=
  if (σ 15 6) = 0 then
    (True)
  else
    (if (F_X4_isEnrolled σ ) = 0 then
      (True)
    else
      (if (σ 0 4) = (σ 19 3) then
        (QJ_X9_actOutside_41  (1 : Int32) σ)
      else
        (QJ_X9_actOutside_41  (0 : Int32) σ)))
set_option maxHeartbeats 4000000 in
set_option maxRecDepth 100000 in
theorem c_X9_actOutside (l : Launch) (g : gE)  (hT : gTab g) {σ : gS} {ζ : gQ}  (hQ : Q_X9_actOutside σ ) : gC l g mX9_actOutside (rm 5 134) [.ref 0] (hp σ ζ) (fun r h => r = some (.int (F_X9_actOutside σ ).1) ∧ h = hp (F_X9_actOutside σ ).2 ζ) := by
  refine gC_of (by decide) (Nat.le_of_ble_eq_true rfl) ?_
  generalize hF : (F_X9_actOutside σ ) = fr
  rw [F_X9_actOutside_eq] at hF
  unfold Fr_X9_actOutside at hF
  unfold Q_X9_actOutside at hQ
  refine g_aload_n dX9_actOutside_0 rfl rfl rfl ?_
  refine g_get gClX9 15 (by decide) fl_X9_61 dX9_actOutside_1 (ho_0 _ _) rfl rfl ?_
  refine g_get gClX3 6 (by decide) fl_X9_263 dX9_actOutside_4 (ho_15 _ _) rfl rfl ?_
  refine g_ifeq (tgt := 20) dX9_actOutside_7 (by decide) rfl (fun c1 => ?_) (fun c1 => ?_)
  · replace hF := ite_p hF c1
    try replace hQ := ite_q hQ c1
    refine g_iconst (v := 0) dX9_actOutside_20 (by decide) rfl ?_
    subst hF
    exact g_zret rfl dX9_actOutside_21 (by decide) (Nat.le_of_ble_eq_true rfl) (Nat.le_of_ble_eq_true rfl) ⟨rfl, rfl⟩
  · replace hF := ite_n hF c1
    try replace hQ := ite_r hQ c1
    refine g_aload_n dX9_actOutside_10 rfl rfl rfl ?_
    refine g_get gClX9 14 (by decide) fl_X9_54 dX9_actOutside_11 (ho_0 _ _) rfl rfl ?_
    refine g_callv mv_X4_isEnrolled ml_X9_266 (c_X4_isEnrolled l g) (ho_12 _ _) rfl rfl (Nat.le_of_ble_eq_true rfl) (Nat.le_of_ble_eq_true rfl) (Nat.le_of_ble_eq_true rfl) (Nat.le_of_ble_eq_true rfl) rfl (Nat.le_of_ble_eq_true rfl) dX9_actOutside_14 rfl (fun r2 hr2 pr2 => ?_)
    obtain ⟨rfl, rfl⟩ := pr2
    refine g_ifne (tgt := 22) dX9_actOutside_17 (by decide) rfl (fun c3 => ?_) (fun c3 => ?_)
    · replace hF := ite_n hF c3
      try replace hQ := ite_r hQ c3
      refine g_aload_n dX9_actOutside_22 rfl rfl rfl ?_
      refine g_get gClX9 4 (by decide) fl_X9_27 dX9_actOutside_23 (ho_0 _ _) rfl rfl ?_
      refine g_aload_n dX9_actOutside_26 rfl rfl rfl ?_
      refine g_get gClX9 17 (by decide) fl_X9_75 dX9_actOutside_27 (ho_0 _ _) rfl rfl ?_
      refine g_get gClX6 3 (by decide) fl_X9_238 dX9_actOutside_30 (ho_19 _ _) rfl rfl ?_
      refine g_icmpne (tgt := 40) dX9_actOutside_33 (by decide) rfl (fun c4 => ?_) (fun c4 => ?_)
      · replace hF := ite_n hF c4
        try replace hQ := ite_r hQ c4
        refine g_iconst (v := 0) dX9_actOutside_40 (by decide) rfl ?_
        refine g_sub [0] rfl ?_
        exact j_X9_actOutside_41 l g hT _ _ hQ hF
      · replace hF := ite_p hF c4
        try replace hQ := ite_q hQ c4
        refine g_iconst (v := 1) dX9_actOutside_36 (by decide) rfl ?_
        refine g_goto (tgt := 41) dX9_actOutside_37 (by decide) ?_
        refine g_sub [0] rfl ?_
        exact j_X9_actOutside_41 l g hT _ _ hQ hF
    · replace hF := ite_p hF c3
      try replace hQ := ite_q hQ c3
      refine g_iconst (v := 0) dX9_actOutside_20 (by decide) rfl ?_
      subst hF
      exact g_zret rfl dX9_actOutside_21 (by decide) (Nat.le_of_ble_eq_true rfl) (Nat.le_of_ble_eq_true rfl) ⟨rfl, rfl⟩
noncomputable def Fr_X9_at (σ : gS) (p0 : Int32) (p1 : Int32) (p2 : Int32) : Int32 :=
  if (F_X9_isCard p0) = 0 then
    (-1 : Int32)
  else
    if (F_X9_isPlace p1) = 0 then
      (-1 : Int32)
    else
      (F_X0_byteOf σ (23 + 11 * ix p0 + 1 + 2 + 2 * ix p1) 48 p2)
noncomputable def F_X9_at : gS → Int32 → Int32 → Int32 → Int32 := Classical.choose (⟨Fr_X9_at, rfl⟩ : ∃ f : gS → Int32 → Int32 → Int32 → Int32, f = Fr_X9_at)
theorem F_X9_at_eq : F_X9_at = Fr_X9_at := Classical.choose_spec (⟨Fr_X9_at, rfl⟩ : ∃ f : gS → Int32 → Int32 → Int32 → Int32, f = Fr_X9_at)
def Q_X9_at (σ : gS) (p0 : Int32) (p1 : Int32) (p2 : Int32) : Prop :=
  if (F_X9_isCard p0) = 0 then
    (True)
  else
    (if (F_X9_isPlace p1) = 0 then
      (True)
    else
      (vp_in p0 16 ∧ (vp_in p1 4 ∧ ((Q_X0_byteOf σ (23 + 11 * ix p0 + 1 + 2 + 2 * ix p1) 48 p2) ∧ (True)))))
set_option maxHeartbeats 4000000 in
set_option maxRecDepth 100000 in
theorem c_X9_at (l : Launch) (g : gE)  {σ : gS} {ζ : gQ} (p0 : Int32) (p1 : Int32) (p2 : Int32) (hQ : Q_X9_at σ p0 p1 p2) : gC l g mX9_at (rm 1 21) [.ref 0, .int p0, .int p1, .int p2] (hp σ ζ) (fun r h => r = some (.int (F_X9_at σ p0 p1 p2)) ∧ h = hp σ ζ) := by
  refine gC_of (by decide) (Nat.le_of_ble_eq_true rfl) ?_
  generalize hF : (F_X9_at σ p0 p1 p2) = fr
  rw [F_X9_at_eq] at hF
  unfold Fr_X9_at at hF
  unfold Q_X9_at at hQ
  refine g_iload_n dX9_at_0 rfl rfl rfl ?_
  refine g_calls mt_X9_isCard ms_X9_isCard ml_X9_118 (c_X9_isCard l g _) rfl (Nat.le_of_ble_eq_true rfl) (Nat.le_of_ble_eq_true rfl) (Nat.le_of_ble_eq_true rfl) (Nat.le_of_ble_eq_true rfl) rfl (Nat.le_of_ble_eq_true rfl) dX9_at_1 rfl (fun r1 hr1 pr1 => ?_)
  obtain ⟨rfl, rfl⟩ := pr1
  refine g_ifeq (tgt := 32) dX9_at_4 (by decide) rfl (fun c2 => ?_) (fun c2 => ?_)
  · replace hF := ite_p hF c2
    try replace hQ := ite_q hQ c2
    refine g_iconst (v := (-1)) dX9_at_32 (by decide) rfl ?_
    subst hF
    exact g_iret rfl dX9_at_33 (Nat.le_of_ble_eq_true rfl) (Nat.le_of_ble_eq_true rfl) ⟨rfl, rfl⟩
  · replace hF := ite_n hF c2
    try replace hQ := ite_r hQ c2
    refine g_iload_n dX9_at_7 rfl rfl rfl ?_
    refine g_calls mt_X9_isPlace ms_X9_isPlace ml_X9_121 (c_X9_isPlace l g _) rfl (Nat.le_of_ble_eq_true rfl) (Nat.le_of_ble_eq_true rfl) (Nat.le_of_ble_eq_true rfl) (Nat.le_of_ble_eq_true rfl) rfl (Nat.le_of_ble_eq_true rfl) dX9_at_8 rfl (fun r3 hr3 pr3 => ?_)
    obtain ⟨rfl, rfl⟩ := pr3
    refine g_ifeq (tgt := 32) dX9_at_11 (by decide) rfl (fun c4 => ?_) (fun c4 => ?_)
    · replace hF := ite_p hF c4
      try replace hQ := ite_q hQ c4
      refine g_iconst (v := (-1)) dX9_at_32 (by decide) rfl ?_
      subst hF
      exact g_iret rfl dX9_at_33 (Nat.le_of_ble_eq_true rfl) (Nat.le_of_ble_eq_true rfl) ⟨rfl, rfl⟩
    · replace hF := ite_n hF c4
      try replace hQ := ite_r hQ c4
      refine g_aload_n dX9_at_14 rfl rfl rfl ?_
      refine g_get gClX9 3 (by decide) fl_X9_23 dX9_at_15 (ho_0 _ _) rfl rfl ?_
      refine g_iload_n dX9_at_18 rfl rfl rfl ?_
      have o5 := hQ.1
      replace hQ := hQ.2
      refine g_aald3 (hp_at (by decide)) o5 (aa16 o5) dX9_at_19 rfl ?_
      refine g_get gClX1 0 (by decide) fl_X9_220 dX9_at_20 (card_o (vin_lt o5)) rfl rfl ?_
      refine g_iload_n dX9_at_23 rfl rfl rfl ?_
      have o6 := hQ.1
      replace hQ := hQ.2
      refine g_aald4 (card_r (vin_lt o5)) o6 (aa4 o6) dX9_at_24 rfl ?_
      refine g_iload_n dX9_at_25 rfl rfl rfl ?_
      have o7 := hQ.1
      replace hQ := hQ.2
      refine g_callv mv_X0_byteOf ml_X9_224 (c_X0_byteOf l g (isB_rw (vin_lt o5) (vin_lt o6)) _ o7) ((isB_rw (vin_lt o5) (vin_lt o6)).o _ ζ) rfl rfl (Nat.le_of_ble_eq_true rfl) (Nat.le_of_ble_eq_true rfl) (Nat.le_of_ble_eq_true rfl) (Nat.le_of_ble_eq_true rfl) rfl (Nat.le_of_ble_eq_true rfl) dX9_at_26 rfl (fun r8 hr8 pr8 => ?_)
      obtain ⟨rfl, rfl⟩ := pr8
      refine g_goto (tgt := 33) dX9_at_29 (by decide) ?_
      subst hF
      exact g_iret rfl dX9_at_33 (Nat.le_of_ble_eq_true rfl) (Nat.le_of_ble_eq_true rfl) ⟨rfl, rfl⟩
noncomputable def J_X9_card_31 (p0 : Int32) (p1 : Int32) (u0 : Int32) (σ : gS) : Int32 × gS :=
  if u0 = 0 then
    let s4 := (pf σ 1 1 (0 : Int32) : gS)
    (u0, s4)
  else
    let s9 := (F_X1_replaceRow σ (ix p0) p1)
    let s10 := (pf s9 1 1 (0 : Int32) : gS)
    (u0, s10)
def QJ_X9_card_31 (p0 : Int32) (p1 : Int32) (u0 : Int32) (σ : gS) : Prop :=
  if u0 = 0 then
    (let s4 := (pf σ 1 1 (0 : Int32) : gS)
    (u0 = 0 ∨ u0 = 1) ∧ (True))
  else
    (vp_in p0 16 ∧ ((Q_X1_replaceRow σ (ix p0) p1) ∧ (let s9 := (F_X1_replaceRow σ (ix p0) p1)
    let s10 := (pf s9 1 1 (0 : Int32) : gS)
    (u0 = 0 ∨ u0 = 1) ∧ (True))))
set_option maxHeartbeats 4000000 in
set_option maxRecDepth 100000 in
theorem j_X9_card_31 (l : Launch) (g : gE) {p0 : Int32} {p1 : Int32} {ζ : gQ} {fr : Int32 × gS} : ∀ (u0 : Int32) (σ : gS), QJ_X9_card_31 p0 p1 u0 σ → J_X9_card_31 p0 p1 u0 σ = fr → gG l g mX9_card (rm 3 83) (gZm g (rm 3 83) (fun r h => r = some (.int fr.1) ∧ h = hp fr.2 ζ)) 31 [(0, .ref 0), (1, .int p0), (2, .int p1)] [.int u0] (hp σ ζ) 0 0 := by
  intro u0 σ hQ hF
  unfold J_X9_card_31 at hF
  unfold QJ_X9_card_31 at hQ
  refine g_istoreL_n (L1 := [(0, _), (1, _), (2, _), (3, _)]) dX9_card_31 rfl (by decide) rfl rfl ?_
  refine g_iload_n dX9_card_32 rfl rfl rfl ?_
  refine g_ifeq (tgt := 50) dX9_card_33 (by decide) rfl (fun c3 => ?_) (fun c3 => ?_)
  · replace hF := ite_p hF c3
    try replace hQ := ite_q hQ c3
    refine g_aload_n dX9_card_50 rfl rfl rfl ?_
    refine g_get gClX9 0 (by decide) fl_X9_14 dX9_card_51 (ho_0 _ _) rfl rfl ?_
    refine g_iconst (v := 0) dX9_card_54 (by decide) rfl ?_
    refine g_put gClX0 1 (by decide) fl_X9_103 rfl dX9_card_55 (ho_1 _ _) rfl rfl (Nat.le_of_ble_eq_true rfl) po_1_1 rfl ?_
    refine g_iload_n dX9_card_58 rfl rfl rfl ?_
    have o5 := hQ.1
    replace hQ := hQ.2
    subst hF
    exact g_zret rfl dX9_card_59 (gz_n o5) (Nat.le_of_ble_eq_true rfl) (Nat.le_of_ble_eq_true rfl) ⟨rfl, rfl⟩
  · replace hF := ite_n hF c3
    try replace hQ := ite_r hQ c3
    refine g_aload_n dX9_card_36 rfl rfl rfl ?_
    refine g_get gClX9 3 (by decide) fl_X9_23 dX9_card_37 (ho_0 _ _) rfl rfl ?_
    refine g_iload_n dX9_card_40 rfl rfl rfl ?_
    have o6 := hQ.1
    replace hQ := hQ.2
    refine g_aald3 (hp_at (by decide)) o6 (aa16 o6) dX9_card_41 rfl ?_
    refine g_iload_n dX9_card_42 rfl rfl rfl ?_
    refine g_aload_n dX9_card_43 rfl rfl rfl ?_
    refine g_get gClX9 0 (by decide) fl_X9_14 dX9_card_44 (ho_0 _ _) rfl rfl ?_
    have o7 := hQ.1
    replace hQ := hQ.2
    refine g_callv mv_X1_replaceRow ml_X9_124 (c_X1_replaceRow l g (vin_lt o6) _ o7) (card_o (vin_lt o6)) rfl rfl (Nat.le_of_ble_eq_true rfl) (Nat.le_of_ble_eq_true rfl) (Nat.le_of_ble_eq_true rfl) (Nat.le_of_ble_eq_true rfl) rfl (Nat.le_of_ble_eq_true rfl) dX9_card_47 rfl (fun r8 hr8 pr8 => ?_)
    obtain ⟨rfl, rfl⟩ := pr8
    refine g_aload_n dX9_card_50 rfl rfl rfl ?_
    refine g_get gClX9 0 (by decide) fl_X9_14 dX9_card_51 (ho_0 _ _) rfl rfl ?_
    refine g_iconst (v := 0) dX9_card_54 (by decide) rfl ?_
    refine g_put gClX0 1 (by decide) fl_X9_103 rfl dX9_card_55 (ho_1 _ _) rfl rfl (Nat.le_of_ble_eq_true rfl) po_1_1 rfl ?_
    refine g_iload_n dX9_card_58 rfl rfl rfl ?_
    have o11 := hQ.1
    replace hQ := hQ.2
    subst hF
    exact g_zret rfl dX9_card_59 (gz_n o11) (Nat.le_of_ble_eq_true rfl) (Nat.le_of_ble_eq_true rfl) ⟨rfl, rfl⟩
noncomputable def J_X9_card_30 (p0 : Int32) (p1 : Int32) (σ : gS) : Int32 × gS :=
  J_X9_card_31 p0 p1 (0 : Int32) σ
def QJ_X9_card_30 (p0 : Int32) (p1 : Int32) (σ : gS) : Prop :=
  QJ_X9_card_31 p0 p1 (0 : Int32) σ
set_option maxHeartbeats 4000000 in
set_option maxRecDepth 100000 in
theorem j_X9_card_30 (l : Launch) (g : gE) {p0 : Int32} {p1 : Int32} {ζ : gQ} {fr : Int32 × gS} : ∀ (σ : gS), QJ_X9_card_30 p0 p1 σ → J_X9_card_30 p0 p1 σ = fr → gG l g mX9_card (rm 3 83) (gZm g (rm 3 83) (fun r h => r = some (.int fr.1) ∧ h = hp fr.2 ζ)) 30 [(0, .ref 0), (1, .int p0), (2, .int p1)] [] (hp σ ζ) 0 0 := by
  intro σ hQ hF
  unfold J_X9_card_30 at hF
  unfold QJ_X9_card_30 at hQ
  refine g_iconst (v := 0) dX9_card_30 (by decide) rfl ?_
  refine g_sub [0, 1, 2] rfl ?_
  exact j_X9_card_31 l g _ _ hQ hF
noncomputable def Fr_X9_card (σ : gS) (p0 : Int32) (p1 : Int32) : Int32 × gS :=
  if (F_X9_isCard p0) = 0 then
    J_X9_card_30 p0 p1 σ
  else
    if (F_X9_isPlace p1) = 0 then
      J_X9_card_30 p0 p1 σ
    else
      if (48 : Int32) < (σ 1 1) then
        J_X9_card_30 p0 p1 σ
      else
        J_X9_card_31 p0 p1 (1 : Int32) σ
noncomputable def F_X9_card : gS → Int32 → Int32 → Int32 × gS := Classical.choose (⟨Fr_X9_card, rfl⟩ : ∃ f : gS → Int32 → Int32 → Int32 × gS, f = Fr_X9_card)
theorem F_X9_card_eq : F_X9_card = Fr_X9_card := Classical.choose_spec (⟨Fr_X9_card, rfl⟩ : ∃ f : gS → Int32 → Int32 → Int32 × gS, f = Fr_X9_card)
def Q_X9_card (σ : gS) (p0 : Int32) (p1 : Int32) : Prop :=
  if (F_X9_isCard p0) = 0 then
    (QJ_X9_card_30 p0 p1 σ)
  else
    (if (F_X9_isPlace p1) = 0 then
      (QJ_X9_card_30 p0 p1 σ)
    else
      (if (48 : Int32) < (σ 1 1) then
        (QJ_X9_card_30 p0 p1 σ)
      else
        (QJ_X9_card_31 p0 p1 (1 : Int32) σ)))
set_option maxHeartbeats 4000000 in
set_option maxRecDepth 100000 in
theorem c_X9_card (l : Launch) (g : gE)  {σ : gS} {ζ : gQ} (p0 : Int32) (p1 : Int32) (hQ : Q_X9_card σ p0 p1) : gC l g mX9_card (rm 3 83) [.ref 0, .int p0, .int p1] (hp σ ζ) (fun r h => r = some (.int (F_X9_card σ p0 p1).1) ∧ h = hp (F_X9_card σ p0 p1).2 ζ) := by
  refine gC_of (by decide) (Nat.le_of_ble_eq_true rfl) ?_
  generalize hF : (F_X9_card σ p0 p1) = fr
  rw [F_X9_card_eq] at hF
  unfold Fr_X9_card at hF
  unfold Q_X9_card at hQ
  refine g_iload_n dX9_card_0 rfl rfl rfl ?_
  refine g_calls mt_X9_isCard ms_X9_isCard ml_X9_118 (c_X9_isCard l g _) rfl (Nat.le_of_ble_eq_true rfl) (Nat.le_of_ble_eq_true rfl) (Nat.le_of_ble_eq_true rfl) (Nat.le_of_ble_eq_true rfl) rfl (Nat.le_of_ble_eq_true rfl) dX9_card_1 rfl (fun r1 hr1 pr1 => ?_)
  obtain ⟨rfl, rfl⟩ := pr1
  refine g_ifeq (tgt := 30) dX9_card_4 (by decide) rfl (fun c2 => ?_) (fun c2 => ?_)
  · replace hF := ite_p hF c2
    try replace hQ := ite_q hQ c2
    refine g_sub [0, 1, 2] rfl ?_
    exact j_X9_card_30 l g _ hQ hF
  · replace hF := ite_n hF c2
    try replace hQ := ite_r hQ c2
    refine g_iload_n dX9_card_7 rfl rfl rfl ?_
    refine g_calls mt_X9_isPlace ms_X9_isPlace ml_X9_121 (c_X9_isPlace l g _) rfl (Nat.le_of_ble_eq_true rfl) (Nat.le_of_ble_eq_true rfl) (Nat.le_of_ble_eq_true rfl) (Nat.le_of_ble_eq_true rfl) rfl (Nat.le_of_ble_eq_true rfl) dX9_card_8 rfl (fun r12 hr12 pr12 => ?_)
    obtain ⟨rfl, rfl⟩ := pr12
    refine g_ifeq (tgt := 30) dX9_card_11 (by decide) rfl (fun c13 => ?_) (fun c13 => ?_)
    · replace hF := ite_p hF c13
      try replace hQ := ite_q hQ c13
      refine g_sub [0, 1, 2] rfl ?_
      exact j_X9_card_30 l g _ hQ hF
    · replace hF := ite_n hF c13
      try replace hQ := ite_r hQ c13
      refine g_aload_n dX9_card_14 rfl rfl rfl ?_
      refine g_get gClX9 0 (by decide) fl_X9_14 dX9_card_15 (ho_0 _ _) rfl rfl ?_
      refine g_get gClX0 1 (by decide) fl_X9_103 dX9_card_18 (ho_1 _ _) rfl rfl ?_
      refine g_bipush (v := 48) dX9_card_21 (by decide) rfl ?_
      refine g_icmpgt (tgt := 30) dX9_card_23 (by decide) rfl (fun c14 => ?_) (fun c14 => ?_)
      · replace hF := ite_p hF c14
        try replace hQ := ite_q hQ c14
        refine g_sub [0, 1, 2] rfl ?_
        exact j_X9_card_30 l g _ hQ hF
      · replace hF := ite_n hF c14
        try replace hQ := ite_r hQ c14
        refine g_iconst (v := 1) dX9_card_26 (by decide) rfl ?_
        refine g_goto (tgt := 31) dX9_card_27 (by decide) ?_
        refine g_sub [0, 1, 2] rfl ?_
        exact j_X9_card_31 l g _ _ hQ hF
noncomputable def Fr_X9_cut (σ : gS) (p0 : Int32) : Int32 × gS :=
  if p0 < 0 then
    ((-1 : Int32), σ)
  else
    if p0 ≤ (σ 1 1) then
      let s3 := (pf σ 1 1 p0 : gS)
      (((σ 1 1) - p0), s3)
    else
      ((-1 : Int32), σ)
noncomputable def F_X9_cut : gS → Int32 → Int32 × gS := Classical.choose (⟨Fr_X9_cut, rfl⟩ : ∃ f : gS → Int32 → Int32 × gS, f = Fr_X9_cut)
theorem F_X9_cut_eq : F_X9_cut = Fr_X9_cut := Classical.choose_spec (⟨Fr_X9_cut, rfl⟩ : ∃ f : gS → Int32 → Int32 × gS, f = Fr_X9_cut)
set_option maxHeartbeats 4000000 in
set_option maxRecDepth 100000 in
theorem c_X9_cut (l : Launch) (g : gE)  {σ : gS} {ζ : gQ} (p0 : Int32) : gC l g mX9_cut (rm 0 0) [.ref 0, .int p0] (hp σ ζ) (fun r h => r = some (.int (F_X9_cut σ p0).1) ∧ h = hp (F_X9_cut σ p0).2 ζ) := by
  refine gC_of (by decide) (Nat.le_of_ble_eq_true rfl) ?_
  generalize hF : (F_X9_cut σ p0) = fr
  rw [F_X9_cut_eq] at hF
  unfold Fr_X9_cut at hF
  refine g_iload_n dX9_cut_0 rfl rfl rfl ?_
  refine g_iflt (tgt := 15) dX9_cut_1 (by decide) rfl (fun c1 => ?_) (fun c1 => ?_)
  · replace hF := ite_p hF c1
    refine g_iconst (v := (-1)) dX9_cut_15 (by decide) rfl ?_
    subst hF
    exact g_iret rfl dX9_cut_16 (Nat.le_of_ble_eq_true rfl) (Nat.le_of_ble_eq_true rfl) ⟨rfl, rfl⟩
  · replace hF := ite_n hF c1
    refine g_iload_n dX9_cut_4 rfl rfl rfl ?_
    refine g_aload_n dX9_cut_5 rfl rfl rfl ?_
    refine g_get gClX9 0 (by decide) fl_X9_14 dX9_cut_6 (ho_0 _ _) rfl rfl ?_
    refine g_get gClX0 1 (by decide) fl_X9_103 dX9_cut_9 (ho_1 _ _) rfl rfl ?_
    refine g_icmple (tgt := 17) dX9_cut_12 (by decide) rfl (fun c2 => ?_) (fun c2 => ?_)
    · replace hF := ite_p hF c2
      refine g_aload_n dX9_cut_17 rfl rfl rfl ?_
      refine g_get gClX9 0 (by decide) fl_X9_14 dX9_cut_18 (ho_0 _ _) rfl rfl ?_
      refine g_get gClX0 1 (by decide) fl_X9_103 dX9_cut_21 (ho_1 _ _) rfl rfl ?_
      refine g_iload_n dX9_cut_24 rfl rfl rfl ?_
      refine g_isub dX9_cut_25 rfl ?_
      refine g_istoreL_n (L1 := [(0, _), (1, _), (2, _)]) dX9_cut_26 rfl (by decide) rfl rfl ?_
      refine g_aload_n dX9_cut_27 rfl rfl rfl ?_
      refine g_get gClX9 0 (by decide) fl_X9_14 dX9_cut_28 (ho_0 _ _) rfl rfl ?_
      refine g_iload_n dX9_cut_31 rfl rfl rfl ?_
      refine g_put gClX0 1 (by decide) fl_X9_103 rfl dX9_cut_32 (ho_1 _ _) rfl rfl (Nat.le_of_ble_eq_true rfl) po_1_1 rfl ?_
      refine g_iload_n dX9_cut_35 rfl rfl rfl ?_
      subst hF
      exact g_iret rfl dX9_cut_36 (Nat.le_of_ble_eq_true rfl) (Nat.le_of_ble_eq_true rfl) ⟨rfl, rfl⟩
    · replace hF := ite_n hF c2
      refine g_iconst (v := (-1)) dX9_cut_15 (by decide) rfl ?_
      subst hF
      exact g_iret rfl dX9_cut_16 (Nat.le_of_ble_eq_true rfl) (Nat.le_of_ble_eq_true rfl) ⟨rfl, rfl⟩
noncomputable def Fr_X9_cutAt (σ : gS) (p0 : Int32) : Int32 × gS :=
  if p0 < 0 then
    ((0 : Int32), σ)
  else
    if p0 ≤ (10 : Int32) then
      let s3 := (pf σ 15 4 p0 : gS)
      ((1 : Int32), s3)
    else
      ((0 : Int32), σ)
noncomputable def F_X9_cutAt : gS → Int32 → Int32 × gS := Classical.choose (⟨Fr_X9_cutAt, rfl⟩ : ∃ f : gS → Int32 → Int32 × gS, f = Fr_X9_cutAt)
theorem F_X9_cutAt_eq : F_X9_cutAt = Fr_X9_cutAt := Classical.choose_spec (⟨Fr_X9_cutAt, rfl⟩ : ∃ f : gS → Int32 → Int32 × gS, f = Fr_X9_cutAt)
set_option maxHeartbeats 4000000 in
set_option maxRecDepth 100000 in
theorem c_X9_cutAt (l : Launch) (g : gE)  {σ : gS} {ζ : gQ} (p0 : Int32) : gC l g mX9_cutAt (rm 0 0) [.ref 0, .int p0] (hp σ ζ) (fun r h => r = some (.int (F_X9_cutAt σ p0).1) ∧ h = hp (F_X9_cutAt σ p0).2 ζ) := by
  refine gC_of (by decide) (Nat.le_of_ble_eq_true rfl) ?_
  generalize hF : (F_X9_cutAt σ p0) = fr
  rw [F_X9_cutAt_eq] at hF
  unfold Fr_X9_cutAt at hF
  refine g_iload_n dX9_cutAt_0 rfl rfl rfl ?_
  refine g_iflt (tgt := 10) dX9_cutAt_1 (by decide) rfl (fun c1 => ?_) (fun c1 => ?_)
  · replace hF := ite_p hF c1
    refine g_iconst (v := 0) dX9_cutAt_10 (by decide) rfl ?_
    subst hF
    exact g_zret rfl dX9_cutAt_11 (by decide) (Nat.le_of_ble_eq_true rfl) (Nat.le_of_ble_eq_true rfl) ⟨rfl, rfl⟩
  · replace hF := ite_n hF c1
    refine g_iload_n dX9_cutAt_4 rfl rfl rfl ?_
    refine g_bipush (v := 10) dX9_cutAt_5 (by decide) rfl ?_
    refine g_icmple (tgt := 12) dX9_cutAt_7 (by decide) rfl (fun c2 => ?_) (fun c2 => ?_)
    · replace hF := ite_p hF c2
      refine g_aload_n dX9_cutAt_12 rfl rfl rfl ?_
      refine g_get gClX9 15 (by decide) fl_X9_61 dX9_cutAt_13 (ho_0 _ _) rfl rfl ?_
      refine g_iload_n dX9_cutAt_16 rfl rfl rfl ?_
      refine g_put gClX3 4 (by decide) fl_X9_150 rfl dX9_cutAt_17 (ho_15 _ _) rfl rfl (Nat.le_of_ble_eq_true rfl) po_15_4 rfl ?_
      refine g_iconst (v := 1) dX9_cutAt_20 (by decide) rfl ?_
      subst hF
      exact g_zret rfl dX9_cutAt_21 (by decide) (Nat.le_of_ble_eq_true rfl) (Nat.le_of_ble_eq_true rfl) ⟨rfl, rfl⟩
    · replace hF := ite_n hF c2
      refine g_iconst (v := 0) dX9_cutAt_10 (by decide) rfl ?_
      subst hF
      exact g_zret rfl dX9_cutAt_11 (by decide) (Nat.le_of_ble_eq_true rfl) (Nat.le_of_ble_eq_true rfl) ⟨rfl, rfl⟩
noncomputable def Fr_X9_disk (σ : gS)  : Int32 × gS :=
  let s3 := (F_X0_copyFrom σ 3 400 1 400)
  let s4 := (pf s3 0 2 (1 : Int32) : gS)
  let s5 := (pf s4 1 1 (0 : Int32) : gS)
  ((s5 3 1), s5)
noncomputable def F_X9_disk : gS → Int32 × gS := Classical.choose (⟨Fr_X9_disk, rfl⟩ : ∃ f : gS → Int32 × gS, f = Fr_X9_disk)
theorem F_X9_disk_eq : F_X9_disk = Fr_X9_disk := Classical.choose_spec (⟨Fr_X9_disk, rfl⟩ : ∃ f : gS → Int32 × gS, f = Fr_X9_disk)
def Q_X9_disk (σ : gS)  : Prop :=
  (Q_X0_copyFrom σ 3 400 1 400) ∧ (let s3 := (F_X0_copyFrom σ 3 400 1 400)
  let s4 := (pf s3 0 2 (1 : Int32) : gS)
  let s5 := (pf s4 1 1 (0 : Int32) : gS)
  True)
set_option maxHeartbeats 4000000 in
set_option maxRecDepth 100000 in
theorem c_X9_disk (l : Launch) (g : gE)  {σ : gS} {ζ : gQ}  (hQ : Q_X9_disk σ ) : gC l g mX9_disk (rm 2 61) [.ref 0] (hp σ ζ) (fun r h => r = some (.int (F_X9_disk σ ).1) ∧ h = hp (F_X9_disk σ ).2 ζ) := by
  refine gC_of (by decide) (Nat.le_of_ble_eq_true rfl) ?_
  generalize hF : (F_X9_disk σ ) = fr
  rw [F_X9_disk_eq] at hF
  unfold Fr_X9_disk at hF
  unfold Q_X9_disk at hQ
  refine g_aload_n dX9_disk_0 rfl rfl rfl ?_
  refine g_get gClX9 1 (by decide) fl_X9_18 dX9_disk_1 (ho_0 _ _) rfl rfl ?_
  refine g_aload_n dX9_disk_4 rfl rfl rfl ?_
  refine g_get gClX9 0 (by decide) fl_X9_14 dX9_disk_5 (ho_0 _ _) rfl rfl ?_
  have o1 := hQ.1
  replace hQ := hQ.2
  refine g_callv mv_X0_copyFrom ml_X9_136 (c_X0_copyFrom l g isB_disk isB_tape o1) (ho_3 _ _) rfl rfl (Nat.le_of_ble_eq_true rfl) (Nat.le_of_ble_eq_true rfl) (Nat.le_of_ble_eq_true rfl) (Nat.le_of_ble_eq_true rfl) rfl (Nat.le_of_ble_eq_true rfl) dX9_disk_8 rfl (fun r2 hr2 pr2 => ?_)
  obtain ⟨rfl, rfl⟩ := pr2
  refine g_aload_n dX9_disk_11 rfl rfl rfl ?_
  refine g_iconst (v := 1) dX9_disk_12 (by decide) rfl ?_
  refine g_put gClX9 2 (by decide) fl_X9_139 rfl dX9_disk_13 (ho_0 _ _) rfl rfl (Nat.le_of_ble_eq_true rfl) po_0_2 rfl ?_
  refine g_aload_n dX9_disk_16 rfl rfl rfl ?_
  refine g_get gClX9 0 (by decide) fl_X9_14 dX9_disk_17 (ho_0 _ _) rfl rfl ?_
  refine g_iconst (v := 0) dX9_disk_20 (by decide) rfl ?_
  refine g_put gClX0 1 (by decide) fl_X9_103 rfl dX9_disk_21 (ho_1 _ _) rfl rfl (Nat.le_of_ble_eq_true rfl) po_1_1 rfl ?_
  refine g_aload_n dX9_disk_24 rfl rfl rfl ?_
  refine g_get gClX9 1 (by decide) fl_X9_18 dX9_disk_25 (ho_0 _ _) rfl rfl ?_
  refine g_get gClX0 1 (by decide) fl_X9_103 dX9_disk_28 (ho_3 _ _) rfl rfl ?_
  subst hF
  exact g_iret rfl dX9_disk_31 (Nat.le_of_ble_eq_true rfl) (Nat.le_of_ble_eq_true rfl) ⟨rfl, rfl⟩
noncomputable def Fr_X9_diskAt (σ : gS) (p0 : Int32) : Int32 :=
  if (σ 0 2) = 0 then
    (-1 : Int32)
  else
    (F_X0_byteOf σ 3 400 p0)
noncomputable def F_X9_diskAt : gS → Int32 → Int32 := Classical.choose (⟨Fr_X9_diskAt, rfl⟩ : ∃ f : gS → Int32 → Int32, f = Fr_X9_diskAt)
theorem F_X9_diskAt_eq : F_X9_diskAt = Fr_X9_diskAt := Classical.choose_spec (⟨Fr_X9_diskAt, rfl⟩ : ∃ f : gS → Int32 → Int32, f = Fr_X9_diskAt)
def Q_X9_diskAt (σ : gS) (p0 : Int32) : Prop :=
  if (σ 0 2) = 0 then
    (True)
  else
    ((Q_X0_byteOf σ 3 400 p0) ∧ (True))
set_option maxHeartbeats 4000000 in
set_option maxRecDepth 100000 in
theorem c_X9_diskAt (l : Launch) (g : gE)  {σ : gS} {ζ : gQ} (p0 : Int32) (hQ : Q_X9_diskAt σ p0) : gC l g mX9_diskAt (rm 1 21) [.ref 0, .int p0] (hp σ ζ) (fun r h => r = some (.int (F_X9_diskAt σ p0)) ∧ h = hp σ ζ) := by
  refine gC_of (by decide) (Nat.le_of_ble_eq_true rfl) ?_
  generalize hF : (F_X9_diskAt σ p0) = fr
  rw [F_X9_diskAt_eq] at hF
  unfold Fr_X9_diskAt at hF
  unfold Q_X9_diskAt at hQ
  refine g_aload_n dX9_diskAt_0 rfl rfl rfl ?_
  refine g_get gClX9 2 (by decide) fl_X9_139 dX9_diskAt_1 (ho_0 _ _) rfl rfl ?_
  refine g_ifeq (tgt := 18) dX9_diskAt_4 (by decide) rfl (fun c1 => ?_) (fun c1 => ?_)
  · replace hF := ite_p hF c1
    try replace hQ := ite_q hQ c1
    refine g_iconst (v := (-1)) dX9_diskAt_18 (by decide) rfl ?_
    subst hF
    exact g_iret rfl dX9_diskAt_19 (Nat.le_of_ble_eq_true rfl) (Nat.le_of_ble_eq_true rfl) ⟨rfl, rfl⟩
  · replace hF := ite_n hF c1
    try replace hQ := ite_r hQ c1
    refine g_aload_n dX9_diskAt_7 rfl rfl rfl ?_
    refine g_get gClX9 1 (by decide) fl_X9_18 dX9_diskAt_8 (ho_0 _ _) rfl rfl ?_
    refine g_iload_n dX9_diskAt_11 rfl rfl rfl ?_
    have o2 := hQ.1
    replace hQ := hQ.2
    refine g_callv mv_X0_byteOf ml_X9_224 (c_X0_byteOf l g isB_disk _ o2) (ho_3 _ _) rfl rfl (Nat.le_of_ble_eq_true rfl) (Nat.le_of_ble_eq_true rfl) (Nat.le_of_ble_eq_true rfl) (Nat.le_of_ble_eq_true rfl) rfl (Nat.le_of_ble_eq_true rfl) dX9_diskAt_12 rfl (fun r3 hr3 pr3 => ?_)
    obtain ⟨rfl, rfl⟩ := pr3
    refine g_goto (tgt := 19) dX9_diskAt_15 (by decide) ?_
    subst hF
    exact g_iret rfl dX9_diskAt_19 (Nat.le_of_ble_eq_true rfl) (Nat.le_of_ble_eq_true rfl) ⟨rfl, rfl⟩
noncomputable def Fr_X9_door (σ : gS) (p0 : Int32) : gS :=
  let s2 := (pf σ 0 7 p0 : gS)
  s2
noncomputable def F_X9_door : gS → Int32 → gS := Classical.choose (⟨Fr_X9_door, rfl⟩ : ∃ f : gS → Int32 → gS, f = Fr_X9_door)
theorem F_X9_door_eq : F_X9_door = Fr_X9_door := Classical.choose_spec (⟨Fr_X9_door, rfl⟩ : ∃ f : gS → Int32 → gS, f = Fr_X9_door)
def Q_X9_door (σ : gS) (p0 : Int32) : Prop :=
  (p0 = 0 ∨ p0 = 1) ∧ (let s2 := (pf σ 0 7 p0 : gS)
  True)
set_option maxHeartbeats 4000000 in
set_option maxRecDepth 100000 in
theorem c_X9_door (l : Launch) (g : gE)  {σ : gS} {ζ : gQ} (p0 : Int32) (hQ : Q_X9_door σ p0) : gC l g mX9_door (rm 0 0) [.ref 0, .int p0] (hp σ ζ) (fun r h => r = none ∧ h = hp (F_X9_door σ p0) ζ) := by
  refine gC_of (by decide) (Nat.le_of_ble_eq_true rfl) ?_
  generalize hF : (F_X9_door σ p0) = fr
  rw [F_X9_door_eq] at hF
  unfold Fr_X9_door at hF
  unfold Q_X9_door at hQ
  refine g_aload_n dX9_door_0 rfl rfl rfl ?_
  refine g_iload_n dX9_door_1 rfl rfl rfl ?_
  have o1 := hQ.1
  replace hQ := hQ.2
  refine g_put gClX9 7 (by decide) fl_X9_133 rfl dX9_door_2 (ho_0 _ _) (gz_n o1) (gz_f o1) (Nat.le_of_ble_eq_true rfl) po_0_7 rfl ?_
  subst hF
  exact g_vret rfl dX9_door_5 (Nat.le_of_ble_eq_true rfl) (Nat.le_of_ble_eq_true rfl) ⟨rfl, rfl⟩
noncomputable def Fr_X9_feed (σ : gS) (p0 : Int32) (p1 : Int32) (p2 : Int32) (p3 : Int32) (p4 : Int32) : Int32 × gS :=
  if (F_X0_hasRoom σ 1 400 (20 : Int32)) = 0 then
    ((-1 : Int32), σ)
  else
    let s5 := (F_X0_addFour σ 1 400 p0)
    let s8 := (F_X0_addFour s5 1 400 p1)
    let s11 := (F_X0_addFour s8 1 400 p2)
    let s14 := (F_X0_addFour s11 1 400 p3)
    let s17 := (F_X0_addFour s14 1 400 p4)
    ((s17 1 1), s17)
noncomputable def F_X9_feed : gS → Int32 → Int32 → Int32 → Int32 → Int32 → Int32 × gS := Classical.choose (⟨Fr_X9_feed, rfl⟩ : ∃ f : gS → Int32 → Int32 → Int32 → Int32 → Int32 → Int32 × gS, f = Fr_X9_feed)
theorem F_X9_feed_eq : F_X9_feed = Fr_X9_feed := Classical.choose_spec (⟨Fr_X9_feed, rfl⟩ : ∃ f : gS → Int32 → Int32 → Int32 → Int32 → Int32 → Int32 × gS, f = Fr_X9_feed)
def Q_X9_feed (σ : gS) (p0 : Int32) (p1 : Int32) (p2 : Int32) (p3 : Int32) (p4 : Int32) : Prop :=
  if (F_X0_hasRoom σ 1 400 (20 : Int32)) = 0 then
    (True)
  else
    ((Q_X0_addFour σ 1 400 p0) ∧ (let s5 := (F_X0_addFour σ 1 400 p0)
    (Q_X0_addFour s5 1 400 p1) ∧ (let s8 := (F_X0_addFour s5 1 400 p1)
    (Q_X0_addFour s8 1 400 p2) ∧ (let s11 := (F_X0_addFour s8 1 400 p2)
    (Q_X0_addFour s11 1 400 p3) ∧ (let s14 := (F_X0_addFour s11 1 400 p3)
    (Q_X0_addFour s14 1 400 p4) ∧ (let s17 := (F_X0_addFour s14 1 400 p4)
    True))))))
set_option maxHeartbeats 4000000 in
set_option maxRecDepth 100000 in
theorem c_X9_feed (l : Launch) (g : gE)  {σ : gS} {ζ : gQ} (p0 : Int32) (p1 : Int32) (p2 : Int32) (p3 : Int32) (p4 : Int32) (hQ : Q_X9_feed σ p0 p1 p2 p3 p4) : gC l g mX9_feed (rm 1 21) [.ref 0, .int p0, .int p1, .int p2, .int p3, .int p4] (hp σ ζ) (fun r h => r = some (.int (F_X9_feed σ p0 p1 p2 p3 p4).1) ∧ h = hp (F_X9_feed σ p0 p1 p2 p3 p4).2 ζ) := by
  refine gC_of (by decide) (Nat.le_of_ble_eq_true rfl) ?_
  generalize hF : (F_X9_feed σ p0 p1 p2 p3 p4) = fr
  rw [F_X9_feed_eq] at hF
  unfold Fr_X9_feed at hF
  unfold Q_X9_feed at hQ
  refine g_aload_n dX9_feed_0 rfl rfl rfl ?_
  refine g_get gClX9 0 (by decide) fl_X9_14 dX9_feed_1 (ho_0 _ _) rfl rfl ?_
  refine g_bipush (v := 20) dX9_feed_4 (by decide) rfl ?_
  refine g_callv mv_X0_hasRoom ml_X9_96 (c_X0_hasRoom l g isB_tape _) (ho_1 _ _) rfl rfl (Nat.le_of_ble_eq_true rfl) (Nat.le_of_ble_eq_true rfl) (Nat.le_of_ble_eq_true rfl) (Nat.le_of_ble_eq_true rfl) rfl (Nat.le_of_ble_eq_true rfl) dX9_feed_6 rfl (fun r1 hr1 pr1 => ?_)
  obtain ⟨rfl, rfl⟩ := pr1
  refine g_ifne (tgt := 14) dX9_feed_9 (by decide) rfl (fun c2 => ?_) (fun c2 => ?_)
  · replace hF := ite_n hF c2
    try replace hQ := ite_r hQ c2
    refine g_aload_n dX9_feed_14 rfl rfl rfl ?_
    refine g_get gClX9 0 (by decide) fl_X9_14 dX9_feed_15 (ho_0 _ _) rfl rfl ?_
    refine g_iload_n dX9_feed_18 rfl rfl rfl ?_
    have o3 := hQ.1
    replace hQ := hQ.2
    refine g_callv mv_X0_addFour ml_X9_100 (c_X0_addFour l g isB_tape _ o3) (ho_1 _ _) rfl rfl (Nat.le_of_ble_eq_true rfl) (Nat.le_of_ble_eq_true rfl) (Nat.le_of_ble_eq_true rfl) (Nat.le_of_ble_eq_true rfl) rfl (Nat.le_of_ble_eq_true rfl) dX9_feed_19 rfl (fun r4 hr4 pr4 => ?_)
    obtain ⟨rfl, rfl⟩ := pr4
    refine g_aload_n dX9_feed_22 rfl rfl rfl ?_
    refine g_get gClX9 0 (by decide) fl_X9_14 dX9_feed_23 (ho_0 _ _) rfl rfl ?_
    refine g_iload_n dX9_feed_26 rfl rfl rfl ?_
    have o6 := hQ.1
    replace hQ := hQ.2
    refine g_callv mv_X0_addFour ml_X9_100 (c_X0_addFour l g isB_tape _ o6) (ho_1 _ _) rfl rfl (Nat.le_of_ble_eq_true rfl) (Nat.le_of_ble_eq_true rfl) (Nat.le_of_ble_eq_true rfl) (Nat.le_of_ble_eq_true rfl) rfl (Nat.le_of_ble_eq_true rfl) dX9_feed_27 rfl (fun r7 hr7 pr7 => ?_)
    obtain ⟨rfl, rfl⟩ := pr7
    refine g_aload_n dX9_feed_30 rfl rfl rfl ?_
    refine g_get gClX9 0 (by decide) fl_X9_14 dX9_feed_31 (ho_0 _ _) rfl rfl ?_
    refine g_iload_n dX9_feed_34 rfl rfl rfl ?_
    have o9 := hQ.1
    replace hQ := hQ.2
    refine g_callv mv_X0_addFour ml_X9_100 (c_X0_addFour l g isB_tape _ o9) (ho_1 _ _) rfl rfl (Nat.le_of_ble_eq_true rfl) (Nat.le_of_ble_eq_true rfl) (Nat.le_of_ble_eq_true rfl) (Nat.le_of_ble_eq_true rfl) rfl (Nat.le_of_ble_eq_true rfl) dX9_feed_35 rfl (fun r10 hr10 pr10 => ?_)
    obtain ⟨rfl, rfl⟩ := pr10
    refine g_aload_n dX9_feed_38 rfl rfl rfl ?_
    refine g_get gClX9 0 (by decide) fl_X9_14 dX9_feed_39 (ho_0 _ _) rfl rfl ?_
    refine g_iload dX9_feed_42 rfl rfl ?_
    have o12 := hQ.1
    replace hQ := hQ.2
    refine g_callv mv_X0_addFour ml_X9_100 (c_X0_addFour l g isB_tape _ o12) (ho_1 _ _) rfl rfl (Nat.le_of_ble_eq_true rfl) (Nat.le_of_ble_eq_true rfl) (Nat.le_of_ble_eq_true rfl) (Nat.le_of_ble_eq_true rfl) rfl (Nat.le_of_ble_eq_true rfl) dX9_feed_44 rfl (fun r13 hr13 pr13 => ?_)
    obtain ⟨rfl, rfl⟩ := pr13
    refine g_aload_n dX9_feed_47 rfl rfl rfl ?_
    refine g_get gClX9 0 (by decide) fl_X9_14 dX9_feed_48 (ho_0 _ _) rfl rfl ?_
    refine g_iload dX9_feed_51 rfl rfl ?_
    have o15 := hQ.1
    replace hQ := hQ.2
    refine g_callv mv_X0_addFour ml_X9_100 (c_X0_addFour l g isB_tape _ o15) (ho_1 _ _) rfl rfl (Nat.le_of_ble_eq_true rfl) (Nat.le_of_ble_eq_true rfl) (Nat.le_of_ble_eq_true rfl) (Nat.le_of_ble_eq_true rfl) rfl (Nat.le_of_ble_eq_true rfl) dX9_feed_53 rfl (fun r16 hr16 pr16 => ?_)
    obtain ⟨rfl, rfl⟩ := pr16
    refine g_aload_n dX9_feed_56 rfl rfl rfl ?_
    refine g_get gClX9 0 (by decide) fl_X9_14 dX9_feed_57 (ho_0 _ _) rfl rfl ?_
    refine g_get gClX0 1 (by decide) fl_X9_103 dX9_feed_60 (ho_1 _ _) rfl rfl ?_
    subst hF
    exact g_iret rfl dX9_feed_63 (Nat.le_of_ble_eq_true rfl) (Nat.le_of_ble_eq_true rfl) ⟨rfl, rfl⟩
  · replace hF := ite_p hF c2
    try replace hQ := ite_q hQ c2
    refine g_iconst (v := (-1)) dX9_feed_12 (by decide) rfl ?_
    subst hF
    exact g_iret rfl dX9_feed_13 (Nat.le_of_ble_eq_true rfl) (Nat.le_of_ble_eq_true rfl) ⟨rfl, rfl⟩
noncomputable def Fr_X9_finger (σ : gS) (p0 : Int32) : Int32 × gS :=
  if p0 < (-1 : Int32) then
    ((0 : Int32), σ)
  else
    if p0 ≤ (65535 : Int32) then
      let s3 := (pf σ 0 6 p0 : gS)
      ((1 : Int32), s3)
    else
      ((0 : Int32), σ)
noncomputable def F_X9_finger : gS → Int32 → Int32 × gS := Classical.choose (⟨Fr_X9_finger, rfl⟩ : ∃ f : gS → Int32 → Int32 × gS, f = Fr_X9_finger)
theorem F_X9_finger_eq : F_X9_finger = Fr_X9_finger := Classical.choose_spec (⟨Fr_X9_finger, rfl⟩ : ∃ f : gS → Int32 → Int32 × gS, f = Fr_X9_finger)
set_option maxHeartbeats 4000000 in
set_option maxRecDepth 100000 in
theorem c_X9_finger (l : Launch) (g : gE)  {σ : gS} {ζ : gQ} (p0 : Int32) : gC l g mX9_finger (rm 0 0) [.ref 0, .int p0] (hp σ ζ) (fun r h => r = some (.int (F_X9_finger σ p0).1) ∧ h = hp (F_X9_finger σ p0).2 ζ) := by
  refine gC_of (by decide) (Nat.le_of_ble_eq_true rfl) ?_
  generalize hF : (F_X9_finger σ p0) = fr
  rw [F_X9_finger_eq] at hF
  unfold Fr_X9_finger at hF
  refine g_iload_n dX9_finger_0 rfl rfl rfl ?_
  refine g_iconst (v := (-1)) dX9_finger_1 (by decide) rfl ?_
  refine g_icmplt (tgt := 11) dX9_finger_2 (by decide) rfl (fun c1 => ?_) (fun c1 => ?_)
  · replace hF := ite_p hF c1
    refine g_iconst (v := 0) dX9_finger_11 (by decide) rfl ?_
    subst hF
    exact g_zret rfl dX9_finger_12 (by decide) (Nat.le_of_ble_eq_true rfl) (Nat.le_of_ble_eq_true rfl) ⟨rfl, rfl⟩
  · replace hF := ite_n hF c1
    refine g_iload_n dX9_finger_5 rfl rfl rfl ?_
    refine g_ldc ki_X9_132 dX9_finger_6 rfl ?_
    refine g_icmple (tgt := 13) dX9_finger_8 (by decide) rfl (fun c2 => ?_) (fun c2 => ?_)
    · replace hF := ite_p hF c2
      refine g_aload_n dX9_finger_13 rfl rfl rfl ?_
      refine g_iload_n dX9_finger_14 rfl rfl rfl ?_
      refine g_put gClX9 6 (by decide) fl_X9_34 rfl dX9_finger_15 (ho_0 _ _) rfl rfl (Nat.le_of_ble_eq_true rfl) po_0_6 rfl ?_
      refine g_iconst (v := 1) dX9_finger_18 (by decide) rfl ?_
      subst hF
      exact g_zret rfl dX9_finger_19 (by decide) (Nat.le_of_ble_eq_true rfl) (Nat.le_of_ble_eq_true rfl) ⟨rfl, rfl⟩
    · replace hF := ite_n hF c2
      refine g_iconst (v := 0) dX9_finger_11 (by decide) rfl ?_
      subst hF
      exact g_zret rfl dX9_finger_12 (by decide) (Nat.le_of_ble_eq_true rfl) (Nat.le_of_ble_eq_true rfl) ⟨rfl, rfl⟩
noncomputable def Fr_X9_key (σ : gS) (p0 : Int32) : Int32 × gS :=
  if p0 < 0 then
    ((0 : Int32), σ)
  else
    if p0 ≤ (4 : Int32) then
      let s3 := (pf σ 0 9 p0 : gS)
      ((1 : Int32), s3)
    else
      ((0 : Int32), σ)
noncomputable def F_X9_key : gS → Int32 → Int32 × gS := Classical.choose (⟨Fr_X9_key, rfl⟩ : ∃ f : gS → Int32 → Int32 × gS, f = Fr_X9_key)
theorem F_X9_key_eq : F_X9_key = Fr_X9_key := Classical.choose_spec (⟨Fr_X9_key, rfl⟩ : ∃ f : gS → Int32 → Int32 × gS, f = Fr_X9_key)
set_option maxHeartbeats 4000000 in
set_option maxRecDepth 100000 in
theorem c_X9_key (l : Launch) (g : gE)  {σ : gS} {ζ : gQ} (p0 : Int32) : gC l g mX9_key (rm 0 0) [.ref 0, .int p0] (hp σ ζ) (fun r h => r = some (.int (F_X9_key σ p0).1) ∧ h = hp (F_X9_key σ p0).2 ζ) := by
  refine gC_of (by decide) (Nat.le_of_ble_eq_true rfl) ?_
  generalize hF : (F_X9_key σ p0) = fr
  rw [F_X9_key_eq] at hF
  unfold Fr_X9_key at hF
  refine g_iload_n dX9_key_0 rfl rfl rfl ?_
  refine g_iflt (tgt := 9) dX9_key_1 (by decide) rfl (fun c1 => ?_) (fun c1 => ?_)
  · replace hF := ite_p hF c1
    refine g_iconst (v := 0) dX9_key_9 (by decide) rfl ?_
    subst hF
    exact g_zret rfl dX9_key_10 (by decide) (Nat.le_of_ble_eq_true rfl) (Nat.le_of_ble_eq_true rfl) ⟨rfl, rfl⟩
  · replace hF := ite_n hF c1
    refine g_iload_n dX9_key_4 rfl rfl rfl ?_
    refine g_iconst (v := 4) dX9_key_5 (by decide) rfl ?_
    refine g_icmple (tgt := 11) dX9_key_6 (by decide) rfl (fun c2 => ?_) (fun c2 => ?_)
    · replace hF := ite_p hF c2
      refine g_aload_n dX9_key_11 rfl rfl rfl ?_
      refine g_iload_n dX9_key_12 rfl rfl rfl ?_
      refine g_put gClX9 9 (by decide) fl_X9_142 rfl dX9_key_13 (ho_0 _ _) rfl rfl (Nat.le_of_ble_eq_true rfl) po_0_9 rfl ?_
      refine g_iconst (v := 1) dX9_key_16 (by decide) rfl ?_
      subst hF
      exact g_zret rfl dX9_key_17 (by decide) (Nat.le_of_ble_eq_true rfl) (Nat.le_of_ble_eq_true rfl) ⟨rfl, rfl⟩
    · replace hF := ite_n hF c2
      refine g_iconst (v := 0) dX9_key_9 (by decide) rfl ?_
      subst hF
      exact g_zret rfl dX9_key_10 (by decide) (Nat.le_of_ble_eq_true rfl) (Nat.le_of_ble_eq_true rfl) ⟨rfl, rfl⟩
noncomputable def Fr_X9_noDisk (σ : gS)  : Int32 × gS :=
  let s1 := (pf σ 0 2 (0 : Int32) : gS)
  let s2 := (pf s1 3 1 (0 : Int32) : gS)
  ((σ 0 2), s2)
noncomputable def F_X9_noDisk : gS → Int32 × gS := Classical.choose (⟨Fr_X9_noDisk, rfl⟩ : ∃ f : gS → Int32 × gS, f = Fr_X9_noDisk)
theorem F_X9_noDisk_eq : F_X9_noDisk = Fr_X9_noDisk := Classical.choose_spec (⟨Fr_X9_noDisk, rfl⟩ : ∃ f : gS → Int32 × gS, f = Fr_X9_noDisk)
def Q_X9_noDisk (σ : gS)  : Prop :=
  let s1 := (pf σ 0 2 (0 : Int32) : gS)
  let s2 := (pf s1 3 1 (0 : Int32) : gS)
  ((σ 0 2) = 0 ∨ (σ 0 2) = 1) ∧ (True)
set_option maxHeartbeats 4000000 in
set_option maxRecDepth 100000 in
theorem c_X9_noDisk (l : Launch) (g : gE)  {σ : gS} {ζ : gQ}  (hQ : Q_X9_noDisk σ ) : gC l g mX9_noDisk (rm 0 0) [.ref 0] (hp σ ζ) (fun r h => r = some (.int (F_X9_noDisk σ ).1) ∧ h = hp (F_X9_noDisk σ ).2 ζ) := by
  refine gC_of (by decide) (Nat.le_of_ble_eq_true rfl) ?_
  generalize hF : (F_X9_noDisk σ ) = fr
  rw [F_X9_noDisk_eq] at hF
  unfold Fr_X9_noDisk at hF
  unfold Q_X9_noDisk at hQ
  refine g_aload_n dX9_noDisk_0 rfl rfl rfl ?_
  refine g_get gClX9 2 (by decide) fl_X9_139 dX9_noDisk_1 (ho_0 _ _) rfl rfl ?_
  refine g_istoreL_n (L1 := [(0, _), (1, _)]) dX9_noDisk_4 rfl (by decide) rfl rfl ?_
  refine g_aload_n dX9_noDisk_5 rfl rfl rfl ?_
  refine g_iconst (v := 0) dX9_noDisk_6 (by decide) rfl ?_
  refine g_put gClX9 2 (by decide) fl_X9_139 rfl dX9_noDisk_7 (ho_0 _ _) rfl rfl (Nat.le_of_ble_eq_true rfl) po_0_2 rfl ?_
  refine g_aload_n dX9_noDisk_10 rfl rfl rfl ?_
  refine g_get gClX9 1 (by decide) fl_X9_18 dX9_noDisk_11 (ho_0 _ _) rfl rfl ?_
  refine g_iconst (v := 0) dX9_noDisk_14 (by decide) rfl ?_
  refine g_put gClX0 1 (by decide) fl_X9_103 rfl dX9_noDisk_15 (ho_3 _ _) rfl rfl (Nat.le_of_ble_eq_true rfl) po_3_1 rfl ?_
  refine g_iload_n dX9_noDisk_18 rfl rfl rfl ?_
  have o3 := hQ.1
  replace hQ := hQ.2
  subst hF
  exact g_zret rfl dX9_noDisk_19 (gz_n o3) (Nat.le_of_ble_eq_true rfl) (Nat.le_of_ble_eq_true rfl) ⟨rfl, rfl⟩
