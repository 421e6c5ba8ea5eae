set_option maxRecDepth 20000 in
set_option maxHeartbeats 1000000 in
theorem c_whereN {l : Launch} {G : hb_G} {F : hb_F} {na : Nat} {t p w : Int} (it : hb_in t) (ip : hb_in p) (hP : ¬ ((0 ≤ t ∧ t < 40 ∧ G 7 t ≠ -1) ∧ (0 ≤ p ∧ p ≤ 3000099))) (hG : hb_rg G) : hb_M l yX8_where cX8_where 4 (some .int) 5 0 0 [hb_r 0, hb_i t, hb_i p, hb_i w] (hb_w G F na) (77 + na) (.inl (some (hb_i (-1)))) (hb_w G F na) (77 + na) := by
  refine hb_M_in rfl rfl (by decide) rfl (Nat.le_of_ble_eq_true rfl) ?_
  intro E z0 σ0
  refine aw_ald0 dX8_where_0 ?_
  refine aw_getf dX8_where_1 hbf_X8_21 rfl rfl ?_
  refine aw_ild1 dX8_where_4 ?_
  refine aw_V1v dX8_where_5 (c_thingsHas (by first | assumption | omega | (constructor <;> omega) | exact hG _ _) hG) rfl rfl hbY_X6_has hbm_X8_75 hbi_X6_has hbe_X6_X6_has (Nat.le_of_ble_eq_true rfl) ⟨by decide, by decide⟩ (by decide) (by decide) ?_
  refine aw_ifb_eq (tg := 18) dX8_where_8 (by decide) (fun c8 => ?_) (fun c8 => ?_)
  · skip
    refine aw_iconst dX8_where_18 ?_
    exact aw_iret dX8_where_19 rfl (by rfl) rfl rfl (by decide) (by decide)
  · skip
    refine aw_ild2 dX8_where_11 ?_
    refine aw_S1v dX8_where_12 (c_isPoint (by first | assumption | omega | (constructor <;> omega) | exact hG _ _)) hbY_X8_isPoint hbm_X8_112 hbs_X8_isPoint (Nat.le_of_ble_eq_true rfl) ⟨by decide, by decide⟩ (by decide) (by decide) ?_
    refine aw_ifb_ne (tg := 20) dX8_where_15 (by decide) (fun c15 => ?_) (fun c15 => ?_)
    · skip
      exact absurd (by omega) hP
    · skip
      refine aw_iconst dX8_where_18 ?_
      exact aw_iret dX8_where_19 rfl (by rfl) rfl rfl (by decide) (by decide)
set_option maxRecDepth 20000 in
set_option maxHeartbeats 1000000 in
theorem c_where0 {l : Launch} {G : hb_G} {F : hb_F} {na : Nat} {t p : Int} (it : hb_in t) (ip : hb_in p) (hP : (0 ≤ t ∧ t < 40 ∧ G 7 t ≠ -1) ∧ (0 ≤ p ∧ p ≤ 3000099)) {G2 : hb_G} (hS : hb_M l yX4_show cX4_show 2 none 4 0 0 [hb_r 32, hb_i (p)] (hb_w G F na) (77 + na) (.inl none) (hb_w G2 F na) (77 + na)) (hG2 : hb_rg G2)  (hG : hb_rg G) : hb_M l yX8_where cX8_where 4 (some .int) 5 0 0 [hb_r 0, hb_i t, hb_i p, hb_i 0] (hb_w G F na) (77 + na) (.inl (some (hb_i (G2 34 t)))) (hb_w G2 F na) (77 + na) := by
  refine hb_M_in rfl rfl (by decide) rfl (Nat.le_of_ble_eq_true rfl) ?_
  intro E z0 σ0
  refine aw_ald0 dX8_where_0 ?_
  refine aw_getf dX8_where_1 hbf_X8_21 rfl rfl ?_
  refine aw_ild1 dX8_where_4 ?_
  refine aw_V1v dX8_where_5 (c_thingsHas (by first | assumption | omega | (constructor <;> omega) | exact hG _ _) hG) rfl rfl hbY_X6_has hbm_X8_75 hbi_X6_has hbe_X6_X6_has (Nat.le_of_ble_eq_true rfl) ⟨by decide, by decide⟩ (by decide) (by decide) ?_
  refine aw_ifb_eq (tg := 18) dX8_where_8 (by decide) (fun c8 => ?_) (fun c8 => ?_)
  · skip
    exact absurd hP (by omega)
  · skip
    refine aw_ild2 dX8_where_11 ?_
    refine aw_S1v dX8_where_12 (c_isPoint (by first | assumption | omega | (constructor <;> omega) | exact hG _ _)) hbY_X8_isPoint hbm_X8_112 hbs_X8_isPoint (Nat.le_of_ble_eq_true rfl) ⟨by decide, by decide⟩ (by decide) (by decide) ?_
    refine aw_ifb_ne (tg := 20) dX8_where_15 (by decide) (fun c15 => ?_) (fun c15 => ?_)
    · skip
      refine aw_ald0 dX8_where_20 ?_
      refine aw_getf dX8_where_21 hbf_X8_56 rfl rfl ?_
      refine aw_ild2 dX8_where_24 ?_
      refine aw_V1n dX8_where_25 hS rfl rfl hbY_X4_show hbm_X8_164 hbi_X4_show hbe_X4_X4_show (Nat.le_of_ble_eq_true rfl) ⟨by decide, by decide⟩ (by decide) (by decide) ?_
      have hG := hG2
      refine aw_ild3 dX8_where_28 ?_
      refine aw_tableIn (off := 31) (tg := 60) dX8_where_29 (by decide) (by decide) (by decide) rfl (by decide) ?_
      refine aw_ald0 dX8_where_60 ?_
      refine aw_getf dX8_where_61 hbf_X8_56 rfl rfl ?_
      refine aw_getf dX8_where_64 hbf_X8_168 rfl rfl ?_
      refine aw_getf dX8_where_67 hbf_X8_172 rfl rfl ?_
      refine aw_ild1 dX8_where_70 ?_
      refine aw_iald dX8_where_71 rfl (by constructor <;> omega) (by decide) ?_
      exact aw_iret dX8_where_72 rfl (by rfl) rfl rfl (by decide) (by decide)
    · skip
      exact absurd hP (by omega)
set_option maxRecDepth 20000 in
set_option maxHeartbeats 1000000 in
theorem c_where1 {l : Launch} {G : hb_G} {F : hb_F} {na : Nat} {t p : Int} (it : hb_in t) (ip : hb_in p) (hP : (0 ≤ t ∧ t < 40 ∧ G 7 t ≠ -1) ∧ (0 ≤ p ∧ p ≤ 3000099)) {G2 : hb_G} (hS : hb_M l yX4_show cX4_show 2 none 4 0 0 [hb_r 32, hb_i (p)] (hb_w G F na) (77 + na) (.inl none) (hb_w G2 F na) (77 + na)) (hG2 : hb_rg G2)  (hG : hb_rg G) : hb_M l yX8_where cX8_where 4 (some .int) 5 0 0 [hb_r 0, hb_i t, hb_i p, hb_i 1] (hb_w G F na) (77 + na) (.inl (some (hb_i (G2 35 t)))) (hb_w G2 F na) (77 + na) := by
  refine hb_M_in rfl rfl (by decide) rfl (Nat.le_of_ble_eq_true rfl) ?_
  intro E z0 σ0
  refine aw_ald0 dX8_where_0 ?_
  refine aw_getf dX8_where_1 hbf_X8_21 rfl rfl ?_
  refine aw_ild1 dX8_where_4 ?_
  refine aw_V1v dX8_where_5 (c_thingsHas (by first | assumption | omega | (constructor <;> omega) | exact hG _ _) hG) rfl rfl hbY_X6_has hbm_X8_75 hbi_X6_has hbe_X6_X6_has (Nat.le_of_ble_eq_true rfl) ⟨by decide, by decide⟩ (by decide) (by decide) ?_
  refine aw_ifb_eq (tg := 18) dX8_where_8 (by decide) (fun c8 => ?_) (fun c8 => ?_)
  · skip
    exact absurd hP (by omega)
  · skip
    refine aw_ild2 dX8_where_11 ?_
    refine aw_S1v dX8_where_12 (c_isPoint (by first | assumption | omega | (constructor <;> omega) | exact hG _ _)) hbY_X8_isPoint hbm_X8_112 hbs_X8_isPoint (Nat.le_of_ble_eq_true rfl) ⟨by decide, by decide⟩ (by decide) (by decide) ?_
    refine aw_ifb_ne (tg := 20) dX8_where_15 (by decide) (fun c15 => ?_) (fun c15 => ?_)
    · skip
      refine aw_ald0 dX8_where_20 ?_
      refine aw_getf dX8_where_21 hbf_X8_56 rfl rfl ?_
      refine aw_ild2 dX8_where_24 ?_
      refine aw_V1n dX8_where_25 hS rfl rfl hbY_X4_show hbm_X8_164 hbi_X4_show hbe_X4_X4_show (Nat.le_of_ble_eq_true rfl) ⟨by decide, by decide⟩ (by decide) (by decide) ?_
      have hG := hG2
      refine aw_ild3 dX8_where_28 ?_
      refine aw_tableIn (off := 44) (tg := 73) dX8_where_29 (by decide) (by decide) (by decide) rfl (by decide) ?_
      refine aw_ald0 dX8_where_73 ?_
      refine aw_getf dX8_where_74 hbf_X8_56 rfl rfl ?_
      refine aw_getf dX8_where_77 hbf_X8_168 rfl rfl ?_
      refine aw_getf dX8_where_80 hbf_X8_175 rfl rfl ?_
      refine aw_ild1 dX8_where_83 ?_
      refine aw_iald dX8_where_84 rfl (by constructor <;> omega) (by decide) ?_
      exact aw_iret dX8_where_85 rfl (by rfl) rfl rfl (by decide) (by decide)
    · skip
      exact absurd hP (by omega)
set_option maxRecDepth 20000 in
set_option maxHeartbeats 1000000 in
theorem c_where2 {l : Launch} {G : hb_G} {F : hb_F} {na : Nat} {t p : Int} (it : hb_in t) (ip : hb_in p) (hP : (0 ≤ t ∧ t < 40 ∧ G 7 t ≠ -1) ∧ (0 ≤ p ∧ p ≤ 3000099)) {G2 : hb_G} (hS : hb_M l yX4_show cX4_show 2 none 4 0 0 [hb_r 32, hb_i (p)] (hb_w G F na) (77 + na) (.inl none) (hb_w G2 F na) (77 + na)) (hG2 : hb_rg G2) {r : Int} (hM : hb_M l yX8_machineOf cX8_machineOf 3 (some .int) 3 0 0 [hb_r 0, hb_i t] (hb_w G2 F na) (77 + na) (.inl (some (hb_i (r)))) (hb_w G2 F na) (77 + na)) (hG : hb_rg G) : hb_M l yX8_where cX8_where 4 (some .int) 5 0 0 [hb_r 0, hb_i t, hb_i p, hb_i 2] (hb_w G F na) (77 + na) (.inl (some (hb_i (r)))) (hb_w G2 F na) (77 + na) := by
  refine hb_M_in rfl rfl (by decide) rfl (Nat.le_of_ble_eq_true rfl) ?_
  intro E z0 σ0
  refine aw_ald0 dX8_where_0 ?_
  refine aw_getf dX8_where_1 hbf_X8_21 rfl rfl ?_
  refine aw_ild1 dX8_where_4 ?_
  refine aw_V1v dX8_where_5 (c_thingsHas (by first | assumption | omega | (constructor <;> omega) | exact hG _ _) hG) rfl rfl hbY_X6_has hbm_X8_75 hbi_X6_has hbe_X6_X6_has (Nat.le_of_ble_eq_true rfl) ⟨by decide, by decide⟩ (by decide) (by decide) ?_
  refine aw_ifb_eq (tg := 18) dX8_where_8 (by decide) (fun c8 => ?_) (fun c8 => ?_)
  · skip
    exact absurd hP (by omega)
  · skip
    refine aw_ild2 dX8_where_11 ?_
    refine aw_S1v dX8_where_12 (c_isPoint (by first | assumption | omega | (constructor <;> omega) | exact hG _ _)) hbY_X8_isPoint hbm_X8_112 hbs_X8_isPoint (Nat.le_of_ble_eq_true rfl) ⟨by decide, by decide⟩ (by decide) (by decide) ?_
    refine aw_ifb_ne (tg := 20) dX8_where_15 (by decide) (fun c15 => ?_) (fun c15 => ?_)
    · skip
      refine aw_ald0 dX8_where_20 ?_
      refine aw_getf dX8_where_21 hbf_X8_56 rfl rfl ?_
      refine aw_ild2 dX8_where_24 ?_
      refine aw_V1n dX8_where_25 hS rfl rfl hbY_X4_show hbm_X8_164 hbi_X4_show hbe_X4_X4_show (Nat.le_of_ble_eq_true rfl) ⟨by decide, by decide⟩ (by decide) (by decide) ?_
      have hG := hG2
      refine aw_ild3 dX8_where_28 ?_
      refine aw_tableIn (off := 57) (tg := 86) dX8_where_29 (by decide) (by decide) (by decide) rfl (by decide) ?_
      refine aw_ald0 dX8_where_86 ?_
      refine aw_ild1 dX8_where_87 ?_
      refine aw_V1v dX8_where_88 hM rfl rfl hbY_X8_machineOf hbm_X8_177 hbi_X8_machineOf hbe_X8_X8_machineOf (Nat.le_of_ble_eq_true rfl) ⟨by decide, by decide⟩ (by decide) (by decide) ?_
      exact aw_iret dX8_where_91 rfl (by rfl) rfl rfl (by decide) (by decide)
    · skip
      exact absurd hP (by omega)
set_option maxRecDepth 20000 in
set_option maxHeartbeats 1000000 in
theorem c_where3 {l : Launch} {G : hb_G} {F : hb_F} {na : Nat} {t p : Int} (it : hb_in t) (ip : hb_in p) (hP : (0 ≤ t ∧ t < 40 ∧ G 7 t ≠ -1) ∧ (0 ≤ p ∧ p ≤ 3000099)) {G2 : hb_G} (hS : hb_M l yX4_show cX4_show 2 none 4 0 0 [hb_r 32, hb_i (p)] (hb_w G F na) (77 + na) (.inl none) (hb_w G2 F na) (77 + na)) (hG2 : hb_rg G2) (hp : hb_tr (G2 34)) (hG : hb_rg G) : hb_M l yX8_where cX8_where 4 (some .int) 5 0 0 [hb_r 0, hb_i t, hb_i p, hb_i 3] (hb_w G F na) (77 + na) (.inl (some (hb_i (hb_la (G2 34) (hb_tp (G2 34) 4 t) 5 0 t)))) (hb_w G2 F na) (77 + na) := by
  refine hb_M_in rfl rfl (by decide) rfl (Nat.le_of_ble_eq_true rfl) ?_
  intro E z0 σ0
  refine aw_ald0 dX8_where_0 ?_
  refine aw_getf dX8_where_1 hbf_X8_21 rfl rfl ?_
  refine aw_ild1 dX8_where_4 ?_
  refine aw_V1v dX8_where_5 (c_thingsHas (by first | assumption | omega | (constructor <;> omega) | exact hG _ _) hG) rfl rfl hbY_X6_has hbm_X8_75 hbi_X6_has hbe_X6_X6_has (Nat.le_of_ble_eq_true rfl) ⟨by decide, by decide⟩ (by decide) (by decide) ?_
  refine aw_ifb_eq (tg := 18) dX8_where_8 (by decide) (fun c8 => ?_) (fun c8 => ?_)
  · skip
    exact absurd hP (by omega)
  · skip
    refine aw_ild2 dX8_where_11 ?_
    refine aw_S1v dX8_where_12 (c_isPoint (by first | assumption | omega | (constructor <;> omega) | exact hG _ _)) hbY_X8_isPoint hbm_X8_112 hbs_X8_isPoint (Nat.le_of_ble_eq_true rfl) ⟨by decide, by decide⟩ (by decide) (by decide) ?_
    refine aw_ifb_ne (tg := 20) dX8_where_15 (by decide) (fun c15 => ?_) (fun c15 => ?_)
    · skip
      refine aw_ald0 dX8_where_20 ?_
      refine aw_getf dX8_where_21 hbf_X8_56 rfl rfl ?_
      refine aw_ild2 dX8_where_24 ?_
      refine aw_V1n dX8_where_25 hS rfl rfl hbY_X4_show hbm_X8_164 hbi_X4_show hbe_X4_X4_show (Nat.le_of_ble_eq_true rfl) ⟨by decide, by decide⟩ (by decide) (by decide) ?_
      have hG := hG2
      refine aw_ild3 dX8_where_28 ?_
      refine aw_tableIn (off := 63) (tg := 92) dX8_where_29 (by decide) (by decide) (by decide) rfl (by decide) ?_
      refine aw_ald0 dX8_where_92 ?_
      refine aw_getf dX8_where_93 hbf_X8_56 rfl rfl ?_
      refine aw_getf dX8_where_96 hbf_X8_168 rfl rfl ?_
      refine aw_ild1 dX8_where_99 ?_
      refine aw_V1v dX8_where_100 (c_depthOf33 (by first | assumption | omega | (constructor <;> omega) | exact hG _ _) hp hG) rfl rfl hbY_X7_depthOf hbm_X8_181 hbi_X7_depthOf hbe_X7_X7_depthOf (Nat.le_of_ble_eq_true rfl) ⟨by decide, by decide⟩ (by decide) (by decide) ?_
      exact aw_iret dX8_where_103 rfl (by rfl) rfl rfl (by decide) (by decide)
    · skip
      exact absurd hP (by omega)
set_option maxRecDepth 20000 in
set_option maxHeartbeats 1000000 in
theorem c_whereX {l : Launch} {G : hb_G} {F : hb_F} {na : Nat} {t p w : Int} (it : hb_in t) (ip : hb_in p) (iw : hb_in w) (hP : (0 ≤ t ∧ t < 40 ∧ G 7 t ≠ -1) ∧ (0 ≤ p ∧ p ≤ 3000099)) {G2 : hb_G} (hS : hb_M l yX4_show cX4_show 2 none 4 0 0 [hb_r 32, hb_i (p)] (hb_w G F na) (77 + na) (.inl none) (hb_w G2 F na) (77 + na)) (hG2 : hb_rg G2) (hw : w < 0 ∨ 3 < w) (hG : hb_rg G) : hb_M l yX8_where cX8_where 4 (some .int) 5 0 0 [hb_r 0, hb_i t, hb_i p, hb_i w] (hb_w G F na) (77 + na) (.inl (some (hb_i (-1)))) (hb_w G2 F na) (77 + na) := by
  refine hb_M_in rfl rfl (by decide) rfl (Nat.le_of_ble_eq_true rfl) ?_
  intro E z0 σ0
  refine aw_ald0 dX8_where_0 ?_
  refine aw_getf dX8_where_1 hbf_X8_21 rfl rfl ?_
  refine aw_ild1 dX8_where_4 ?_
  refine aw_V1v dX8_where_5 (c_thingsHas (by first | assumption | omega | (constructor <;> omega) | exact hG _ _) hG) rfl rfl hbY_X6_has hbm_X8_75 hbi_X6_has hbe_X6_X6_has (Nat.le_of_ble_eq_true rfl) ⟨by decide, by decide⟩ (by decide) (by decide) ?_
  refine aw_ifb_eq (tg := 18) dX8_where_8 (by decide) (fun c8 => ?_) (fun c8 => ?_)
  · skip
    exact absurd hP (by omega)
  · skip
    refine aw_ild2 dX8_where_11 ?_
    refine aw_S1v dX8_where_12 (c_isPoint (by first | assumption | omega | (constructor <;> omega) | exact hG _ _)) hbY_X8_isPoint hbm_X8_112 hbs_X8_isPoint (Nat.le_of_ble_eq_true rfl) ⟨by decide, by decide⟩ (by decide) (by decide) ?_
    refine aw_ifb_ne (tg := 20) dX8_where_15 (by decide) (fun c15 => ?_) (fun c15 => ?_)
    · skip
      refine aw_ald0 dX8_where_20 ?_
      refine aw_getf dX8_where_21 hbf_X8_56 rfl rfl ?_
      refine aw_ild2 dX8_where_24 ?_
      refine aw_V1n dX8_where_25 hS rfl rfl hbY_X4_show hbm_X8_164 hbi_X4_show hbe_X4_X4_show (Nat.le_of_ble_eq_true rfl) ⟨by decide, by decide⟩ (by decide) (by decide) ?_
      have hG := hG2
      refine aw_ild3 dX8_where_28 ?_
      refine aw_tableOut (tg := 104) dX8_where_29 iw hw (by decide) ?_
      refine aw_iconst dX8_where_104 ?_
      exact aw_iret dX8_where_105 rfl (by rfl) rfl rfl (by decide) (by decide)
    · skip
      exact absurd hP (by omega)
set_option maxRecDepth 20000 in
set_option maxHeartbeats 1000000 in
theorem c_atN {l : Launch} {G : hb_G} {F : hb_F} {na : Nat} {t q p : Int} (it : hb_in t) (iq : hb_in q) (ip : hb_in p) (hP : ¬ ((0 ≤ t ∧ t < 40 ∧ G 7 t ≠ -1) ∧ (0 ≤ q ∧ q < 4) ∧ (0 ≤ p ∧ p ≤ 3000099))) (hG : hb_rg G) : hb_M l yX8_at cX8_at 4 (some .int) 5 0 0 [hb_r 0, hb_i t, hb_i q, hb_i p] (hb_w G F na) (77 + na) (.inl (some (hb_i (-1)))) (hb_w G F na) (77 + na) := by
  refine hb_M_in rfl rfl (by decide) rfl (Nat.le_of_ble_eq_true rfl) ?_
  intro E z0 σ0
  refine aw_ald0 dX8_at_0 ?_
  refine aw_getf dX8_at_1 hbf_X8_21 rfl rfl ?_
  refine aw_ild1 dX8_at_4 ?_
  refine aw_V1v dX8_at_5 (c_thingsHas (by first | assumption | omega | (constructor <;> omega) | exact hG _ _) hG) rfl rfl hbY_X6_has hbm_X8_75 hbi_X6_has hbe_X6_X6_has (Nat.le_of_ble_eq_true rfl) ⟨by decide, by decide⟩ (by decide) (by decide) ?_
  refine aw_ifb_eq (tg := 26) dX8_at_8 (by decide) (fun c8 => ?_) (fun c8 => ?_)
  · skip
    refine aw_iconst dX8_at_26 ?_
    exact aw_iret dX8_at_27 rfl (by rfl) rfl rfl (by decide) (by decide)
  · skip
    refine aw_ild2 dX8_at_11 ?_
    refine aw_iconst dX8_at_12 ?_
    refine aw_S2v dX8_at_13 (c_isBelow (by first | assumption | omega | (constructor <;> omega) | exact hG _ _) (by first | assumption | omega | (constructor <;> omega) | exact hG _ _)) hbY_X8_isBelow hbm_X8_64 hbs_X8_isBelow (Nat.le_of_ble_eq_true rfl) ⟨by decide, by decide⟩ (by decide) (by decide) ?_
    refine aw_ifb_eq (tg := 26) dX8_at_16 (by decide) (fun c16 => ?_) (fun c16 => ?_)
    · skip
      refine aw_iconst dX8_at_26 ?_
      exact aw_iret dX8_at_27 rfl (by rfl) rfl rfl (by decide) (by decide)
    · skip
      refine aw_ild3 dX8_at_19 ?_
      refine aw_S1v dX8_at_20 (c_isPoint (by first | assumption | omega | (constructor <;> omega) | exact hG _ _)) hbY_X8_isPoint hbm_X8_112 hbs_X8_isPoint (Nat.le_of_ble_eq_true rfl) ⟨by decide, by decide⟩ (by decide) (by decide) ?_
      refine aw_ifb_ne (tg := 28) dX8_at_23 (by decide) (fun c23 => ?_) (fun c23 => ?_)
      · skip
        exact absurd (by omega) hP
      · skip
        refine aw_iconst dX8_at_26 ?_
        exact aw_iret dX8_at_27 rfl (by rfl) rfl rfl (by decide) (by decide)
set_option maxRecDepth 20000 in
set_option maxHeartbeats 1000000 in
theorem c_atY {l : Launch} {G : hb_G} {F : hb_F} {na : Nat} {t q p : Int} (it : hb_in t) (iq : hb_in q) (ip : hb_in p) (hP : (0 ≤ t ∧ t < 40 ∧ G 7 t ≠ -1) ∧ (0 ≤ q ∧ q < 4) ∧ (0 ≤ p ∧ p ≤ 3000099)) {G2 : hb_G} (hS : hb_M l yX4_show cX4_show 2 none 4 0 0 [hb_r 32, hb_i (p)] (hb_w G F na) (77 + na) (.inl none) (hb_w G2 F na) (77 + na)) (hG2 : hb_rg G2)  (hG : hb_rg G) : hb_M l yX8_at cX8_at 4 (some .int) 5 0 0 [hb_r 0, hb_i t, hb_i q, hb_i p] (hb_w G F na) (77 + na) (.inl (some (hb_i (G2 36 (t * 4 + q))))) (hb_w G2 F na) (77 + na) := by
  refine hb_M_in rfl rfl (by decide) rfl (Nat.le_of_ble_eq_true rfl) ?_
  intro E z0 σ0
  refine aw_ald0 dX8_at_0 ?_
  refine aw_getf dX8_at_1 hbf_X8_21 rfl rfl ?_
  refine aw_ild1 dX8_at_4 ?_
  refine aw_V1v dX8_at_5 (c_thingsHas (by first | assumption | omega | (constructor <;> omega) | exact hG _ _) hG) rfl rfl hbY_X6_has hbm_X8_75 hbi_X6_has hbe_X6_X6_has (Nat.le_of_ble_eq_true rfl) ⟨by decide, by decide⟩ (by decide) (by decide) ?_
  refine aw_ifb_eq (tg := 26) dX8_at_8 (by decide) (fun c8 => ?_) (fun c8 => ?_)
  · skip
    exact absurd hP (by omega)
  · skip
    refine aw_ild2 dX8_at_11 ?_
    refine aw_iconst dX8_at_12 ?_
    refine aw_S2v dX8_at_13 (c_isBelow (by first | assumption | omega | (constructor <;> omega) | exact hG _ _) (by first | assumption | omega | (constructor <;> omega) | exact hG _ _)) hbY_X8_isBelow hbm_X8_64 hbs_X8_isBelow (Nat.le_of_ble_eq_true rfl) ⟨by decide, by decide⟩ (by decide) (by decide) ?_
    refine aw_ifb_eq (tg := 26) dX8_at_16 (by decide) (fun c16 => ?_) (fun c16 => ?_)
    · skip
      exact absurd hP (by omega)
    · skip
      refine aw_ild3 dX8_at_19 ?_
      refine aw_S1v dX8_at_20 (c_isPoint (by first | assumption | omega | (constructor <;> omega) | exact hG _ _)) hbY_X8_isPoint hbm_X8_112 hbs_X8_isPoint (Nat.le_of_ble_eq_true rfl) ⟨by decide, by decide⟩ (by decide) (by decide) ?_
      refine aw_ifb_ne (tg := 28) dX8_at_23 (by decide) (fun c23 => ?_) (fun c23 => ?_)
      · skip
        refine aw_ald0 dX8_at_28 ?_
        refine aw_getf dX8_at_29 hbf_X8_56 rfl rfl ?_
        refine aw_ild3 dX8_at_32 ?_
        refine aw_V1n dX8_at_33 hS rfl rfl hbY_X4_show hbm_X8_164 hbi_X4_show hbe_X4_X4_show (Nat.le_of_ble_eq_true rfl) ⟨by decide, by decide⟩ (by decide) (by decide) ?_
        have hG := hG2
        refine aw_ald0 dX8_at_36 ?_
        refine aw_getf dX8_at_37 hbf_X8_56 rfl rfl ?_
        refine aw_getf dX8_at_40 hbf_X8_168 rfl rfl ?_
        refine aw_getf dX8_at_43 hbf_X8_184 rfl rfl ?_
        refine aw_ild1 dX8_at_46 ?_
        refine aw_iconst dX8_at_47 ?_
        refine aw_imul dX8_at_48 ?_
        refine aw_ild2 dX8_at_49 ?_
        refine aw_iadd dX8_at_50 ?_
        refine aw_iald dX8_at_51 rfl (by constructor <;> omega) (by decide) ?_
        exact aw_iret dX8_at_52 rfl (by rfl) rfl rfl (by decide) (by decide)
      · skip
        exact absurd hP (by omega)
set_option maxRecDepth 20000 in
set_option maxHeartbeats 1000000 in
theorem c_counterN {l : Launch} {G : hb_G} {F : hb_F} {na : Nat} {t u d : Int} (it : hb_in t) (iu : hb_in u) (id : hb_in d) (hP : ¬ ((0 ≤ t ∧ t < 40 ∧ G 7 t ≠ -1) ∧ (0 ≤ u ∧ u < 3) ∧ (0 ≤ d ∧ d ≤ 30000))) (hG : hb_rg G) : hb_M l yX8_counter cX8_counter 4 (some .int) 5 0 0 [hb_r 0, hb_i t, hb_i u, hb_i d] (hb_w G F na) (77 + na) (.inl (some (hb_i (0)))) (hb_w G F na) (77 + na) := by
  refine hb_M_in rfl rfl (by decide) rfl (Nat.le_of_ble_eq_true rfl) ?_
  intro E z0 σ0
  refine aw_ald0 dX8_counter_0 ?_
  refine aw_getf dX8_counter_1 hbf_X8_21 rfl rfl ?_
  refine aw_ild1 dX8_counter_4 ?_
  refine aw_V1v dX8_counter_5 (c_thingsHas (by first | assumption | omega | (constructor <;> omega) | exact hG _ _) hG) rfl rfl hbY_X6_has hbm_X8_75 hbi_X6_has hbe_X6_X6_has (Nat.le_of_ble_eq_true rfl) ⟨by decide, by decide⟩ (by decide) (by decide) ?_
  refine aw_ifb_eq (tg := 26) dX8_counter_8 (by decide) (fun c8 => ?_) (fun c8 => ?_)
  · skip
    refine aw_iconst dX8_counter_26 ?_
    exact aw_iret dX8_counter_27 rfl (by rfl) rfl rfl (by decide) (by decide)
  · skip
    refine aw_ild2 dX8_counter_11 ?_
    refine aw_iconst dX8_counter_12 ?_
    refine aw_S2v dX8_counter_13 (c_isBelow (by first | assumption | omega | (constructor <;> omega) | exact hG _ _) (by first | assumption | omega | (constructor <;> omega) | exact hG _ _)) hbY_X8_isBelow hbm_X8_64 hbs_X8_isBelow (Nat.le_of_ble_eq_true rfl) ⟨by decide, by decide⟩ (by decide) (by decide) ?_
    refine aw_ifb_eq (tg := 26) dX8_counter_16 (by decide) (fun c16 => ?_) (fun c16 => ?_)
    · skip
      refine aw_iconst dX8_counter_26 ?_
      exact aw_iret dX8_counter_27 rfl (by rfl) rfl rfl (by decide) (by decide)
    · skip
      refine aw_ild3 dX8_counter_19 ?_
      refine aw_S1v dX8_counter_20 (c_isDay (by first | assumption | omega | (constructor <;> omega) | exact hG _ _)) hbY_X8_isDay hbm_X8_79 hbs_X8_isDay (Nat.le_of_ble_eq_true rfl) ⟨by decide, by decide⟩ (by decide) (by decide) ?_
      refine aw_ifb_ne (tg := 28) dX8_counter_23 (by decide) (fun c23 => ?_) (fun c23 => ?_)
      · skip
        exact absurd (by omega) hP
      · skip
        refine aw_iconst dX8_counter_26 ?_
        exact aw_iret dX8_counter_27 rfl (by rfl) rfl rfl (by decide) (by decide)
set_option maxRecDepth 20000 in
set_option maxHeartbeats 1000000 in
theorem c_counterY {l : Launch} {G : hb_G} {F : hb_F} {na : Nat} {t u d : Int} (it : hb_in t) (iu : hb_in u) (id : hb_in d) (hP : (0 ≤ t ∧ t < 40 ∧ G 7 t ≠ -1) ∧ (0 ≤ u ∧ u < 3) ∧ (0 ≤ d ∧ d ≤ 30000)) {G2 : hb_G} (hS : hb_M l yX4_show cX4_show 2 none 4 0 0 [hb_r 32, hb_i (d * 100 + 100 - 1)] (hb_w G F na) (77 + na) (.inl none) (hb_w G2 F na) (77 + na)) (hG2 : hb_rg G2)  (hG : hb_rg G) : hb_M l yX8_counter cX8_counter 4 (some .int) 5 0 0 [hb_r 0, hb_i t, hb_i u, hb_i d] (hb_w G F na) (77 + na) (.inl (some (hb_i (hb_cn G2 t u d)))) (hb_w G2 F na) (77 + na) := by
  refine hb_M_in rfl rfl (by decide) rfl (Nat.le_of_ble_eq_true rfl) ?_
  intro E z0 σ0
  refine aw_ald0 dX8_counter_0 ?_
  refine aw_getf dX8_counter_1 hbf_X8_21 rfl rfl ?_
  refine aw_ild1 dX8_counter_4 ?_
  refine aw_V1v dX8_counter_5 (c_thingsHas (by first | assumption | omega | (constructor <;> omega) | exact hG _ _) hG) rfl rfl hbY_X6_has hbm_X8_75 hbi_X6_has hbe_X6_X6_has (Nat.le_of_ble_eq_true rfl) ⟨by decide, by decide⟩ (by decide) (by decide) ?_
  refine aw_ifb_eq (tg := 26) dX8_counter_8 (by decide) (fun c8 => ?_) (fun c8 => ?_)
  · skip
    exact absurd hP (by omega)
  · skip
    refine aw_ild2 dX8_counter_11 ?_
    refine aw_iconst dX8_counter_12 ?_
    refine aw_S2v dX8_counter_13 (c_isBelow (by first | assumption | omega | (constructor <;> omega) | exact hG _ _) (by first | assumption | omega | (constructor <;> omega) | exact hG _ _)) hbY_X8_isBelow hbm_X8_64 hbs_X8_isBelow (Nat.le_of_ble_eq_true rfl) ⟨by decide, by decide⟩ (by decide) (by decide) ?_
    refine aw_ifb_eq (tg := 26) dX8_counter_16 (by decide) (fun c16 => ?_) (fun c16 => ?_)
    · skip
      exact absurd hP (by omega)
    · skip
      refine aw_ild3 dX8_counter_19 ?_
      refine aw_S1v dX8_counter_20 (c_isDay (by first | assumption | omega | (constructor <;> omega) | exact hG _ _)) hbY_X8_isDay hbm_X8_79 hbs_X8_isDay (Nat.le_of_ble_eq_true rfl) ⟨by decide, by decide⟩ (by decide) (by decide) ?_
      refine aw_ifb_ne (tg := 28) dX8_counter_23 (by decide) (fun c23 => ?_) (fun c23 => ?_)
      · skip
        refine aw_ald0 dX8_counter_28 ?_
        refine aw_getf dX8_counter_29 hbf_X8_56 rfl rfl ?_
        refine aw_ild3 dX8_counter_32 ?_
        refine aw_S1v dX8_counter_33 (c_lastPointOf ) hbY_X8_lastPointOf hbm_X8_187 hbs_X8_lastPointOf (Nat.le_of_ble_eq_true rfl) ⟨by decide, by decide⟩ (by decide) (by decide) ?_
        refine aw_V1n dX8_counter_36 hS rfl rfl hbY_X4_show hbm_X8_164 hbi_X4_show hbe_X4_X4_show (Nat.le_of_ble_eq_true rfl) ⟨by decide, by decide⟩ (by decide) (by decide) ?_
        have hG := hG2
        refine aw_ald0 dX8_counter_39 ?_
        refine aw_getf dX8_counter_40 hbf_X8_56 rfl rfl ?_
        refine aw_ild1 dX8_counter_43 ?_
        refine aw_ild2 dX8_counter_44 ?_
        refine aw_ild3 dX8_counter_45 ?_
        refine aw_V3v dX8_counter_46 (c_counterOf (by omega) (by first | assumption | omega | (constructor <;> omega) | exact hG _ _)) rfl rfl hbY_X4_counterOf hbm_X8_190 hbi_X4_counterOf hbe_X4_X4_counterOf (Nat.le_of_ble_eq_true rfl) ⟨by decide, by decide⟩ (by decide) (by decide) ?_
        exact aw_iret dX8_counter_49 rfl (by rfl) rfl rfl (by decide) (by decide)
      · skip
        exact absurd hP (by omega)
set_option maxRecDepth 20000 in
set_option maxHeartbeats 1000000 in
theorem c_dueN {l : Launch} {G : hb_G} {F : hb_F} {na : Nat} {t k u d : Int} (it : hb_in t) (ik : hb_in k) (iu : hb_in u) (id : hb_in d) (hP : ¬ ((0 ≤ t ∧ t < 40 ∧ G 7 t ≠ -1) ∧ (0 ≤ k ∧ k < 16 ∧ G 13 k ≠ -1) ∧ (0 ≤ u ∧ u < 3) ∧ (0 ≤ d ∧ d ≤ 30000))) (hG : hb_rg G) : hb_M l yX8_due cX8_due 5 (some .int) 5 0 0 [hb_r 0, hb_i t, hb_i k, hb_i u, hb_i d] (hb_w G F na) (77 + na) (.inl (some (hb_i (-1)))) (hb_w G F na) (77 + na) := by
  refine hb_M_in rfl rfl (by decide) rfl (Nat.le_of_ble_eq_true rfl) ?_
  intro E z0 σ0
  refine aw_ald0 dX8_due_0 ?_
  refine aw_getf dX8_due_1 hbf_X8_21 rfl rfl ?_
  refine aw_ild1 dX8_due_4 ?_
  refine aw_V1v dX8_due_5 (c_thingsHas (by first | assumption | omega | (constructor <;> omega) | exact hG _ _) hG) rfl rfl hbY_X6_has hbm_X8_75 hbi_X6_has hbe_X6_X6_has (Nat.le_of_ble_eq_true rfl) ⟨by decide, by decide⟩ (by decide) (by decide) ?_
  refine aw_ifb_eq (tg := 52) dX8_due_8 (by decide) (fun c8 => ?_) (fun c8 => ?_)
  · skip
    refine aw_iconst dX8_due_52 ?_
    exact aw_iret dX8_due_53 rfl (by rfl) rfl rfl (by decide) (by decide)
  · skip
    refine aw_ald0 dX8_due_11 ?_
    refine aw_getf dX8_due_12 hbf_X8_28 rfl rfl ?_
    refine aw_ild2 dX8_due_15 ?_
    refine aw_V1v dX8_due_16 (c_tasksHas (by first | assumption | omega | (constructor <;> omega) | exact hG _ _) hG) rfl rfl hbY_X5_has hbm_X8_93 hbi_X5_has hbe_X5_X5_has (Nat.le_of_ble_eq_true rfl) ⟨by decide, by decide⟩ (by decide) (by decide) ?_
    refine aw_ifb_eq (tg := 52) dX8_due_19 (by decide) (fun c19 => ?_) (fun c19 => ?_)
    · skip
      refine aw_iconst dX8_due_52 ?_
      exact aw_iret dX8_due_53 rfl (by rfl) rfl rfl (by decide) (by decide)
    · skip
      refine aw_ild3 dX8_due_22 ?_
      refine aw_iconst dX8_due_23 ?_
      refine aw_S2v dX8_due_24 (c_isBelow (by first | assumption | omega | (constructor <;> omega) | exact hG _ _) (by first | assumption | omega | (constructor <;> omega) | exact hG _ _)) hbY_X8_isBelow hbm_X8_64 hbs_X8_isBelow (Nat.le_of_ble_eq_true rfl) ⟨by decide, by decide⟩ (by decide) (by decide) ?_
      refine aw_ifb_eq (tg := 52) dX8_due_27 (by decide) (fun c27 => ?_) (fun c27 => ?_)
      · skip
        refine aw_iconst dX8_due_52 ?_
        exact aw_iret dX8_due_53 rfl (by rfl) rfl rfl (by decide) (by decide)
      · skip
        refine aw_ild4 dX8_due_30 ?_
        refine aw_S1v dX8_due_32 (c_isDay (by first | assumption | omega | (constructor <;> omega) | exact hG _ _)) hbY_X8_isDay hbm_X8_79 hbs_X8_isDay (Nat.le_of_ble_eq_true rfl) ⟨by decide, by decide⟩ (by decide) (by decide) ?_
        refine aw_ifb_eq (tg := 52) dX8_due_35 (by decide) (fun c35 => ?_) (fun c35 => ?_)
        · skip
          refine aw_iconst dX8_due_52 ?_
          exact aw_iret dX8_due_53 rfl (by rfl) rfl rfl (by decide) (by decide)
        · skip
          exact absurd (by omega) hP
set_option maxRecDepth 20000 in
set_option maxHeartbeats 1000000 in
theorem c_dueZ0 {l : Launch} {G : hb_G} {F : hb_F} {na : Nat} {t k d : Int} (it : hb_in t) (ik : hb_in k) (id : hb_in d) (hP : (0 ≤ t ∧ t < 40 ∧ G 7 t ≠ -1) ∧ (0 ≤ k ∧ k < 16 ∧ G 13 k ≠ -1) ∧ (0 ≤ d ∧ d ≤ 30000)) (hz : G 15 k = 0) (hG : hb_rg G) : hb_M l yX8_due cX8_due 5 (some .int) 5 0 0 [hb_r 0, hb_i t, hb_i k, hb_i 0, hb_i d] (hb_w G F na) (77 + na) (.inl (some (hb_i (-1)))) (hb_w G F na) (77 + na) := by
  refine hb_M_in rfl rfl (by decide) rfl (Nat.le_of_ble_eq_true rfl) ?_
  intro E z0 σ0
  refine aw_ald0 dX8_due_0 ?_
  refine aw_getf dX8_due_1 hbf_X8_21 rfl rfl ?_
  refine aw_ild1 dX8_due_4 ?_
  refine aw_V1v dX8_due_5 (c_thingsHas (by first | assumption | omega | (constructor <;> omega) | exact hG _ _) hG) rfl rfl hbY_X6_has hbm_X8_75 hbi_X6_has hbe_X6_X6_has (Nat.le_of_ble_eq_true rfl) ⟨by decide, by decide⟩ (by decide) (by decide) ?_
  refine aw_ifb_eq (tg := 52) dX8_due_8 (by decide) (fun c8 => absurd c8 (by exact fun h8 => h8 (by omega))) (fun c8 => ?_)
  refine aw_ald0 dX8_due_11 ?_
  refine aw_getf dX8_due_12 hbf_X8_28 rfl rfl ?_
  refine aw_ild2 dX8_due_15 ?_
  refine aw_V1v dX8_due_16 (c_tasksHas (by first | assumption | omega | (constructor <;> omega) | exact hG _ _) hG) rfl rfl hbY_X5_has hbm_X8_93 hbi_X5_has hbe_X5_X5_has (Nat.le_of_ble_eq_true rfl) ⟨by decide, by decide⟩ (by decide) (by decide) ?_
  refine aw_ifb_eq (tg := 52) dX8_due_19 (by decide) (fun c19 => absurd c19 (by exact fun h8 => h8 (by omega))) (fun c19 => ?_)
  refine aw_ild3 dX8_due_22 ?_
  refine aw_iconst dX8_due_23 ?_
  refine aw_S2v dX8_due_24 (c_isBelow (by first | assumption | omega | (constructor <;> omega) | exact hG _ _) (by first | assumption | omega | (constructor <;> omega) | exact hG _ _)) hbY_X8_isBelow hbm_X8_64 hbs_X8_isBelow (Nat.le_of_ble_eq_true rfl) ⟨by decide, by decide⟩ (by decide) (by decide) ?_
  refine aw_ifb_eq (tg := 52) dX8_due_27 (by decide) (fun c27 => absurd c27 (by exact fun h8 => h8 (by omega))) (fun c27 => ?_)
  refine aw_ild4 dX8_due_30 ?_
  refine aw_S1v dX8_due_32 (c_isDay (by first | assumption | omega | (constructor <;> omega) | exact hG _ _)) hbY_X8_isDay hbm_X8_79 hbs_X8_isDay (Nat.le_of_ble_eq_true rfl) ⟨by decide, by decide⟩ (by decide) (by decide) ?_
  refine aw_ifb_eq (tg := 52) dX8_due_35 (by decide) (fun c35 => absurd c35 (by exact fun h8 => h8 (by omega))) (fun c35 => ?_)
  refine aw_ald0 dX8_due_38 ?_
  refine aw_getf dX8_due_39 hbf_X8_28 rfl rfl ?_
  refine aw_getf dX8_due_42 hbf_X8_194 rfl rfl ?_
  refine aw_ild3 dX8_due_45 ?_
  refine aw_gald (r := some 15) dX8_due_46 rfl (by decide) (by decide) rfl ?_
  refine aw_ild2 dX8_due_47 ?_
  refine aw_iald dX8_due_48 rfl (by constructor <;> omega) (by decide) ?_
  refine aw_if_ne (tg := 54) dX8_due_49 (by decide) (hG _ _) (fun c49 => absurd c49 (by omega)) (fun c49 => ?_)
  refine aw_iconst dX8_due_52 ?_
  exact aw_iret dX8_due_53 rfl (by rfl) rfl rfl (by decide) (by decide)
set_option maxRecDepth 20000 in
set_option maxHeartbeats 1000000 in
theorem c_dueY0 {l : Launch} {G : hb_G} {F : hb_F} {na : Nat} {t k d : Int} (it : hb_in t) (ik : hb_in k) (id : hb_in d) (hP : (0 ≤ t ∧ t < 40 ∧ G 7 t ≠ -1) ∧ (0 ≤ k ∧ k < 16 ∧ G 13 k ≠ -1) ∧ (0 ≤ d ∧ d ≤ 30000)) (hz : G 15 k ≠ 0) {G2 : hb_G} (hS : hb_M l yX4_show cX4_show 2 none 4 0 0 [hb_r 32, hb_i (d * 100 + 100 - 1)] (hb_w G F na) (77 + na) (.inl none) (hb_w G2 F na) (77 + na)) (hG2 : hb_rg G2)  (hG : hb_rg G) : hb_M l yX8_due cX8_due 5 (some .int) 5 0 0 [hb_r 0, hb_i t, hb_i k, hb_i 0, hb_i d] (hb_w G F na) (77 + na) (.inl (some (hb_i (G2 41 (t * 16 + k))))) (hb_w G2 F na) (77 + na) := by
  refine hb_M_in rfl rfl (by decide) rfl (Nat.le_of_ble_eq_true rfl) ?_
  intro E z0 σ0
  refine aw_ald0 dX8_due_0 ?_
  refine aw_getf dX8_due_1 hbf_X8_21 rfl rfl ?_
  refine aw_ild1 dX8_due_4 ?_
  refine aw_V1v dX8_due_5 (c_thingsHas (by first | assumption | omega | (constructor <;> omega) | exact hG _ _) hG) rfl rfl hbY_X6_has hbm_X8_75 hbi_X6_has hbe_X6_X6_has (Nat.le_of_ble_eq_true rfl) ⟨by decide, by decide⟩ (by decide) (by decide) ?_
  refine aw_ifb_eq (tg := 52) dX8_due_8 (by decide) (fun c8 => absurd c8 (by exact fun h8 => h8 (by omega))) (fun c8 => ?_)
  refine aw_ald0 dX8_due_11 ?_
  refine aw_getf dX8_due_12 hbf_X8_28 rfl rfl ?_
  refine aw_ild2 dX8_due_15 ?_
  refine aw_V1v dX8_due_16 (c_tasksHas (by first | assumption | omega | (constructor <;> omega) | exact hG _ _) hG) rfl rfl hbY_X5_has hbm_X8_93 hbi_X5_has hbe_X5_X5_has (Nat.le_of_ble_eq_true rfl) ⟨by decide, by decide⟩ (by decide) (by decide) ?_
  refine aw_ifb_eq (tg := 52) dX8_due_19 (by decide) (fun c19 => absurd c19 (by exact fun h8 => h8 (by omega))) (fun c19 => ?_)
  refine aw_ild3 dX8_due_22 ?_
  refine aw_iconst dX8_due_23 ?_
  refine aw_S2v dX8_due_24 (c_isBelow (by first | assumption | omega | (constructor <;> omega) | exact hG _ _) (by first | assumption | omega | (constructor <;> omega) | exact hG _ _)) hbY_X8_isBelow hbm_X8_64 hbs_X8_isBelow (Nat.le_of_ble_eq_true rfl) ⟨by decide, by decide⟩ (by decide) (by decide) ?_
  refine aw_ifb_eq (tg := 52) dX8_due_27 (by decide) (fun c27 => absurd c27 (by exact fun h8 => h8 (by omega))) (fun c27 => ?_)
  refine aw_ild4 dX8_due_30 ?_
  refine aw_S1v dX8_due_32 (c_isDay (by first | assumption | omega | (constructor <;> omega) | exact hG _ _)) hbY_X8_isDay hbm_X8_79 hbs_X8_isDay (Nat.le_of_ble_eq_true rfl) ⟨by decide, by decide⟩ (by decide) (by decide) ?_
  refine aw_ifb_eq (tg := 52) dX8_due_35 (by decide) (fun c35 => absurd c35 (by exact fun h8 => h8 (by omega))) (fun c35 => ?_)
  refine aw_ald0 dX8_due_38 ?_
  refine aw_getf dX8_due_39 hbf_X8_28 rfl rfl ?_
  refine aw_getf dX8_due_42 hbf_X8_194 rfl rfl ?_
  refine aw_ild3 dX8_due_45 ?_
  refine aw_gald (r := some 15) dX8_due_46 rfl (by decide) (by decide) rfl ?_
  refine aw_ild2 dX8_due_47 ?_
  refine aw_iald dX8_due_48 rfl (by constructor <;> omega) (by decide) ?_
  refine aw_if_ne (tg := 54) dX8_due_49 (by decide) (hG _ _) (fun c49 => ?_) (fun c49 => absurd c49 (by omega))
  refine aw_ald0 dX8_due_54 ?_
  refine aw_getf dX8_due_55 hbf_X8_56 rfl rfl ?_
  refine aw_ild4 dX8_due_58 ?_
  refine aw_S1v dX8_due_60 (c_lastPointOf ) hbY_X8_lastPointOf hbm_X8_187 hbs_X8_lastPointOf (Nat.le_of_ble_eq_true rfl) ⟨by decide, by decide⟩ (by decide) (by decide) ?_
  refine aw_V1n dX8_due_63 hS rfl rfl hbY_X4_show hbm_X8_164 hbi_X4_show hbe_X4_X4_show (Nat.le_of_ble_eq_true rfl) ⟨by decide, by decide⟩ (by decide) (by decide) ?_
  have hG := hG2
  refine aw_ald0 dX8_due_66 ?_
  refine aw_getf dX8_due_67 hbf_X8_56 rfl rfl ?_
  refine aw_getf dX8_due_70 hbf_X8_197 rfl rfl ?_
  refine aw_ild3 dX8_due_73 ?_
  refine aw_gald (r := some 41) dX8_due_74 rfl (by decide) (by decide) rfl ?_
  refine aw_ild1 dX8_due_75 ?_
  refine aw_bipush dX8_due_76 (by decide) ?_
  refine aw_imul dX8_due_78 ?_
  refine aw_ild2 dX8_due_79 ?_
  refine aw_iadd dX8_due_80 ?_
  refine aw_iald dX8_due_81 rfl (by constructor <;> omega) (by decide) ?_
  exact aw_iret dX8_due_82 rfl (by rfl) rfl rfl (by decide) (by decide)
set_option maxRecDepth 20000 in
set_option maxHeartbeats 1000000 in
theorem c_dueZ1 {l : Launch} {G : hb_G} {F : hb_F} {na : Nat} {t k d : Int} (it : hb_in t) (ik : hb_in k) (id : hb_in d) (hP : (0 ≤ t ∧ t < 40 ∧ G 7 t ≠ -1) ∧ (0 ≤ k ∧ k < 16 ∧ G 13 k ≠ -1) ∧ (0 ≤ d ∧ d ≤ 30000)) (hz : G 16 k = 0) (hG : hb_rg G) : hb_M l yX8_due cX8_due 5 (some .int) 5 0 0 [hb_r 0, hb_i t, hb_i k, hb_i 1, hb_i d] (hb_w G F na) (77 + na) (.inl (some (hb_i (-1)))) (hb_w G F na) (77 + na) := by
  refine hb_M_in rfl rfl (by decide) rfl (Nat.le_of_ble_eq_true rfl) ?_
  intro E z0 σ0
  refine aw_ald0 dX8_due_0 ?_
  refine aw_getf dX8_due_1 hbf_X8_21 rfl rfl ?_
  refine aw_ild1 dX8_due_4 ?_
  refine aw_V1v dX8_due_5 (c_thingsHas (by first | assumption | omega | (constructor <;> omega) | exact hG _ _) hG) rfl rfl hbY_X6_has hbm_X8_75 hbi_X6_has hbe_X6_X6_has (Nat.le_of_ble_eq_true rfl) ⟨by decide, by decide⟩ (by decide) (by decide) ?_
  refine aw_ifb_eq (tg := 52) dX8_due_8 (by decide) (fun c8 => absurd c8 (by exact fun h8 => h8 (by omega))) (fun c8 => ?_)
  refine aw_ald0 dX8_due_11 ?_
  refine aw_getf dX8_due_12 hbf_X8_28 rfl rfl ?_
  refine aw_ild2 dX8_due_15 ?_
  refine aw_V1v dX8_due_16 (c_tasksHas (by first | assumption | omega | (constructor <;> omega) | exact hG _ _) hG) rfl rfl hbY_X5_has hbm_X8_93 hbi_X5_has hbe_X5_X5_has (Nat.le_of_ble_eq_true rfl) ⟨by decide, by decide⟩ (by decide) (by decide) ?_
  refine aw_ifb_eq (tg := 52) dX8_due_19 (by decide) (fun c19 => absurd c19 (by exact fun h8 => h8 (by omega))) (fun c19 => ?_)
  refine aw_ild3 dX8_due_22 ?_
  refine aw_iconst dX8_due_23 ?_
  refine aw_S2v dX8_due_24 (c_isBelow (by first | assumption | omega | (constructor <;> omega) | exact hG _ _) (by first | assumption | omega | (constructor <;> omega) | exact hG _ _)) hbY_X8_isBelow hbm_X8_64 hbs_X8_isBelow (Nat.le_of_ble_eq_true rfl) ⟨by decide, by decide⟩ (by decide) (by decide) ?_
  refine aw_ifb_eq (tg := 52) dX8_due_27 (by decide) (fun c27 => absurd c27 (by exact fun h8 => h8 (by omega))) (fun c27 => ?_)
  refine aw_ild4 dX8_due_30 ?_
  refine aw_S1v dX8_due_32 (c_isDay (by first | assumption | omega | (constructor <;> omega) | exact hG _ _)) hbY_X8_isDay hbm_X8_79 hbs_X8_isDay (Nat.le_of_ble_eq_true rfl) ⟨by decide, by decide⟩ (by decide) (by decide) ?_
  refine aw_ifb_eq (tg := 52) dX8_due_35 (by decide) (fun c35 => absurd c35 (by exact fun h8 => h8 (by omega))) (fun c35 => ?_)
  refine aw_ald0 dX8_due_38 ?_
  refine aw_getf dX8_due_39 hbf_X8_28 rfl rfl ?_
  refine aw_getf dX8_due_42 hbf_X8_194 rfl rfl ?_
  refine aw_ild3 dX8_due_45 ?_
  refine aw_gald (r := some 16) dX8_due_46 rfl (by decide) (by decide) rfl ?_
  refine aw_ild2 dX8_due_47 ?_
  refine aw_iald dX8_due_48 rfl (by constructor <;> omega) (by decide) ?_
  refine aw_if_ne (tg := 54) dX8_due_49 (by decide) (hG _ _) (fun c49 => absurd c49 (by omega)) (fun c49 => ?_)
  refine aw_iconst dX8_due_52 ?_
  exact aw_iret dX8_due_53 rfl (by rfl) rfl rfl (by decide) (by decide)
set_option maxRecDepth 20000 in
set_option maxHeartbeats 1000000 in
theorem c_dueY1 {l : Launch} {G : hb_G} {F : hb_F} {na : Nat} {t k d : Int} (it : hb_in t) (ik : hb_in k) (id : hb_in d) (hP : (0 ≤ t ∧ t < 40 ∧ G 7 t ≠ -1) ∧ (0 ≤ k ∧ k < 16 ∧ G 13 k ≠ -1) ∧ (0 ≤ d ∧ d ≤ 30000)) (hz : G 16 k ≠ 0) {G2 : hb_G} (hS : hb_M l yX4_show cX4_show 2 none 4 0 0 [hb_r 32, hb_i (d * 100 + 100 - 1)] (hb_w G F na) (77 + na) (.inl none) (hb_w G2 F na) (77 + na)) (hG2 : hb_rg G2)  (hG : hb_rg G) : hb_M l yX8_due cX8_due 5 (some .int) 5 0 0 [hb_r 0, hb_i t, hb_i k, hb_i 1, hb_i d] (hb_w G F na) (77 + na) (.inl (some (hb_i (G2 42 (t * 16 + k))))) (hb_w G2 F na) (77 + na) := by
  refine hb_M_in rfl rfl (by decide) rfl (Nat.le_of_ble_eq_true rfl) ?_
  intro E z0 σ0
  refine aw_ald0 dX8_due_0 ?_
  refine aw_getf dX8_due_1 hbf_X8_21 rfl rfl ?_
  refine aw_ild1 dX8_due_4 ?_
  refine aw_V1v dX8_due_5 (c_thingsHas (by first | assumption | omega | (constructor <;> omega) | exact hG _ _) hG) rfl rfl hbY_X6_has hbm_X8_75 hbi_X6_has hbe_X6_X6_has (Nat.le_of_ble_eq_true rfl) ⟨by decide, by decide⟩ (by decide) (by decide) ?_
  refine aw_ifb_eq (tg := 52) dX8_due_8 (by decide) (fun c8 => absurd c8 (by exact fun h8 => h8 (by omega))) (fun c8 => ?_)
  refine aw_ald0 dX8_due_11 ?_
  refine aw_getf dX8_due_12 hbf_X8_28 rfl rfl ?_
  refine aw_ild2 dX8_due_15 ?_
  refine aw_V1v dX8_due_16 (c_tasksHas (by first | assumption | omega | (constructor <;> omega) | exact hG _ _) hG) rfl rfl hbY_X5_has hbm_X8_93 hbi_X5_has hbe_X5_X5_has (Nat.le_of_ble_eq_true rfl) ⟨by decide, by decide⟩ (by decide) (by decide) ?_
  refine aw_ifb_eq (tg := 52) dX8_due_19 (by decide) (fun c19 => absurd c19 (by exact fun h8 => h8 (by omega))) (fun c19 => ?_)
  refine aw_ild3 dX8_due_22 ?_
  refine aw_iconst dX8_due_23 ?_
  refine aw_S2v dX8_due_24 (c_isBelow (by first | assumption | omega | (constructor <;> omega) | exact hG _ _) (by first | assumption | omega | (constructor <;> omega) | exact hG _ _)) hbY_X8_isBelow hbm_X8_64 hbs_X8_isBelow (Nat.le_of_ble_eq_true rfl) ⟨by decide, by decide⟩ (by decide) (by decide) ?_
  refine aw_ifb_eq (tg := 52) dX8_due_27 (by decide) (fun c27 => absurd c27 (by exact fun h8 => h8 (by omega))) (fun c27 => ?_)
  refine aw_ild4 dX8_due_30 ?_
  refine aw_S1v dX8_due_32 (c_isDay (by first | assumption | omega | (constructor <;> omega) | exact hG _ _)) hbY_X8_isDay hbm_X8_79 hbs_X8_isDay (Nat.le_of_ble_eq_true rfl) ⟨by decide, by decide⟩ (by decide) (by decide) ?_
  refine aw_ifb_eq (tg := 52) dX8_due_35 (by decide) (fun c35 => absurd c35 (by exact fun h8 => h8 (by omega))) (fun c35 => ?_)
  refine aw_ald0 dX8_due_38 ?_
  refine aw_getf dX8_due_39 hbf_X8_28 rfl rfl ?_
  refine aw_getf dX8_due_42 hbf_X8_194 rfl rfl ?_
  refine aw_ild3 dX8_due_45 ?_
  refine aw_gald (r := some 16) dX8_due_46 rfl (by decide) (by decide) rfl ?_
  refine aw_ild2 dX8_due_47 ?_
  refine aw_iald dX8_due_48 rfl (by constructor <;> omega) (by decide) ?_
  refine aw_if_ne (tg := 54) dX8_due_49 (by decide) (hG _ _) (fun c49 => ?_) (fun c49 => absurd c49 (by omega))
  refine aw_ald0 dX8_due_54 ?_
  refine aw_getf dX8_due_55 hbf_X8_56 rfl rfl ?_
  refine aw_ild4 dX8_due_58 ?_
  refine aw_S1v dX8_due_60 (c_lastPointOf ) hbY_X8_lastPointOf hbm_X8_187 hbs_X8_lastPointOf (Nat.le_of_ble_eq_true rfl) ⟨by decide, by decide⟩ (by decide) (by decide) ?_
  refine aw_V1n dX8_due_63 hS rfl rfl hbY_X4_show hbm_X8_164 hbi_X4_show hbe_X4_X4_show (Nat.le_of_ble_eq_true rfl) ⟨by decide, by decide⟩ (by decide) (by decide) ?_
  have hG := hG2
  refine aw_ald0 dX8_due_66 ?_
  refine aw_getf dX8_due_67 hbf_X8_56 rfl rfl ?_
  refine aw_getf dX8_due_70 hbf_X8_197 rfl rfl ?_
  refine aw_ild3 dX8_due_73 ?_
  refine aw_gald (r := some 42) dX8_due_74 rfl (by decide) (by decide) rfl ?_
  refine aw_ild1 dX8_due_75 ?_
  refine aw_bipush dX8_due_76 (by decide) ?_
  refine aw_imul dX8_due_78 ?_
  refine aw_ild2 dX8_due_79 ?_
  refine aw_iadd dX8_due_80 ?_
  refine aw_iald dX8_due_81 rfl (by constructor <;> omega) (by decide) ?_
  exact aw_iret dX8_due_82 rfl (by rfl) rfl rfl (by decide) (by decide)
set_option maxRecDepth 20000 in
set_option maxHeartbeats 1000000 in
theorem c_dueZ2 {l : Launch} {G : hb_G} {F : hb_F} {na : Nat} {t k d : Int} (it : hb_in t) (ik : hb_in k) (id : hb_in d) (hP : (0 ≤ t ∧ t < 40 ∧ G 7 t ≠ -1) ∧ (0 ≤ k ∧ k < 16 ∧ G 13 k ≠ -1) ∧ (0 ≤ d ∧ d ≤ 30000)) (hz : G 17 k = 0) (hG : hb_rg G) : hb_M l yX8_due cX8_due 5 (some .int) 5 0 0 [hb_r 0, hb_i t, hb_i k, hb_i 2, hb_i d] (hb_w G F na) (77 + na) (.inl (some (hb_i (-1)))) (hb_w G F na) (77 + na) := by
  refine hb_M_in rfl rfl (by decide) rfl (Nat.le_of_ble_eq_true rfl) ?_
  intro E z0 σ0
  refine aw_ald0 dX8_due_0 ?_
  refine aw_getf dX8_due_1 hbf_X8_21 rfl rfl ?_
  refine aw_ild1 dX8_due_4 ?_
  refine aw_V1v dX8_due_5 (c_thingsHas (by first | assumption | omega | (constructor <;> omega) | exact hG _ _) hG) rfl rfl hbY_X6_has hbm_X8_75 hbi_X6_has hbe_X6_X6_has (Nat.le_of_ble_eq_true rfl) ⟨by decide, by decide⟩ (by decide) (by decide) ?_
  refine aw_ifb_eq (tg := 52) dX8_due_8 (by decide) (fun c8 => absurd c8 (by exact fun h8 => h8 (by omega))) (fun c8 => ?_)
  refine aw_ald0 dX8_due_11 ?_
  refine aw_getf dX8_due_12 hbf_X8_28 rfl rfl ?_
  refine aw_ild2 dX8_due_15 ?_
  refine aw_V1v dX8_due_16 (c_tasksHas (by first | assumption | omega | (constructor <;> omega) | exact hG _ _) hG) rfl rfl hbY_X5_has hbm_X8_93 hbi_X5_has hbe_X5_X5_has (Nat.le_of_ble_eq_true rfl) ⟨by decide, by decide⟩ (by decide) (by decide) ?_
  refine aw_ifb_eq (tg := 52) dX8_due_19 (by decide) (fun c19 => absurd c19 (by exact fun h8 => h8 (by omega))) (fun c19 => ?_)
  refine aw_ild3 dX8_due_22 ?_
  refine aw_iconst dX8_due_23 ?_
  refine aw_S2v dX8_due_24 (c_isBelow (by first | assumption | omega | (constructor <;> omega) | exact hG _ _) (by first | assumption | omega | (constructor <;> omega) | exact hG _ _)) hbY_X8_isBelow hbm_X8_64 hbs_X8_isBelow (Nat.le_of_ble_eq_true rfl) ⟨by decide, by decide⟩ (by decide) (by decide) ?_
  refine aw_ifb_eq (tg := 52) dX8_due_27 (by decide) (fun c27 => absurd c27 (by exact fun h8 => h8 (by omega))) (fun c27 => ?_)
  refine aw_ild4 dX8_due_30 ?_
  refine aw_S1v dX8_due_32 (c_isDay (by first | assumption | omega | (constructor <;> omega) | exact hG _ _)) hbY_X8_isDay hbm_X8_79 hbs_X8_isDay (Nat.le_of_ble_eq_true rfl) ⟨by decide, by decide⟩ (by decide) (by decide) ?_
  refine aw_ifb_eq (tg := 52) dX8_due_35 (by decide) (fun c35 => absurd c35 (by exact fun h8 => h8 (by omega))) (fun c35 => ?_)
  refine aw_ald0 dX8_due_38 ?_
  refine aw_getf dX8_due_39 hbf_X8_28 rfl rfl ?_
  refine aw_getf dX8_due_42 hbf_X8_194 rfl rfl ?_
  refine aw_ild3 dX8_due_45 ?_
  refine aw_gald (r := some 17) dX8_due_46 rfl (by decide) (by decide) rfl ?_
  refine aw_ild2 dX8_due_47 ?_
  refine aw_iald dX8_due_48 rfl (by constructor <;> omega) (by decide) ?_
  refine aw_if_ne (tg := 54) dX8_due_49 (by decide) (hG _ _) (fun c49 => absurd c49 (by omega)) (fun c49 => ?_)
  refine aw_iconst dX8_due_52 ?_
  exact aw_iret dX8_due_53 rfl (by rfl) rfl rfl (by decide) (by decide)
set_option maxRecDepth 20000 in
set_option maxHeartbeats 1000000 in
theorem c_dueY2 {l : Launch} {G : hb_G} {F : hb_F} {na : Nat} {t k d : Int} (it : hb_in t) (ik : hb_in k) (id : hb_in d) (hP : (0 ≤ t ∧ t < 40 ∧ G 7 t ≠ -1) ∧ (0 ≤ k ∧ k < 16 ∧ G 13 k ≠ -1) ∧ (0 ≤ d ∧ d ≤ 30000)) (hz : G 17 k ≠ 0) {G2 : hb_G} (hS : hb_M l yX4_show cX4_show 2 none 4 0 0 [hb_r 32, hb_i (d * 100 + 100 - 1)] (hb_w G F na) (77 + na) (.inl none) (hb_w G2 F na) (77 + na)) (hG2 : hb_rg G2)  (hG : hb_rg G) : hb_M l yX8_due cX8_due 5 (some .int) 5 0 0 [hb_r 0, hb_i t, hb_i k, hb_i 2, hb_i d] (hb_w G F na) (77 + na) (.inl (some (hb_i (G2 43 (t * 16 + k))))) (hb_w G2 F na) (77 + na) := by
  refine hb_M_in rfl rfl (by decide) rfl (Nat.le_of_ble_eq_true rfl) ?_
  intro E z0 σ0
  refine aw_ald0 dX8_due_0 ?_
  refine aw_getf dX8_due_1 hbf_X8_21 rfl rfl ?_
  refine aw_ild1 dX8_due_4 ?_
  refine aw_V1v dX8_due_5 (c_thingsHas (by first | assumption | omega | (constructor <;> omega) | exact hG _ _) hG) rfl rfl hbY_X6_has hbm_X8_75 hbi_X6_has hbe_X6_X6_has (Nat.le_of_ble_eq_true rfl) ⟨by decide, by decide⟩ (by decide) (by decide) ?_
  refine aw_ifb_eq (tg := 52) dX8_due_8 (by decide) (fun c8 => absurd c8 (by exact fun h8 => h8 (by omega))) (fun c8 => ?_)
  refine aw_ald0 dX8_due_11 ?_
  refine aw_getf dX8_due_12 hbf_X8_28 rfl rfl ?_
  refine aw_ild2 dX8_due_15 ?_
  refine aw_V1v dX8_due_16 (c_tasksHas (by first | assumption | omega | (constructor <;> omega) | exact hG _ _) hG) rfl rfl hbY_X5_has hbm_X8_93 hbi_X5_has hbe_X5_X5_has (Nat.le_of_ble_eq_true rfl) ⟨by decide, by decide⟩ (by decide) (by decide) ?_
  refine aw_ifb_eq (tg := 52) dX8_due_19 (by decide) (fun c19 => absurd c19 (by exact fun h8 => h8 (by omega))) (fun c19 => ?_)
  refine aw_ild3 dX8_due_22 ?_
  refine aw_iconst dX8_due_23 ?_
  refine aw_S2v dX8_due_24 (c_isBelow (by first | assumption | omega | (constructor <;> omega) | exact hG _ _) (by first | assumption | omega | (constructor <;> omega) | exact hG _ _)) hbY_X8_isBelow hbm_X8_64 hbs_X8_isBelow (Nat.le_of_ble_eq_true rfl) ⟨by decide, by decide⟩ (by decide) (by decide) ?_
  refine aw_ifb_eq (tg := 52) dX8_due_27 (by decide) (fun c27 => absurd c27 (by exact fun h8 => h8 (by omega))) (fun c27 => ?_)
  refine aw_ild4 dX8_due_30 ?_
  refine aw_S1v dX8_due_32 (c_isDay (by first | assumption | omega | (constructor <;> omega) | exact hG _ _)) hbY_X8_isDay hbm_X8_79 hbs_X8_isDay (Nat.le_of_ble_eq_true rfl) ⟨by decide, by decide⟩ (by decide) (by decide) ?_
  refine aw_ifb_eq (tg := 52) dX8_due_35 (by decide) (fun c35 => absurd c35 (by exact fun h8 => h8 (by omega))) (fun c35 => ?_)
  refine aw_ald0 dX8_due_38 ?_
  refine aw_getf dX8_due_39 hbf_X8_28 rfl rfl ?_
  refine aw_getf dX8_due_42 hbf_X8_194 rfl rfl ?_
  refine aw_ild3 dX8_due_45 ?_
  refine aw_gald (r := some 17) dX8_due_46 rfl (by decide) (by decide) rfl ?_
  refine aw_ild2 dX8_due_47 ?_
  refine aw_iald dX8_due_48 rfl (by constructor <;> omega) (by decide) ?_
  refine aw_if_ne (tg := 54) dX8_due_49 (by decide) (hG _ _) (fun c49 => ?_) (fun c49 => absurd c49 (by omega))
  refine aw_ald0 dX8_due_54 ?_
  refine aw_getf dX8_due_55 hbf_X8_56 rfl rfl ?_
  refine aw_ild4 dX8_due_58 ?_
  refine aw_S1v dX8_due_60 (c_lastPointOf ) hbY_X8_lastPointOf hbm_X8_187 hbs_X8_lastPointOf (Nat.le_of_ble_eq_true rfl) ⟨by decide, by decide⟩ (by decide) (by decide) ?_
  refine aw_V1n dX8_due_63 hS rfl rfl hbY_X4_show hbm_X8_164 hbi_X4_show hbe_X4_X4_show (Nat.le_of_ble_eq_true rfl) ⟨by decide, by decide⟩ (by decide) (by decide) ?_
  have hG := hG2
  refine aw_ald0 dX8_due_66 ?_
  refine aw_getf dX8_due_67 hbf_X8_56 rfl rfl ?_
  refine aw_getf dX8_due_70 hbf_X8_197 rfl rfl ?_
  refine aw_ild3 dX8_due_73 ?_
  refine aw_gald (r := some 43) dX8_due_74 rfl (by decide) (by decide) rfl ?_
  refine aw_ild1 dX8_due_75 ?_
  refine aw_bipush dX8_due_76 (by decide) ?_
  refine aw_imul dX8_due_78 ?_
  refine aw_ild2 dX8_due_79 ?_
  refine aw_iadd dX8_due_80 ?_
  refine aw_iald dX8_due_81 rfl (by constructor <;> omega) (by decide) ?_
  exact aw_iret dX8_due_82 rfl (by rfl) rfl rfl (by decide) (by decide)
set_option maxRecDepth 20000 in
set_option maxHeartbeats 1000000 in
theorem c_askedN {l : Launch} {G : hb_G} {F : hb_F} {na : Nat} {t k d : Int} (it : hb_in t) (ik : hb_in k) (id : hb_in d) (hP : ¬ ((0 ≤ t ∧ t < 40 ∧ G 7 t ≠ -1) ∧ (0 ≤ k ∧ k < 16 ∧ G 13 k ≠ -1) ∧ (0 ≤ d ∧ d ≤ 30000))) (hG : hb_rg G) : hb_M l yX8_asked cX8_asked 4 (some .int) 5 0 0 [hb_r 0, hb_i t, hb_i k, hb_i d] (hb_w G F na) (77 + na) (.inl (some (hb_i (0)))) (hb_w G F na) (77 + na) := by
  refine hb_M_in rfl rfl (by decide) rfl (Nat.le_of_ble_eq_true rfl) ?_
  intro E z0 σ0
  refine aw_ald0 dX8_asked_0 ?_
  refine aw_getf dX8_asked_1 hbf_X8_21 rfl rfl ?_
  refine aw_ild1 dX8_asked_4 ?_
  refine aw_V1v dX8_asked_5 (c_thingsHas (by first | assumption | omega | (constructor <;> omega) | exact hG _ _) hG) rfl rfl hbY_X6_has hbm_X8_75 hbi_X6_has hbe_X6_X6_has (Nat.le_of_ble_eq_true rfl) ⟨by decide, by decide⟩ (by decide) (by decide) ?_
  refine aw_ifb_eq (tg := 29) dX8_asked_8 (by decide) (fun c8 => ?_) (fun c8 => ?_)
  · skip
    refine aw_iconst dX8_asked_29 ?_
    exact aw_iret dX8_asked_30 rfl (by rfl) rfl rfl (by decide) (by decide)
  · skip
    refine aw_ald0 dX8_asked_11 ?_
    refine aw_getf dX8_asked_12 hbf_X8_28 rfl rfl ?_
    refine aw_ild2 dX8_asked_15 ?_
    refine aw_V1v dX8_asked_16 (c_tasksHas (by first | assumption | omega | (constructor <;> omega) | exact hG _ _) hG) rfl rfl hbY_X5_has hbm_X8_93 hbi_X5_has hbe_X5_X5_has (Nat.le_of_ble_eq_true rfl) ⟨by decide, by decide⟩ (by decide) (by decide) ?_
    refine aw_ifb_eq (tg := 29) dX8_asked_19 (by decide) (fun c19 => ?_) (fun c19 => ?_)
    · skip
      refine aw_iconst dX8_asked_29 ?_
      exact aw_iret dX8_asked_30 rfl (by rfl) rfl rfl (by decide) (by decide)
    · skip
      refine aw_ild3 dX8_asked_22 ?_
      refine aw_S1v dX8_asked_23 (c_isDay (by first | assumption | omega | (constructor <;> omega) | exact hG _ _)) hbY_X8_isDay hbm_X8_79 hbs_X8_isDay (Nat.le_of_ble_eq_true rfl) ⟨by decide, by decide⟩ (by decide) (by decide) ?_
      refine aw_ifb_ne (tg := 31) dX8_asked_26 (by decide) (fun c26 => ?_) (fun c26 => ?_)
      · skip
        exact absurd (by omega) hP
      · skip
        refine aw_iconst dX8_asked_29 ?_
        exact aw_iret dX8_asked_30 rfl (by rfl) rfl rfl (by decide) (by decide)
set_option maxRecDepth 20000 in
set_option maxHeartbeats 1000000 in
theorem c_asked0 {l : Launch} {G : hb_G} {F : hb_F} {na : Nat} {t k d : Int} (it : hb_in t) (ik : hb_in k) (id : hb_in d) (hP : (0 ≤ t ∧ t < 40 ∧ G 7 t ≠ -1) ∧ (0 ≤ k ∧ k < 16 ∧ G 13 k ≠ -1) ∧ (0 ≤ d ∧ d ≤ 30000)) {G2 : hb_G} (hS : hb_M l yX4_show cX4_show 2 none 4 0 0 [hb_r 32, hb_i (d * 100 + 100 - 1)] (hb_w G F na) (77 + na) (.inl none) (hb_w G2 F na) (77 + na)) (hG2 : hb_rg G2) (ha : ¬ hb_ak G2 t k) (hG : hb_rg G) : hb_M l yX8_asked cX8_asked 4 (some .int) 5 0 0 [hb_r 0, hb_i t, hb_i k, hb_i d] (hb_w G F na) (77 + na) (.inl (some (hb_i (0)))) (hb_w G2 F na) (77 + na) := by
  refine hb_M_in rfl rfl (by decide) rfl (Nat.le_of_ble_eq_true rfl) ?_
  intro E z0 σ0
  have q1 : 0 ≤ t ∧ t < 40 := by omega
  have q2 : 0 ≤ k ∧ k < 16 := by omega
  have q3 : 0 ≤ d ∧ d ≤ 30000 := by omega
  refine aw_ald0 dX8_asked_0 ?_
  refine aw_getf dX8_asked_1 hbf_X8_21 rfl rfl ?_
  refine aw_ild1 dX8_asked_4 ?_
  refine aw_V1v dX8_asked_5 (c_thingsHas (by first | assumption | omega | (constructor <;> omega) | exact hG _ _) hG) rfl rfl hbY_X6_has hbm_X8_75 hbi_X6_has hbe_X6_X6_has (Nat.le_of_ble_eq_true rfl) ⟨by decide, by decide⟩ (by decide) (by decide) ?_
  refine aw_ifb_eq (tg := 29) dX8_asked_8 (by decide) (fun c8 => ?_) (fun c8 => ?_)
  · skip
    exact absurd hP (by omega)
  · skip
    refine aw_ald0 dX8_asked_11 ?_
    refine aw_getf dX8_asked_12 hbf_X8_28 rfl rfl ?_
    refine aw_ild2 dX8_asked_15 ?_
    refine aw_V1v dX8_asked_16 (c_tasksHas (by first | assumption | omega | (constructor <;> omega) | exact hG _ _) hG) rfl rfl hbY_X5_has hbm_X8_93 hbi_X5_has hbe_X5_X5_has (Nat.le_of_ble_eq_true rfl) ⟨by decide, by decide⟩ (by decide) (by decide) ?_
    refine aw_ifb_eq (tg := 29) dX8_asked_19 (by decide) (fun c19 => ?_) (fun c19 => ?_)
    · skip
      exact absurd hP (by omega)
    · skip
      refine aw_ild3 dX8_asked_22 ?_
      refine aw_S1v dX8_asked_23 (c_isDay (by first | assumption | omega | (constructor <;> omega) | exact hG _ _)) hbY_X8_isDay hbm_X8_79 hbs_X8_isDay (Nat.le_of_ble_eq_true rfl) ⟨by decide, by decide⟩ (by decide) (by decide) ?_
      refine aw_ifb_ne (tg := 31) dX8_asked_26 (by decide) (fun c26 => ?_) (fun c26 => ?_)
      · skip
        refine aw_ald0 dX8_asked_31 ?_
        refine aw_getf dX8_asked_32 hbf_X8_56 rfl rfl ?_
        refine aw_ild3 dX8_asked_35 ?_
        refine aw_S1v dX8_asked_36 (c_lastPointOf ) hbY_X8_lastPointOf hbm_X8_187 hbs_X8_lastPointOf (Nat.le_of_ble_eq_true rfl) ⟨by decide, by decide⟩ (by decide) (by decide) ?_
        refine aw_V1n dX8_asked_39 hS rfl rfl hbY_X4_show hbm_X8_164 hbi_X4_show hbe_X4_X4_show (Nat.le_of_ble_eq_true rfl) ⟨by decide, by decide⟩ (by decide) (by decide) ?_
        have hG := hG2
        refine aw_ald0 dX8_asked_42 ?_
        refine aw_getf dX8_asked_43 hbf_X8_56 rfl rfl ?_
        refine aw_ild1 dX8_asked_46 ?_
        refine aw_ild2 dX8_asked_47 ?_
        refine aw_V2v dX8_asked_48 (c_isAsked q1 (by constructor <;> omega) hG) rfl rfl hbY_X4_isAsked hbm_X8_200 hbi_X4_isAsked hbe_X4_X4_isAsked (Nat.le_of_ble_eq_true rfl) ⟨by decide, by decide⟩ (by decide) (by decide) ?_
        refine aw_ifb_ne (tg := 56) dX8_asked_51 (by decide) (fun c51 => absurd c51 (by exact fun h8 => ha h8)) (fun c51 => ?_)
        refine aw_iconst dX8_asked_54 ?_
        exact aw_iret dX8_asked_55 rfl (by rfl) rfl rfl (by decide) (by decide)
      · skip
        exact absurd hP (by omega)
set_option maxRecDepth 20000 in
set_option maxHeartbeats 1000000 in
theorem c_asked1 {l : Launch} {G : hb_G} {F : hb_F} {na : Nat} {t k d : Int} (it : hb_in t) (ik : hb_in k) (id : hb_in d) (hP : (0 ≤ t ∧ t < 40 ∧ G 7 t ≠ -1) ∧ (0 ≤ k ∧ k < 16 ∧ G 13 k ≠ -1) ∧ (0 ≤ d ∧ d ≤ 30000)) {G2 : hb_G} (hS : hb_M l yX4_show cX4_show 2 none 4 0 0 [hb_r 32, hb_i (d * 100 + 100 - 1)] (hb_w G F na) (77 + na) (.inl none) (hb_w G2 F na) (77 + na)) (hG2 : hb_rg G2) (ha : hb_ak G2 t k) (ho : hb_fo G2 t k d 0 0 ≠ d) (hbn : hb_bn G2) (hG : hb_rg G) : hb_M l yX8_asked cX8_asked 4 (some .int) 5 0 0 [hb_r 0, hb_i t, hb_i k, hb_i d] (hb_w G F na) (77 + na) (.inl (some (hb_i (1)))) (hb_w G2 F na) (77 + na) := by
  refine hb_M_in rfl rfl (by decide) rfl (Nat.le_of_ble_eq_true rfl) ?_
  intro E z0 σ0
  have q1 : 0 ≤ t ∧ t < 40 := by omega
  have q2 : 0 ≤ k ∧ k < 16 := by omega
  have q3 : 0 ≤ d ∧ d ≤ 30000 := by omega
  refine aw_ald0 dX8_asked_0 ?_
  refine aw_getf dX8_asked_1 hbf_X8_21 rfl rfl ?_
  refine aw_ild1 dX8_asked_4 ?_
  refine aw_V1v dX8_asked_5 (c_thingsHas (by first | assumption | omega | (constructor <;> omega) | exact hG _ _) hG) rfl rfl hbY_X6_has hbm_X8_75 hbi_X6_has hbe_X6_X6_has (Nat.le_of_ble_eq_true rfl) ⟨by decide, by decide⟩ (by decide) (by decide) ?_
  refine aw_ifb_eq (tg := 29) dX8_asked_8 (by decide) (fun c8 => ?_) (fun c8 => ?_)
  · skip
    exact absurd hP (by omega)
  · skip
    refine aw_ald0 dX8_asked_11 ?_
    refine aw_getf dX8_asked_12 hbf_X8_28 rfl rfl ?_
    refine aw_ild2 dX8_asked_15 ?_
    refine aw_V1v dX8_asked_16 (c_tasksHas (by first | assumption | omega | (constructor <;> omega) | exact hG _ _) hG) rfl rfl hbY_X5_has hbm_X8_93 hbi_X5_has hbe_X5_X5_has (Nat.le_of_ble_eq_true rfl) ⟨by decide, by decide⟩ (by decide) (by decide) ?_
    refine aw_ifb_eq (tg := 29) dX8_asked_19 (by decide) (fun c19 => ?_) (fun c19 => ?_)
    · skip
      exact absurd hP (by omega)
    · skip
      refine aw_ild3 dX8_asked_22 ?_
      refine aw_S1v dX8_asked_23 (c_isDay (by first | assumption | omega | (constructor <;> omega) | exact hG _ _)) hbY_X8_isDay hbm_X8_79 hbs_X8_isDay (Nat.le_of_ble_eq_true rfl) ⟨by decide, by decide⟩ (by decide) (by decide) ?_
      refine aw_ifb_ne (tg := 31) dX8_asked_26 (by decide) (fun c26 => ?_) (fun c26 => ?_)
      · skip
        refine aw_ald0 dX8_asked_31 ?_
        refine aw_getf dX8_asked_32 hbf_X8_56 rfl rfl ?_
        refine aw_ild3 dX8_asked_35 ?_
        refine aw_S1v dX8_asked_36 (c_lastPointOf ) hbY_X8_lastPointOf hbm_X8_187 hbs_X8_lastPointOf (Nat.le_of_ble_eq_true rfl) ⟨by decide, by decide⟩ (by decide) (by decide) ?_
        refine aw_V1n dX8_asked_39 hS rfl rfl hbY_X4_show hbm_X8_164 hbi_X4_show hbe_X4_X4_show (Nat.le_of_ble_eq_true rfl) ⟨by decide, by decide⟩ (by decide) (by decide) ?_
        have hG := hG2
        refine aw_ald0 dX8_asked_42 ?_
        refine aw_getf dX8_asked_43 hbf_X8_56 rfl rfl ?_
        refine aw_ild1 dX8_asked_46 ?_
        refine aw_ild2 dX8_asked_47 ?_
        refine aw_V2v dX8_asked_48 (c_isAsked q1 (by constructor <;> omega) hG) rfl rfl hbY_X4_isAsked hbm_X8_200 hbi_X4_isAsked hbe_X4_X4_isAsked (Nat.le_of_ble_eq_true rfl) ⟨by decide, by decide⟩ (by decide) (by decide) ?_
        refine aw_ifb_ne (tg := 56) dX8_asked_51 (by decide) (fun c51 => ?_) (fun c51 => absurd c51 (by exact fun h8 => h8 ha))
        refine aw_ald0 dX8_asked_56 ?_
        refine aw_getf dX8_asked_57 hbf_X8_56 rfl rfl ?_
        refine aw_ild1 dX8_asked_60 ?_
        refine aw_ild2 dX8_asked_61 ?_
        refine aw_ild3 dX8_asked_62 ?_
        refine aw_V3v dX8_asked_63 (c_isOverdue q1 q2 q3 hbn hG) rfl rfl hbY_X4_isOverdue hbm_X8_203 hbi_X4_isOverdue hbe_X4_X4_isOverdue (Nat.le_of_ble_eq_true rfl) ⟨by decide, by decide⟩ (by decide) (by decide) ?_
        refine aw_ifb_eq (tg := 73) dX8_asked_66 (by decide) (fun c66 => ?_) (fun c66 => absurd c66 (by exact fun h8 => ho h8))
        refine aw_iconst dX8_asked_73 ?_
        exact aw_iret dX8_asked_74 rfl (by rfl) rfl rfl (by decide) (by decide)
      · skip
        exact absurd hP (by omega)
set_option maxRecDepth 20000 in
set_option maxHeartbeats 1000000 in
theorem c_asked2 {l : Launch} {G : hb_G} {F : hb_F} {na : Nat} {t k d : Int} (it : hb_in t) (ik : hb_in k) (id : hb_in d) (hP : (0 ≤ t ∧ t < 40 ∧ G 7 t ≠ -1) ∧ (0 ≤ k ∧ k < 16 ∧ G 13 k ≠ -1) ∧ (0 ≤ d ∧ d ≤ 30000)) {G2 : hb_G} (hS : hb_M l yX4_show cX4_show 2 none 4 0 0 [hb_r 32, hb_i (d * 100 + 100 - 1)] (hb_w G F na) (77 + na) (.inl none) (hb_w G2 F na) (77 + na)) (hG2 : hb_rg G2) (ha : hb_ak G2 t k) (ho : hb_fo G2 t k d 0 0 = d) (hbn : hb_bn G2) (hG : hb_rg G) : hb_M l yX8_asked cX8_asked 4 (some .int) 5 0 0 [hb_r 0, hb_i t, hb_i k, hb_i d] (hb_w G F na) (77 + na) (.inl (some (hb_i (2)))) (hb_w G2 F na) (77 + na) := by
  refine hb_M_in rfl rfl (by decide) rfl (Nat.le_of_ble_eq_true rfl) ?_
  intro E z0 σ0
  have q1 : 0 ≤ t ∧ t < 40 := by omega
  have q2 : 0 ≤ k ∧ k < 16 := by omega
  have q3 : 0 ≤ d ∧ d ≤ 30000 := by omega
  refine aw_ald0 dX8_asked_0 ?_
  refine aw_getf dX8_asked_1 hbf_X8_21 rfl rfl ?_
  refine aw_ild1 dX8_asked_4 ?_
  refine aw_V1v dX8_asked_5 (c_thingsHas (by first | assumption | omega | (constructor <;> omega) | exact hG _ _) hG) rfl rfl hbY_X6_has hbm_X8_75 hbi_X6_has hbe_X6_X6_has (Nat.le_of_ble_eq_true rfl) ⟨by decide, by decide⟩ (by decide) (by decide) ?_
  refine aw_ifb_eq (tg := 29) dX8_asked_8 (by decide) (fun c8 => ?_) (fun c8 => ?_)
  · skip
    exact absurd hP (by omega)
  · skip
    refine aw_ald0 dX8_asked_11 ?_
    refine aw_getf dX8_asked_12 hbf_X8_28 rfl rfl ?_
    refine aw_ild2 dX8_asked_15 ?_
    refine aw_V1v dX8_asked_16 (c_tasksHas (by first | assumption | omega | (constructor <;> omega) | exact hG _ _) hG) rfl rfl hbY_X5_has hbm_X8_93 hbi_X5_has hbe_X5_X5_has (Nat.le_of_ble_eq_true rfl) ⟨by decide, by decide⟩ (by decide) (by decide) ?_
    refine aw_ifb_eq (tg := 29) dX8_asked_19 (by decide) (fun c19 => ?_) (fun c19 => ?_)
    · skip
      exact absurd hP (by omega)
    · skip
      refine aw_ild3 dX8_asked_22 ?_
      refine aw_S1v dX8_asked_23 (c_isDay (by first | assumption | omega | (constructor <;> omega) | exact hG _ _)) hbY_X8_isDay hbm_X8_79 hbs_X8_isDay (Nat.le_of_ble_eq_true rfl) ⟨by decide, by decide⟩ (by decide) (by decide) ?_
      refine aw_ifb_ne (tg := 31) dX8_asked_26 (by decide) (fun c26 => ?_) (fun c26 => ?_)
      · skip
        refine aw_ald0 dX8_asked_31 ?_
        refine aw_getf dX8_asked_32 hbf_X8_56 rfl rfl ?_
        refine aw_ild3 dX8_asked_35 ?_
        refine aw_S1v dX8_asked_36 (c_lastPointOf ) hbY_X8_lastPointOf hbm_X8_187 hbs_X8_lastPointOf (Nat.le_of_ble_eq_true rfl) ⟨by decide, by decide⟩ (by decide) (by decide) ?_
        refine aw_V1n dX8_asked_39 hS rfl rfl hbY_X4_show hbm_X8_164 hbi_X4_show hbe_X4_X4_show (Nat.le_of_ble_eq_true rfl) ⟨by decide, by decide⟩ (by decide) (by decide) ?_
        have hG := hG2
        refine aw_ald0 dX8_asked_42 ?_
        refine aw_getf dX8_asked_43 hbf_X8_56 rfl rfl ?_
        refine aw_ild1 dX8_asked_46 ?_
        refine aw_ild2 dX8_asked_47 ?_
        refine aw_V2v dX8_asked_48 (c_isAsked q1 (by constructor <;> omega) hG) rfl rfl hbY_X4_isAsked hbm_X8_200 hbi_X4_isAsked hbe_X4_X4_isAsked (Nat.le_of_ble_eq_true rfl) ⟨by decide, by decide⟩ (by decide) (by decide) ?_
        refine aw_ifb_ne (tg := 56) dX8_asked_51 (by decide) (fun c51 => ?_) (fun c51 => absurd c51 (by exact fun h8 => h8 ha))
        refine aw_ald0 dX8_asked_56 ?_
        refine aw_getf dX8_asked_57 hbf_X8_56 rfl rfl ?_
        refine aw_ild1 dX8_asked_60 ?_
        refine aw_ild2 dX8_asked_61 ?_
        refine aw_ild3 dX8_asked_62 ?_
        refine aw_V3v dX8_asked_63 (c_isOverdue q1 q2 q3 hbn hG) rfl rfl hbY_X4_isOverdue hbm_X8_203 hbi_X4_isOverdue hbe_X4_X4_isOverdue (Nat.le_of_ble_eq_true rfl) ⟨by decide, by decide⟩ (by decide) (by decide) ?_
        refine aw_ifb_eq (tg := 73) dX8_asked_66 (by decide) (fun c66 => absurd c66 (by exact fun h8 => h8 ho)) (fun c66 => ?_)
        refine aw_iconst dX8_asked_69 ?_
        refine aw_goto (tg := 74) dX8_asked_70 (by decide) ?_
        exact aw_iret dX8_asked_74 rfl (by rfl) rfl rfl (by decide) (by decide)
      · skip
        exact absurd hP (by omega)
/-- the b-th from place j on, of the next n, that is so -/
noncomputable def hb_fd (P : Nat → Prop) (n j : Nat) (b : Int) : Int := match n with
  | 0 => -1
  | n + 1 => @ite Int (P j) (Classical.propDecidable _) (if b = 0 then (j : Int) else hb_fd P n (j + 1) (b - 1)) (hb_fd P n (j + 1) b)
theorem hb_fd_n {P : Nat → Prop} {n j : Nat} {b : Int} (h : ¬ P j) : hb_fd P (n + 1) j b = hb_fd P n (j + 1) b := by
  conv => lhs; unfold hb_fd
  exact if_neg h
theorem hb_fd_0 {P : Nat → Prop} {n j : Nat} (h : P j) : hb_fd P (n + 1) j 0 = j := by
  conv => lhs; unfold hb_fd
  rw [if_pos h, if_pos rfl]
theorem hb_fd_s {P : Nat → Prop} {n j : Nat} {b : Int} (h : P j) (hb : b ≠ 0) : hb_fd P (n + 1) j b = hb_fd P n (j + 1) (b - 1) := by
  conv => lhs; unfold hb_fd
  rw [if_pos h, if_neg hb]
theorem hb_fd_k {P : Nat → Prop} {b : Int} : ∀ (m n j : Nat), (∀ i, i < m → ¬ P (j + i)) → hb_fd P (n + m) j b = hb_fd P n (j + m) b
  | 0, n, j, _ => rfl
  | m + 1, n, j, h => by
    rw [show n + (m + 1) = n + m + 1 by omega, hb_fd_n (j := j) (show ¬ P j from h 0 (by omega)), hb_fd_k m n (j + 1) (fun i hi => by rw [show j + 1 + i = j + (i + 1) by omega]; exact h (i + 1) (by omega)), show j + 1 + m = j + (m + 1) by omega]
/-- asked and overdue in a machine's tree, as it stands -/
def hb_op (G : hb_G) (m d : Int) (j : Nat) : Prop := hb_it G m ((j / 16 : Nat) : Int) ∧ (hb_ak G ((j / 16 : Nat) : Int) ((j % 16 : Nat) : Int) ∧ hb_fo G ((j / 16 : Nat) : Int) ((j % 16 : Nat) : Int) d 0 0 = d)
theorem hb_op_i {G : hb_G} {m d : Int} {t k : Nat} (hk : k < 16) : hb_op G m d (t * 16 + k) ↔ hb_it G m t ∧ (hb_ak G t k ∧ hb_fo G t k d 0 0 = d) := by
  unfold hb_op
  rw [show (t * 16 + k) / 16 = t by omega, show (t * 16 + k) % 16 = k by omega]
theorem hb_im_iff {G : hb_G} {m : Int} : hb_im G m ↔ ((0 ≤ m ∧ m < 40 ∧ G 7 m ≠ -1) ∧ ¬ ∃ i, 0 ≤ i ∧ i < 48 ∧ G 2 i = G 7 m) := Iff.rfl
set_option maxRecDepth 20000 in
set_option maxHeartbeats 1000000 in
theorem c_openN {l : Launch} {G : hb_G} {F : hb_F} {na : Nat} {m d i : Int} (im : hb_in m) (id : hb_in d) (ii : hb_in i) (hP : ¬ (hb_im G m ∧ (0 ≤ d ∧ d ≤ 30000) ∧ 0 ≤ i)) (hG : hb_rg G) : hb_M l yX8_open cX8_open 7 (some .int) 5 0 0 [hb_r 0, hb_i m, hb_i d, hb_i i] (hb_w G F na) (77 + na) (.inl (some (hb_i (-1)))) (hb_w G F na) (77 + na) := by
  refine hb_M_in rfl rfl (by decide) rfl (Nat.le_of_ble_eq_true rfl) ?_
  intro E z0 σ0
  refine aw_ald0 dX8_open_0 ?_
  refine aw_getf dX8_open_1 hbf_X8_21 rfl rfl ?_
  refine aw_ild1 dX8_open_4 ?_
  refine aw_V1v dX8_open_5 (c_isMachine (by first | assumption | omega | (constructor <;> omega) | exact hG _ _) hG) rfl rfl hbY_X6_isMachine hbm_X8_109 hbi_X6_isMachine hbe_X6_X6_isMachine (Nat.le_of_ble_eq_true rfl) ⟨by decide, by decide⟩ (by decide) (by decide) ?_
  refine aw_ifb_eq (tg := 22) dX8_open_8 (by decide) (fun c8 => ?_) (fun c8 => ?_)
  · skip
    refine aw_iconst dX8_open_22 ?_
    exact aw_iret dX8_open_23 rfl (by rfl) rfl rfl (by decide) (by decide)
  · skip
    refine aw_ild2 dX8_open_11 ?_
    refine aw_S1v dX8_open_12 (c_isDay (by first | assumption | omega | (constructor <;> omega) | exact hG _ _)) hbY_X8_isDay hbm_X8_79 hbs_X8_isDay (Nat.le_of_ble_eq_true rfl) ⟨by decide, by decide⟩ (by decide) (by decide) ?_
    refine aw_ifb_eq (tg := 22) dX8_open_15 (by decide) (fun c15 => ?_) (fun c15 => ?_)
    · skip
      refine aw_iconst dX8_open_22 ?_
      exact aw_iret dX8_open_23 rfl (by rfl) rfl rfl (by decide) (by decide)
    · skip
      refine aw_ild3 dX8_open_18 ?_
      refine aw_if_ge (tg := 24) dX8_open_19 (by decide) (by first | exact hG _ _ | assumption | (constructor <;> omega)) (fun c19 => ?_) (fun c19 => ?_)
      · skip
        exact absurd ⟨by assumption, by assumption, by assumption⟩ hP
      · skip
        refine aw_iconst dX8_open_22 ?_
        exact aw_iret dX8_open_23 rfl (by rfl) rfl rfl (by decide) (by decide)
set_option maxRecDepth 20000 in
set_option maxHeartbeats 1000000 in
theorem c_openY {l : Launch} {G : hb_G} {F : hb_F} {na : Nat} {m d i : Int} (im : hb_in m) (id : hb_in d) (ii : hb_in i) (hP : hb_im G m ∧ (0 ≤ d ∧ d ≤ 30000) ∧ 0 ≤ i) {G2 : hb_G} (hS : hb_M l yX4_show cX4_show 2 none 4 0 0 [hb_r 32, hb_i (d * 100 + 100 - 1)] (hb_w G F na) (77 + na) (.inl none) (hb_w G2 F na) (77 + na)) (hG2 : hb_rg G2)  (hp : hb_tr (G2 34)) (hbn : hb_bn G2)  (hG : hb_rg G) : hb_M l yX8_open cX8_open 7 (some .int) 6 0 0 [hb_r 0, hb_i m, hb_i d, hb_i i] (hb_w G F na) (77 + na) (.inl (some (hb_i (hb_fd (hb_op G2 m d) 640 0 i)))) (hb_w G2 F na) (77 + na) := by
  refine hb_M_in rfl rfl (by decide) rfl (Nat.le_of_ble_eq_true rfl) ?_
  intro E z0 σ0
  have q3 : 0 ≤ d ∧ d ≤ 30000 := hP.2.1
  have key : ∀ (n t : Nat) (b : Int), t + n = 40 → 0 ≤ b → b ≤ i → hb_fd (hb_op G2 m d) (640 - t * 16) (t * 16) b = hb_fd (hb_op G2 m d) 640 0 i → hb_W l RX8 cX8_open 7 (some .int) "open" [] E z0 (hb_rm 6 0 0) σ0 (77 + na) (.inl (some (hb_i (hb_fd (hb_op G2 m d) 640 0 i)))) (hb_w G2 F na) (77 + na) 0 0 41 [hb_r 0, hb_i m, hb_i d, hb_i i, hb_i b, hb_i (t : Int)] [] (hb_w G2 F na) (77 + na) := by
    intro n
    induction n with
    | zero =>
      intro t b h0 h1 h2 h3
      have e9 : t = 40 := by omega
      subst e9
      refine aw_ild5 dX8_open_41 ?_
      refine aw_bipush dX8_open_43 (by decide) ?_
      refine aw_icmp_ge (tg := 115) dX8_open_45 (by decide) (by first | exact hG _ _ | assumption | (constructor <;> omega)) (by first | exact hG _ _ | assumption | (constructor <;> omega)) (fun c45 => ?_) (fun c45 => absurd c45 (by omega))
      refine aw_iconst dX8_open_115 ?_
      exact aw_iret dX8_open_116 rfl (by rw [← h3]; rfl) rfl rfl (by decide) (by decide)
    | succ n ih =>
      intro t b h0 h1 h2 h3
      have hG := hG2
      have key2 : ∀ (r k : Nat) (b : Int), k + r = 16 → 0 ≤ b → b ≤ i → hb_it G2 m t → hb_fd (hb_op G2 m d) (640 - (t * 16 + k)) (t * 16 + k) b = hb_fd (hb_op G2 m d) 640 0 i → hb_W l RX8 cX8_open 7 (some .int) "open" [] E z0 (hb_rm 6 0 0) σ0 (77 + na) (.inl (some (hb_i (hb_fd (hb_op G2 m d) 640 0 i)))) (hb_w G2 F na) (77 + na) 0 0 64 [hb_r 0, hb_i m, hb_i d, hb_i i, hb_i b, hb_i (t : Int), hb_i (k : Int)] [] (hb_w G2 F na) (77 + na) := by
        intro r
        induction r with
        | zero =>
          intro k b g0 g1 g2 g4 g3
          have e9 : k = 16 := by omega
          subst e9
          refine aw_ild6 dX8_open_64 ?_
          refine aw_bipush dX8_open_66 (by decide) ?_
          refine aw_icmp_ge (tg := 109) dX8_open_68 (by decide) (by first | exact hG _ _ | assumption | (constructor <;> omega)) (by first | exact hG _ _ | assumption | (constructor <;> omega)) (fun c68 => ?_) (fun c68 => absurd c68 (by omega))
          refine aw_iinc5 dX8_open_109 (by decide) ?_
          refine aw_goto (tg := 41) dX8_open_112 (by decide) ?_
          refine aw_dk_6_1 ?_
          exact ih (t + 1) b (by omega) g1 g2 (by rw [← g3, show (t + 1) * 16 = t * 16 + 16 by omega])
        | succ r ih2 =>
          intro k b g0 g1 g2 g4 g3
          have e8 : 640 - (t * 16 + k) = (640 - (t * 16 + (k + 1))) + 1 := by omega
          refine aw_ild6 dX8_open_64 ?_
          refine aw_bipush dX8_open_66 (by decide) ?_
          refine aw_icmp_ge (tg := 109) dX8_open_68 (by decide) (by first | exact hG _ _ | assumption | (constructor <;> omega)) (by first | exact hG _ _ | assumption | (constructor <;> omega)) (fun c68 => absurd c68 (by omega)) (fun c68 => ?_)
          refine aw_ald0 dX8_open_71 ?_
          refine aw_getf dX8_open_72 hbf_X8_56 rfl rfl ?_
          refine aw_ild5 dX8_open_75 ?_
          refine aw_ild6 dX8_open_77 ?_
          refine aw_ild2 dX8_open_79 ?_
          refine aw_V3v dX8_open_80 (c_isAskedAndOverdue (by omega) (by omega) q3 hbn hG) rfl rfl hbY_X4_isAskedAndOverdue hbm_X8_210 hbi_X4_isAskedAndOverdue hbe_X4_X4_isAskedAndOverdue (Nat.le_of_ble_eq_true rfl) ⟨by decide, by decide⟩ (by decide) (by decide) ?_
          refine aw_ifb_eq (tg := 103) dX8_open_83 (by decide) (fun c83 => ?_) (fun c83 => ?_)
          · skip
            refine aw_iinc6 dX8_open_103 (by decide) ?_
            refine aw_goto (tg := 64) dX8_open_106 (by decide) ?_
            first | exact ih2 (k + 1) _ (by omega) (by omega) (by omega) g4 (by rw [← g3, e8, hb_fd_s ((hb_op_i (by omega)).mpr ⟨g4, c83⟩) (by omega)]; rfl) | exact ih2 (k + 1) b (by omega) g1 g2 g4 (by rw [← g3, e8, hb_fd_n (fun h9 => c83 ((hb_op_i (by omega)).mp h9).2)]; rfl)
          · skip
            refine aw_ild4 dX8_open_86 ?_
            refine aw_if_ne (tg := 100) dX8_open_88 (by decide) (by first | exact hG _ _ | assumption | (constructor <;> omega)) (fun c88 => ?_) (fun c88 => ?_)
            · skip
              refine aw_iinc4 dX8_open_100 (by decide) ?_
              refine aw_iinc6 dX8_open_103 (by decide) ?_
              refine aw_goto (tg := 64) dX8_open_106 (by decide) ?_
              first | exact ih2 (k + 1) _ (by omega) (by omega) (by omega) g4 (by rw [← g3, e8, hb_fd_s ((hb_op_i (by omega)).mpr ⟨g4, c83⟩) (by omega)]; rfl) | exact ih2 (k + 1) b (by omega) g1 g2 g4 (by rw [← g3, e8, hb_fd_n (fun h9 => c83 ((hb_op_i (by omega)).mp h9).2)]; rfl)
            · skip
              refine aw_ild5 dX8_open_91 ?_
              refine aw_bipush dX8_open_93 (by decide) ?_
              refine aw_imul dX8_open_95 ?_
              refine aw_ild6 dX8_open_96 ?_
              refine aw_iadd dX8_open_98 ?_
              exact aw_iret dX8_open_99 rfl (by rw [← g3, e8]; subst c88; rw [hb_fd_0 ((hb_op_i (by omega)).mpr ⟨g4, c83⟩)]; exact congrArg (fun z => (Sum.inl (some (hb_i z)) : hb_O)) (by omega)) rfl rfl (by decide) (by decide)
      refine aw_ild5 dX8_open_41 ?_
      refine aw_bipush dX8_open_43 (by decide) ?_
      refine aw_icmp_ge (tg := 115) dX8_open_45 (by decide) (by first | exact hG _ _ | assumption | (constructor <;> omega)) (by first | exact hG _ _ | assumption | (constructor <;> omega)) (fun c45 => absurd c45 (by omega)) (fun c45 => ?_)
      refine aw_ald0 dX8_open_48 ?_
      refine aw_ild1 dX8_open_49 ?_
      refine aw_ild5 dX8_open_50 ?_
      refine aw_V2v dX8_open_52 (c_isInTreeOf im (by constructor <;> omega) hp hG) rfl rfl hbY_X8_isInTreeOf hbm_X8_207 hbi_X8_isInTreeOf hbe_X8_X8_isInTreeOf (Nat.le_of_ble_eq_true rfl) ⟨by decide, by decide⟩ (by decide) (by decide) ?_
      refine aw_ifb_ne (tg := 61) dX8_open_55 (by decide) (fun c55 => ?_) (fun c55 => ?_)
      · skip
        refine aw_iconst dX8_open_61 ?_
        refine aw_ipu6 dX8_open_62 (by decide) ?_
        exact key2 16 0 b (by omega) h1 h2 c55 h3
      · skip
        refine aw_goto (tg := 109) dX8_open_58 (by decide) ?_
        refine aw_iinc5 dX8_open_109 (by decide) ?_
        refine aw_goto (tg := 41) dX8_open_112 (by decide) ?_
        exact ih (t + 1) b (by omega) h1 h2 (by rw [← h3, show 640 - t * 16 = 640 - (t + 1) * 16 + 16 by omega, hb_fd_k 16 _ _ (fun j hj h9 => c55 ((hb_op_i hj).mp h9).1), show (t + 1) * 16 = t * 16 + 16 by omega])
  refine aw_ald0 dX8_open_0 ?_
  refine aw_getf dX8_open_1 hbf_X8_21 rfl rfl ?_
  refine aw_ild1 dX8_open_4 ?_
  refine aw_V1v dX8_open_5 (c_isMachine (by first | assumption | omega | (constructor <;> omega) | exact hG _ _) hG) rfl rfl hbY_X6_isMachine hbm_X8_109 hbi_X6_isMachine hbe_X6_X6_isMachine (Nat.le_of_ble_eq_true rfl) ⟨by decide, by decide⟩ (by decide) (by decide) ?_
  refine aw_ifb_eq (tg := 22) dX8_open_8 (by decide) (fun c8 => absurd c8 (by exact fun h8 => h8 hP.1)) (fun c8 => ?_)
  refine aw_ild2 dX8_open_11 ?_
  refine aw_S1v dX8_open_12 (c_isDay (by first | assumption | omega | (constructor <;> omega) | exact hG _ _)) hbY_X8_isDay hbm_X8_79 hbs_X8_isDay (Nat.le_of_ble_eq_true rfl) ⟨by decide, by decide⟩ (by decide) (by decide) ?_
  refine aw_ifb_eq (tg := 22) dX8_open_15 (by decide) (fun c15 => absurd c15 (by exact fun h8 => h8 hP.2.1)) (fun c15 => ?_)
  refine aw_ild3 dX8_open_18 ?_
  refine aw_if_ge (tg := 24) dX8_open_19 (by decide) ii (fun c19 => ?_) (fun c19 => absurd c19 (by omega))
  refine aw_ald0 dX8_open_24 ?_
  refine aw_getf dX8_open_25 hbf_X8_56 rfl rfl ?_
  refine aw_ild2 dX8_open_28 ?_
  refine aw_S1v dX8_open_29 (c_lastPointOf ) hbY_X8_lastPointOf hbm_X8_187 hbs_X8_lastPointOf (Nat.le_of_ble_eq_true rfl) ⟨by decide, by decide⟩ (by decide) (by decide) ?_
  refine aw_V1n dX8_open_32 hS rfl rfl hbY_X4_show hbm_X8_164 hbi_X4_show hbe_X4_X4_show (Nat.le_of_ble_eq_true rfl) ⟨by decide, by decide⟩ (by decide) (by decide) ?_
  refine aw_ild3 dX8_open_35 ?_
  refine aw_ipu4 dX8_open_36 (by decide) ?_
  refine aw_iconst dX8_open_38 ?_
  refine aw_ipu5 dX8_open_39 (by decide) ?_
  exact key 40 0 i (by omega) hP.2.2 (by omega) rfl
set_option maxRecDepth 20000 in
set_option maxHeartbeats 1000000 in
theorem c_groundedN {l : Launch} {G : hb_G} {F : hb_F} {na : Nat} {m d : Int} (im : hb_in m) (id : hb_in d) (hP : ¬ (hb_im G m ∧ (0 ≤ d ∧ d ≤ 30000))) (hG : hb_rg G) : hb_M l yX8_grounded cX8_grounded 4 (some .int) 5 0 0 [hb_r 0, hb_i m, hb_i d] (hb_w G F na) (77 + na) (.inl (some (hb_i (-1)))) (hb_w G F na) (77 + na) := by
  refine hb_M_in rfl rfl (by decide) rfl (Nat.le_of_ble_eq_true rfl) ?_
  intro E z0 σ0
  refine aw_ald0 dX8_grounded_0 ?_
  refine aw_getf dX8_grounded_1 hbf_X8_21 rfl rfl ?_
  refine aw_ild1 dX8_grounded_4 ?_
  refine aw_V1v dX8_grounded_5 (c_isMachine (by first | assumption | omega | (constructor <;> omega) | exact hG _ _) hG) rfl rfl hbY_X6_isMachine hbm_X8_109 hbi_X6_isMachine hbe_X6_X6_isMachine (Nat.le_of_ble_eq_true rfl) ⟨by decide, by decide⟩ (by decide) (by decide) ?_
  refine aw_ifb_eq (tg := 18) dX8_grounded_8 (by decide) (fun c8 => ?_) (fun c8 => ?_)
  · skip
    refine aw_iconst dX8_grounded_18 ?_
    exact aw_iret dX8_grounded_19 rfl (by rfl) rfl rfl (by decide) (by decide)
  · skip
    refine aw_ild2 dX8_grounded_11 ?_
    refine aw_S1v dX8_grounded_12 (c_isDay (by first | assumption | omega | (constructor <;> omega) | exact hG _ _)) hbY_X8_isDay hbm_X8_79 hbs_X8_isDay (Nat.le_of_ble_eq_true rfl) ⟨by decide, by decide⟩ (by decide) (by decide) ?_
    refine aw_ifb_ne (tg := 20) dX8_grounded_15 (by decide) (fun c15 => ?_) (fun c15 => ?_)
    · skip
      exact absurd ⟨by assumption, by assumption⟩ hP
    · skip
      refine aw_iconst dX8_grounded_18 ?_
      exact aw_iret dX8_grounded_19 rfl (by rfl) rfl rfl (by decide) (by decide)
def hb_gt (G : hb_G) (d t : Int) : Prop := ((0 < G 4 (G 7 t) ∧ G 4 (G 7 t) < G 38 t) ∨ (0 < G 5 (G 7 t) ∧ G 5 (G 7 t) < G 39 t)) ∨ hb_ep G t 4 ∨ hb_ow G t d 8
def hb_gr (G : hb_G) (m d n : Int) : Prop := ∃ t, (0 ≤ t ∧ t < n) ∧ (hb_it G m t ∧ hb_gt G d t)
set_option maxRecDepth 20000 in
set_option maxHeartbeats 1000000 in
theorem c_groundedY {l : Launch} {G : hb_G} {F : hb_F} {na : Nat} {m d : Int} (im : hb_in m) (id : hb_in d) (hP : hb_im G m ∧ (0 ≤ d ∧ d ≤ 30000)) {G2 : hb_G} (hS : hb_M l yX4_show cX4_show 2 none 4 0 0 [hb_r 32, hb_i (d * 100 + 100 - 1)] (hb_w G F na) (77 + na) (.inl none) (hb_w G2 F na) (77 + na)) (hG2 : hb_rg G2)  (hp : hb_tr (G2 34)) (hbn : hb_bn G2)  (hkd : ∀ t, 0 ≤ t ∧ t < 40 → G2 7 t ≠ -1 → 0 ≤ G2 7 t ∧ G2 7 t < 12) (hot : ∀ j, 0 ≤ j ∧ j < 8 → G2 20 j ≠ -1 → 0 ≤ G2 23 j ∧ G2 23 j < 16) (hG : hb_rg G) : hb_M l yX8_grounded cX8_grounded 4 (some .int) 6 0 0 [hb_r 0, hb_i m, hb_i d] (hb_w G F na) (77 + na) (.inl (some (hb_i (hb_b (hb_gr G2 m d 40))))) (hb_w G2 F na) (77 + na) := by
  refine hb_M_in rfl rfl (by decide) rfl (Nat.le_of_ble_eq_true rfl) ?_
  intro E z0 σ0
  have q3 : 0 ≤ d ∧ d ≤ 30000 := hP.2
  have key : ∀ (n : Nat) (j : Int), 0 ≤ j → j ≤ 40 → 40 - j < n → ¬ hb_gr G2 m d j → hb_W l RX8 cX8_grounded 4 (some .int) "grounded" [] E z0 (hb_rm 6 0 0) σ0 (77 + na) (.inl (some (hb_i (hb_b (hb_gr G2 m d 40))))) (hb_w G2 F na) (77 + na) 0 0 33 [hb_r 0, hb_i m, hb_i d, hb_i j] [] (hb_w G2 F na) (77 + na) := by
    intro n
    induction n with
    | zero => intro j h1 h2 h3; omega
    | succ n ih =>
      intro j h1 h2 h3 hno
      have hG := hG2
      refine aw_ild3 dX8_grounded_33 ?_
      refine aw_bipush dX8_grounded_34 (by decide) ?_
      refine aw_icmp_ge (tg := 82) dX8_grounded_36 (by decide) (by first | exact hG _ _ | assumption | (constructor <;> omega)) (by first | exact hG _ _ | assumption | (constructor <;> omega)) (fun c36 => ?_) (fun c36 => ?_)
      · skip
        refine aw_iconst dX8_grounded_82 ?_
        exact aw_iret dX8_grounded_83 rfl (by first | exact hb_oi1 ⟨j, by omega, c45, Or.inr (Or.inr (by assumption))⟩ | exact hb_oi1 ⟨j, by omega, c45, Or.inr (Or.inl (by assumption))⟩ | exact hb_oi1 ⟨j, by omega, c45, Or.inl (by assumption)⟩ | exact hb_oi0 (by have e9 : j = 40 := (by omega); subst e9; exact hno)) rfl rfl (by decide) (by decide)
      · skip
        have qk := hkd j (by omega)
        have qj : 0 ≤ j ∧ j < 40 := by omega
        refine aw_ald0 dX8_grounded_39 ?_
        refine aw_ild1 dX8_grounded_40 ?_
        refine aw_ild3 dX8_grounded_41 ?_
        refine aw_V2v dX8_grounded_42 (c_isInTreeOf im (by constructor <;> omega) hp hG) rfl rfl hbY_X8_isInTreeOf hbm_X8_207 hbi_X8_isInTreeOf hbe_X8_X8_isInTreeOf (Nat.le_of_ble_eq_true rfl) ⟨by decide, by decide⟩ (by decide) (by decide) ?_
        refine aw_ifb_eq (tg := 76) dX8_grounded_45 (by decide) (fun c45 => ?_) (fun c45 => ?_)
        · skip
          refine aw_iinc3 dX8_grounded_76 (by decide) ?_
          refine aw_goto (tg := 33) dX8_grounded_79 (by decide) ?_
          exact ih (j + 1) (by omega) (by omega) (by omega) (by unfold hb_gr at hno ⊢; rw [hb_exs h1]; rintro (h9 | ⟨h9, h8⟩); exact hno h9; first | exact c45 h9 | (rcases h8 with h8 | h8 | h8; exact c54 h8; exact c62 h8; exact c71 h8))
        · skip
          refine aw_ald0 dX8_grounded_48 ?_
          refine aw_ild3 dX8_grounded_49 ?_
          refine aw_ild2 dX8_grounded_50 ?_
          refine aw_V2v dX8_grounded_51 (c_isPastItsLife qj (qk c45.1.2.2) hG) rfl rfl hbY_X8_isPastItsLife hbm_X8_213 hbi_X8_isPastItsLife hbe_X8_X8_isPastItsLife (Nat.le_of_ble_eq_true rfl) ⟨by decide, by decide⟩ (by decide) (by decide) ?_
          refine aw_ifb_ne (tg := 74) dX8_grounded_54 (by decide) (fun c54 => ?_) (fun c54 => ?_)
          · skip
            refine aw_iconst dX8_grounded_74 ?_
            exact aw_iret dX8_grounded_75 rfl (by first | exact hb_oi1 ⟨j, by omega, c45, Or.inr (Or.inr (by assumption))⟩ | exact hb_oi1 ⟨j, by omega, c45, Or.inr (Or.inl (by assumption))⟩ | exact hb_oi1 ⟨j, by omega, c45, Or.inl (by assumption)⟩ | exact hb_oi0 (by have e9 : j = 40 := (by omega); subst e9; exact hno)) rfl rfl (by decide) (by decide)
          · skip
            refine aw_ald0 dX8_grounded_57 ?_
            refine aw_ild3 dX8_grounded_58 ?_
            refine aw_V1v dX8_grounded_59 (c_hasEmptyPlace qj (qk c45.1.2.2) hG) rfl rfl hbY_X8_hasEmptyPlace hbm_X8_216 hbi_X8_hasEmptyPlace hbe_X8_X8_hasEmptyPlace (Nat.le_of_ble_eq_true rfl) ⟨by decide, by decide⟩ (by decide) (by decide) ?_
            refine aw_ifb_ne (tg := 74) dX8_grounded_62 (by decide) (fun c62 => ?_) (fun c62 => ?_)
            · skip
              refine aw_iconst dX8_grounded_74 ?_
              exact aw_iret dX8_grounded_75 rfl (by first | exact hb_oi1 ⟨j, by omega, c45, Or.inr (Or.inr (by assumption))⟩ | exact hb_oi1 ⟨j, by omega, c45, Or.inr (Or.inl (by assumption))⟩ | exact hb_oi1 ⟨j, by omega, c45, Or.inl (by assumption)⟩ | exact hb_oi0 (by have e9 : j = 40 := (by omega); subst e9; exact hno)) rfl rfl (by decide) (by decide)
            · skip
              refine aw_ald0 dX8_grounded_65 ?_
              refine aw_ild3 dX8_grounded_66 ?_
              refine aw_ild2 dX8_grounded_67 ?_
              refine aw_V2v dX8_grounded_68 (c_owesAnOrder qj q3 (fun o9 h8 h7 => hot o9 h8 h7.1.2.2) hbn hG) rfl rfl hbY_X8_owesAnOrder hbm_X8_219 hbi_X8_owesAnOrder hbe_X8_X8_owesAnOrder (Nat.le_of_ble_eq_true rfl) ⟨by decide, by decide⟩ (by decide) (by decide) ?_
              refine aw_ifb_eq (tg := 76) dX8_grounded_71 (by decide) (fun c71 => ?_) (fun c71 => ?_)
              · skip
                refine aw_iinc3 dX8_grounded_76 (by decide) ?_
                refine aw_goto (tg := 33) dX8_grounded_79 (by decide) ?_
                exact ih (j + 1) (by omega) (by omega) (by omega) (by unfold hb_gr at hno ⊢; rw [hb_exs h1]; rintro (h9 | ⟨h9, h8⟩); exact hno h9; first | exact c45 h9 | (rcases h8 with h8 | h8 | h8; exact c54 h8; exact c62 h8; exact c71 h8))
              · skip
                refine aw_iconst dX8_grounded_74 ?_
                exact aw_iret dX8_grounded_75 rfl (by first | exact hb_oi1 ⟨j, by omega, c45, Or.inr (Or.inr (by assumption))⟩ | exact hb_oi1 ⟨j, by omega, c45, Or.inr (Or.inl (by assumption))⟩ | exact hb_oi1 ⟨j, by omega, c45, Or.inl (by assumption)⟩ | exact hb_oi0 (by have e9 : j = 40 := (by omega); subst e9; exact hno)) rfl rfl (by decide) (by decide)
  refine aw_ald0 dX8_grounded_0 ?_
  refine aw_getf dX8_grounded_1 hbf_X8_21 rfl rfl ?_
  refine aw_ild1 dX8_grounded_4 ?_
  refine aw_V1v dX8_grounded_5 (c_isMachine (by first | assumption | omega | (constructor <;> omega) | exact hG _ _) hG) rfl rfl hbY_X6_isMachine hbm_X8_109 hbi_X6_isMachine hbe_X6_X6_isMachine (Nat.le_of_ble_eq_true rfl) ⟨by decide, by decide⟩ (by decide) (by decide) ?_
  refine aw_ifb_eq (tg := 18) dX8_grounded_8 (by decide) (fun c8 => absurd c8 (by exact fun h8 => h8 hP.1)) (fun c8 => ?_)
  refine aw_ild2 dX8_grounded_11 ?_
  refine aw_S1v dX8_grounded_12 (c_isDay (by first | assumption | omega | (constructor <;> omega) | exact hG _ _)) hbY_X8_isDay hbm_X8_79 hbs_X8_isDay (Nat.le_of_ble_eq_true rfl) ⟨by decide, by decide⟩ (by decide) (by decide) ?_
  refine aw_ifb_ne (tg := 20) dX8_grounded_15 (by decide) (fun c15 => ?_) (fun c15 => absurd c15 (by exact fun h8 => h8 hP.2))
  refine aw_ald0 dX8_grounded_20 ?_
  refine aw_getf dX8_grounded_21 hbf_X8_56 rfl rfl ?_
  refine aw_ild2 dX8_grounded_24 ?_
  refine aw_S1v dX8_grounded_25 (c_lastPointOf ) hbY_X8_lastPointOf hbm_X8_187 hbs_X8_lastPointOf (Nat.le_of_ble_eq_true rfl) ⟨by decide, by decide⟩ (by decide) (by decide) ?_
  refine aw_V1n dX8_grounded_28 hS rfl rfl hbY_X4_show hbm_X8_164 hbi_X4_show hbe_X4_X4_show (Nat.le_of_ble_eq_true rfl) ⟨by decide, by decide⟩ (by decide) (by decide) ?_
  refine aw_iconst dX8_grounded_31 ?_
  refine aw_ipu3 dX8_grounded_32 (by decide) ?_
  exact key 41 0 (by omega) (by omega) (by omega) (fun ⟨p9, h8, _⟩ => by omega)
def hb_zh (f : Int → Int) (n k : Int) : Int → Int := fun x => if k < x ∧ x ≤ n then f (x - 1) else f x
def hb_zs (f : Int → Int) (n i v : Int) : Int → Int := fun x => if x = i then v else if i < x ∧ x ≤ n then f (x - 1) else f x
theorem hb_zh_n (f : Int → Int) (n : Int) : hb_zh f n n = f := by
  funext x
  unfold hb_zh
  rw [if_neg (by omega)]
theorem hb_zh_s (f : Int → Int) (n k : Int) (hk : k ≤ n) : hb_uf (hb_zh f n k) k (f (k - 1)) = hb_zh f n (k - 1) := by
  funext x
  unfold hb_uf hb_zh
  by_cases e : x = k
  · subst e
    rw [if_pos rfl, if_pos (by omega)]
  · rw [if_neg e]
    by_cases e2 : k < x ∧ x ≤ n
    · rw [if_pos e2, if_pos (by omega)]
    · rw [if_neg e2, if_neg (by omega)]
theorem hb_zh_e (f : Int → Int) (n i v : Int) : hb_uf (hb_zh f n i) i v = hb_zs f n i v := by
  funext x
  unfold hb_uf hb_zh hb_zs
  by_cases e : x = i
  · simp only [if_pos e]
  · simp only [if_neg e]
set_option maxRecDepth 20000 in
set_option maxHeartbeats 1000000 in
theorem c_sortIn {l : Launch} {G : hb_G} {F : hb_F} {na : Nat} {v n i : Int} (hv : hb_in v) (hn : 0 ≤ n ∧ n < 640) (hi : 0 ≤ i ∧ i ≤ n) (hbf : ∀ k, i ≤ k ∧ k < n → v < G 46 k) (hst : i = 0 ∨ (0 < i ∧ G 46 (i - 1) ≤ v)) (hG : hb_rg G) : hb_M l yX8_sortIn cX8_sortIn 4 none 0 0 0 [hb_r 0, hb_i v, hb_i n] (hb_w G F na) (77 + na) (.inl none) (hb_w (hb_u1 G 46 (hb_zs (G 46) n i v)) F na) (77 + na) := by
  refine hb_M_in rfl rfl (by decide) rfl (Nat.le_of_ble_eq_true rfl) ?_
  intro E z0 σ0
  have key : ∀ (m : Nat) (k : Int), i ≤ k → k ≤ n → k - i = m → hb_W l RX8 cX8_sortIn 4 none "sortIn" [] E z0 (hb_rm 0 0 0) σ0 (77 + na) (.inl none) (hb_w (hb_u1 G 46 (hb_zs (G 46) n i v)) F na) (77 + na) 0 0 2 [hb_r 0, hb_i v, hb_i n, hb_i k] [] (hb_w (hb_u1 G 46 (hb_zh (G 46) n (k))) F na) (77 + na) := by
    intro m
    induction m with
    | zero =>
      intro k h1 h2 h3
      have e9 : k = i := by omega
      subst e9
      rcases hst with h0 | h0
      · have h0 := h0
        refine aw_ild3 dX8_sortIn_2 ?_
        refine aw_if_le (tg := 38) dX8_sortIn_3 (by decide) (by constructor <;> omega) (fun c3 => ?_) (fun c3 => absurd c3 (by omega))
        refine aw_ald0 dX8_sortIn_38 ?_
        refine aw_getf dX8_sortIn_39 hbf_X8_60 rfl rfl ?_
        refine aw_ild3 dX8_sortIn_42 ?_
        refine aw_ild1 dX8_sortIn_43 ?_
        refine aw_iastw dX8_sortIn_44 (fun _ => rfl) rfl (by constructor <;> omega) (by decide) ?_
        refine aw_G (G2 := hb_u1 G 46 (hb_zs (G 46) n k v)) (by rw [hb_u2_u1, hb_zh_e]) ?_
        exact aw_vret dX8_sortIn_45 rfl rfl rfl rfl (by decide) (by decide)
      · have h7 := h0.2
        refine aw_ild3 dX8_sortIn_2 ?_
        refine aw_if_le (tg := 38) dX8_sortIn_3 (by decide) (by constructor <;> omega) (fun c3 => absurd c3 (by omega)) (fun c3 => ?_)
        refine aw_ald0 dX8_sortIn_6 ?_
        refine aw_getf dX8_sortIn_7 hbf_X8_60 rfl rfl ?_
        refine aw_ild3 dX8_sortIn_10 ?_
        refine aw_iconst dX8_sortIn_11 ?_
        refine aw_isub dX8_sortIn_12 ?_
        refine aw_iald dX8_sortIn_13 rfl (by constructor <;> omega) (by decide) ?_
        refine aw_top (c9 := G 46 (k - 1)) (by unfold hb_u1 hb_zh; rw [if_pos rfl, if_neg (by omega)]) ?_
        refine aw_ild1 dX8_sortIn_14 ?_
        refine aw_icmp_le (tg := 38) dX8_sortIn_15 (by decide) (hG _ _) hv (fun c15 => ?_) (fun c15 => absurd c15 (by omega))
        refine aw_ald0 dX8_sortIn_38 ?_
        refine aw_getf dX8_sortIn_39 hbf_X8_60 rfl rfl ?_
        refine aw_ild3 dX8_sortIn_42 ?_
        refine aw_ild1 dX8_sortIn_43 ?_
        refine aw_iastw dX8_sortIn_44 (fun _ => rfl) rfl (by constructor <;> omega) (by decide) ?_
        refine aw_G (G2 := hb_u1 G 46 (hb_zs (G 46) n k v)) (by rw [hb_u2_u1, hb_zh_e]) ?_
        exact aw_vret dX8_sortIn_45 rfl rfl rfl rfl (by decide) (by decide)
    | succ m ih =>
      intro k h1 h2 h3
      have h7 := hbf (k - 1) (by omega)
      refine aw_ild3 dX8_sortIn_2 ?_
      refine aw_if_le (tg := 38) dX8_sortIn_3 (by decide) (by constructor <;> omega) (fun c3 => absurd c3 (by omega)) (fun c3 => ?_)
      refine aw_ald0 dX8_sortIn_6 ?_
      refine aw_getf dX8_sortIn_7 hbf_X8_60 rfl rfl ?_
      refine aw_ild3 dX8_sortIn_10 ?_
      refine aw_iconst dX8_sortIn_11 ?_
      refine aw_isub dX8_sortIn_12 ?_
      refine aw_iald dX8_sortIn_13 rfl (by constructor <;> omega) (by decide) ?_
      refine aw_top (c9 := G 46 (k - 1)) (by unfold hb_u1 hb_zh; rw [if_pos rfl, if_neg (by omega)]) ?_
      refine aw_ild1 dX8_sortIn_14 ?_
      refine aw_icmp_le (tg := 38) dX8_sortIn_15 (by decide) (hG _ _) hv (fun c15 => absurd c15 (by omega)) (fun c15 => ?_)
      refine aw_ald0 dX8_sortIn_18 ?_
      refine aw_getf dX8_sortIn_19 hbf_X8_60 rfl rfl ?_
      refine aw_ild3 dX8_sortIn_22 ?_
      refine aw_ald0 dX8_sortIn_23 ?_
      refine aw_getf dX8_sortIn_24 hbf_X8_60 rfl rfl ?_
      refine aw_ild3 dX8_sortIn_27 ?_
      refine aw_iconst dX8_sortIn_28 ?_
      refine aw_isub dX8_sortIn_29 ?_
      refine aw_iald dX8_sortIn_30 rfl (by constructor <;> omega) (by decide) ?_
      refine aw_top (c9 := G 46 (k - 1)) (by unfold hb_u1 hb_zh; rw [if_pos rfl, if_neg (by omega)]) ?_
      refine aw_iastw dX8_sortIn_31 (fun _ => rfl) rfl (by constructor <;> omega) (by decide) ?_
      refine aw_G (G2 := hb_u1 G 46 (hb_zh (G 46) n (k - 1))) (by rw [hb_u2_u1, hb_zh_s _ _ _ (by omega)]) ?_
      refine aw_iinc3 dX8_sortIn_32 (by decide) ?_
      refine aw_goto (tg := 2) dX8_sortIn_35 (by decide) ?_
      exact ih (k + -1) (by omega) (by omega) (by omega)
  refine aw_G (G2 := hb_u1 G 46 (hb_zh (G 46) n n)) (by rw [hb_zh_n, hb_u1_id]) ?_
  refine aw_ild2 dX8_sortIn_0 ?_
  refine aw_ipu3 dX8_sortIn_1 (by decide) ?_
  exact key (n - i).toNat n (by omega) (by omega) (by omega)
set_option maxRecDepth 20000 in
set_option maxHeartbeats 1000000 in
theorem c_forecastThing {l : Launch} {G : hb_G} {F : hb_F} {na : Nat} {t d m c : Int} {SS : Nat → hb_G} {nn : Nat → Nat} (ht : 0 ≤ t ∧ t < 40) (hd : 0 ≤ d ∧ d ≤ 30000) (hm : 0 ≤ m ∧ m ≤ 1440) (hc : 0 ≤ c ∧ c ≤ 1440) (hS0 : G = SS 0) (hR : ∀ k, k ≤ 16 → hb_rg (SS k)) (hbn : ∀ k, k ≤ 16 → hb_bn (SS k)) (hst : ∀ k : Nat, k < 16 → (¬ hb_ak (SS k) t k ∧ SS (k + 1) = SS k ∧ nn (k + 1) = nn k) ∨ (hb_ak (SS k) t k ∧ 40000 < hb_fo (SS k) t k d m c ∧ SS (k + 1) = SS k ∧ nn (k + 1) = nn k) ∨ (hb_ak (SS k) t k ∧ hb_fo (SS k) t k d m c ≤ 40000 ∧ nn (k + 1) = nn k + 1 ∧ hb_M l yX8_sortIn cX8_sortIn 4 none 0 0 0 [hb_r 0, hb_i ((hb_fo (SS k) t k d m c * 40 + t) * 16 + k), hb_i (nn k : Int)] (hb_w (SS k) F na) (77 + na) (.inl none) (hb_w (SS (k + 1)) F na) (77 + na))) : hb_M l yX8_forecastThing cX8_forecastThing 9 (some .int) 4 0 0 [hb_r 0, hb_i t, hb_i d, hb_i m, hb_i c, hb_i (nn 0 : Int)] (hb_w G F na) (77 + na) (.inl (some (hb_i ((nn 16 : Int))))) (hb_w (SS 16) F na) (77 + na) := by
  refine hb_M_in rfl rfl (by decide) rfl (Nat.le_of_ble_eq_true rfl) ?_
  intro E z0 σ0
  have key : ∀ (n k : Nat), k + n = 16 → hb_W l RX8 cX8_forecastThing 9 (some .int) "forecastThing" [] E z0 (hb_rm 4 0 0) σ0 (77 + na) (.inl (some (hb_i ((nn 16 : Int))))) (hb_w (SS 16) F na) (77 + na) 0 0 7 [hb_r 0, hb_i t, hb_i d, hb_i m, hb_i c, hb_i (nn 0 : Int), hb_i (nn k : Int), hb_i (k : Int)] [] (hb_w (SS k) F na) (77 + na) := by
    intro n
    induction n with
    | zero =>
      intro k h0
      have e9 : k = 16 := by omega
      subst e9
      refine aw_ild7 dX8_forecastThing_7 ?_
      refine aw_bipush dX8_forecastThing_9 (by decide) ?_
      refine aw_icmp_ge (tg := 81) dX8_forecastThing_11 (by decide) (by first | exact hG _ _ | assumption | (constructor <;> omega)) (by first | exact hG _ _ | assumption | (constructor <;> omega)) (fun c11 => ?_) (fun c11 => absurd c11 (by omega))
      refine aw_ild6 dX8_forecastThing_81 ?_
      exact aw_iret dX8_forecastThing_83 rfl (by rfl) rfl rfl (by decide) (by decide)
    | succ n ih =>
      intro k h0
      have hG := hR k (by omega)
      have hk : 0 ≤ (k : Int) ∧ (k : Int) < 16 := by omega
      have h8 := hb_fo_in ht hk hd hm hc (hbn k (by omega))
      have h9 := ih (k + 1) (by omega)
      rcases hst k (by omega) with ⟨a1, a2, a3⟩ | ⟨a1, a2, a3, a4⟩ | ⟨a1, a2, a3, hM⟩
      · rw [a2, a3] at h9
        refine aw_ild7 dX8_forecastThing_7 ?_
        refine aw_bipush dX8_forecastThing_9 (by decide) ?_
        refine aw_icmp_ge (tg := 81) dX8_forecastThing_11 (by decide) (by first | exact hG _ _ | assumption | (constructor <;> omega)) (by first | exact hG _ _ | assumption | (constructor <;> omega)) (fun c11 => absurd c11 (by omega)) (fun c11 => ?_)
        refine aw_ald0 dX8_forecastThing_14 ?_
        refine aw_getf dX8_forecastThing_15 hbf_X8_56 rfl rfl ?_
        refine aw_ild1 dX8_forecastThing_18 ?_
        refine aw_ild7 dX8_forecastThing_19 ?_
        refine aw_V2v dX8_forecastThing_21 (c_isAsked ht (by constructor <;> omega) hG) rfl rfl hbY_X4_isAsked hbm_X8_200 hbi_X4_isAsked hbe_X4_X4_isAsked (Nat.le_of_ble_eq_true rfl) ⟨by decide, by decide⟩ (by decide) (by decide) ?_
        refine aw_ifb_ne (tg := 30) dX8_forecastThing_24 (by decide) (fun c24 => absurd c24 (by exact fun h7 => a1 h7)) (fun c24 => ?_)
        refine aw_goto (tg := 75) dX8_forecastThing_27 (by decide) ?_
        refine aw_iinc7 dX8_forecastThing_75 (by decide) ?_
        refine aw_goto (tg := 7) dX8_forecastThing_78 (by decide) ?_
        exact h9
      · rw [a3, a4] at h9
        refine aw_ild7 dX8_forecastThing_7 ?_
        refine aw_bipush dX8_forecastThing_9 (by decide) ?_
        refine aw_icmp_ge (tg := 81) dX8_forecastThing_11 (by decide) (by first | exact hG _ _ | assumption | (constructor <;> omega)) (by first | exact hG _ _ | assumption | (constructor <;> omega)) (fun c11 => absurd c11 (by omega)) (fun c11 => ?_)
        refine aw_ald0 dX8_forecastThing_14 ?_
        refine aw_getf dX8_forecastThing_15 hbf_X8_56 rfl rfl ?_
        refine aw_ild1 dX8_forecastThing_18 ?_
        refine aw_ild7 dX8_forecastThing_19 ?_
        refine aw_V2v dX8_forecastThing_21 (c_isAsked ht (by constructor <;> omega) hG) rfl rfl hbY_X4_isAsked hbm_X8_200 hbi_X4_isAsked hbe_X4_X4_isAsked (Nat.le_of_ble_eq_true rfl) ⟨by decide, by decide⟩ (by decide) (by decide) ?_
        refine aw_ifb_ne (tg := 30) dX8_forecastThing_24 (by decide) (fun c24 => ?_) (fun c24 => absurd c24 (by exact fun h7 => h7 a1))
        refine aw_ald0 dX8_forecastThing_30 ?_
        refine aw_getf dX8_forecastThing_31 hbf_X8_56 rfl rfl ?_
        refine aw_ild1 dX8_forecastThing_34 ?_
        refine aw_ild7 dX8_forecastThing_35 ?_
        refine aw_ild2 dX8_forecastThing_37 ?_
        refine aw_ild3 dX8_forecastThing_38 ?_
        refine aw_ild4 dX8_forecastThing_39 ?_
        refine aw_V5v dX8_forecastThing_41 (c_firstOverdueDay ht hk hd hm hc (hbn k (by omega)) hG) rfl rfl hbY_X4_firstOverdueDay hbm_X8_226 hbi_X4_firstOverdueDay hbe_X4_X4_firstOverdueDay (Nat.le_of_ble_eq_true rfl) ⟨by decide, by decide⟩ (by decide) (by decide) ?_
        refine aw_ipu8 dX8_forecastThing_44 (by decide) ?_
        refine aw_ild8 dX8_forecastThing_46 ?_
        refine aw_ldc (z := 40000) dX8_forecastThing_48 hbk_X8_229 ?_
        refine aw_icmp_gt (tg := 75) dX8_forecastThing_50 (by decide) (by constructor <;> omega) (by decide) (fun c50 => ?_) (fun c50 => absurd c50 (by omega))
        refine aw_iinc7 dX8_forecastThing_75 (by decide) ?_
        refine aw_goto (tg := 7) dX8_forecastThing_78 (by decide) ?_
        refine aw_dk_8_1 ?_
        exact h9
      · rw [a3] at h9
        refine aw_ild7 dX8_forecastThing_7 ?_
        refine aw_bipush dX8_forecastThing_9 (by decide) ?_
        refine aw_icmp_ge (tg := 81) dX8_forecastThing_11 (by decide) (by first | exact hG _ _ | assumption | (constructor <;> omega)) (by first | exact hG _ _ | assumption | (constructor <;> omega)) (fun c11 => absurd c11 (by omega)) (fun c11 => ?_)
        refine aw_ald0 dX8_forecastThing_14 ?_
        refine aw_getf dX8_forecastThing_15 hbf_X8_56 rfl rfl ?_
        refine aw_ild1 dX8_forecastThing_18 ?_
        refine aw_ild7 dX8_forecastThing_19 ?_
        refine aw_V2v dX8_forecastThing_21 (c_isAsked ht (by constructor <;> omega) hG) rfl rfl hbY_X4_isAsked hbm_X8_200 hbi_X4_isAsked hbe_X4_X4_isAsked (Nat.le_of_ble_eq_true rfl) ⟨by decide, by decide⟩ (by decide) (by decide) ?_
        refine aw_ifb_ne (tg := 30) dX8_forecastThing_24 (by decide) (fun c24 => ?_) (fun c24 => absurd c24 (by exact fun h7 => h7 a1))
        refine aw_ald0 dX8_forecastThing_30 ?_
        refine aw_getf dX8_forecastThing_31 hbf_X8_56 rfl rfl ?_
        refine aw_ild1 dX8_forecastThing_34 ?_
        refine aw_ild7 dX8_forecastThing_35 ?_
        refine aw_ild2 dX8_forecastThing_37 ?_
        refine aw_ild3 dX8_forecastThing_38 ?_
        refine aw_ild4 dX8_forecastThing_39 ?_
        refine aw_V5v dX8_forecastThing_41 (c_firstOverdueDay ht hk hd hm hc (hbn k (by omega)) hG) rfl rfl hbY_X4_firstOverdueDay hbm_X8_226 hbi_X4_firstOverdueDay hbe_X4_X4_firstOverdueDay (Nat.le_of_ble_eq_true rfl) ⟨by decide, by decide⟩ (by decide) (by decide) ?_
        refine aw_ipu8 dX8_forecastThing_44 (by decide) ?_
        refine aw_ild8 dX8_forecastThing_46 ?_
        refine aw_ldc (z := 40000) dX8_forecastThing_48 hbk_X8_229 ?_
        refine aw_icmp_gt (tg := 75) dX8_forecastThing_50 (by decide) (by constructor <;> omega) (by decide) (fun c50 => absurd c50 (by omega)) (fun c50 => ?_)
        refine aw_ald0 dX8_forecastThing_53 ?_
        refine aw_ild8 dX8_forecastThing_54 ?_
        refine aw_bipush dX8_forecastThing_56 (by decide) ?_
        refine aw_imul dX8_forecastThing_58 ?_
        refine aw_ild1 dX8_forecastThing_59 ?_
        refine aw_iadd dX8_forecastThing_60 ?_
        refine aw_bipush dX8_forecastThing_61 (by decide) ?_
        refine aw_imul dX8_forecastThing_63 ?_
        refine aw_ild7 dX8_forecastThing_64 ?_
        refine aw_iadd dX8_forecastThing_66 ?_
        refine aw_ild6 dX8_forecastThing_67 ?_
        refine aw_V2n dX8_forecastThing_69 hM rfl rfl hbY_X8_sortIn hbm_X8_230 hbi_X8_sortIn hbe_X8_X8_sortIn (Nat.le_of_ble_eq_true rfl) ⟨by decide, by decide⟩ (by decide) (by decide) ?_
        refine aw_iinc6 dX8_forecastThing_72 (by decide) ?_
        refine aw_iinc7 dX8_forecastThing_75 (by decide) ?_
        refine aw_goto (tg := 7) dX8_forecastThing_78 (by decide) ?_
        refine aw_dk_8_1 ?_
        exact h9
  refine aw_G (G2 := SS 0) hS0 ?_
  refine aw_ild5 dX8_forecastThing_0 ?_
  refine aw_ipu6 dX8_forecastThing_2 (by decide) ?_
  refine aw_iconst dX8_forecastThing_4 ?_
  refine aw_ipu7 dX8_forecastThing_5 (by decide) ?_
  exact key 16 0 (by omega)
set_option maxRecDepth 20000 in
set_option maxHeartbeats 1000000 in
theorem c_forecastN {l : Launch} {G : hb_G} {F : hb_F} {na : Nat} {m d a c i : Int} (im : hb_in m) (id : hb_in d) (ia : hb_in a) (ic : hb_in c) (ii : hb_in i) (hP : ¬ (hb_im G m ∧ (0 ≤ d ∧ d ≤ 30000) ∧ 0 ≤ i ∧ (0 ≤ a ∧ a ≤ 1440) ∧ (0 ≤ c ∧ c ≤ 1440))) (hG : hb_rg G) : hb_M l yX8_forecast cX8_forecast 8 (some .int) 6 0 0 [hb_r 0, hb_i m, hb_i d, hb_i a, hb_i c, hb_i i] (hb_w G F na) (77 + na) (.inl (some (hb_i (-1)))) (hb_w G F na) (77 + na) := by
  refine hb_M_in rfl rfl (by decide) rfl (Nat.le_of_ble_eq_true rfl) ?_
  intro E z0 σ0
  refine aw_ald0 dX8_forecast_0 ?_
  refine aw_getf dX8_forecast_1 hbf_X8_21 rfl rfl ?_
  refine aw_ild1 dX8_forecast_4 ?_
  refine aw_V1v dX8_forecast_5 (c_isMachine (by first | assumption | omega | (constructor <;> omega) | exact hG _ _) hG) rfl rfl hbY_X6_isMachine hbm_X8_109 hbi_X6_isMachine hbe_X6_X6_isMachine (Nat.le_of_ble_eq_true rfl) ⟨by decide, by decide⟩ (by decide) (by decide) ?_
  refine aw_ifb_eq (tg := 44) dX8_forecast_8 (by decide) (fun c8 => ?_) (fun c8 => ?_)
  · skip
    refine aw_iconst dX8_forecast_44 ?_
    exact aw_iret dX8_forecast_45 rfl (by rfl) rfl rfl (by decide) (by decide)
  · skip
    refine aw_ild2 dX8_forecast_11 ?_
    refine aw_S1v dX8_forecast_12 (c_isDay (by first | assumption | omega | (constructor <;> omega) | exact hG _ _)) hbY_X8_isDay hbm_X8_79 hbs_X8_isDay (Nat.le_of_ble_eq_true rfl) ⟨by decide, by decide⟩ (by decide) (by decide) ?_
    refine aw_ifb_eq (tg := 44) dX8_forecast_15 (by decide) (fun c15 => ?_) (fun c15 => ?_)
    · skip
      refine aw_iconst dX8_forecast_44 ?_
      exact aw_iret dX8_forecast_45 rfl (by rfl) rfl rfl (by decide) (by decide)
    · skip
      refine aw_ild5 dX8_forecast_18 ?_
      refine aw_if_lt (tg := 44) dX8_forecast_20 (by decide) ii (fun c20 => ?_) (fun c20 => ?_)
      · skip
        refine aw_iconst dX8_forecast_44 ?_
        exact aw_iret dX8_forecast_45 rfl (by rfl) rfl rfl (by decide) (by decide)
      · skip
        refine aw_ild3 dX8_forecast_23 ?_
        refine aw_sipush dX8_forecast_24 (by decide) ?_
        refine aw_S2v dX8_forecast_27 (c_isUpTo (by first | assumption | omega | (constructor <;> omega) | exact hG _ _) (by first | assumption | omega | (constructor <;> omega) | exact hG _ _)) hbY_X8_isUpTo hbm_X8_83 hbs_X8_isUpTo (Nat.le_of_ble_eq_true rfl) ⟨by decide, by decide⟩ (by decide) (by decide) ?_
        refine aw_ifb_eq (tg := 44) dX8_forecast_30 (by decide) (fun c30 => ?_) (fun c30 => ?_)
        · skip
          refine aw_iconst dX8_forecast_44 ?_
          exact aw_iret dX8_forecast_45 rfl (by rfl) rfl rfl (by decide) (by decide)
        · skip
          refine aw_ild4 dX8_forecast_33 ?_
          refine aw_sipush dX8_forecast_35 (by decide) ?_
          refine aw_S2v dX8_forecast_38 (c_isUpTo (by first | assumption | omega | (constructor <;> omega) | exact hG _ _) (by first | assumption | omega | (constructor <;> omega) | exact hG _ _)) hbY_X8_isUpTo hbm_X8_83 hbs_X8_isUpTo (Nat.le_of_ble_eq_true rfl) ⟨by decide, by decide⟩ (by decide) (by decide) ?_
          refine aw_ifb_ne (tg := 46) dX8_forecast_41 (by decide) (fun c41 => ?_) (fun c41 => ?_)
          · skip
            exact absurd ⟨by assumption, by assumption, by assumption, by assumption, by assumption⟩ hP
          · skip
            refine aw_iconst dX8_forecast_44 ?_
            exact aw_iret dX8_forecast_45 rfl (by rfl) rfl rfl (by decide) (by decide)
set_option maxRecDepth 20000 in
set_option maxHeartbeats 1000000 in
theorem c_forecastY {l : Launch} {G : hb_G} {F : hb_F} {na : Nat} {m d a c i : Int} (im : hb_in m) (id : hb_in d) (ia : hb_in a) (ic : hb_in c) (ii : hb_in i) (hP : hb_im G m ∧ (0 ≤ d ∧ d ≤ 30000) ∧ 0 ≤ i ∧ (0 ≤ a ∧ a ≤ 1440) ∧ (0 ≤ c ∧ c ≤ 1440)) {SS : Nat → hb_G} {nn : Nat → Nat} (hS : hb_M l yX4_show cX4_show 2 none 4 0 0 [hb_r 32, hb_i (d * 100 + 100 - 1)] (hb_w G F na) (77 + na) (.inl none) (hb_w (SS 0) F na) (77 + na)) (hR : ∀ t, t ≤ 40 → hb_rg (SS t)) (hp : ∀ t, t ≤ 40 → hb_tr (SS t 34)) (h0 : nn 0 = 0) (hst : ∀ t : Nat, t < 40 → (¬ hb_it (SS t) m t ∧ SS (t + 1) = SS t ∧ nn (t + 1) = nn t) ∨ (hb_it (SS t) m t ∧ hb_M l yX8_forecastThing cX8_forecastThing 9 (some .int) 4 0 0 [hb_r 0, hb_i (t : Int), hb_i d, hb_i a, hb_i c, hb_i (nn t : Int)] (hb_w (SS t) F na) (77 + na) (.inl (some (hb_i ((nn (t + 1) : Int))))) (hb_w (SS (t + 1)) F na) (77 + na))) (hn : nn 40 ≤ 640) (hG : hb_rg G) : hb_M l yX8_forecast cX8_forecast 8 (some .int) 6 0 0 [hb_r 0, hb_i m, hb_i d, hb_i a, hb_i c, hb_i i] (hb_w G F na) (77 + na) (.inl (some (hb_i (if i < nn 40 then SS 40 46 i else -1)))) (hb_w (SS 40) F na) (77 + na) := by
  refine hb_M_in rfl rfl (by decide) rfl (Nat.le_of_ble_eq_true rfl) ?_
  intro E z0 σ0
  have key : ∀ (n t : Nat), t + n = 40 → hb_W l RX8 cX8_forecast 8 (some .int) "forecast" [] E z0 (hb_rm 6 0 0) σ0 (77 + na) (.inl (some (hb_i (if i < nn 40 then SS 40 46 i else -1)))) (hb_w (SS 40) F na) (77 + na) 0 0 63 [hb_r 0, hb_i m, hb_i d, hb_i a, hb_i c, hb_i i, hb_i (nn t : Int), hb_i (t : Int)] [] (hb_w (SS t) F na) (77 + na) := by
    intro n
    induction n with
    | zero =>
      intro t g0
      have e9 : t = 40 := by omega
      subst e9
      have hG := hR 40 (by omega)
      refine aw_ild7 dX8_forecast_63 ?_
      refine aw_bipush dX8_forecast_65 (by decide) ?_
      refine aw_icmp_ge (tg := 100) dX8_forecast_67 (by decide) (by first | exact hG _ _ | assumption | (constructor <;> omega)) (by first | exact hG _ _ | assumption | (constructor <;> omega)) (fun c67 => ?_) (fun c67 => absurd c67 (by omega))
      refine aw_ild5 dX8_forecast_100 ?_
      refine aw_ild6 dX8_forecast_102 ?_
      refine aw_icmp_ge (tg := 117) dX8_forecast_104 (by decide) (by first | exact hG _ _ | assumption | (constructor <;> omega)) (by first | exact hG _ _ | assumption | (constructor <;> omega)) (fun c104 => ?_) (fun c104 => ?_)
      · skip
        refine aw_iconst dX8_forecast_117 ?_
        exact aw_iret dX8_forecast_118 rfl (by first | rw [if_pos (by omega)] | rw [if_neg (by omega)]) rfl rfl (by decide) (by decide)
      · skip
        refine aw_ald0 dX8_forecast_107 ?_
        refine aw_getf dX8_forecast_108 hbf_X8_60 rfl rfl ?_
        refine aw_ild5 dX8_forecast_111 ?_
        refine aw_iald dX8_forecast_113 rfl (by constructor <;> omega) (by decide) ?_
        refine aw_goto (tg := 118) dX8_forecast_114 (by decide) ?_
        exact aw_iret dX8_forecast_118 rfl (by first | rw [if_pos (by omega)] | rw [if_neg (by omega)]) rfl rfl (by decide) (by decide)
    | succ n ih =>
      intro t g0
      have hG := hR t (by omega)
      have h9 := ih (t + 1) (by omega)
      rcases hst t (by omega) with ⟨a1, a2, a3⟩ | ⟨a1, hM⟩
      · rw [a2, a3] at h9
        refine aw_ild7 dX8_forecast_63 ?_
        refine aw_bipush dX8_forecast_65 (by decide) ?_
        refine aw_icmp_ge (tg := 100) dX8_forecast_67 (by decide) (by first | exact hG _ _ | assumption | (constructor <;> omega)) (by first | exact hG _ _ | assumption | (constructor <;> omega)) (fun c67 => absurd c67 (by omega)) (fun c67 => ?_)
        refine aw_ald0 dX8_forecast_70 ?_
        refine aw_ild1 dX8_forecast_71 ?_
        refine aw_ild7 dX8_forecast_72 ?_
        refine aw_V2v dX8_forecast_74 (c_isInTreeOf im (by constructor <;> omega) (hp t (by omega)) hG) rfl rfl hbY_X8_isInTreeOf hbm_X8_207 hbi_X8_isInTreeOf hbe_X8_X8_isInTreeOf (Nat.le_of_ble_eq_true rfl) ⟨by decide, by decide⟩ (by decide) (by decide) ?_
        refine aw_ifb_eq (tg := 94) dX8_forecast_77 (by decide) (fun c77 => ?_) (fun c77 => absurd c77 (by exact fun h7 => a1 h7))
        refine aw_iinc7 dX8_forecast_94 (by decide) ?_
        refine aw_goto (tg := 63) dX8_forecast_97 (by decide) ?_
        exact h9
      · have h7 := h9
        refine aw_ild7 dX8_forecast_63 ?_
        refine aw_bipush dX8_forecast_65 (by decide) ?_
        refine aw_icmp_ge (tg := 100) dX8_forecast_67 (by decide) (by first | exact hG _ _ | assumption | (constructor <;> omega)) (by first | exact hG _ _ | assumption | (constructor <;> omega)) (fun c67 => absurd c67 (by omega)) (fun c67 => ?_)
        refine aw_ald0 dX8_forecast_70 ?_
        refine aw_ild1 dX8_forecast_71 ?_
        refine aw_ild7 dX8_forecast_72 ?_
        refine aw_V2v dX8_forecast_74 (c_isInTreeOf im (by constructor <;> omega) (hp t (by omega)) hG) rfl rfl hbY_X8_isInTreeOf hbm_X8_207 hbi_X8_isInTreeOf hbe_X8_X8_isInTreeOf (Nat.le_of_ble_eq_true rfl) ⟨by decide, by decide⟩ (by decide) (by decide) ?_
        refine aw_ifb_eq (tg := 94) dX8_forecast_77 (by decide) (fun c77 => absurd c77 (by exact fun h7 => h7 a1)) (fun c77 => ?_)
        refine aw_ald0 dX8_forecast_80 ?_
        refine aw_ild7 dX8_forecast_81 ?_
        refine aw_ild2 dX8_forecast_83 ?_
        refine aw_ild3 dX8_forecast_84 ?_
        refine aw_ild4 dX8_forecast_85 ?_
        refine aw_ild6 dX8_forecast_87 ?_
        refine aw_V5v dX8_forecast_89 hM rfl rfl hbY_X8_forecastThing hbm_X8_222 hbi_X8_forecastThing hbe_X8_X8_forecastThing (Nat.le_of_ble_eq_true rfl) ⟨by decide, by decide⟩ (by decide) (by decide) ?_
        refine aw_ist6 dX8_forecast_92 (by decide) ?_
        refine aw_iinc7 dX8_forecast_94 (by decide) ?_
        refine aw_goto (tg := 63) dX8_forecast_97 (by decide) ?_
        exact h9
  refine aw_ald0 dX8_forecast_0 ?_
  refine aw_getf dX8_forecast_1 hbf_X8_21 rfl rfl ?_
  refine aw_ild1 dX8_forecast_4 ?_
  refine aw_V1v dX8_forecast_5 (c_isMachine (by first | assumption | omega | (constructor <;> omega) | exact hG _ _) hG) rfl rfl hbY_X6_isMachine hbm_X8_109 hbi_X6_isMachine hbe_X6_X6_isMachine (Nat.le_of_ble_eq_true rfl) ⟨by decide, by decide⟩ (by decide) (by decide) ?_
  refine aw_ifb_eq (tg := 44) dX8_forecast_8 (by decide) (fun c8 => absurd c8 (by exact fun h8 => h8 hP.1)) (fun c8 => ?_)
  refine aw_ild2 dX8_forecast_11 ?_
  refine aw_S1v dX8_forecast_12 (c_isDay (by first | assumption | omega | (constructor <;> omega) | exact hG _ _)) hbY_X8_isDay hbm_X8_79 hbs_X8_isDay (Nat.le_of_ble_eq_true rfl) ⟨by decide, by decide⟩ (by decide) (by decide) ?_
  refine aw_ifb_eq (tg := 44) dX8_forecast_15 (by decide) (fun c15 => absurd c15 (by exact fun h8 => h8 hP.2.1)) (fun c15 => ?_)
  refine aw_ild5 dX8_forecast_18 ?_
  refine aw_if_lt (tg := 44) dX8_forecast_20 (by decide) ii (fun c20 => absurd c20 (by omega)) (fun c20 => ?_)
  refine aw_ild3 dX8_forecast_23 ?_
  refine aw_sipush dX8_forecast_24 (by decide) ?_
  refine aw_S2v dX8_forecast_27 (c_isUpTo (by first | assumption | omega | (constructor <;> omega) | exact hG _ _) (by first | assumption | omega | (constructor <;> omega) | exact hG _ _)) hbY_X8_isUpTo hbm_X8_83 hbs_X8_isUpTo (Nat.le_of_ble_eq_true rfl) ⟨by decide, by decide⟩ (by decide) (by decide) ?_
  refine aw_ifb_eq (tg := 44) dX8_forecast_30 (by decide) (fun c30 => absurd c30 (by exact fun h8 => h8 hP.2.2.2.1)) (fun c30 => ?_)
  refine aw_ild4 dX8_forecast_33 ?_
  refine aw_sipush dX8_forecast_35 (by decide) ?_
  refine aw_S2v dX8_forecast_38 (c_isUpTo (by first | assumption | omega | (constructor <;> omega) | exact hG _ _) (by first | assumption | omega | (constructor <;> omega) | exact hG _ _)) hbY_X8_isUpTo hbm_X8_83 hbs_X8_isUpTo (Nat.le_of_ble_eq_true rfl) ⟨by decide, by decide⟩ (by decide) (by decide) ?_
  refine aw_ifb_ne (tg := 46) dX8_forecast_41 (by decide) (fun c41 => ?_) (fun c41 => absurd c41 (by exact fun h8 => h8 hP.2.2.2.2))
  refine aw_ald0 dX8_forecast_46 ?_
  refine aw_getf dX8_forecast_47 hbf_X8_56 rfl rfl ?_
  refine aw_ild2 dX8_forecast_50 ?_
  refine aw_S1v dX8_forecast_51 (c_lastPointOf ) hbY_X8_lastPointOf hbm_X8_187 hbs_X8_lastPointOf (Nat.le_of_ble_eq_true rfl) ⟨by decide, by decide⟩ (by decide) (by decide) ?_
  refine aw_V1n dX8_forecast_54 hS rfl rfl hbY_X4_show hbm_X8_164 hbi_X4_show hbe_X4_X4_show (Nat.le_of_ble_eq_true rfl) ⟨by decide, by decide⟩ (by decide) (by decide) ?_
  refine aw_iconst dX8_forecast_57 ?_
  refine aw_ipu6 dX8_forecast_58 (by decide) ?_
  refine aw_iconst dX8_forecast_60 ?_
  refine aw_ipu7 dX8_forecast_61 (by decide) ?_
  have h8 := key 40 0 (by omega)
  rw [h0] at h8
  exact h8
