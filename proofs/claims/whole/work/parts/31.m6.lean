set_option maxRecDepth 20000 in
set_option maxHeartbeats 1000000 in
theorem c_mDueN {l : Launch} {G : hb_G} {F : hb_F} {na : Nat} {t k u d : Int} (it : hb_in t) (ik : hb_in k) (iu : hb_in u) (id : hb_in d) (hP : ¬ ((0 ≤ t ∧ t < 40 ∧ hb_u2 G 47 0 0 51 t ≠ -1) ∧ (0 ≤ k ∧ k < 16 ∧ hb_u2 G 47 0 0 55 k ≠ -1) ∧ (0 ≤ u ∧ u ≤ 2) ∧ (0 ≤ d ∧ d ≤ 30000))) (hG : hb_rg G) : hb_M l yX9_due cX9_due 5 (some .int) 2 0 0 [hb_r 47, hb_i t, hb_i k, hb_i u, hb_i d] (hb_w G F na) (77 + na) (.inl (some (hb_i (-1)))) (hb_w (hb_u2 G 47 0 0) F na) (77 + na) := by
  refine hb_M_in rfl rfl (by decide) rfl (Nat.le_of_ble_eq_true rfl) ?_
  intro E z0 σ0
  have hG0 := hG
  have hG : hb_rg (hb_u2 G 47 0 0) := hG0.u2 (by decide)
  refine aw_ald0 dX9_due_0 ?_
  refine aw_iconst dX9_due_1 ?_
  refine aw_putz (jz := 0) dX9_due_2 hbf_X9_95 hbS_X9 (fun C T n h9 => by cases h9; exact ⟨rfl, by decide +kernel, fun h8 => by cases h8⟩) rfl rfl rfl rfl ?_
  refine aw_ald0 dX9_due_5 ?_
  refine aw_ild1 dX9_due_6 ?_
  refine aw_V1v dX9_due_7 (c_mIsThing (by first | assumption | (constructor <;> omega) | exact hG _ _) hG) rfl rfl hbY_X9_isThing hbm_X9_104 hbi_X9_isThing hbe_X9_X9_isThing (Nat.le_of_ble_eq_true rfl) ⟨by decide, by decide⟩ (by decide) (by decide) ?_
  refine aw_ifb_eq (tg := 51) dX9_due_10 (by decide) (fun c10 => ?_) (fun c10 => ?_)
  · skip
    refine aw_iconst dX9_due_51 ?_
    exact aw_iret dX9_due_52 rfl (by rfl) rfl rfl (by decide) (by decide)
  · skip
    refine aw_ald0 dX9_due_13 ?_
    refine aw_ild2 dX9_due_14 ?_
    refine aw_V1v dX9_due_15 (c_mIsTask (by first | assumption | (constructor <;> omega) | exact hG _ _) hG) rfl rfl hbY_X9_isTask hbm_X9_120 hbi_X9_isTask hbe_X9_X9_isTask (Nat.le_of_ble_eq_true rfl) ⟨by decide, by decide⟩ (by decide) (by decide) ?_
    refine aw_ifb_eq (tg := 51) dX9_due_18 (by decide) (fun c18 => ?_) (fun c18 => ?_)
    · skip
      refine aw_iconst dX9_due_51 ?_
      exact aw_iret dX9_due_52 rfl (by rfl) rfl rfl (by decide) (by decide)
    · skip
      refine aw_ild3 dX9_due_21 ?_
      refine aw_iconst dX9_due_22 ?_
      refine aw_iconst dX9_due_23 ?_
      refine aw_S3v dX9_due_24 (c_within (by first | assumption | (constructor <;> omega) | exact hG _ _) (by first | assumption | (constructor <;> omega) | exact hG _ _) (by first | assumption | (constructor <;> omega) | exact hG _ _)) hbY_X9_within hbm_X9_99 hbs_X9_within (Nat.le_of_ble_eq_true rfl) ⟨by decide, by decide⟩ (by decide) (by decide) ?_
      refine aw_ifb_eq (tg := 51) dX9_due_27 (by decide) (fun c27 => ?_) (fun c27 => ?_)
      · skip
        refine aw_iconst dX9_due_51 ?_
        exact aw_iret dX9_due_52 rfl (by rfl) rfl rfl (by decide) (by decide)
      · skip
        refine aw_ild4 dX9_due_30 ?_
        refine aw_S1v dX9_due_32 (c_mIsDay (by first | assumption | (constructor <;> omega) | exact hG _ _)) hbY_X9_isDay hbm_X9_115 hbs_X9_isDay (Nat.le_of_ble_eq_true rfl) ⟨by decide, by decide⟩ (by decide) (by decide) ?_
        refine aw_ifb_eq (tg := 51) dX9_due_35 (by decide) (fun c35 => ?_) (fun c35 => ?_)
        · skip
          refine aw_iconst dX9_due_51 ?_
          exact aw_iret dX9_due_52 rfl (by rfl) rfl rfl (by decide) (by decide)
        · skip
          exact absurd (by omega) hP
set_option maxRecDepth 20000 in
set_option maxHeartbeats 1000000 in
theorem c_mDueZ0 {l : Launch} {G : hb_G} {F : hb_F} {na : Nat} {t k d : Int} (it : hb_in t) (ik : hb_in k) (id : hb_in d) (hP : (0 ≤ t ∧ t < 40 ∧ hb_u2 G 47 0 0 51 t ≠ -1) ∧ (0 ≤ k ∧ k < 16 ∧ hb_u2 G 47 0 0 55 k ≠ -1) ∧ (0 ≤ d ∧ d ≤ 30000)) (hz : (hb_u2 G 47 0 0) 56 (3 * k + 0) = 0) (hG : hb_rg G) : hb_M l yX9_due cX9_due 5 (some .int) 2 0 0 [hb_r 47, hb_i t, hb_i k, hb_i 0, hb_i d] (hb_w G F na) (77 + na) (.inl (some (hb_i (-1)))) (hb_w (hb_u2 G 47 0 0) F na) (77 + na) := by
  refine hb_M_in rfl rfl (by decide) rfl (Nat.le_of_ble_eq_true rfl) ?_
  intro E z0 σ0
  have hG0 := hG
  have hG : hb_rg (hb_u2 G 47 0 0) := hG0.u2 (by decide)
  refine aw_ald0 dX9_due_0 ?_
  refine aw_iconst dX9_due_1 ?_
  refine aw_putz (jz := 0) dX9_due_2 hbf_X9_95 hbS_X9 (fun C T n h9 => by cases h9; exact ⟨rfl, by decide +kernel, fun h8 => by cases h8⟩) rfl rfl rfl rfl ?_
  refine aw_ald0 dX9_due_5 ?_
  refine aw_ild1 dX9_due_6 ?_
  refine aw_V1v dX9_due_7 (c_mIsThing (by first | assumption | (constructor <;> omega) | exact hG _ _) hG) rfl rfl hbY_X9_isThing hbm_X9_104 hbi_X9_isThing hbe_X9_X9_isThing (Nat.le_of_ble_eq_true rfl) ⟨by decide, by decide⟩ (by decide) (by decide) ?_
  refine aw_ifb_eq (tg := 51) dX9_due_10 (by decide) (fun c10 => absurd c10 (by exact fun h8 => h8 (by omega))) (fun c10 => ?_)
  refine aw_ald0 dX9_due_13 ?_
  refine aw_ild2 dX9_due_14 ?_
  refine aw_V1v dX9_due_15 (c_mIsTask (by first | assumption | (constructor <;> omega) | exact hG _ _) hG) rfl rfl hbY_X9_isTask hbm_X9_120 hbi_X9_isTask hbe_X9_X9_isTask (Nat.le_of_ble_eq_true rfl) ⟨by decide, by decide⟩ (by decide) (by decide) ?_
  refine aw_ifb_eq (tg := 51) dX9_due_18 (by decide) (fun c18 => absurd c18 (by exact fun h8 => h8 (by omega))) (fun c18 => ?_)
  refine aw_ild3 dX9_due_21 ?_
  refine aw_iconst dX9_due_22 ?_
  refine aw_iconst dX9_due_23 ?_
  refine aw_S3v dX9_due_24 (c_within (by first | assumption | (constructor <;> omega) | exact hG _ _) (by first | assumption | (constructor <;> omega) | exact hG _ _) (by first | assumption | (constructor <;> omega) | exact hG _ _)) hbY_X9_within hbm_X9_99 hbs_X9_within (Nat.le_of_ble_eq_true rfl) ⟨by decide, by decide⟩ (by decide) (by decide) ?_
  refine aw_ifb_eq (tg := 51) dX9_due_27 (by decide) (fun c27 => absurd c27 (by exact fun h8 => h8 (by omega))) (fun c27 => ?_)
  refine aw_ild4 dX9_due_30 ?_
  refine aw_S1v dX9_due_32 (c_mIsDay (by first | assumption | (constructor <;> omega) | exact hG _ _)) hbY_X9_isDay hbm_X9_115 hbs_X9_isDay (Nat.le_of_ble_eq_true rfl) ⟨by decide, by decide⟩ (by decide) (by decide) ?_
  refine aw_ifb_eq (tg := 51) dX9_due_35 (by decide) (fun c35 => absurd c35 (by exact fun h8 => h8 (by omega))) (fun c35 => ?_)
  refine aw_ald0 dX9_due_38 ?_
  refine aw_getf dX9_due_39 hbf_X9_34 rfl rfl ?_
  refine aw_iconst dX9_due_42 ?_
  refine aw_ild2 dX9_due_43 ?_
  refine aw_imul dX9_due_44 ?_
  refine aw_ild3 dX9_due_45 ?_
  refine aw_iadd dX9_due_46 ?_
  refine aw_iald dX9_due_47 rfl (by constructor <;> omega) (by decide) ?_
  refine aw_if_ne (tg := 53) dX9_due_48 (by decide) (hG _ _) (fun c48 => absurd c48 (by omega)) (fun c48 => ?_)
  refine aw_iconst dX9_due_51 ?_
  exact aw_iret dX9_due_52 rfl (by rfl) rfl rfl (by decide) (by decide)
set_option maxRecDepth 20000 in
set_option maxHeartbeats 1000000 in
theorem c_mDueY0 {l : Launch} {G : hb_G} {F : hb_F} {na : Nat} {t k d r9 : Int} (it : hb_in t) (ik : hb_in k) (id : hb_in d) (hP : (0 ≤ t ∧ t < 40 ∧ hb_u2 G 47 0 0 51 t ≠ -1) ∧ (0 ≤ k ∧ k < 16 ∧ hb_u2 G 47 0 0 55 k ≠ -1) ∧ (0 ≤ d ∧ d ≤ 30000)) (hz : (hb_u2 G 47 0 0) 56 (3 * k + 0) ≠ 0) (hD : hb_M l yX9_dueAt cX9_dueAt 14 (some .int) 1 0 0 [hb_r 47, hb_i t, hb_i k, hb_i 0, hb_i (100 * d + 99)] (hb_w (hb_u2 G 47 0 0) F na) (77 + na) (.inl (some (hb_i (r9)))) (hb_w (hb_u2 G 47 0 0) F na) (77 + na)) (hG : hb_rg G) : hb_M l yX9_due cX9_due 5 (some .int) 2 0 0 [hb_r 47, hb_i t, hb_i k, hb_i 0, hb_i d] (hb_w G F na) (77 + na) (.inl (some (hb_i (r9)))) (hb_w (hb_u2 G 47 0 0) F na) (77 + na) := by
  refine hb_M_in rfl rfl (by decide) rfl (Nat.le_of_ble_eq_true rfl) ?_
  intro E z0 σ0
  have hG0 := hG
  have hG : hb_rg (hb_u2 G 47 0 0) := hG0.u2 (by decide)
  refine aw_ald0 dX9_due_0 ?_
  refine aw_iconst dX9_due_1 ?_
  refine aw_putz (jz := 0) dX9_due_2 hbf_X9_95 hbS_X9 (fun C T n h9 => by cases h9; exact ⟨rfl, by decide +kernel, fun h8 => by cases h8⟩) rfl rfl rfl rfl ?_
  refine aw_ald0 dX9_due_5 ?_
  refine aw_ild1 dX9_due_6 ?_
  refine aw_V1v dX9_due_7 (c_mIsThing (by first | assumption | (constructor <;> omega) | exact hG _ _) hG) rfl rfl hbY_X9_isThing hbm_X9_104 hbi_X9_isThing hbe_X9_X9_isThing (Nat.le_of_ble_eq_true rfl) ⟨by decide, by decide⟩ (by decide) (by decide) ?_
  refine aw_ifb_eq (tg := 51) dX9_due_10 (by decide) (fun c10 => absurd c10 (by exact fun h8 => h8 (by omega))) (fun c10 => ?_)
  refine aw_ald0 dX9_due_13 ?_
  refine aw_ild2 dX9_due_14 ?_
  refine aw_V1v dX9_due_15 (c_mIsTask (by first | assumption | (constructor <;> omega) | exact hG _ _) hG) rfl rfl hbY_X9_isTask hbm_X9_120 hbi_X9_isTask hbe_X9_X9_isTask (Nat.le_of_ble_eq_true rfl) ⟨by decide, by decide⟩ (by decide) (by decide) ?_
  refine aw_ifb_eq (tg := 51) dX9_due_18 (by decide) (fun c18 => absurd c18 (by exact fun h8 => h8 (by omega))) (fun c18 => ?_)
  refine aw_ild3 dX9_due_21 ?_
  refine aw_iconst dX9_due_22 ?_
  refine aw_iconst dX9_due_23 ?_
  refine aw_S3v dX9_due_24 (c_within (by first | assumption | (constructor <;> omega) | exact hG _ _) (by first | assumption | (constructor <;> omega) | exact hG _ _) (by first | assumption | (constructor <;> omega) | exact hG _ _)) hbY_X9_within hbm_X9_99 hbs_X9_within (Nat.le_of_ble_eq_true rfl) ⟨by decide, by decide⟩ (by decide) (by decide) ?_
  refine aw_ifb_eq (tg := 51) dX9_due_27 (by decide) (fun c27 => absurd c27 (by exact fun h8 => h8 (by omega))) (fun c27 => ?_)
  refine aw_ild4 dX9_due_30 ?_
  refine aw_S1v dX9_due_32 (c_mIsDay (by first | assumption | (constructor <;> omega) | exact hG _ _)) hbY_X9_isDay hbm_X9_115 hbs_X9_isDay (Nat.le_of_ble_eq_true rfl) ⟨by decide, by decide⟩ (by decide) (by decide) ?_
  refine aw_ifb_eq (tg := 51) dX9_due_35 (by decide) (fun c35 => absurd c35 (by exact fun h8 => h8 (by omega))) (fun c35 => ?_)
  refine aw_ald0 dX9_due_38 ?_
  refine aw_getf dX9_due_39 hbf_X9_34 rfl rfl ?_
  refine aw_iconst dX9_due_42 ?_
  refine aw_ild2 dX9_due_43 ?_
  refine aw_imul dX9_due_44 ?_
  refine aw_ild3 dX9_due_45 ?_
  refine aw_iadd dX9_due_46 ?_
  refine aw_iald dX9_due_47 rfl (by constructor <;> omega) (by decide) ?_
  refine aw_if_ne (tg := 53) dX9_due_48 (by decide) (hG _ _) (fun c48 => ?_) (fun c48 => absurd c48 (by omega))
  refine aw_ald0 dX9_due_53 ?_
  refine aw_ild1 dX9_due_54 ?_
  refine aw_ild2 dX9_due_55 ?_
  refine aw_ild3 dX9_due_56 ?_
  refine aw_bipush dX9_due_57 (by decide) ?_
  refine aw_ild4 dX9_due_59 ?_
  refine aw_imul dX9_due_61 ?_
  refine aw_bipush dX9_due_62 (by decide) ?_
  refine aw_iadd dX9_due_64 ?_
  refine aw_V4v dX9_due_65 hD rfl rfl hbY_X9_dueAt hbm_X9_206 hbi_X9_dueAt hbe_X9_X9_dueAt (Nat.le_of_ble_eq_true rfl) ⟨by decide, by decide⟩ (by decide) (by decide) ?_
  exact aw_iret dX9_due_68 rfl (by rfl) rfl rfl (by decide) (by decide)
set_option maxRecDepth 20000 in
set_option maxHeartbeats 1000000 in
theorem c_mDueZ1 {l : Launch} {G : hb_G} {F : hb_F} {na : Nat} {t k d : Int} (it : hb_in t) (ik : hb_in k) (id : hb_in d) (hP : (0 ≤ t ∧ t < 40 ∧ hb_u2 G 47 0 0 51 t ≠ -1) ∧ (0 ≤ k ∧ k < 16 ∧ hb_u2 G 47 0 0 55 k ≠ -1) ∧ (0 ≤ d ∧ d ≤ 30000)) (hz : (hb_u2 G 47 0 0) 56 (3 * k + 1) = 0) (hG : hb_rg G) : hb_M l yX9_due cX9_due 5 (some .int) 2 0 0 [hb_r 47, hb_i t, hb_i k, hb_i 1, hb_i d] (hb_w G F na) (77 + na) (.inl (some (hb_i (-1)))) (hb_w (hb_u2 G 47 0 0) F na) (77 + na) := by
  refine hb_M_in rfl rfl (by decide) rfl (Nat.le_of_ble_eq_true rfl) ?_
  intro E z0 σ0
  have hG0 := hG
  have hG : hb_rg (hb_u2 G 47 0 0) := hG0.u2 (by decide)
  refine aw_ald0 dX9_due_0 ?_
  refine aw_iconst dX9_due_1 ?_
  refine aw_putz (jz := 0) dX9_due_2 hbf_X9_95 hbS_X9 (fun C T n h9 => by cases h9; exact ⟨rfl, by decide +kernel, fun h8 => by cases h8⟩) rfl rfl rfl rfl ?_
  refine aw_ald0 dX9_due_5 ?_
  refine aw_ild1 dX9_due_6 ?_
  refine aw_V1v dX9_due_7 (c_mIsThing (by first | assumption | (constructor <;> omega) | exact hG _ _) hG) rfl rfl hbY_X9_isThing hbm_X9_104 hbi_X9_isThing hbe_X9_X9_isThing (Nat.le_of_ble_eq_true rfl) ⟨by decide, by decide⟩ (by decide) (by decide) ?_
  refine aw_ifb_eq (tg := 51) dX9_due_10 (by decide) (fun c10 => absurd c10 (by exact fun h8 => h8 (by omega))) (fun c10 => ?_)
  refine aw_ald0 dX9_due_13 ?_
  refine aw_ild2 dX9_due_14 ?_
  refine aw_V1v dX9_due_15 (c_mIsTask (by first | assumption | (constructor <;> omega) | exact hG _ _) hG) rfl rfl hbY_X9_isTask hbm_X9_120 hbi_X9_isTask hbe_X9_X9_isTask (Nat.le_of_ble_eq_true rfl) ⟨by decide, by decide⟩ (by decide) (by decide) ?_
  refine aw_ifb_eq (tg := 51) dX9_due_18 (by decide) (fun c18 => absurd c18 (by exact fun h8 => h8 (by omega))) (fun c18 => ?_)
  refine aw_ild3 dX9_due_21 ?_
  refine aw_iconst dX9_due_22 ?_
  refine aw_iconst dX9_due_23 ?_
  refine aw_S3v dX9_due_24 (c_within (by first | assumption | (constructor <;> omega) | exact hG _ _) (by first | assumption | (constructor <;> omega) | exact hG _ _) (by first | assumption | (constructor <;> omega) | exact hG _ _)) hbY_X9_within hbm_X9_99 hbs_X9_within (Nat.le_of_ble_eq_true rfl) ⟨by decide, by decide⟩ (by decide) (by decide) ?_
  refine aw_ifb_eq (tg := 51) dX9_due_27 (by decide) (fun c27 => absurd c27 (by exact fun h8 => h8 (by omega))) (fun c27 => ?_)
  refine aw_ild4 dX9_due_30 ?_
  refine aw_S1v dX9_due_32 (c_mIsDay (by first | assumption | (constructor <;> omega) | exact hG _ _)) hbY_X9_isDay hbm_X9_115 hbs_X9_isDay (Nat.le_of_ble_eq_true rfl) ⟨by decide, by decide⟩ (by decide) (by decide) ?_
  refine aw_ifb_eq (tg := 51) dX9_due_35 (by decide) (fun c35 => absurd c35 (by exact fun h8 => h8 (by omega))) (fun c35 => ?_)
  refine aw_ald0 dX9_due_38 ?_
  refine aw_getf dX9_due_39 hbf_X9_34 rfl rfl ?_
  refine aw_iconst dX9_due_42 ?_
  refine aw_ild2 dX9_due_43 ?_
  refine aw_imul dX9_due_44 ?_
  refine aw_ild3 dX9_due_45 ?_
  refine aw_iadd dX9_due_46 ?_
  refine aw_iald dX9_due_47 rfl (by constructor <;> omega) (by decide) ?_
  refine aw_if_ne (tg := 53) dX9_due_48 (by decide) (hG _ _) (fun c48 => absurd c48 (by omega)) (fun c48 => ?_)
  refine aw_iconst dX9_due_51 ?_
  exact aw_iret dX9_due_52 rfl (by rfl) rfl rfl (by decide) (by decide)
set_option maxRecDepth 20000 in
set_option maxHeartbeats 1000000 in
theorem c_mDueY1 {l : Launch} {G : hb_G} {F : hb_F} {na : Nat} {t k d r9 : Int} (it : hb_in t) (ik : hb_in k) (id : hb_in d) (hP : (0 ≤ t ∧ t < 40 ∧ hb_u2 G 47 0 0 51 t ≠ -1) ∧ (0 ≤ k ∧ k < 16 ∧ hb_u2 G 47 0 0 55 k ≠ -1) ∧ (0 ≤ d ∧ d ≤ 30000)) (hz : (hb_u2 G 47 0 0) 56 (3 * k + 1) ≠ 0) (hD : hb_M l yX9_dueAt cX9_dueAt 14 (some .int) 1 0 0 [hb_r 47, hb_i t, hb_i k, hb_i 1, hb_i (100 * d + 99)] (hb_w (hb_u2 G 47 0 0) F na) (77 + na) (.inl (some (hb_i (r9)))) (hb_w (hb_u2 G 47 0 0) F na) (77 + na)) (hG : hb_rg G) : hb_M l yX9_due cX9_due 5 (some .int) 2 0 0 [hb_r 47, hb_i t, hb_i k, hb_i 1, hb_i d] (hb_w G F na) (77 + na) (.inl (some (hb_i (r9)))) (hb_w (hb_u2 G 47 0 0) F na) (77 + na) := by
  refine hb_M_in rfl rfl (by decide) rfl (Nat.le_of_ble_eq_true rfl) ?_
  intro E z0 σ0
  have hG0 := hG
  have hG : hb_rg (hb_u2 G 47 0 0) := hG0.u2 (by decide)
  refine aw_ald0 dX9_due_0 ?_
  refine aw_iconst dX9_due_1 ?_
  refine aw_putz (jz := 0) dX9_due_2 hbf_X9_95 hbS_X9 (fun C T n h9 => by cases h9; exact ⟨rfl, by decide +kernel, fun h8 => by cases h8⟩) rfl rfl rfl rfl ?_
  refine aw_ald0 dX9_due_5 ?_
  refine aw_ild1 dX9_due_6 ?_
  refine aw_V1v dX9_due_7 (c_mIsThing (by first | assumption | (constructor <;> omega) | exact hG _ _) hG) rfl rfl hbY_X9_isThing hbm_X9_104 hbi_X9_isThing hbe_X9_X9_isThing (Nat.le_of_ble_eq_true rfl) ⟨by decide, by decide⟩ (by decide) (by decide) ?_
  refine aw_ifb_eq (tg := 51) dX9_due_10 (by decide) (fun c10 => absurd c10 (by exact fun h8 => h8 (by omega))) (fun c10 => ?_)
  refine aw_ald0 dX9_due_13 ?_
  refine aw_ild2 dX9_due_14 ?_
  refine aw_V1v dX9_due_15 (c_mIsTask (by first | assumption | (constructor <;> omega) | exact hG _ _) hG) rfl rfl hbY_X9_isTask hbm_X9_120 hbi_X9_isTask hbe_X9_X9_isTask (Nat.le_of_ble_eq_true rfl) ⟨by decide, by decide⟩ (by decide) (by decide) ?_
  refine aw_ifb_eq (tg := 51) dX9_due_18 (by decide) (fun c18 => absurd c18 (by exact fun h8 => h8 (by omega))) (fun c18 => ?_)
  refine aw_ild3 dX9_due_21 ?_
  refine aw_iconst dX9_due_22 ?_
  refine aw_iconst dX9_due_23 ?_
  refine aw_S3v dX9_due_24 (c_within (by first | assumption | (constructor <;> omega) | exact hG _ _) (by first | assumption | (constructor <;> omega) | exact hG _ _) (by first | assumption | (constructor <;> omega) | exact hG _ _)) hbY_X9_within hbm_X9_99 hbs_X9_within (Nat.le_of_ble_eq_true rfl) ⟨by decide, by decide⟩ (by decide) (by decide) ?_
  refine aw_ifb_eq (tg := 51) dX9_due_27 (by decide) (fun c27 => absurd c27 (by exact fun h8 => h8 (by omega))) (fun c27 => ?_)
  refine aw_ild4 dX9_due_30 ?_
  refine aw_S1v dX9_due_32 (c_mIsDay (by first | assumption | (constructor <;> omega) | exact hG _ _)) hbY_X9_isDay hbm_X9_115 hbs_X9_isDay (Nat.le_of_ble_eq_true rfl) ⟨by decide, by decide⟩ (by decide) (by decide) ?_
  refine aw_ifb_eq (tg := 51) dX9_due_35 (by decide) (fun c35 => absurd c35 (by exact fun h8 => h8 (by omega))) (fun c35 => ?_)
  refine aw_ald0 dX9_due_38 ?_
  refine aw_getf dX9_due_39 hbf_X9_34 rfl rfl ?_
  refine aw_iconst dX9_due_42 ?_
  refine aw_ild2 dX9_due_43 ?_
  refine aw_imul dX9_due_44 ?_
  refine aw_ild3 dX9_due_45 ?_
  refine aw_iadd dX9_due_46 ?_
  refine aw_iald dX9_due_47 rfl (by constructor <;> omega) (by decide) ?_
  refine aw_if_ne (tg := 53) dX9_due_48 (by decide) (hG _ _) (fun c48 => ?_) (fun c48 => absurd c48 (by omega))
  refine aw_ald0 dX9_due_53 ?_
  refine aw_ild1 dX9_due_54 ?_
  refine aw_ild2 dX9_due_55 ?_
  refine aw_ild3 dX9_due_56 ?_
  refine aw_bipush dX9_due_57 (by decide) ?_
  refine aw_ild4 dX9_due_59 ?_
  refine aw_imul dX9_due_61 ?_
  refine aw_bipush dX9_due_62 (by decide) ?_
  refine aw_iadd dX9_due_64 ?_
  refine aw_V4v dX9_due_65 hD rfl rfl hbY_X9_dueAt hbm_X9_206 hbi_X9_dueAt hbe_X9_X9_dueAt (Nat.le_of_ble_eq_true rfl) ⟨by decide, by decide⟩ (by decide) (by decide) ?_
  exact aw_iret dX9_due_68 rfl (by rfl) rfl rfl (by decide) (by decide)
set_option maxRecDepth 20000 in
set_option maxHeartbeats 1000000 in
theorem c_mDueZ2 {l : Launch} {G : hb_G} {F : hb_F} {na : Nat} {t k d : Int} (it : hb_in t) (ik : hb_in k) (id : hb_in d) (hP : (0 ≤ t ∧ t < 40 ∧ hb_u2 G 47 0 0 51 t ≠ -1) ∧ (0 ≤ k ∧ k < 16 ∧ hb_u2 G 47 0 0 55 k ≠ -1) ∧ (0 ≤ d ∧ d ≤ 30000)) (hz : (hb_u2 G 47 0 0) 56 (3 * k + 2) = 0) (hG : hb_rg G) : hb_M l yX9_due cX9_due 5 (some .int) 2 0 0 [hb_r 47, hb_i t, hb_i k, hb_i 2, hb_i d] (hb_w G F na) (77 + na) (.inl (some (hb_i (-1)))) (hb_w (hb_u2 G 47 0 0) F na) (77 + na) := by
  refine hb_M_in rfl rfl (by decide) rfl (Nat.le_of_ble_eq_true rfl) ?_
  intro E z0 σ0
  have hG0 := hG
  have hG : hb_rg (hb_u2 G 47 0 0) := hG0.u2 (by decide)
  refine aw_ald0 dX9_due_0 ?_
  refine aw_iconst dX9_due_1 ?_
  refine aw_putz (jz := 0) dX9_due_2 hbf_X9_95 hbS_X9 (fun C T n h9 => by cases h9; exact ⟨rfl, by decide +kernel, fun h8 => by cases h8⟩) rfl rfl rfl rfl ?_
  refine aw_ald0 dX9_due_5 ?_
  refine aw_ild1 dX9_due_6 ?_
  refine aw_V1v dX9_due_7 (c_mIsThing (by first | assumption | (constructor <;> omega) | exact hG _ _) hG) rfl rfl hbY_X9_isThing hbm_X9_104 hbi_X9_isThing hbe_X9_X9_isThing (Nat.le_of_ble_eq_true rfl) ⟨by decide, by decide⟩ (by decide) (by decide) ?_
  refine aw_ifb_eq (tg := 51) dX9_due_10 (by decide) (fun c10 => absurd c10 (by exact fun h8 => h8 (by omega))) (fun c10 => ?_)
  refine aw_ald0 dX9_due_13 ?_
  refine aw_ild2 dX9_due_14 ?_
  refine aw_V1v dX9_due_15 (c_mIsTask (by first | assumption | (constructor <;> omega) | exact hG _ _) hG) rfl rfl hbY_X9_isTask hbm_X9_120 hbi_X9_isTask hbe_X9_X9_isTask (Nat.le_of_ble_eq_true rfl) ⟨by decide, by decide⟩ (by decide) (by decide) ?_
  refine aw_ifb_eq (tg := 51) dX9_due_18 (by decide) (fun c18 => absurd c18 (by exact fun h8 => h8 (by omega))) (fun c18 => ?_)
  refine aw_ild3 dX9_due_21 ?_
  refine aw_iconst dX9_due_22 ?_
  refine aw_iconst dX9_due_23 ?_
  refine aw_S3v dX9_due_24 (c_within (by first | assumption | (constructor <;> omega) | exact hG _ _) (by first | assumption | (constructor <;> omega) | exact hG _ _) (by first | assumption | (constructor <;> omega) | exact hG _ _)) hbY_X9_within hbm_X9_99 hbs_X9_within (Nat.le_of_ble_eq_true rfl) ⟨by decide, by decide⟩ (by decide) (by decide) ?_
  refine aw_ifb_eq (tg := 51) dX9_due_27 (by decide) (fun c27 => absurd c27 (by exact fun h8 => h8 (by omega))) (fun c27 => ?_)
  refine aw_ild4 dX9_due_30 ?_
  refine aw_S1v dX9_due_32 (c_mIsDay (by first | assumption | (constructor <;> omega) | exact hG _ _)) hbY_X9_isDay hbm_X9_115 hbs_X9_isDay (Nat.le_of_ble_eq_true rfl) ⟨by decide, by decide⟩ (by decide) (by decide) ?_
  refine aw_ifb_eq (tg := 51) dX9_due_35 (by decide) (fun c35 => absurd c35 (by exact fun h8 => h8 (by omega))) (fun c35 => ?_)
  refine aw_ald0 dX9_due_38 ?_
  refine aw_getf dX9_due_39 hbf_X9_34 rfl rfl ?_
  refine aw_iconst dX9_due_42 ?_
  refine aw_ild2 dX9_due_43 ?_
  refine aw_imul dX9_due_44 ?_
  refine aw_ild3 dX9_due_45 ?_
  refine aw_iadd dX9_due_46 ?_
  refine aw_iald dX9_due_47 rfl (by constructor <;> omega) (by decide) ?_
  refine aw_if_ne (tg := 53) dX9_due_48 (by decide) (hG _ _) (fun c48 => absurd c48 (by omega)) (fun c48 => ?_)
  refine aw_iconst dX9_due_51 ?_
  exact aw_iret dX9_due_52 rfl (by rfl) rfl rfl (by decide) (by decide)
set_option maxRecDepth 20000 in
set_option maxHeartbeats 1000000 in
theorem c_mDueY2 {l : Launch} {G : hb_G} {F : hb_F} {na : Nat} {t k d r9 : Int} (it : hb_in t) (ik : hb_in k) (id : hb_in d) (hP : (0 ≤ t ∧ t < 40 ∧ hb_u2 G 47 0 0 51 t ≠ -1) ∧ (0 ≤ k ∧ k < 16 ∧ hb_u2 G 47 0 0 55 k ≠ -1) ∧ (0 ≤ d ∧ d ≤ 30000)) (hz : (hb_u2 G 47 0 0) 56 (3 * k + 2) ≠ 0) (hD : hb_M l yX9_dueAt cX9_dueAt 14 (some .int) 1 0 0 [hb_r 47, hb_i t, hb_i k, hb_i 2, hb_i (100 * d + 99)] (hb_w (hb_u2 G 47 0 0) F na) (77 + na) (.inl (some (hb_i (r9)))) (hb_w (hb_u2 G 47 0 0) F na) (77 + na)) (hG : hb_rg G) : hb_M l yX9_due cX9_due 5 (some .int) 2 0 0 [hb_r 47, hb_i t, hb_i k, hb_i 2, hb_i d] (hb_w G F na) (77 + na) (.inl (some (hb_i (r9)))) (hb_w (hb_u2 G 47 0 0) F na) (77 + na) := by
  refine hb_M_in rfl rfl (by decide) rfl (Nat.le_of_ble_eq_true rfl) ?_
  intro E z0 σ0
  have hG0 := hG
  have hG : hb_rg (hb_u2 G 47 0 0) := hG0.u2 (by decide)
  refine aw_ald0 dX9_due_0 ?_
  refine aw_iconst dX9_due_1 ?_
  refine aw_putz (jz := 0) dX9_due_2 hbf_X9_95 hbS_X9 (fun C T n h9 => by cases h9; exact ⟨rfl, by decide +kernel, fun h8 => by cases h8⟩) rfl rfl rfl rfl ?_
  refine aw_ald0 dX9_due_5 ?_
  refine aw_ild1 dX9_due_6 ?_
  refine aw_V1v dX9_due_7 (c_mIsThing (by first | assumption | (constructor <;> omega) | exact hG _ _) hG) rfl rfl hbY_X9_isThing hbm_X9_104 hbi_X9_isThing hbe_X9_X9_isThing (Nat.le_of_ble_eq_true rfl) ⟨by decide, by decide⟩ (by decide) (by decide) ?_
  refine aw_ifb_eq (tg := 51) dX9_due_10 (by decide) (fun c10 => absurd c10 (by exact fun h8 => h8 (by omega))) (fun c10 => ?_)
  refine aw_ald0 dX9_due_13 ?_
  refine aw_ild2 dX9_due_14 ?_
  refine aw_V1v dX9_due_15 (c_mIsTask (by first | assumption | (constructor <;> omega) | exact hG _ _) hG) rfl rfl hbY_X9_isTask hbm_X9_120 hbi_X9_isTask hbe_X9_X9_isTask (Nat.le_of_ble_eq_true rfl) ⟨by decide, by decide⟩ (by decide) (by decide) ?_
  refine aw_ifb_eq (tg := 51) dX9_due_18 (by decide) (fun c18 => absurd c18 (by exact fun h8 => h8 (by omega))) (fun c18 => ?_)
  refine aw_ild3 dX9_due_21 ?_
  refine aw_iconst dX9_due_22 ?_
  refine aw_iconst dX9_due_23 ?_
  refine aw_S3v dX9_due_24 (c_within (by first | assumption | (constructor <;> omega) | exact hG _ _) (by first | assumption | (constructor <;> omega) | exact hG _ _) (by first | assumption | (constructor <;> omega) | exact hG _ _)) hbY_X9_within hbm_X9_99 hbs_X9_within (Nat.le_of_ble_eq_true rfl) ⟨by decide, by decide⟩ (by decide) (by decide) ?_
  refine aw_ifb_eq (tg := 51) dX9_due_27 (by decide) (fun c27 => absurd c27 (by exact fun h8 => h8 (by omega))) (fun c27 => ?_)
  refine aw_ild4 dX9_due_30 ?_
  refine aw_S1v dX9_due_32 (c_mIsDay (by first | assumption | (constructor <;> omega) | exact hG _ _)) hbY_X9_isDay hbm_X9_115 hbs_X9_isDay (Nat.le_of_ble_eq_true rfl) ⟨by decide, by decide⟩ (by decide) (by decide) ?_
  refine aw_ifb_eq (tg := 51) dX9_due_35 (by decide) (fun c35 => absurd c35 (by exact fun h8 => h8 (by omega))) (fun c35 => ?_)
  refine aw_ald0 dX9_due_38 ?_
  refine aw_getf dX9_due_39 hbf_X9_34 rfl rfl ?_
  refine aw_iconst dX9_due_42 ?_
  refine aw_ild2 dX9_due_43 ?_
  refine aw_imul dX9_due_44 ?_
  refine aw_ild3 dX9_due_45 ?_
  refine aw_iadd dX9_due_46 ?_
  refine aw_iald dX9_due_47 rfl (by constructor <;> omega) (by decide) ?_
  refine aw_if_ne (tg := 53) dX9_due_48 (by decide) (hG _ _) (fun c48 => ?_) (fun c48 => absurd c48 (by omega))
  refine aw_ald0 dX9_due_53 ?_
  refine aw_ild1 dX9_due_54 ?_
  refine aw_ild2 dX9_due_55 ?_
  refine aw_ild3 dX9_due_56 ?_
  refine aw_bipush dX9_due_57 (by decide) ?_
  refine aw_ild4 dX9_due_59 ?_
  refine aw_imul dX9_due_61 ?_
  refine aw_bipush dX9_due_62 (by decide) ?_
  refine aw_iadd dX9_due_64 ?_
  refine aw_V4v dX9_due_65 hD rfl rfl hbY_X9_dueAt hbm_X9_206 hbi_X9_dueAt hbe_X9_X9_dueAt (Nat.le_of_ble_eq_true rfl) ⟨by decide, by decide⟩ (by decide) (by decide) ?_
  exact aw_iret dX9_due_68 rfl (by rfl) rfl rfl (by decide) (by decide)
set_option maxRecDepth 20000 in
set_option maxHeartbeats 1000000 in
theorem c_mIsOverdue {l : Launch} {G : hb_G} {F : hb_F} {na : Nat} {t k pt d0 d1 d2 : Int} {n : Nat} (ht : 0 ≤ t ∧ t < 40) (hk : 0 ≤ k ∧ k < 16) (ip : hb_in pt) (hp0 : 0 ≤ pt) (hn : G 47 17 = n) (hn2 : n ≤ 200) (id0 : hb_in d0) (ic0 : hb_in (hb_cj G t 0 pt n)) (hD0 : 0 < G 56 (3 * k + 0) → hb_M l yX9_dueAt cX9_dueAt 14 (some .int) 1 0 0 [hb_r 47, hb_i t, hb_i k, hb_i 0, hb_i (pt)] (hb_w G F na) (77 + na) (.inl (some (hb_i (d0)))) (hb_w G F na) (77 + na)) (id1 : hb_in d1) (ic1 : hb_in (hb_cj G t 1 pt n)) (hD1 : 0 < G 56 (3 * k + 1) → hb_M l yX9_dueAt cX9_dueAt 14 (some .int) 1 0 0 [hb_r 47, hb_i t, hb_i k, hb_i 1, hb_i (pt)] (hb_w G F na) (77 + na) (.inl (some (hb_i (d1)))) (hb_w G F na) (77 + na)) (id2 : hb_in d2) (ic2 : hb_in (hb_cj G t 2 pt n)) (hD2 : 0 < G 56 (3 * k + 2) → hb_M l yX9_dueAt cX9_dueAt 14 (some .int) 1 0 0 [hb_r 47, hb_i t, hb_i k, hb_i 2, hb_i (pt)] (hb_w G F na) (77 + na) (.inl (some (hb_i (d2)))) (hb_w G F na) (77 + na)) (hG : hb_rg G) : hb_M l yX9_isOverdue cX9_isOverdue 5 (some .boolean) 2 0 0 [hb_r 47, hb_i t, hb_i k, hb_i pt] (hb_w G F na) (77 + na) (.inl (some (hb_i (hb_b ((0 < G 56 (3 * k + 0) ∧ d0 < hb_cj G t 0 pt n) ∨ (0 < G 56 (3 * k + 1) ∧ d1 < hb_cj G t 1 pt n) ∨ (0 < G 56 (3 * k + 2) ∧ d2 < hb_cj G t 2 pt n)))))) (hb_w G F na) (77 + na) := by
  refine hb_M_in rfl rfl (by decide) rfl (Nat.le_of_ble_eq_true rfl) ?_
  intro E z0 σ0
  have k3 : ∀ (g0 : ¬ (0 < G 56 (3 * k + 0) ∧ d0 < hb_cj G t 0 pt n)) (g1 : ¬ (0 < G 56 (3 * k + 1) ∧ d1 < hb_cj G t 1 pt n)) (g2 : ¬ (0 < G 56 (3 * k + 2) ∧ d2 < hb_cj G t 2 pt n)), hb_W l RX9 cX9_isOverdue 5 (some .boolean) "isOverdue" [] E z0 (hb_rm 2 0 0) σ0 (77 + na) (.inl (some (hb_i (hb_b ((0 < G 56 (3 * k + 0) ∧ d0 < hb_cj G t 0 pt n) ∨ (0 < G 56 (3 * k + 1) ∧ d1 < hb_cj G t 1 pt n) ∨ (0 < G 56 (3 * k + 2) ∧ d2 < hb_cj G t 2 pt n)))))) (hb_w G F na) (77 + na) 0 0 3 [hb_r 47, hb_i t, hb_i k, hb_i pt, hb_i 3] [] (hb_w G F na) (77 + na) := by
    intro g0 g1 g2
    refine aw_ild4 dX9_isOverdue_3 ?_
    refine aw_iconst dX9_isOverdue_5 ?_
    refine aw_icmp_ge (tg := 51) dX9_isOverdue_6 (by decide) (by decide) (by decide) (fun c6 => ?_) (fun c6 => absurd c6 (by decide))
    refine aw_iconst dX9_isOverdue_51 ?_
    exact aw_zret dX9_isOverdue_52 rfl (by first | omega | exact hb_b01 _) (by first | exact hb_oi1 (by omega) | exact hb_oi0 (by omega)) rfl rfl (by decide) (by decide)
  have k2 : ∀ (g0 : ¬ (0 < G 56 (3 * k + 0) ∧ d0 < hb_cj G t 0 pt n)) (g1 : ¬ (0 < G 56 (3 * k + 1) ∧ d1 < hb_cj G t 1 pt n)), hb_W l RX9 cX9_isOverdue 5 (some .boolean) "isOverdue" [] E z0 (hb_rm 2 0 0) σ0 (77 + na) (.inl (some (hb_i (hb_b ((0 < G 56 (3 * k + 0) ∧ d0 < hb_cj G t 0 pt n) ∨ (0 < G 56 (3 * k + 1) ∧ d1 < hb_cj G t 1 pt n) ∨ (0 < G 56 (3 * k + 2) ∧ d2 < hb_cj G t 2 pt n)))))) (hb_w G F na) (77 + na) 0 0 3 [hb_r 47, hb_i t, hb_i k, hb_i pt, hb_i 2] [] (hb_w G F na) (77 + na) := by
    intro g0 g1
    refine aw_ild4 dX9_isOverdue_3 ?_
    refine aw_iconst dX9_isOverdue_5 ?_
    refine aw_icmp_ge (tg := 51) dX9_isOverdue_6 (by decide) (by decide) (by decide) (fun c6 => absurd c6 (by decide)) (fun c6 => ?_)
    refine aw_ald0 dX9_isOverdue_9 ?_
    refine aw_getf dX9_isOverdue_10 hbf_X9_34 rfl rfl ?_
    refine aw_iconst dX9_isOverdue_13 ?_
    refine aw_ild2 dX9_isOverdue_14 ?_
    refine aw_imul dX9_isOverdue_15 ?_
    refine aw_ild4 dX9_isOverdue_16 ?_
    refine aw_iadd dX9_isOverdue_18 ?_
    refine aw_iald dX9_isOverdue_19 rfl (by constructor <;> omega) (by decide) ?_
    refine aw_if_le (tg := 45) dX9_isOverdue_20 (by decide) (hG _ _) (fun c20 => ?_) (fun c20 => ?_)
    · skip
      refine aw_iinc4 dX9_isOverdue_45 (by decide) ?_
      refine aw_goto (tg := 3) dX9_isOverdue_48 (by decide) ?_
      exact k3 g0 g1 (by omega)
    · skip
      refine aw_ald0 dX9_isOverdue_23 ?_
      refine aw_ild1 dX9_isOverdue_24 ?_
      refine aw_ild4 dX9_isOverdue_25 ?_
      refine aw_ild3 dX9_isOverdue_27 ?_
      refine aw_V3v dX9_isOverdue_28 (c_mCounterAt2 ht ip hp0 hn hn2 hG) rfl rfl hbY_X9_counterAt hbm_X9_192 hbi_X9_counterAt hbe_X9_X9_counterAt (Nat.le_of_ble_eq_true rfl) ⟨by decide, by decide⟩ (by decide) (by decide) ?_
      refine aw_ald0 dX9_isOverdue_31 ?_
      refine aw_ild1 dX9_isOverdue_32 ?_
      refine aw_ild2 dX9_isOverdue_33 ?_
      refine aw_ild4 dX9_isOverdue_34 ?_
      refine aw_ild3 dX9_isOverdue_36 ?_
      refine aw_V4v dX9_isOverdue_37 (hD2 (by omega)) rfl rfl hbY_X9_dueAt hbm_X9_206 hbi_X9_dueAt hbe_X9_X9_dueAt (Nat.le_of_ble_eq_true rfl) ⟨by decide, by decide⟩ (by decide) (by decide) ?_
      refine aw_icmp_le (tg := 45) dX9_isOverdue_40 (by decide) ic2 id2 (fun c40 => ?_) (fun c40 => ?_)
      · skip
        refine aw_iinc4 dX9_isOverdue_45 (by decide) ?_
        refine aw_goto (tg := 3) dX9_isOverdue_48 (by decide) ?_
        exact k3 g0 g1 (by omega)
      · skip
        refine aw_iconst dX9_isOverdue_43 ?_
        exact aw_zret dX9_isOverdue_44 rfl (by first | omega | exact hb_b01 _) (by first | exact hb_oi1 (by omega) | exact hb_oi0 (by omega)) rfl rfl (by decide) (by decide)
  have k1 : ∀ (g0 : ¬ (0 < G 56 (3 * k + 0) ∧ d0 < hb_cj G t 0 pt n)), hb_W l RX9 cX9_isOverdue 5 (some .boolean) "isOverdue" [] E z0 (hb_rm 2 0 0) σ0 (77 + na) (.inl (some (hb_i (hb_b ((0 < G 56 (3 * k + 0) ∧ d0 < hb_cj G t 0 pt n) ∨ (0 < G 56 (3 * k + 1) ∧ d1 < hb_cj G t 1 pt n) ∨ (0 < G 56 (3 * k + 2) ∧ d2 < hb_cj G t 2 pt n)))))) (hb_w G F na) (77 + na) 0 0 3 [hb_r 47, hb_i t, hb_i k, hb_i pt, hb_i 1] [] (hb_w G F na) (77 + na) := by
    intro g0
    refine aw_ild4 dX9_isOverdue_3 ?_
    refine aw_iconst dX9_isOverdue_5 ?_
    refine aw_icmp_ge (tg := 51) dX9_isOverdue_6 (by decide) (by decide) (by decide) (fun c6 => absurd c6 (by decide)) (fun c6 => ?_)
    refine aw_ald0 dX9_isOverdue_9 ?_
    refine aw_getf dX9_isOverdue_10 hbf_X9_34 rfl rfl ?_
    refine aw_iconst dX9_isOverdue_13 ?_
    refine aw_ild2 dX9_isOverdue_14 ?_
    refine aw_imul dX9_isOverdue_15 ?_
    refine aw_ild4 dX9_isOverdue_16 ?_
    refine aw_iadd dX9_isOverdue_18 ?_
    refine aw_iald dX9_isOverdue_19 rfl (by constructor <;> omega) (by decide) ?_
    refine aw_if_le (tg := 45) dX9_isOverdue_20 (by decide) (hG _ _) (fun c20 => ?_) (fun c20 => ?_)
    · skip
      refine aw_iinc4 dX9_isOverdue_45 (by decide) ?_
      refine aw_goto (tg := 3) dX9_isOverdue_48 (by decide) ?_
      exact k2 g0 (by omega)
    · skip
      refine aw_ald0 dX9_isOverdue_23 ?_
      refine aw_ild1 dX9_isOverdue_24 ?_
      refine aw_ild4 dX9_isOverdue_25 ?_
      refine aw_ild3 dX9_isOverdue_27 ?_
      refine aw_V3v dX9_isOverdue_28 (c_mCounterAt1 ht ip hp0 hn hn2 hG) rfl rfl hbY_X9_counterAt hbm_X9_192 hbi_X9_counterAt hbe_X9_X9_counterAt (Nat.le_of_ble_eq_true rfl) ⟨by decide, by decide⟩ (by decide) (by decide) ?_
      refine aw_ald0 dX9_isOverdue_31 ?_
      refine aw_ild1 dX9_isOverdue_32 ?_
      refine aw_ild2 dX9_isOverdue_33 ?_
      refine aw_ild4 dX9_isOverdue_34 ?_
      refine aw_ild3 dX9_isOverdue_36 ?_
      refine aw_V4v dX9_isOverdue_37 (hD1 (by omega)) rfl rfl hbY_X9_dueAt hbm_X9_206 hbi_X9_dueAt hbe_X9_X9_dueAt (Nat.le_of_ble_eq_true rfl) ⟨by decide, by decide⟩ (by decide) (by decide) ?_
      refine aw_icmp_le (tg := 45) dX9_isOverdue_40 (by decide) ic1 id1 (fun c40 => ?_) (fun c40 => ?_)
      · skip
        refine aw_iinc4 dX9_isOverdue_45 (by decide) ?_
        refine aw_goto (tg := 3) dX9_isOverdue_48 (by decide) ?_
        exact k2 g0 (by omega)
      · skip
        refine aw_iconst dX9_isOverdue_43 ?_
        exact aw_zret dX9_isOverdue_44 rfl (by first | omega | exact hb_b01 _) (by first | exact hb_oi1 (by omega) | exact hb_oi0 (by omega)) rfl rfl (by decide) (by decide)
  have k0 : hb_W l RX9 cX9_isOverdue 5 (some .boolean) "isOverdue" [] E z0 (hb_rm 2 0 0) σ0 (77 + na) (.inl (some (hb_i (hb_b ((0 < G 56 (3 * k + 0) ∧ d0 < hb_cj G t 0 pt n) ∨ (0 < G 56 (3 * k + 1) ∧ d1 < hb_cj G t 1 pt n) ∨ (0 < G 56 (3 * k + 2) ∧ d2 < hb_cj G t 2 pt n)))))) (hb_w G F na) (77 + na) 0 0 3 [hb_r 47, hb_i t, hb_i k, hb_i pt, hb_i 0] [] (hb_w G F na) (77 + na) := by
    refine aw_ild4 dX9_isOverdue_3 ?_
    refine aw_iconst dX9_isOverdue_5 ?_
    refine aw_icmp_ge (tg := 51) dX9_isOverdue_6 (by decide) (by decide) (by decide) (fun c6 => absurd c6 (by decide)) (fun c6 => ?_)
    refine aw_ald0 dX9_isOverdue_9 ?_
    refine aw_getf dX9_isOverdue_10 hbf_X9_34 rfl rfl ?_
    refine aw_iconst dX9_isOverdue_13 ?_
    refine aw_ild2 dX9_isOverdue_14 ?_
    refine aw_imul dX9_isOverdue_15 ?_
    refine aw_ild4 dX9_isOverdue_16 ?_
    refine aw_iadd dX9_isOverdue_18 ?_
    refine aw_iald dX9_isOverdue_19 rfl (by constructor <;> omega) (by decide) ?_
    refine aw_if_le (tg := 45) dX9_isOverdue_20 (by decide) (hG _ _) (fun c20 => ?_) (fun c20 => ?_)
    · skip
      refine aw_iinc4 dX9_isOverdue_45 (by decide) ?_
      refine aw_goto (tg := 3) dX9_isOverdue_48 (by decide) ?_
      exact k1  (by omega)
    · skip
      refine aw_ald0 dX9_isOverdue_23 ?_
      refine aw_ild1 dX9_isOverdue_24 ?_
      refine aw_ild4 dX9_isOverdue_25 ?_
      refine aw_ild3 dX9_isOverdue_27 ?_
      refine aw_V3v dX9_isOverdue_28 (c_mCounterAt0 ht ip hp0 hn hn2 hG) rfl rfl hbY_X9_counterAt hbm_X9_192 hbi_X9_counterAt hbe_X9_X9_counterAt (Nat.le_of_ble_eq_true rfl) ⟨by decide, by decide⟩ (by decide) (by decide) ?_
      refine aw_ald0 dX9_isOverdue_31 ?_
      refine aw_ild1 dX9_isOverdue_32 ?_
      refine aw_ild2 dX9_isOverdue_33 ?_
      refine aw_ild4 dX9_isOverdue_34 ?_
      refine aw_ild3 dX9_isOverdue_36 ?_
      refine aw_V4v dX9_isOverdue_37 (hD0 (by omega)) rfl rfl hbY_X9_dueAt hbm_X9_206 hbi_X9_dueAt hbe_X9_X9_dueAt (Nat.le_of_ble_eq_true rfl) ⟨by decide, by decide⟩ (by decide) (by decide) ?_
      refine aw_icmp_le (tg := 45) dX9_isOverdue_40 (by decide) ic0 id0 (fun c40 => ?_) (fun c40 => ?_)
      · skip
        refine aw_iinc4 dX9_isOverdue_45 (by decide) ?_
        refine aw_goto (tg := 3) dX9_isOverdue_48 (by decide) ?_
        exact k1  (by omega)
      · skip
        refine aw_iconst dX9_isOverdue_43 ?_
        exact aw_zret dX9_isOverdue_44 rfl (by first | omega | exact hb_b01 _) (by first | exact hb_oi1 (by omega) | exact hb_oi0 (by omega)) rfl rfl (by decide) (by decide)
  refine aw_iconst dX9_isOverdue_0 ?_
  refine aw_ipu4 dX9_isOverdue_1 (by decide) ?_
  exact k0
def hb_be (G : hb_G) (o9 t pt n : Int) : Prop := ∃ e9, (0 ≤ e9 ∧ e9 < n) ∧ (G 64 e9 ≠ 0 ∧ G 63 e9 = 5 ∧ G 65 e9 = t ∧ G 67 e9 = o9 ∧ G 66 e9 ≤ pt)
/-- an order binds a thing, by the reference -/
def hb_jb (G : hb_G) (o9 t pt : Int) (n : Nat) : Prop := (G 58 o9 ≠ -1 ∧ G 58 o9 = G 51 t ∧ (G 59 o9 ≤ t ∧ t ≤ G 60 o9)) ∧ ¬ hb_be G o9 t pt n
set_option maxRecDepth 20000 in
set_option maxHeartbeats 1000000 in
theorem c_mBinds {l : Launch} {G : hb_G} {F : hb_F} {na : Nat} {o9 t pt : Int} {n : Nat} (ho : 0 ≤ o9 ∧ o9 < 8) (ht : 0 ≤ t ∧ t < 40) (ip : hb_in pt) (hn : G 47 17 = n) (hn2 : n ≤ 200) (hG : hb_rg G) : hb_M l yX9_binds cX9_binds 5 (some .boolean) 1 0 0 [hb_r 47, hb_i o9, hb_i t, hb_i pt] (hb_w G F na) (77 + na) (.inl (some (hb_i (hb_b (hb_jb G o9 t pt n))))) (hb_w G F na) (77 + na) := by
  refine hb_M_in rfl rfl (by decide) rfl (Nat.le_of_ble_eq_true rfl) ?_
  intro E z0 σ0
  have key : ∀ (r : Nat) (j : Int), 0 ≤ j → j ≤ n → n - j < r → ¬ hb_be G o9 t pt j → (G 58 o9 ≠ -1 ∧ G 58 o9 = G 51 t ∧ (G 59 o9 ≤ t ∧ t ≤ G 60 o9)) → hb_W l RX9 cX9_binds 5 (some .boolean) "binds" [] E z0 (hb_rm 1 0 0) σ0 (77 + na) (.inl (some (hb_i (hb_b (hb_jb G o9 t pt n))))) (hb_w G F na) (77 + na) 0 0 49 [hb_r 47, hb_i o9, hb_i t, hb_i pt, hb_i j] [] (hb_w G F na) (77 + na) := by
    intro r
    induction r with
    | zero => intro j h1 h2 h3; omega
    | succ r ih =>
      intro j h1 h2 h3 hno h4
      rcases (show j = n ∨ j < n by omega) with g8 | g8
      · have g8 := g8
        refine aw_ild4 dX9_binds_49 ?_
        refine aw_ald0 dX9_binds_51 ?_
        refine aw_getf dX9_binds_52 hbf_X9_126 rfl rfl ?_
        refine aw_icmp_ge (tg := 120) dX9_binds_55 (by decide) (by constructor <;> omega) (by constructor <;> omega) (fun c55 => ?_) (fun c55 => absurd c55 (by omega))
        refine aw_iconst dX9_binds_120 ?_
        exact aw_zret dX9_binds_121 rfl (by first | omega | exact hb_b01 _) (by exact hb_oi1 ⟨h4, by rw [← g8]; exact hno⟩) rfl rfl (by decide) (by decide)
      · have g8 := g8
        refine aw_ild4 dX9_binds_49 ?_
        refine aw_ald0 dX9_binds_51 ?_
        refine aw_getf dX9_binds_52 hbf_X9_126 rfl rfl ?_
        refine aw_icmp_ge (tg := 120) dX9_binds_55 (by decide) (by constructor <;> omega) (by constructor <;> omega) (fun c55 => absurd c55 (by omega)) (fun c55 => ?_)
        refine aw_ald0 dX9_binds_58 ?_
        refine aw_getf dX9_binds_59 hbf_X9_58 rfl rfl ?_
        refine aw_ild4 dX9_binds_62 ?_
        refine aw_zald dX9_binds_64 rfl (by constructor <;> omega) (by decide) ?_
        refine aw_if_eq (tg := 114) dX9_binds_65 (by decide) (by first | exact hG _ _ | assumption | (constructor <;> omega)) (fun c65 => ?_) (fun c65 => ?_)
        · skip
          refine aw_iinc4 dX9_binds_114 (by decide) ?_
          refine aw_goto (tg := 49) dX9_binds_117 (by decide) ?_
          exact ih (j + 1) (by omega) (by omega) (by omega) (by unfold hb_be at hno ⊢; rw [hb_exs h1]; rintro (h9 | h9); exact hno h9; omega) h4
        · skip
          refine aw_ald0 dX9_binds_68 ?_
          refine aw_getf dX9_binds_69 hbf_X9_55 rfl rfl ?_
          refine aw_ild4 dX9_binds_72 ?_
          refine aw_iald dX9_binds_74 rfl (by constructor <;> omega) (by decide) ?_
          refine aw_iconst dX9_binds_75 ?_
          refine aw_icmp_ne (tg := 114) dX9_binds_76 (by decide) (by first | exact hG _ _ | assumption | (constructor <;> omega)) (by first | exact hG _ _ | assumption | (constructor <;> omega)) (fun c76 => ?_) (fun c76 => ?_)
          · skip
            refine aw_iinc4 dX9_binds_114 (by decide) ?_
            refine aw_goto (tg := 49) dX9_binds_117 (by decide) ?_
            exact ih (j + 1) (by omega) (by omega) (by omega) (by unfold hb_be at hno ⊢; rw [hb_exs h1]; rintro (h9 | h9); exact hno h9; omega) h4
          · skip
            refine aw_ald0 dX9_binds_79 ?_
            refine aw_getf dX9_binds_80 hbf_X9_62 rfl rfl ?_
            refine aw_ild4 dX9_binds_83 ?_
            refine aw_iald dX9_binds_85 rfl (by constructor <;> omega) (by decide) ?_
            refine aw_ild2 dX9_binds_86 ?_
            refine aw_icmp_ne (tg := 114) dX9_binds_87 (by decide) (by first | exact hG _ _ | assumption | (constructor <;> omega)) (by first | exact hG _ _ | assumption | (constructor <;> omega)) (fun c87 => ?_) (fun c87 => ?_)
            · skip
              refine aw_iinc4 dX9_binds_114 (by decide) ?_
              refine aw_goto (tg := 49) dX9_binds_117 (by decide) ?_
              exact ih (j + 1) (by omega) (by omega) (by omega) (by unfold hb_be at hno ⊢; rw [hb_exs h1]; rintro (h9 | h9); exact hno h9; omega) h4
            · skip
              refine aw_ald0 dX9_binds_90 ?_
              refine aw_getf dX9_binds_91 hbf_X9_68 rfl rfl ?_
              refine aw_ild4 dX9_binds_94 ?_
              refine aw_iald dX9_binds_96 rfl (by constructor <;> omega) (by decide) ?_
              refine aw_ild1 dX9_binds_97 ?_
              refine aw_icmp_ne (tg := 114) dX9_binds_98 (by decide) (by first | exact hG _ _ | assumption | (constructor <;> omega)) (by first | exact hG _ _ | assumption | (constructor <;> omega)) (fun c98 => ?_) (fun c98 => ?_)
              · skip
                refine aw_iinc4 dX9_binds_114 (by decide) ?_
                refine aw_goto (tg := 49) dX9_binds_117 (by decide) ?_
                exact ih (j + 1) (by omega) (by omega) (by omega) (by unfold hb_be at hno ⊢; rw [hb_exs h1]; rintro (h9 | h9); exact hno h9; omega) h4
              · skip
                refine aw_ald0 dX9_binds_101 ?_
                refine aw_getf dX9_binds_102 hbf_X9_65 rfl rfl ?_
                refine aw_ild4 dX9_binds_105 ?_
                refine aw_iald dX9_binds_107 rfl (by constructor <;> omega) (by decide) ?_
                refine aw_ild3 dX9_binds_108 ?_
                refine aw_icmp_gt (tg := 114) dX9_binds_109 (by decide) (by first | exact hG _ _ | assumption | (constructor <;> omega)) (by first | exact hG _ _ | assumption | (constructor <;> omega)) (fun c109 => ?_) (fun c109 => ?_)
                · skip
                  refine aw_iinc4 dX9_binds_114 (by decide) ?_
                  refine aw_goto (tg := 49) dX9_binds_117 (by decide) ?_
                  exact ih (j + 1) (by omega) (by omega) (by omega) (by unfold hb_be at hno ⊢; rw [hb_exs h1]; rintro (h9 | h9); exact hno h9; omega) h4
                · skip
                  refine aw_iconst dX9_binds_112 ?_
                  exact aw_zret dX9_binds_113 rfl (by first | omega | exact hb_b01 _) (by exact hb_oi0 (fun h9 => h9.2 ⟨j, by omega, by omega⟩)) rfl rfl (by decide) (by decide)
  refine aw_ald0 dX9_binds_0 ?_
  refine aw_getf dX9_binds_1 hbf_X9_40 rfl rfl ?_
  refine aw_ild1 dX9_binds_4 ?_
  refine aw_iald dX9_binds_5 rfl (by constructor <;> omega) (by decide) ?_
  refine aw_iconst dX9_binds_6 ?_
  refine aw_icmp_eq (tg := 44) dX9_binds_7 (by decide) (by first | exact hG _ _ | assumption | (constructor <;> omega)) (by first | exact hG _ _ | assumption | (constructor <;> omega)) (fun c7 => ?_) (fun c7 => ?_)
  · skip
    refine aw_iconst dX9_binds_44 ?_
    exact aw_zret dX9_binds_45 rfl (by first | omega | exact hb_b01 _) (by first | exact hb_oi0 (fun h9 => by have a1 := h9.1; omega)) rfl rfl (by decide) (by decide)
  · skip
    refine aw_ald0 dX9_binds_10 ?_
    refine aw_getf dX9_binds_11 hbf_X9_40 rfl rfl ?_
    refine aw_ild1 dX9_binds_14 ?_
    refine aw_iald dX9_binds_15 rfl (by constructor <;> omega) (by decide) ?_
    refine aw_ald0 dX9_binds_16 ?_
    refine aw_getf dX9_binds_17 hbf_X9_19 rfl rfl ?_
    refine aw_ild2 dX9_binds_20 ?_
    refine aw_iald dX9_binds_21 rfl (by constructor <;> omega) (by decide) ?_
    refine aw_icmp_ne (tg := 44) dX9_binds_22 (by decide) (by first | exact hG _ _ | assumption | (constructor <;> omega)) (by first | exact hG _ _ | assumption | (constructor <;> omega)) (fun c22 => ?_) (fun c22 => ?_)
    · skip
      refine aw_iconst dX9_binds_44 ?_
      exact aw_zret dX9_binds_45 rfl (by first | omega | exact hb_b01 _) (by first | exact hb_oi0 (fun h9 => by have a1 := h9.1; omega)) rfl rfl (by decide) (by decide)
    · skip
      refine aw_ild2 dX9_binds_25 ?_
      refine aw_ald0 dX9_binds_26 ?_
      refine aw_getf dX9_binds_27 hbf_X9_43 rfl rfl ?_
      refine aw_ild1 dX9_binds_30 ?_
      refine aw_iald dX9_binds_31 rfl (by constructor <;> omega) (by decide) ?_
      refine aw_ald0 dX9_binds_32 ?_
      refine aw_getf dX9_binds_33 hbf_X9_46 rfl rfl ?_
      refine aw_ild1 dX9_binds_36 ?_
      refine aw_iald dX9_binds_37 rfl (by constructor <;> omega) (by decide) ?_
      refine aw_S3v dX9_binds_38 (c_within (by constructor <;> omega) (hG _ _) (hG _ _)) hbY_X9_within hbm_X9_99 hbs_X9_within (Nat.le_of_ble_eq_true rfl) ⟨by decide, by decide⟩ (by decide) (by decide) ?_
      refine aw_ifb_ne (tg := 46) dX9_binds_41 (by decide) (fun c41 => ?_) (fun c41 => ?_)
      · skip
        refine aw_iconst dX9_binds_46 ?_
        refine aw_ipu4 dX9_binds_47 (by decide) ?_
        exact key (n + 1) 0 (by omega) (by omega) (by omega) (fun ⟨e9, h8, _⟩ => by omega) ⟨by assumption, by assumption, by assumption⟩
      · skip
        refine aw_iconst dX9_binds_44 ?_
        exact aw_zret dX9_binds_45 rfl (by first | omega | exact hb_b01 _) (by first | exact hb_oi0 (fun h9 => by have a1 := h9.1; omega)) rfl rfl (by decide) (by decide)
def hb_yI (G : hb_G) (k j : Int) : Prop := ∃ o9, (0 ≤ o9 ∧ o9 < j) ∧ (G 58 o9 ≠ -1 ∧ G 61 o9 = k)
def hb_yB (G : hb_G) (t k pt : Int) (n : Nat) (j : Int) : Prop := ∃ o9, (0 ≤ o9 ∧ o9 < j) ∧ (G 58 o9 ≠ -1 ∧ hb_jb G o9 t pt n ∧ G 61 o9 = k)
def hb_yR (G : hb_G) (t k pt : Int) (n : Nat) (j : Int) : Prop := ∃ o9, (0 ≤ o9 ∧ o9 < j) ∧ (G 58 o9 ≠ -1 ∧ hb_jb G o9 t pt n ∧ G 62 o9 = k)
/-- a task is asked of a thing, by the reference -/
def hb_jq (G : hb_G) (t k pt : Int) (n : Nat) : Prop := G 55 k = G 51 t ∧ ¬ hb_yR G t k pt n 8 ∧ (¬ hb_yI G k 8 ∨ hb_yB G t k pt n 8)
set_option maxRecDepth 20000 in
set_option maxHeartbeats 1000000 in
theorem c_mIsAsked {l : Launch} {G : hb_G} {F : hb_F} {na : Nat} {t k pt : Int} {n : Nat} (ht : 0 ≤ t ∧ t < 40) (hk : 0 ≤ k ∧ k < 16) (ip : hb_in pt) (hn : G 47 17 = n) (hn2 : n ≤ 200) (hG : hb_rg G) : hb_M l yX9_isAsked cX9_isAsked 8 (some .boolean) 2 0 0 [hb_r 47, hb_i t, hb_i k, hb_i pt] (hb_w G F na) (77 + na) (.inl (some (hb_i (hb_b (hb_jq G t k pt n))))) (hb_w G F na) (77 + na) := by
  refine hb_M_in rfl rfl (by decide) rfl (Nat.le_of_ble_eq_true rfl) ?_
  intro E z0 σ0
  have key : ∀ (r : Nat) (j io ib : Int), 0 ≤ j → j ≤ 8 → 8 - j < r → (io = 0 ∨ io = 1) → (ib = 0 ∨ ib = 1) → (io = 1 ↔ hb_yI G k j) → (ib = 1 ↔ hb_yB G t k pt n j) → (¬ hb_yR G t k pt n j) → G 55 k = G 51 t → hb_W l RX9 cX9_isAsked 8 (some .boolean) "isAsked" [] E z0 (hb_rm 2 0 0) σ0 (77 + na) (.inl (some (hb_i (hb_b (hb_jq G t k pt n))))) (hb_w G F na) (77 + na) 0 0 26 [hb_r 47, hb_i t, hb_i k, hb_i pt, hb_i io, hb_i ib, hb_i j] [] (hb_w G F na) (77 + na) := by
    intro r
    induction r with
    | zero => intro j io ib h1 h2 h3; omega
    | succ r ih =>
      intro j io ib h1 h2 h3 hio hib hI hB hR hk2
      refine aw_ild6 dX9_isAsked_26 ?_
      refine aw_bipush dX9_isAsked_28 (by decide) ?_
      refine aw_icmp_ge (tg := 132) dX9_isAsked_30 (by decide) (by first | exact hG _ _ | (constructor <;> omega)) (by first | exact hG _ _ | (constructor <;> omega)) (fun c30 => ?_) (fun c30 => ?_)
      · skip
        refine aw_ild4 dX9_isAsked_132 ?_
        refine aw_if_eq (tg := 142) dX9_isAsked_134 (by decide) (by first | exact hG _ _ | (constructor <;> omega)) (fun c134 => ?_) (fun c134 => ?_)
        · skip
          refine aw_iconst dX9_isAsked_142 ?_
          refine aw_goto (tg := 147) dX9_isAsked_143 (by decide) ?_
          exact aw_zret dX9_isAsked_147 rfl (by first | omega | exact hb_b01 _) (by first | exact hb_oi1 ⟨hk2, (by have e9 : j = 8 := (by omega); subst e9; exact hR), (by have e9 : j = 8 := (by omega); subst e9; first | exact Or.inr (hB.mp (by omega)) | exact Or.inl (fun h9 => by have := hI.mpr h9; omega))⟩ | exact hb_oi0 (fun (h9 : hb_jq G t k pt n) => by have e9 : j = 8 := (by omega); subst e9; rcases h9.2.2 with h8 | h8; (exact h8 (hI.mp (by omega))); (have := hB.mpr h8; omega)) | exact hb_oi0 (fun (h9 : hb_jq G t k pt n) => h9.2.1 ⟨j, by omega, by assumption, by assumption, by assumption⟩)) rfl rfl (by decide) (by decide)
        · skip
          refine aw_ild5 dX9_isAsked_137 ?_
          refine aw_if_eq (tg := 146) dX9_isAsked_139 (by decide) (by first | exact hG _ _ | (constructor <;> omega)) (fun c139 => ?_) (fun c139 => ?_)
          · skip
            refine aw_iconst dX9_isAsked_146 ?_
            exact aw_zret dX9_isAsked_147 rfl (by first | omega | exact hb_b01 _) (by first | exact hb_oi1 ⟨hk2, (by have e9 : j = 8 := (by omega); subst e9; exact hR), (by have e9 : j = 8 := (by omega); subst e9; first | exact Or.inr (hB.mp (by omega)) | exact Or.inl (fun h9 => by have := hI.mpr h9; omega))⟩ | exact hb_oi0 (fun (h9 : hb_jq G t k pt n) => by have e9 : j = 8 := (by omega); subst e9; rcases h9.2.2 with h8 | h8; (exact h8 (hI.mp (by omega))); (have := hB.mpr h8; omega)) | exact hb_oi0 (fun (h9 : hb_jq G t k pt n) => h9.2.1 ⟨j, by omega, by assumption, by assumption, by assumption⟩)) rfl rfl (by decide) (by decide)
          · skip
            refine aw_iconst dX9_isAsked_142 ?_
            refine aw_goto (tg := 147) dX9_isAsked_143 (by decide) ?_
            exact aw_zret dX9_isAsked_147 rfl (by first | omega | exact hb_b01 _) (by first | exact hb_oi1 ⟨hk2, (by have e9 : j = 8 := (by omega); subst e9; exact hR), (by have e9 : j = 8 := (by omega); subst e9; first | exact Or.inr (hB.mp (by omega)) | exact Or.inl (fun h9 => by have := hI.mpr h9; omega))⟩ | exact hb_oi0 (fun (h9 : hb_jq G t k pt n) => by have e9 : j = 8 := (by omega); subst e9; rcases h9.2.2 with h8 | h8; (exact h8 (hI.mp (by omega))); (have := hB.mpr h8; omega)) | exact hb_oi0 (fun (h9 : hb_jq G t k pt n) => h9.2.1 ⟨j, by omega, by assumption, by assumption, by assumption⟩)) rfl rfl (by decide) (by decide)
      · skip
        refine aw_ald0 dX9_isAsked_33 ?_
        refine aw_getf dX9_isAsked_34 hbf_X9_40 rfl rfl ?_
        refine aw_ild6 dX9_isAsked_37 ?_
        refine aw_iald dX9_isAsked_39 rfl (by constructor <;> omega) (by decide) ?_
        refine aw_iconst dX9_isAsked_40 ?_
        refine aw_icmp_ne (tg := 47) dX9_isAsked_41 (by decide) (by first | exact hG _ _ | (constructor <;> omega)) (by first | exact hG _ _ | (constructor <;> omega)) (fun c41 => ?_) (fun c41 => ?_)
        · skip
          refine aw_ald0 dX9_isAsked_47 ?_
          refine aw_ild6 dX9_isAsked_48 ?_
          refine aw_ild1 dX9_isAsked_50 ?_
          refine aw_ild3 dX9_isAsked_51 ?_
          refine aw_V3v dX9_isAsked_52 (c_mBinds (by omega) ht ip hn hn2 hG) rfl rfl hbY_X9_binds hbm_X9_210 hbi_X9_binds hbe_X9_X9_binds (Nat.le_of_ble_eq_true rfl) ⟨by decide, by decide⟩ (by decide) (by decide) ?_
          refine aw_ipu7 dX9_isAsked_55 (by decide) ?_
          refine aw_ild7 dX9_isAsked_57 ?_
          refine aw_ifb_eq (tg := 75) dX9_isAsked_59 (by decide) (fun c59 => ?_) (fun c59 => ?_)
          · skip
            refine aw_ild4 dX9_isAsked_75 ?_
            refine aw_if_ne (tg := 91) dX9_isAsked_77 (by decide) (by first | exact hG _ _ | (constructor <;> omega)) (fun c77 => ?_) (fun c77 => ?_)
            · skip
              refine aw_iconst dX9_isAsked_91 ?_
              refine aw_goto (tg := 96) dX9_isAsked_92 (by decide) ?_
              refine aw_ist4 dX9_isAsked_96 (by decide) ?_
              refine aw_ild5 dX9_isAsked_98 ?_
              refine aw_if_ne (tg := 119) dX9_isAsked_100 (by decide) (by first | exact hG _ _ | (constructor <;> omega)) (fun c100 => ?_) (fun c100 => ?_)
              · skip
                refine aw_iconst dX9_isAsked_119 ?_
                refine aw_goto (tg := 124) dX9_isAsked_120 (by decide) ?_
                refine aw_ist5 dX9_isAsked_124 (by decide) ?_
                refine aw_iinc6 dX9_isAsked_126 (by decide) ?_
                refine aw_goto (tg := 26) dX9_isAsked_129 (by decide) ?_
                refine aw_dk_7_1 ?_
                refine ih (j + 1) _ _ (by omega) (by omega) (by omega) (by omega) (by omega) ?_ ?_ ?_ hk2
                · unfold hb_yI at hI ⊢; rw [hb_exs h1]; grind
                · unfold hb_yB at hB ⊢; rw [hb_exs h1]; grind
                · unfold hb_yR at hR ⊢; rw [hb_exs h1]; grind
              · skip
                refine aw_ild7 dX9_isAsked_103 ?_
                refine aw_ifb_eq (tg := 123) dX9_isAsked_105 (by decide) (fun c105 => ?_) (fun c105 => ?_)
                · skip
                  refine aw_iconst dX9_isAsked_123 ?_
                  refine aw_ist5 dX9_isAsked_124 (by decide) ?_
                  refine aw_iinc6 dX9_isAsked_126 (by decide) ?_
                  refine aw_goto (tg := 26) dX9_isAsked_129 (by decide) ?_
                  refine aw_dk_7_1 ?_
                  refine ih (j + 1) _ _ (by omega) (by omega) (by omega) (by omega) (by omega) ?_ ?_ ?_ hk2
                  · unfold hb_yI at hI ⊢; rw [hb_exs h1]; grind
                  · unfold hb_yB at hB ⊢; rw [hb_exs h1]; grind
                  · unfold hb_yR at hR ⊢; rw [hb_exs h1]; grind
                · skip
                  refine aw_ald0 dX9_isAsked_108 ?_
                  refine aw_getf dX9_isAsked_109 hbf_X9_49 rfl rfl ?_
                  refine aw_ild6 dX9_isAsked_112 ?_
                  refine aw_iald dX9_isAsked_114 rfl (by constructor <;> omega) (by decide) ?_
                  refine aw_ild2 dX9_isAsked_115 ?_
                  refine aw_icmp_ne (tg := 123) dX9_isAsked_116 (by decide) (by first | exact hG _ _ | (constructor <;> omega)) (by first | exact hG _ _ | (constructor <;> omega)) (fun c116 => ?_) (fun c116 => ?_)
                  · skip
                    refine aw_iconst dX9_isAsked_123 ?_
                    refine aw_ist5 dX9_isAsked_124 (by decide) ?_
                    refine aw_iinc6 dX9_isAsked_126 (by decide) ?_
                    refine aw_goto (tg := 26) dX9_isAsked_129 (by decide) ?_
                    refine aw_dk_7_1 ?_
                    refine ih (j + 1) _ _ (by omega) (by omega) (by omega) (by omega) (by omega) ?_ ?_ ?_ hk2
                    · unfold hb_yI at hI ⊢; rw [hb_exs h1]; grind
                    · unfold hb_yB at hB ⊢; rw [hb_exs h1]; grind
                    · unfold hb_yR at hR ⊢; rw [hb_exs h1]; grind
                  · skip
                    refine aw_iconst dX9_isAsked_119 ?_
                    refine aw_goto (tg := 124) dX9_isAsked_120 (by decide) ?_
                    refine aw_ist5 dX9_isAsked_124 (by decide) ?_
                    refine aw_iinc6 dX9_isAsked_126 (by decide) ?_
                    refine aw_goto (tg := 26) dX9_isAsked_129 (by decide) ?_
                    refine aw_dk_7_1 ?_
                    refine ih (j + 1) _ _ (by omega) (by omega) (by omega) (by omega) (by omega) ?_ ?_ ?_ hk2
                    · unfold hb_yI at hI ⊢; rw [hb_exs h1]; grind
                    · unfold hb_yB at hB ⊢; rw [hb_exs h1]; grind
                    · unfold hb_yR at hR ⊢; rw [hb_exs h1]; grind
            · skip
              refine aw_ald0 dX9_isAsked_80 ?_
              refine aw_getf dX9_isAsked_81 hbf_X9_49 rfl rfl ?_
              refine aw_ild6 dX9_isAsked_84 ?_
              refine aw_iald dX9_isAsked_86 rfl (by constructor <;> omega) (by decide) ?_
              refine aw_ild2 dX9_isAsked_87 ?_
              refine aw_icmp_ne (tg := 95) dX9_isAsked_88 (by decide) (by first | exact hG _ _ | (constructor <;> omega)) (by first | exact hG _ _ | (constructor <;> omega)) (fun c88 => ?_) (fun c88 => ?_)
              · skip
                refine aw_iconst dX9_isAsked_95 ?_
                refine aw_ist4 dX9_isAsked_96 (by decide) ?_
                refine aw_ild5 dX9_isAsked_98 ?_
                refine aw_if_ne (tg := 119) dX9_isAsked_100 (by decide) (by first | exact hG _ _ | (constructor <;> omega)) (fun c100 => ?_) (fun c100 => ?_)
                · skip
                  refine aw_iconst dX9_isAsked_119 ?_
                  refine aw_goto (tg := 124) dX9_isAsked_120 (by decide) ?_
                  refine aw_ist5 dX9_isAsked_124 (by decide) ?_
                  refine aw_iinc6 dX9_isAsked_126 (by decide) ?_
                  refine aw_goto (tg := 26) dX9_isAsked_129 (by decide) ?_
                  refine aw_dk_7_1 ?_
                  refine ih (j + 1) _ _ (by omega) (by omega) (by omega) (by omega) (by omega) ?_ ?_ ?_ hk2
                  · unfold hb_yI at hI ⊢; rw [hb_exs h1]; grind
                  · unfold hb_yB at hB ⊢; rw [hb_exs h1]; grind
                  · unfold hb_yR at hR ⊢; rw [hb_exs h1]; grind
                · skip
                  refine aw_ild7 dX9_isAsked_103 ?_
                  refine aw_ifb_eq (tg := 123) dX9_isAsked_105 (by decide) (fun c105 => ?_) (fun c105 => ?_)
                  · skip
                    refine aw_iconst dX9_isAsked_123 ?_
                    refine aw_ist5 dX9_isAsked_124 (by decide) ?_
                    refine aw_iinc6 dX9_isAsked_126 (by decide) ?_
                    refine aw_goto (tg := 26) dX9_isAsked_129 (by decide) ?_
                    refine aw_dk_7_1 ?_
                    refine ih (j + 1) _ _ (by omega) (by omega) (by omega) (by omega) (by omega) ?_ ?_ ?_ hk2
                    · unfold hb_yI at hI ⊢; rw [hb_exs h1]; grind
                    · unfold hb_yB at hB ⊢; rw [hb_exs h1]; grind
                    · unfold hb_yR at hR ⊢; rw [hb_exs h1]; grind
                  · skip
                    refine aw_ald0 dX9_isAsked_108 ?_
                    refine aw_getf dX9_isAsked_109 hbf_X9_49 rfl rfl ?_
                    refine aw_ild6 dX9_isAsked_112 ?_
                    refine aw_iald dX9_isAsked_114 rfl (by constructor <;> omega) (by decide) ?_
                    refine aw_ild2 dX9_isAsked_115 ?_
                    refine aw_icmp_ne (tg := 123) dX9_isAsked_116 (by decide) (by first | exact hG _ _ | (constructor <;> omega)) (by first | exact hG _ _ | (constructor <;> omega)) (fun c116 => ?_) (fun c116 => ?_)
                    · skip
                      refine aw_iconst dX9_isAsked_123 ?_
                      refine aw_ist5 dX9_isAsked_124 (by decide) ?_
                      refine aw_iinc6 dX9_isAsked_126 (by decide) ?_
                      refine aw_goto (tg := 26) dX9_isAsked_129 (by decide) ?_
                      refine aw_dk_7_1 ?_
                      refine ih (j + 1) _ _ (by omega) (by omega) (by omega) (by omega) (by omega) ?_ ?_ ?_ hk2
                      · unfold hb_yI at hI ⊢; rw [hb_exs h1]; grind
                      · unfold hb_yB at hB ⊢; rw [hb_exs h1]; grind
                      · unfold hb_yR at hR ⊢; rw [hb_exs h1]; grind
                    · skip
                      refine aw_iconst dX9_isAsked_119 ?_
                      refine aw_goto (tg := 124) dX9_isAsked_120 (by decide) ?_
                      refine aw_ist5 dX9_isAsked_124 (by decide) ?_
                      refine aw_iinc6 dX9_isAsked_126 (by decide) ?_
                      refine aw_goto (tg := 26) dX9_isAsked_129 (by decide) ?_
                      refine aw_dk_7_1 ?_
                      refine ih (j + 1) _ _ (by omega) (by omega) (by omega) (by omega) (by omega) ?_ ?_ ?_ hk2
                      · unfold hb_yI at hI ⊢; rw [hb_exs h1]; grind
                      · unfold hb_yB at hB ⊢; rw [hb_exs h1]; grind
                      · unfold hb_yR at hR ⊢; rw [hb_exs h1]; grind
              · skip
                refine aw_iconst dX9_isAsked_91 ?_
                refine aw_goto (tg := 96) dX9_isAsked_92 (by decide) ?_
                refine aw_ist4 dX9_isAsked_96 (by decide) ?_
                refine aw_ild5 dX9_isAsked_98 ?_
                refine aw_if_ne (tg := 119) dX9_isAsked_100 (by decide) (by first | exact hG _ _ | (constructor <;> omega)) (fun c100 => ?_) (fun c100 => ?_)
                · skip
                  refine aw_iconst dX9_isAsked_119 ?_
                  refine aw_goto (tg := 124) dX9_isAsked_120 (by decide) ?_
                  refine aw_ist5 dX9_isAsked_124 (by decide) ?_
                  refine aw_iinc6 dX9_isAsked_126 (by decide) ?_
                  refine aw_goto (tg := 26) dX9_isAsked_129 (by decide) ?_
                  refine aw_dk_7_1 ?_
                  refine ih (j + 1) _ _ (by omega) (by omega) (by omega) (by omega) (by omega) ?_ ?_ ?_ hk2
                  · unfold hb_yI at hI ⊢; rw [hb_exs h1]; grind
                  · unfold hb_yB at hB ⊢; rw [hb_exs h1]; grind
                  · unfold hb_yR at hR ⊢; rw [hb_exs h1]; grind
                · skip
                  refine aw_ild7 dX9_isAsked_103 ?_
                  refine aw_ifb_eq (tg := 123) dX9_isAsked_105 (by decide) (fun c105 => ?_) (fun c105 => ?_)
                  · skip
                    refine aw_iconst dX9_isAsked_123 ?_
                    refine aw_ist5 dX9_isAsked_124 (by decide) ?_
                    refine aw_iinc6 dX9_isAsked_126 (by decide) ?_
                    refine aw_goto (tg := 26) dX9_isAsked_129 (by decide) ?_
                    refine aw_dk_7_1 ?_
                    refine ih (j + 1) _ _ (by omega) (by omega) (by omega) (by omega) (by omega) ?_ ?_ ?_ hk2
                    · unfold hb_yI at hI ⊢; rw [hb_exs h1]; grind
                    · unfold hb_yB at hB ⊢; rw [hb_exs h1]; grind
                    · unfold hb_yR at hR ⊢; rw [hb_exs h1]; grind
                  · skip
                    refine aw_ald0 dX9_isAsked_108 ?_
                    refine aw_getf dX9_isAsked_109 hbf_X9_49 rfl rfl ?_
                    refine aw_ild6 dX9_isAsked_112 ?_
                    refine aw_iald dX9_isAsked_114 rfl (by constructor <;> omega) (by decide) ?_
                    refine aw_ild2 dX9_isAsked_115 ?_
                    refine aw_icmp_ne (tg := 123) dX9_isAsked_116 (by decide) (by first | exact hG _ _ | (constructor <;> omega)) (by first | exact hG _ _ | (constructor <;> omega)) (fun c116 => ?_) (fun c116 => ?_)
                    · skip
                      refine aw_iconst dX9_isAsked_123 ?_
                      refine aw_ist5 dX9_isAsked_124 (by decide) ?_
                      refine aw_iinc6 dX9_isAsked_126 (by decide) ?_
                      refine aw_goto (tg := 26) dX9_isAsked_129 (by decide) ?_
                      refine aw_dk_7_1 ?_
                      refine ih (j + 1) _ _ (by omega) (by omega) (by omega) (by omega) (by omega) ?_ ?_ ?_ hk2
                      · unfold hb_yI at hI ⊢; rw [hb_exs h1]; grind
                      · unfold hb_yB at hB ⊢; rw [hb_exs h1]; grind
                      · unfold hb_yR at hR ⊢; rw [hb_exs h1]; grind
                    · skip
                      refine aw_iconst dX9_isAsked_119 ?_
                      refine aw_goto (tg := 124) dX9_isAsked_120 (by decide) ?_
                      refine aw_ist5 dX9_isAsked_124 (by decide) ?_
                      refine aw_iinc6 dX9_isAsked_126 (by decide) ?_
                      refine aw_goto (tg := 26) dX9_isAsked_129 (by decide) ?_
                      refine aw_dk_7_1 ?_
                      refine ih (j + 1) _ _ (by omega) (by omega) (by omega) (by omega) (by omega) ?_ ?_ ?_ hk2
                      · unfold hb_yI at hI ⊢; rw [hb_exs h1]; grind
                      · unfold hb_yB at hB ⊢; rw [hb_exs h1]; grind
                      · unfold hb_yR at hR ⊢; rw [hb_exs h1]; grind
          · skip
            refine aw_ald0 dX9_isAsked_62 ?_
            refine aw_getf dX9_isAsked_63 hbf_X9_52 rfl rfl ?_
            refine aw_ild6 dX9_isAsked_66 ?_
            refine aw_iald dX9_isAsked_68 rfl (by constructor <;> omega) (by decide) ?_
            refine aw_ild2 dX9_isAsked_69 ?_
            refine aw_icmp_ne (tg := 75) dX9_isAsked_70 (by decide) (by first | exact hG _ _ | (constructor <;> omega)) (by first | exact hG _ _ | (constructor <;> omega)) (fun c70 => ?_) (fun c70 => ?_)
            · skip
              refine aw_ild4 dX9_isAsked_75 ?_
              refine aw_if_ne (tg := 91) dX9_isAsked_77 (by decide) (by first | exact hG _ _ | (constructor <;> omega)) (fun c77 => ?_) (fun c77 => ?_)
              · skip
                refine aw_iconst dX9_isAsked_91 ?_
                refine aw_goto (tg := 96) dX9_isAsked_92 (by decide) ?_
                refine aw_ist4 dX9_isAsked_96 (by decide) ?_
                refine aw_ild5 dX9_isAsked_98 ?_
                refine aw_if_ne (tg := 119) dX9_isAsked_100 (by decide) (by first | exact hG _ _ | (constructor <;> omega)) (fun c100 => ?_) (fun c100 => ?_)
                · skip
                  refine aw_iconst dX9_isAsked_119 ?_
                  refine aw_goto (tg := 124) dX9_isAsked_120 (by decide) ?_
                  refine aw_ist5 dX9_isAsked_124 (by decide) ?_
                  refine aw_iinc6 dX9_isAsked_126 (by decide) ?_
                  refine aw_goto (tg := 26) dX9_isAsked_129 (by decide) ?_
                  refine aw_dk_7_1 ?_
                  refine ih (j + 1) _ _ (by omega) (by omega) (by omega) (by omega) (by omega) ?_ ?_ ?_ hk2
                  · unfold hb_yI at hI ⊢; rw [hb_exs h1]; grind
                  · unfold hb_yB at hB ⊢; rw [hb_exs h1]; grind
                  · unfold hb_yR at hR ⊢; rw [hb_exs h1]; grind
                · skip
                  refine aw_ild7 dX9_isAsked_103 ?_
                  refine aw_ifb_eq (tg := 123) dX9_isAsked_105 (by decide) (fun c105 => ?_) (fun c105 => ?_)
                  · skip
                    refine aw_iconst dX9_isAsked_123 ?_
                    refine aw_ist5 dX9_isAsked_124 (by decide) ?_
                    refine aw_iinc6 dX9_isAsked_126 (by decide) ?_
                    refine aw_goto (tg := 26) dX9_isAsked_129 (by decide) ?_
                    refine aw_dk_7_1 ?_
                    refine ih (j + 1) _ _ (by omega) (by omega) (by omega) (by omega) (by omega) ?_ ?_ ?_ hk2
                    · unfold hb_yI at hI ⊢; rw [hb_exs h1]; grind
                    · unfold hb_yB at hB ⊢; rw [hb_exs h1]; grind
                    · unfold hb_yR at hR ⊢; rw [hb_exs h1]; grind
                  · skip
                    refine aw_ald0 dX9_isAsked_108 ?_
                    refine aw_getf dX9_isAsked_109 hbf_X9_49 rfl rfl ?_
                    refine aw_ild6 dX9_isAsked_112 ?_
                    refine aw_iald dX9_isAsked_114 rfl (by constructor <;> omega) (by decide) ?_
                    refine aw_ild2 dX9_isAsked_115 ?_
                    refine aw_icmp_ne (tg := 123) dX9_isAsked_116 (by decide) (by first | exact hG _ _ | (constructor <;> omega)) (by first | exact hG _ _ | (constructor <;> omega)) (fun c116 => ?_) (fun c116 => ?_)
                    · skip
                      refine aw_iconst dX9_isAsked_123 ?_
                      refine aw_ist5 dX9_isAsked_124 (by decide) ?_
                      refine aw_iinc6 dX9_isAsked_126 (by decide) ?_
                      refine aw_goto (tg := 26) dX9_isAsked_129 (by decide) ?_
                      refine aw_dk_7_1 ?_
                      refine ih (j + 1) _ _ (by omega) (by omega) (by omega) (by omega) (by omega) ?_ ?_ ?_ hk2
                      · unfold hb_yI at hI ⊢; rw [hb_exs h1]; grind
                      · unfold hb_yB at hB ⊢; rw [hb_exs h1]; grind
                      · unfold hb_yR at hR ⊢; rw [hb_exs h1]; grind
                    · skip
                      refine aw_iconst dX9_isAsked_119 ?_
                      refine aw_goto (tg := 124) dX9_isAsked_120 (by decide) ?_
                      refine aw_ist5 dX9_isAsked_124 (by decide) ?_
                      refine aw_iinc6 dX9_isAsked_126 (by decide) ?_
                      refine aw_goto (tg := 26) dX9_isAsked_129 (by decide) ?_
                      refine aw_dk_7_1 ?_
                      refine ih (j + 1) _ _ (by omega) (by omega) (by omega) (by omega) (by omega) ?_ ?_ ?_ hk2
                      · unfold hb_yI at hI ⊢; rw [hb_exs h1]; grind
                      · unfold hb_yB at hB ⊢; rw [hb_exs h1]; grind
                      · unfold hb_yR at hR ⊢; rw [hb_exs h1]; grind
              · skip
                refine aw_ald0 dX9_isAsked_80 ?_
                refine aw_getf dX9_isAsked_81 hbf_X9_49 rfl rfl ?_
                refine aw_ild6 dX9_isAsked_84 ?_
                refine aw_iald dX9_isAsked_86 rfl (by constructor <;> omega) (by decide) ?_
                refine aw_ild2 dX9_isAsked_87 ?_
                refine aw_icmp_ne (tg := 95) dX9_isAsked_88 (by decide) (by first | exact hG _ _ | (constructor <;> omega)) (by first | exact hG _ _ | (constructor <;> omega)) (fun c88 => ?_) (fun c88 => ?_)
                · skip
                  refine aw_iconst dX9_isAsked_95 ?_
                  refine aw_ist4 dX9_isAsked_96 (by decide) ?_
                  refine aw_ild5 dX9_isAsked_98 ?_
                  refine aw_if_ne (tg := 119) dX9_isAsked_100 (by decide) (by first | exact hG _ _ | (constructor <;> omega)) (fun c100 => ?_) (fun c100 => ?_)
                  · skip
                    refine aw_iconst dX9_isAsked_119 ?_
                    refine aw_goto (tg := 124) dX9_isAsked_120 (by decide) ?_
                    refine aw_ist5 dX9_isAsked_124 (by decide) ?_
                    refine aw_iinc6 dX9_isAsked_126 (by decide) ?_
                    refine aw_goto (tg := 26) dX9_isAsked_129 (by decide) ?_
                    refine aw_dk_7_1 ?_
                    refine ih (j + 1) _ _ (by omega) (by omega) (by omega) (by omega) (by omega) ?_ ?_ ?_ hk2
                    · unfold hb_yI at hI ⊢; rw [hb_exs h1]; grind
                    · unfold hb_yB at hB ⊢; rw [hb_exs h1]; grind
                    · unfold hb_yR at hR ⊢; rw [hb_exs h1]; grind
                  · skip
                    refine aw_ild7 dX9_isAsked_103 ?_
                    refine aw_ifb_eq (tg := 123) dX9_isAsked_105 (by decide) (fun c105 => ?_) (fun c105 => ?_)
                    · skip
                      refine aw_iconst dX9_isAsked_123 ?_
                      refine aw_ist5 dX9_isAsked_124 (by decide) ?_
                      refine aw_iinc6 dX9_isAsked_126 (by decide) ?_
                      refine aw_goto (tg := 26) dX9_isAsked_129 (by decide) ?_
                      refine aw_dk_7_1 ?_
                      refine ih (j + 1) _ _ (by omega) (by omega) (by omega) (by omega) (by omega) ?_ ?_ ?_ hk2
                      · unfold hb_yI at hI ⊢; rw [hb_exs h1]; grind
                      · unfold hb_yB at hB ⊢; rw [hb_exs h1]; grind
                      · unfold hb_yR at hR ⊢; rw [hb_exs h1]; grind
                    · skip
                      refine aw_ald0 dX9_isAsked_108 ?_
                      refine aw_getf dX9_isAsked_109 hbf_X9_49 rfl rfl ?_
                      refine aw_ild6 dX9_isAsked_112 ?_
                      refine aw_iald dX9_isAsked_114 rfl (by constructor <;> omega) (by decide) ?_
                      refine aw_ild2 dX9_isAsked_115 ?_
                      refine aw_icmp_ne (tg := 123) dX9_isAsked_116 (by decide) (by first | exact hG _ _ | (constructor <;> omega)) (by first | exact hG _ _ | (constructor <;> omega)) (fun c116 => ?_) (fun c116 => ?_)
                      · skip
                        refine aw_iconst dX9_isAsked_123 ?_
                        refine aw_ist5 dX9_isAsked_124 (by decide) ?_
                        refine aw_iinc6 dX9_isAsked_126 (by decide) ?_
                        refine aw_goto (tg := 26) dX9_isAsked_129 (by decide) ?_
                        refine aw_dk_7_1 ?_
                        refine ih (j + 1) _ _ (by omega) (by omega) (by omega) (by omega) (by omega) ?_ ?_ ?_ hk2
                        · unfold hb_yI at hI ⊢; rw [hb_exs h1]; grind
                        · unfold hb_yB at hB ⊢; rw [hb_exs h1]; grind
                        · unfold hb_yR at hR ⊢; rw [hb_exs h1]; grind
                      · skip
                        refine aw_iconst dX9_isAsked_119 ?_
                        refine aw_goto (tg := 124) dX9_isAsked_120 (by decide) ?_
                        refine aw_ist5 dX9_isAsked_124 (by decide) ?_
                        refine aw_iinc6 dX9_isAsked_126 (by decide) ?_
                        refine aw_goto (tg := 26) dX9_isAsked_129 (by decide) ?_
                        refine aw_dk_7_1 ?_
                        refine ih (j + 1) _ _ (by omega) (by omega) (by omega) (by omega) (by omega) ?_ ?_ ?_ hk2
                        · unfold hb_yI at hI ⊢; rw [hb_exs h1]; grind
                        · unfold hb_yB at hB ⊢; rw [hb_exs h1]; grind
                        · unfold hb_yR at hR ⊢; rw [hb_exs h1]; grind
                · skip
                  refine aw_iconst dX9_isAsked_91 ?_
                  refine aw_goto (tg := 96) dX9_isAsked_92 (by decide) ?_
                  refine aw_ist4 dX9_isAsked_96 (by decide) ?_
                  refine aw_ild5 dX9_isAsked_98 ?_
                  refine aw_if_ne (tg := 119) dX9_isAsked_100 (by decide) (by first | exact hG _ _ | (constructor <;> omega)) (fun c100 => ?_) (fun c100 => ?_)
                  · skip
                    refine aw_iconst dX9_isAsked_119 ?_
                    refine aw_goto (tg := 124) dX9_isAsked_120 (by decide) ?_
                    refine aw_ist5 dX9_isAsked_124 (by decide) ?_
                    refine aw_iinc6 dX9_isAsked_126 (by decide) ?_
                    refine aw_goto (tg := 26) dX9_isAsked_129 (by decide) ?_
                    refine aw_dk_7_1 ?_
                    refine ih (j + 1) _ _ (by omega) (by omega) (by omega) (by omega) (by omega) ?_ ?_ ?_ hk2
                    · unfold hb_yI at hI ⊢; rw [hb_exs h1]; grind
                    · unfold hb_yB at hB ⊢; rw [hb_exs h1]; grind
                    · unfold hb_yR at hR ⊢; rw [hb_exs h1]; grind
                  · skip
                    refine aw_ild7 dX9_isAsked_103 ?_
                    refine aw_ifb_eq (tg := 123) dX9_isAsked_105 (by decide) (fun c105 => ?_) (fun c105 => ?_)
                    · skip
                      refine aw_iconst dX9_isAsked_123 ?_
                      refine aw_ist5 dX9_isAsked_124 (by decide) ?_
                      refine aw_iinc6 dX9_isAsked_126 (by decide) ?_
                      refine aw_goto (tg := 26) dX9_isAsked_129 (by decide) ?_
                      refine aw_dk_7_1 ?_
                      refine ih (j + 1) _ _ (by omega) (by omega) (by omega) (by omega) (by omega) ?_ ?_ ?_ hk2
                      · unfold hb_yI at hI ⊢; rw [hb_exs h1]; grind
                      · unfold hb_yB at hB ⊢; rw [hb_exs h1]; grind
                      · unfold hb_yR at hR ⊢; rw [hb_exs h1]; grind
                    · skip
                      refine aw_ald0 dX9_isAsked_108 ?_
                      refine aw_getf dX9_isAsked_109 hbf_X9_49 rfl rfl ?_
                      refine aw_ild6 dX9_isAsked_112 ?_
                      refine aw_iald dX9_isAsked_114 rfl (by constructor <;> omega) (by decide) ?_
                      refine aw_ild2 dX9_isAsked_115 ?_
                      refine aw_icmp_ne (tg := 123) dX9_isAsked_116 (by decide) (by first | exact hG _ _ | (constructor <;> omega)) (by first | exact hG _ _ | (constructor <;> omega)) (fun c116 => ?_) (fun c116 => ?_)
                      · skip
                        refine aw_iconst dX9_isAsked_123 ?_
                        refine aw_ist5 dX9_isAsked_124 (by decide) ?_
                        refine aw_iinc6 dX9_isAsked_126 (by decide) ?_
                        refine aw_goto (tg := 26) dX9_isAsked_129 (by decide) ?_
                        refine aw_dk_7_1 ?_
                        refine ih (j + 1) _ _ (by omega) (by omega) (by omega) (by omega) (by omega) ?_ ?_ ?_ hk2
                        · unfold hb_yI at hI ⊢; rw [hb_exs h1]; grind
                        · unfold hb_yB at hB ⊢; rw [hb_exs h1]; grind
                        · unfold hb_yR at hR ⊢; rw [hb_exs h1]; grind
                      · skip
                        refine aw_iconst dX9_isAsked_119 ?_
                        refine aw_goto (tg := 124) dX9_isAsked_120 (by decide) ?_
                        refine aw_ist5 dX9_isAsked_124 (by decide) ?_
                        refine aw_iinc6 dX9_isAsked_126 (by decide) ?_
                        refine aw_goto (tg := 26) dX9_isAsked_129 (by decide) ?_
                        refine aw_dk_7_1 ?_
                        refine ih (j + 1) _ _ (by omega) (by omega) (by omega) (by omega) (by omega) ?_ ?_ ?_ hk2
                        · unfold hb_yI at hI ⊢; rw [hb_exs h1]; grind
                        · unfold hb_yB at hB ⊢; rw [hb_exs h1]; grind
                        · unfold hb_yR at hR ⊢; rw [hb_exs h1]; grind
            · skip
              refine aw_iconst dX9_isAsked_73 ?_
              exact aw_zret dX9_isAsked_74 rfl (by first | omega | exact hb_b01 _) (by first | exact hb_oi1 ⟨hk2, (by have e9 : j = 8 := (by omega); subst e9; exact hR), (by have e9 : j = 8 := (by omega); subst e9; first | exact Or.inr (hB.mp (by omega)) | exact Or.inl (fun h9 => by have := hI.mpr h9; omega))⟩ | exact hb_oi0 (fun (h9 : hb_jq G t k pt n) => by have e9 : j = 8 := (by omega); subst e9; rcases h9.2.2 with h8 | h8; (exact h8 (hI.mp (by omega))); (have := hB.mpr h8; omega)) | exact hb_oi0 (fun (h9 : hb_jq G t k pt n) => h9.2.1 ⟨j, by omega, by assumption, by assumption, by assumption⟩)) rfl rfl (by decide) (by decide)
        · skip
          refine aw_goto (tg := 126) dX9_isAsked_44 (by decide) ?_
          refine aw_iinc6 dX9_isAsked_126 (by decide) ?_
          refine aw_goto (tg := 26) dX9_isAsked_129 (by decide) ?_
          refine ih (j + 1) _ _ (by omega) (by omega) (by omega) (by omega) (by omega) ?_ ?_ ?_ hk2
          · unfold hb_yI at hI ⊢; rw [hb_exs h1]; grind
          · unfold hb_yB at hB ⊢; rw [hb_exs h1]; grind
          · unfold hb_yR at hR ⊢; rw [hb_exs h1]; grind
  refine aw_ald0 dX9_isAsked_0 ?_
  refine aw_getf dX9_isAsked_1 hbf_X9_31 rfl rfl ?_
  refine aw_ild2 dX9_isAsked_4 ?_
  refine aw_iald dX9_isAsked_5 rfl (by constructor <;> omega) (by decide) ?_
  refine aw_ald0 dX9_isAsked_6 ?_
  refine aw_getf dX9_isAsked_7 hbf_X9_19 rfl rfl ?_
  refine aw_ild1 dX9_isAsked_10 ?_
  refine aw_iald dX9_isAsked_11 rfl (by constructor <;> omega) (by decide) ?_
  refine aw_icmp_eq (tg := 17) dX9_isAsked_12 (by decide) (by first | exact hG _ _ | assumption | (constructor <;> omega)) (by first | exact hG _ _ | assumption | (constructor <;> omega)) (fun c12 => ?_) (fun c12 => ?_)
  · skip
    refine aw_iconst dX9_isAsked_17 ?_
    refine aw_ipu4 dX9_isAsked_18 (by decide) ?_
    refine aw_iconst dX9_isAsked_20 ?_
    refine aw_ipu5 dX9_isAsked_21 (by decide) ?_
    refine aw_iconst dX9_isAsked_23 ?_
    refine aw_ipu6 dX9_isAsked_24 (by decide) ?_
    exact key 9 0 0 0 (by omega) (by omega) (by omega) (by omega) (by omega) ⟨fun h9 => by omega, fun ⟨o9, h8, _⟩ => by omega⟩ ⟨fun h9 => by omega, fun ⟨o9, h8, _⟩ => by omega⟩ (fun ⟨o9, h8, _⟩ => by omega) (by assumption)
  · skip
    refine aw_iconst dX9_isAsked_15 ?_
    exact aw_zret dX9_isAsked_16 rfl (by first | omega | exact hb_b01 _) (by exact hb_oi0 (fun h9 => absurd h9.1 (by assumption))) rfl rfl (by decide) (by decide)
set_option maxRecDepth 20000 in
set_option maxHeartbeats 1000000 in
theorem c_mAskedN {l : Launch} {G : hb_G} {F : hb_F} {na : Nat} {t k d : Int} (it : hb_in t) (ik : hb_in k) (id : hb_in d) (hP : ¬ ((0 ≤ t ∧ t < 40 ∧ hb_u2 G 47 0 0 51 t ≠ -1) ∧ (0 ≤ k ∧ k < 16 ∧ hb_u2 G 47 0 0 55 k ≠ -1) ∧ (0 ≤ d ∧ d ≤ 30000))) (hG : hb_rg G) : hb_M l yX9_asked cX9_asked 5 (some .int) 3 0 0 [hb_r 47, hb_i t, hb_i k, hb_i d] (hb_w G F na) (77 + na) (.inl (some (hb_i (0)))) (hb_w (hb_u2 G 47 0 0) F na) (77 + na) := by
  refine hb_M_in rfl rfl (by decide) rfl (Nat.le_of_ble_eq_true rfl) ?_
  intro E z0 σ0
  have hG0 := hG
  have hG : hb_rg (hb_u2 G 47 0 0) := hG0.u2 (by decide)
  refine aw_ald0 dX9_asked_0 ?_
  refine aw_iconst dX9_asked_1 ?_
  refine aw_putz (jz := 0) dX9_asked_2 hbf_X9_95 hbS_X9 (fun C T n h9 => by cases h9; exact ⟨rfl, by decide +kernel, fun h8 => by cases h8⟩) rfl rfl rfl rfl ?_
  refine aw_ald0 dX9_asked_5 ?_
  refine aw_ild1 dX9_asked_6 ?_
  refine aw_V1v dX9_asked_7 (c_mIsThing (by first | assumption | (constructor <;> omega) | exact hG _ _) hG) rfl rfl hbY_X9_isThing hbm_X9_104 hbi_X9_isThing hbe_X9_X9_isThing (Nat.le_of_ble_eq_true rfl) ⟨by decide, by decide⟩ (by decide) (by decide) ?_
  refine aw_ifb_eq (tg := 28) dX9_asked_10 (by decide) (fun c10 => ?_) (fun c10 => ?_)
  · skip
    refine aw_iconst dX9_asked_28 ?_
    exact aw_iret dX9_asked_29 rfl (by rfl) rfl rfl (by decide) (by decide)
  · skip
    refine aw_ald0 dX9_asked_13 ?_
    refine aw_ild2 dX9_asked_14 ?_
    refine aw_V1v dX9_asked_15 (c_mIsTask (by first | assumption | (constructor <;> omega) | exact hG _ _) hG) rfl rfl hbY_X9_isTask hbm_X9_120 hbi_X9_isTask hbe_X9_X9_isTask (Nat.le_of_ble_eq_true rfl) ⟨by decide, by decide⟩ (by decide) (by decide) ?_
    refine aw_ifb_eq (tg := 28) dX9_asked_18 (by decide) (fun c18 => ?_) (fun c18 => ?_)
    · skip
      refine aw_iconst dX9_asked_28 ?_
      exact aw_iret dX9_asked_29 rfl (by rfl) rfl rfl (by decide) (by decide)
    · skip
      refine aw_ild3 dX9_asked_21 ?_
      refine aw_S1v dX9_asked_22 (c_mIsDay (by first | assumption | (constructor <;> omega) | exact hG _ _)) hbY_X9_isDay hbm_X9_115 hbs_X9_isDay (Nat.le_of_ble_eq_true rfl) ⟨by decide, by decide⟩ (by decide) (by decide) ?_
      refine aw_ifb_ne (tg := 30) dX9_asked_25 (by decide) (fun c25 => ?_) (fun c25 => ?_)
      · skip
        exact absurd (by omega) hP
      · skip
        refine aw_iconst dX9_asked_28 ?_
        exact aw_iret dX9_asked_29 rfl (by rfl) rfl rfl (by decide) (by decide)
set_option maxRecDepth 20000 in
set_option maxHeartbeats 1000000 in
theorem c_mAsked0 {l : Launch} {G : hb_G} {F : hb_F} {na : Nat} {t k d : Int} {n : Nat} (it : hb_in t) (ik : hb_in k) (id : hb_in d) (hP : (0 ≤ t ∧ t < 40 ∧ hb_u2 G 47 0 0 51 t ≠ -1) ∧ (0 ≤ k ∧ k < 16 ∧ hb_u2 G 47 0 0 55 k ≠ -1) ∧ (0 ≤ d ∧ d ≤ 30000)) (hn : (hb_u2 G 47 0 0) 47 17 = n) (hn2 : n ≤ 200) (hq : ¬ hb_jq (hb_u2 G 47 0 0) t k (100 * d + 99) n) (hG : hb_rg G) : hb_M l yX9_asked cX9_asked 5 (some .int) 3 0 0 [hb_r 47, hb_i t, hb_i k, hb_i d] (hb_w G F na) (77 + na) (.inl (some (hb_i (0)))) (hb_w (hb_u2 G 47 0 0) F na) (77 + na) := by
  refine hb_M_in rfl rfl (by decide) rfl (Nat.le_of_ble_eq_true rfl) ?_
  intro E z0 σ0
  have hG0 := hG
  have hG : hb_rg (hb_u2 G 47 0 0) := hG0.u2 (by decide)
  refine aw_ald0 dX9_asked_0 ?_
  refine aw_iconst dX9_asked_1 ?_
  refine aw_putz (jz := 0) dX9_asked_2 hbf_X9_95 hbS_X9 (fun C T n h9 => by cases h9; exact ⟨rfl, by decide +kernel, fun h8 => by cases h8⟩) rfl rfl rfl rfl ?_
  refine aw_ald0 dX9_asked_5 ?_
  refine aw_ild1 dX9_asked_6 ?_
  refine aw_V1v dX9_asked_7 (c_mIsThing (by first | assumption | (constructor <;> omega) | exact hG _ _) hG) rfl rfl hbY_X9_isThing hbm_X9_104 hbi_X9_isThing hbe_X9_X9_isThing (Nat.le_of_ble_eq_true rfl) ⟨by decide, by decide⟩ (by decide) (by decide) ?_
  refine aw_ifb_eq (tg := 28) dX9_asked_10 (by decide) (fun c10 => ?_) (fun c10 => ?_)
  · skip
    exact absurd hP (by omega)
  · skip
    refine aw_ald0 dX9_asked_13 ?_
    refine aw_ild2 dX9_asked_14 ?_
    refine aw_V1v dX9_asked_15 (c_mIsTask (by first | assumption | (constructor <;> omega) | exact hG _ _) hG) rfl rfl hbY_X9_isTask hbm_X9_120 hbi_X9_isTask hbe_X9_X9_isTask (Nat.le_of_ble_eq_true rfl) ⟨by decide, by decide⟩ (by decide) (by decide) ?_
    refine aw_ifb_eq (tg := 28) dX9_asked_18 (by decide) (fun c18 => ?_) (fun c18 => ?_)
    · skip
      exact absurd hP (by omega)
    · skip
      refine aw_ild3 dX9_asked_21 ?_
      refine aw_S1v dX9_asked_22 (c_mIsDay (by first | assumption | (constructor <;> omega) | exact hG _ _)) hbY_X9_isDay hbm_X9_115 hbs_X9_isDay (Nat.le_of_ble_eq_true rfl) ⟨by decide, by decide⟩ (by decide) (by decide) ?_
      refine aw_ifb_ne (tg := 30) dX9_asked_25 (by decide) (fun c25 => ?_) (fun c25 => ?_)
      · skip
        refine aw_bipush dX9_asked_30 (by decide) ?_
        refine aw_ild3 dX9_asked_32 ?_
        refine aw_imul dX9_asked_33 ?_
        refine aw_bipush dX9_asked_34 (by decide) ?_
        refine aw_iadd dX9_asked_36 ?_
        refine aw_ipu4 dX9_asked_37 (by decide) ?_
        refine aw_ald0 dX9_asked_39 ?_
        refine aw_ild1 dX9_asked_40 ?_
        refine aw_ild2 dX9_asked_41 ?_
        refine aw_ild4 dX9_asked_42 ?_
        refine aw_V3v dX9_asked_44 (c_mIsAsked (by omega) (by omega) (by constructor <;> omega) hn hn2 hG) rfl rfl hbY_X9_isAsked hbm_X9_213 hbi_X9_isAsked hbe_X9_X9_isAsked (Nat.le_of_ble_eq_true rfl) ⟨by decide, by decide⟩ (by decide) (by decide) ?_
        refine aw_ifb_ne (tg := 54) dX9_asked_47 (by decide) (fun c47 => absurd c47 (by exact fun h8 => hq h8)) (fun c47 => ?_)
        refine aw_iconst dX9_asked_50 ?_
        refine aw_goto (tg := 70) dX9_asked_51 (by decide) ?_
        exact aw_iret dX9_asked_70 rfl (by rfl) rfl rfl (by decide) (by decide)
      · skip
        exact absurd hP (by omega)
set_option maxRecDepth 20000 in
set_option maxHeartbeats 1000000 in
theorem c_mAsked1 {l : Launch} {G : hb_G} {F : hb_F} {na : Nat} {t k d : Int} {n : Nat} (it : hb_in t) (ik : hb_in k) (id : hb_in d) (hP : (0 ≤ t ∧ t < 40 ∧ hb_u2 G 47 0 0 51 t ≠ -1) ∧ (0 ≤ k ∧ k < 16 ∧ hb_u2 G 47 0 0 55 k ≠ -1) ∧ (0 ≤ d ∧ d ≤ 30000)) (hn : (hb_u2 G 47 0 0) 47 17 = n) (hn2 : n ≤ 200) (hq : hb_jq (hb_u2 G 47 0 0) t k (100 * d + 99) n) (hO : hb_M l yX9_isOverdue cX9_isOverdue 5 (some .boolean) 2 0 0 [hb_r 47, hb_i t, hb_i k, hb_i (100 * d + 99)] (hb_w (hb_u2 G 47 0 0) F na) (77 + na) (.inl (some (hb_i (0)))) (hb_w (hb_u2 G 47 0 0) F na) (77 + na)) (hG : hb_rg G) : hb_M l yX9_asked cX9_asked 5 (some .int) 3 0 0 [hb_r 47, hb_i t, hb_i k, hb_i d] (hb_w G F na) (77 + na) (.inl (some (hb_i (1)))) (hb_w (hb_u2 G 47 0 0) F na) (77 + na) := by
  refine hb_M_in rfl rfl (by decide) rfl (Nat.le_of_ble_eq_true rfl) ?_
  intro E z0 σ0
  have hG0 := hG
  have hG : hb_rg (hb_u2 G 47 0 0) := hG0.u2 (by decide)
  refine aw_ald0 dX9_asked_0 ?_
  refine aw_iconst dX9_asked_1 ?_
  refine aw_putz (jz := 0) dX9_asked_2 hbf_X9_95 hbS_X9 (fun C T n h9 => by cases h9; exact ⟨rfl, by decide +kernel, fun h8 => by cases h8⟩) rfl rfl rfl rfl ?_
  refine aw_ald0 dX9_asked_5 ?_
  refine aw_ild1 dX9_asked_6 ?_
  refine aw_V1v dX9_asked_7 (c_mIsThing (by first | assumption | (constructor <;> omega) | exact hG _ _) hG) rfl rfl hbY_X9_isThing hbm_X9_104 hbi_X9_isThing hbe_X9_X9_isThing (Nat.le_of_ble_eq_true rfl) ⟨by decide, by decide⟩ (by decide) (by decide) ?_
  refine aw_ifb_eq (tg := 28) dX9_asked_10 (by decide) (fun c10 => ?_) (fun c10 => ?_)
  · skip
    exact absurd hP (by omega)
  · skip
    refine aw_ald0 dX9_asked_13 ?_
    refine aw_ild2 dX9_asked_14 ?_
    refine aw_V1v dX9_asked_15 (c_mIsTask (by first | assumption | (constructor <;> omega) | exact hG _ _) hG) rfl rfl hbY_X9_isTask hbm_X9_120 hbi_X9_isTask hbe_X9_X9_isTask (Nat.le_of_ble_eq_true rfl) ⟨by decide, by decide⟩ (by decide) (by decide) ?_
    refine aw_ifb_eq (tg := 28) dX9_asked_18 (by decide) (fun c18 => ?_) (fun c18 => ?_)
    · skip
      exact absurd hP (by omega)
    · skip
      refine aw_ild3 dX9_asked_21 ?_
      refine aw_S1v dX9_asked_22 (c_mIsDay (by first | assumption | (constructor <;> omega) | exact hG _ _)) hbY_X9_isDay hbm_X9_115 hbs_X9_isDay (Nat.le_of_ble_eq_true rfl) ⟨by decide, by decide⟩ (by decide) (by decide) ?_
      refine aw_ifb_ne (tg := 30) dX9_asked_25 (by decide) (fun c25 => ?_) (fun c25 => ?_)
      · skip
        refine aw_bipush dX9_asked_30 (by decide) ?_
        refine aw_ild3 dX9_asked_32 ?_
        refine aw_imul dX9_asked_33 ?_
        refine aw_bipush dX9_asked_34 (by decide) ?_
        refine aw_iadd dX9_asked_36 ?_
        refine aw_ipu4 dX9_asked_37 (by decide) ?_
        refine aw_ald0 dX9_asked_39 ?_
        refine aw_ild1 dX9_asked_40 ?_
        refine aw_ild2 dX9_asked_41 ?_
        refine aw_ild4 dX9_asked_42 ?_
        refine aw_V3v dX9_asked_44 (c_mIsAsked (by omega) (by omega) (by constructor <;> omega) hn hn2 hG) rfl rfl hbY_X9_isAsked hbm_X9_213 hbi_X9_isAsked hbe_X9_X9_isAsked (Nat.le_of_ble_eq_true rfl) ⟨by decide, by decide⟩ (by decide) (by decide) ?_
        refine aw_ifb_ne (tg := 54) dX9_asked_47 (by decide) (fun c47 => ?_) (fun c47 => absurd c47 (by exact fun h8 => h8 hq))
        refine aw_ald0 dX9_asked_54 ?_
        refine aw_ild1 dX9_asked_55 ?_
        refine aw_ild2 dX9_asked_56 ?_
        refine aw_ild4 dX9_asked_57 ?_
        refine aw_V3v dX9_asked_59 hO rfl rfl hbY_X9_isOverdue hbm_X9_216 hbi_X9_isOverdue hbe_X9_X9_isOverdue (Nat.le_of_ble_eq_true rfl) ⟨by decide, by decide⟩ (by decide) (by decide) ?_
        refine aw_if_eq (tg := 69) dX9_asked_62 (by decide) (by decide) (fun c62 => ?_) (fun c62 => absurd c62 (by decide))
        refine aw_iconst dX9_asked_69 ?_
        exact aw_iret dX9_asked_70 rfl (by rfl) rfl rfl (by decide) (by decide)
      · skip
        exact absurd hP (by omega)
set_option maxRecDepth 20000 in
set_option maxHeartbeats 1000000 in
theorem c_mAsked2 {l : Launch} {G : hb_G} {F : hb_F} {na : Nat} {t k d : Int} {n : Nat} (it : hb_in t) (ik : hb_in k) (id : hb_in d) (hP : (0 ≤ t ∧ t < 40 ∧ hb_u2 G 47 0 0 51 t ≠ -1) ∧ (0 ≤ k ∧ k < 16 ∧ hb_u2 G 47 0 0 55 k ≠ -1) ∧ (0 ≤ d ∧ d ≤ 30000)) (hn : (hb_u2 G 47 0 0) 47 17 = n) (hn2 : n ≤ 200) (hq : hb_jq (hb_u2 G 47 0 0) t k (100 * d + 99) n) (hO : hb_M l yX9_isOverdue cX9_isOverdue 5 (some .boolean) 2 0 0 [hb_r 47, hb_i t, hb_i k, hb_i (100 * d + 99)] (hb_w (hb_u2 G 47 0 0) F na) (77 + na) (.inl (some (hb_i (1)))) (hb_w (hb_u2 G 47 0 0) F na) (77 + na)) (hG : hb_rg G) : hb_M l yX9_asked cX9_asked 5 (some .int) 3 0 0 [hb_r 47, hb_i t, hb_i k, hb_i d] (hb_w G F na) (77 + na) (.inl (some (hb_i (2)))) (hb_w (hb_u2 G 47 0 0) F na) (77 + na) := by
  refine hb_M_in rfl rfl (by decide) rfl (Nat.le_of_ble_eq_true rfl) ?_
  intro E z0 σ0
  have hG0 := hG
  have hG : hb_rg (hb_u2 G 47 0 0) := hG0.u2 (by decide)
  refine aw_ald0 dX9_asked_0 ?_
  refine aw_iconst dX9_asked_1 ?_
  refine aw_putz (jz := 0) dX9_asked_2 hbf_X9_95 hbS_X9 (fun C T n h9 => by cases h9; exact ⟨rfl, by decide +kernel, fun h8 => by cases h8⟩) rfl rfl rfl rfl ?_
  refine aw_ald0 dX9_asked_5 ?_
  refine aw_ild1 dX9_asked_6 ?_
  refine aw_V1v dX9_asked_7 (c_mIsThing (by first | assumption | (constructor <;> omega) | exact hG _ _) hG) rfl rfl hbY_X9_isThing hbm_X9_104 hbi_X9_isThing hbe_X9_X9_isThing (Nat.le_of_ble_eq_true rfl) ⟨by decide, by decide⟩ (by decide) (by decide) ?_
  refine aw_ifb_eq (tg := 28) dX9_asked_10 (by decide) (fun c10 => ?_) (fun c10 => ?_)
  · skip
    exact absurd hP (by omega)
  · skip
    refine aw_ald0 dX9_asked_13 ?_
    refine aw_ild2 dX9_asked_14 ?_
    refine aw_V1v dX9_asked_15 (c_mIsTask (by first | assumption | (constructor <;> omega) | exact hG _ _) hG) rfl rfl hbY_X9_isTask hbm_X9_120 hbi_X9_isTask hbe_X9_X9_isTask (Nat.le_of_ble_eq_true rfl) ⟨by decide, by decide⟩ (by decide) (by decide) ?_
    refine aw_ifb_eq (tg := 28) dX9_asked_18 (by decide) (fun c18 => ?_) (fun c18 => ?_)
    · skip
      exact absurd hP (by omega)
    · skip
      refine aw_ild3 dX9_asked_21 ?_
      refine aw_S1v dX9_asked_22 (c_mIsDay (by first | assumption | (constructor <;> omega) | exact hG _ _)) hbY_X9_isDay hbm_X9_115 hbs_X9_isDay (Nat.le_of_ble_eq_true rfl) ⟨by decide, by decide⟩ (by decide) (by decide) ?_
      refine aw_ifb_ne (tg := 30) dX9_asked_25 (by decide) (fun c25 => ?_) (fun c25 => ?_)
      · skip
        refine aw_bipush dX9_asked_30 (by decide) ?_
        refine aw_ild3 dX9_asked_32 ?_
        refine aw_imul dX9_asked_33 ?_
        refine aw_bipush dX9_asked_34 (by decide) ?_
        refine aw_iadd dX9_asked_36 ?_
        refine aw_ipu4 dX9_asked_37 (by decide) ?_
        refine aw_ald0 dX9_asked_39 ?_
        refine aw_ild1 dX9_asked_40 ?_
        refine aw_ild2 dX9_asked_41 ?_
        refine aw_ild4 dX9_asked_42 ?_
        refine aw_V3v dX9_asked_44 (c_mIsAsked (by omega) (by omega) (by constructor <;> omega) hn hn2 hG) rfl rfl hbY_X9_isAsked hbm_X9_213 hbi_X9_isAsked hbe_X9_X9_isAsked (Nat.le_of_ble_eq_true rfl) ⟨by decide, by decide⟩ (by decide) (by decide) ?_
        refine aw_ifb_ne (tg := 54) dX9_asked_47 (by decide) (fun c47 => ?_) (fun c47 => absurd c47 (by exact fun h8 => h8 hq))
        refine aw_ald0 dX9_asked_54 ?_
        refine aw_ild1 dX9_asked_55 ?_
        refine aw_ild2 dX9_asked_56 ?_
        refine aw_ild4 dX9_asked_57 ?_
        refine aw_V3v dX9_asked_59 hO rfl rfl hbY_X9_isOverdue hbm_X9_216 hbi_X9_isOverdue hbe_X9_X9_isOverdue (Nat.le_of_ble_eq_true rfl) ⟨by decide, by decide⟩ (by decide) (by decide) ?_
        refine aw_if_eq (tg := 69) dX9_asked_62 (by decide) (by decide) (fun c62 => absurd c62 (by decide)) (fun c62 => ?_)
        refine aw_iconst dX9_asked_65 ?_
        refine aw_goto (tg := 70) dX9_asked_66 (by decide) ?_
        exact aw_iret dX9_asked_70 rfl (by rfl) rfl rfl (by decide) (by decide)
      · skip
        exact absurd hP (by omega)
def hb_jr (G : hb_G) (m t : Int) : Prop := G 51 t ≠ -1 ∧ hb_ii (G 71) m 4 t
set_option maxRecDepth 20000 in
set_option maxHeartbeats 1000000 in
theorem c_mIsOfTree {l : Launch} {G : hb_G} {F : hb_F} {na : Nat} {t m : Int} (ht : 0 ≤ t ∧ t < 40) (im : hb_in m) (hp : hb_tr (G 71)) (hen : ∀ t, 0 ≤ t ∧ t < 40 → hb_en (G 71) 4 t) (hG : hb_rg G) : hb_M l yX9_isOfTree cX9_isOfTree 3 (some .boolean) 1 0 0 [hb_r 47, hb_i t, hb_i m] (hb_w G F na) (77 + na) (.inl (some (hb_i (hb_b (hb_jr G m t))))) (hb_w G F na) (77 + na) := by
  refine hb_M_in rfl rfl (by decide) rfl (Nat.le_of_ble_eq_true rfl) ?_
  intro E z0 σ0
  refine aw_ald0 dX9_isOfTree_0 ?_
  refine aw_getf dX9_isOfTree_1 hbf_X9_19 rfl rfl ?_
  refine aw_ild1 dX9_isOfTree_4 ?_
  refine aw_iald dX9_isOfTree_5 rfl (by constructor <;> omega) (by decide) ?_
  refine aw_iconst dX9_isOfTree_6 ?_
  refine aw_icmp_eq (tg := 23) dX9_isOfTree_7 (by decide) (by first | exact hG _ _ | assumption | (constructor <;> omega)) (by first | exact hG _ _ | assumption | (constructor <;> omega)) (fun c7 => ?_) (fun c7 => ?_)
  · skip
    refine aw_iconst dX9_isOfTree_23 ?_
    exact aw_zret dX9_isOfTree_24 rfl (by first | omega | exact hb_b01 _) (by first | exact hb_oi1 ⟨by assumption, by assumption⟩ | exact hb_oi0 (fun h9 => absurd h9.1 (by omega)) | exact hb_oi0 (fun h9 => absurd h9.2 (by assumption))) rfl rfl (by decide) (by decide)
  · skip
    refine aw_ald0 dX9_isOfTree_10 ?_
    refine aw_ild1 dX9_isOfTree_11 ?_
    refine aw_ild2 dX9_isOfTree_12 ?_
    refine aw_V2v dX9_isOfTree_13 (c_mIsIn (by first | assumption | (constructor <;> omega) | exact hG _ _) (by first | assumption | (constructor <;> omega) | exact hG _ _) hp hen hG) rfl rfl hbY_X9_isIn hbm_X9_132 hbi_X9_isIn hbe_X9_X9_isIn (Nat.le_of_ble_eq_true rfl) ⟨by decide, by decide⟩ (by decide) (by decide) ?_
    refine aw_ifb_eq (tg := 23) dX9_isOfTree_16 (by decide) (fun c16 => ?_) (fun c16 => ?_)
    · skip
      refine aw_iconst dX9_isOfTree_23 ?_
      exact aw_zret dX9_isOfTree_24 rfl (by first | omega | exact hb_b01 _) (by first | exact hb_oi1 ⟨by assumption, by assumption⟩ | exact hb_oi0 (fun h9 => absurd h9.1 (by omega)) | exact hb_oi0 (fun h9 => absurd h9.2 (by assumption))) rfl rfl (by decide) (by decide)
    · skip
      refine aw_iconst dX9_isOfTree_19 ?_
      refine aw_goto (tg := 24) dX9_isOfTree_20 (by decide) ?_
      exact aw_zret dX9_isOfTree_24 rfl (by first | omega | exact hb_b01 _) (by first | exact hb_oi1 ⟨by assumption, by assumption⟩ | exact hb_oi0 (fun h9 => absurd h9.1 (by omega)) | exact hb_oi0 (fun h9 => absurd h9.2 (by assumption))) rfl rfl (by decide) (by decide)
set_option maxRecDepth 20000 in
set_option maxHeartbeats 1000000 in
theorem c_mIsWorn {l : Launch} {G : hb_G} {F : hb_F} {na : Nat} {t pt : Int} {n : Nat} (ht : 0 ≤ t ∧ t < 40) (hkd : 0 ≤ G 51 t ∧ G 51 t < 12) (ip : hb_in pt) (hp0 : 0 ≤ pt) (hn : G 47 17 = n) (hn2 : n ≤ 200) (ic0 : hb_in (hb_cj G t 0 pt n)) (ic1 : hb_in (hb_cj G t 1 pt n)) (hG : hb_rg G) : hb_M l yX9_isWorn cX9_isWorn 4 (some .boolean) 1 0 0 [hb_r 47, hb_i t, hb_i pt] (hb_w G F na) (77 + na) (.inl (some (hb_i (hb_b ((0 < G 49 (G 51 t) ∧ G 49 (G 51 t) < hb_cj G t 0 pt n) ∨ (0 < G 50 (G 51 t) ∧ G 50 (G 51 t) < hb_cj G t 1 pt n)))))) (hb_w G F na) (77 + na) := by
  refine hb_M_in rfl rfl (by decide) rfl (Nat.le_of_ble_eq_true rfl) ?_
  intro E z0 σ0
  refine aw_ald0 dX9_isWorn_0 ?_
  refine aw_getf dX9_isWorn_1 hbf_X9_19 rfl rfl ?_
  refine aw_ild1 dX9_isWorn_4 ?_
  refine aw_iald dX9_isWorn_5 rfl (by constructor <;> omega) (by decide) ?_
  refine aw_ipu3 dX9_isWorn_6 (by decide) ?_
  refine aw_ald0 dX9_isWorn_7 ?_
  refine aw_getf dX9_isWorn_8 hbf_X9_13 rfl rfl ?_
  refine aw_ild3 dX9_isWorn_11 ?_
  refine aw_iald dX9_isWorn_12 rfl (by constructor <;> omega) (by decide) ?_
  refine aw_if_le (tg := 32) dX9_isWorn_13 (by decide) (by first | exact hG _ _ | assumption | (constructor <;> omega)) (fun c13 => ?_) (fun c13 => ?_)
  · skip
    refine aw_ald0 dX9_isWorn_32 ?_
    refine aw_getf dX9_isWorn_33 hbf_X9_16 rfl rfl ?_
    refine aw_ild3 dX9_isWorn_36 ?_
    refine aw_iald dX9_isWorn_37 rfl (by constructor <;> omega) (by decide) ?_
    refine aw_if_le (tg := 61) dX9_isWorn_38 (by decide) (by first | exact hG _ _ | assumption | (constructor <;> omega)) (fun c38 => ?_) (fun c38 => ?_)
    · skip
      refine aw_iconst dX9_isWorn_61 ?_
      exact aw_zret dX9_isWorn_62 rfl (by first | omega | exact hb_b01 _) (by first | exact hb_oi1 (by omega) | exact hb_oi0 (by omega)) rfl rfl (by decide) (by decide)
    · skip
      refine aw_ald0 dX9_isWorn_41 ?_
      refine aw_ild1 dX9_isWorn_42 ?_
      refine aw_iconst dX9_isWorn_43 ?_
      refine aw_ild2 dX9_isWorn_44 ?_
      refine aw_V3v dX9_isWorn_45 (c_mCounterAt1 ht ip hp0 hn hn2 hG) rfl rfl hbY_X9_counterAt hbm_X9_192 hbi_X9_counterAt hbe_X9_X9_counterAt (Nat.le_of_ble_eq_true rfl) ⟨by decide, by decide⟩ (by decide) (by decide) ?_
      refine aw_ald0 dX9_isWorn_48 ?_
      refine aw_getf dX9_isWorn_49 hbf_X9_16 rfl rfl ?_
      refine aw_ild3 dX9_isWorn_52 ?_
      refine aw_iald dX9_isWorn_53 rfl (by constructor <;> omega) (by decide) ?_
      refine aw_icmp_le (tg := 61) dX9_isWorn_54 (by decide) ic1 (hG _ _) (fun c54 => ?_) (fun c54 => ?_)
      · skip
        refine aw_iconst dX9_isWorn_61 ?_
        exact aw_zret dX9_isWorn_62 rfl (by first | omega | exact hb_b01 _) (by first | exact hb_oi1 (by omega) | exact hb_oi0 (by omega)) rfl rfl (by decide) (by decide)
      · skip
        refine aw_iconst dX9_isWorn_57 ?_
        refine aw_goto (tg := 62) dX9_isWorn_58 (by decide) ?_
        exact aw_zret dX9_isWorn_62 rfl (by first | omega | exact hb_b01 _) (by first | exact hb_oi1 (by omega) | exact hb_oi0 (by omega)) rfl rfl (by decide) (by decide)
  · skip
    refine aw_ald0 dX9_isWorn_16 ?_
    refine aw_ild1 dX9_isWorn_17 ?_
    refine aw_iconst dX9_isWorn_18 ?_
    refine aw_ild2 dX9_isWorn_19 ?_
    refine aw_V3v dX9_isWorn_20 (c_mCounterAt0 ht ip hp0 hn hn2 hG) rfl rfl hbY_X9_counterAt hbm_X9_192 hbi_X9_counterAt hbe_X9_X9_counterAt (Nat.le_of_ble_eq_true rfl) ⟨by decide, by decide⟩ (by decide) (by decide) ?_
    refine aw_ald0 dX9_isWorn_23 ?_
    refine aw_getf dX9_isWorn_24 hbf_X9_13 rfl rfl ?_
    refine aw_ild3 dX9_isWorn_27 ?_
    refine aw_iald dX9_isWorn_28 rfl (by constructor <;> omega) (by decide) ?_
    refine aw_icmp_gt (tg := 57) dX9_isWorn_29 (by decide) ic0 (hG _ _) (fun c29 => ?_) (fun c29 => ?_)
    · skip
      refine aw_iconst dX9_isWorn_57 ?_
      refine aw_goto (tg := 62) dX9_isWorn_58 (by decide) ?_
      exact aw_zret dX9_isWorn_62 rfl (by first | omega | exact hb_b01 _) (by first | exact hb_oi1 (by omega) | exact hb_oi0 (by omega)) rfl rfl (by decide) (by decide)
    · skip
      refine aw_ald0 dX9_isWorn_32 ?_
      refine aw_getf dX9_isWorn_33 hbf_X9_16 rfl rfl ?_
      refine aw_ild3 dX9_isWorn_36 ?_
      refine aw_iald dX9_isWorn_37 rfl (by constructor <;> omega) (by decide) ?_
      refine aw_if_le (tg := 61) dX9_isWorn_38 (by decide) (by first | exact hG _ _ | assumption | (constructor <;> omega)) (fun c38 => ?_) (fun c38 => ?_)
      · skip
        refine aw_iconst dX9_isWorn_61 ?_
        exact aw_zret dX9_isWorn_62 rfl (by first | omega | exact hb_b01 _) (by first | exact hb_oi1 (by omega) | exact hb_oi0 (by omega)) rfl rfl (by decide) (by decide)
      · skip
        refine aw_ald0 dX9_isWorn_41 ?_
        refine aw_ild1 dX9_isWorn_42 ?_
        refine aw_iconst dX9_isWorn_43 ?_
        refine aw_ild2 dX9_isWorn_44 ?_
        refine aw_V3v dX9_isWorn_45 (c_mCounterAt1 ht ip hp0 hn hn2 hG) rfl rfl hbY_X9_counterAt hbm_X9_192 hbi_X9_counterAt hbe_X9_X9_counterAt (Nat.le_of_ble_eq_true rfl) ⟨by decide, by decide⟩ (by decide) (by decide) ?_
        refine aw_ald0 dX9_isWorn_48 ?_
        refine aw_getf dX9_isWorn_49 hbf_X9_16 rfl rfl ?_
        refine aw_ild3 dX9_isWorn_52 ?_
        refine aw_iald dX9_isWorn_53 rfl (by constructor <;> omega) (by decide) ?_
        refine aw_icmp_le (tg := 61) dX9_isWorn_54 (by decide) ic1 (hG _ _) (fun c54 => ?_) (fun c54 => ?_)
        · skip
          refine aw_iconst dX9_isWorn_61 ?_
          exact aw_zret dX9_isWorn_62 rfl (by first | omega | exact hb_b01 _) (by first | exact hb_oi1 (by omega) | exact hb_oi0 (by omega)) rfl rfl (by decide) (by decide)
        · skip
          refine aw_iconst dX9_isWorn_57 ?_
          refine aw_goto (tg := 62) dX9_isWorn_58 (by decide) ?_
          exact aw_zret dX9_isWorn_62 rfl (by first | omega | exact hb_b01 _) (by first | exact hb_oi1 (by omega) | exact hb_oi0 (by omega)) rfl rfl (by decide) (by decide)
def hb_jp (G : hb_G) (t n : Int) : Prop := ∃ p9, (0 ≤ p9 ∧ p9 < n) ∧ (G 48 (4 * G 51 t + p9) ≠ -1 ∧ hb_fd (hb_jh G t p9) 40 0 0 = -1)
set_option maxRecDepth 20000 in
set_option maxHeartbeats 1000000 in
theorem c_mIsIncomplete {l : Launch} {G : hb_G} {F : hb_F} {na : Nat} {t : Int} (ht : 0 ≤ t ∧ t < 40) (hkd : 0 ≤ G 51 t ∧ G 51 t < 12) (hG : hb_rg G) : hb_M l yX9_isIncomplete cX9_isIncomplete 3 (some .boolean) 1 0 0 [hb_r 47, hb_i t] (hb_w G F na) (77 + na) (.inl (some (hb_i (hb_b (hb_jp G t 4))))) (hb_w G F na) (77 + na) := by
  refine hb_M_in rfl rfl (by decide) rfl (Nat.le_of_ble_eq_true rfl) ?_
  intro E z0 σ0
  have key : ∀ (r : Nat) (j : Int), 0 ≤ j → j ≤ 4 → 4 - j < r → ¬ hb_jp G t j → hb_W l RX9 cX9_isIncomplete 3 (some .boolean) "isIncomplete" [] E z0 (hb_rm 1 0 0) σ0 (77 + na) (.inl (some (hb_i (hb_b (hb_jp G t 4))))) (hb_w G F na) (77 + na) 0 0 2 [hb_r 47, hb_i t, hb_i j] [] (hb_w G F na) (77 + na) := by
    intro r
    induction r with
    | zero => intro j h1 h2 h3; omega
    | succ r ih =>
      intro j h1 h2 h3 hno
      have q3 := hb_fd_in (P := hb_jh G t j) 40 0 0
      refine aw_ild2 dX9_isIncomplete_2 ?_
      refine aw_iconst dX9_isIncomplete_3 ?_
      refine aw_icmp_ge (tg := 44) dX9_isIncomplete_4 (by decide) (by first | exact hG _ _ | assumption | (constructor <;> omega)) (by first | exact hG _ _ | assumption | (constructor <;> omega)) (fun c4 => ?_) (fun c4 => ?_)
      · skip
        refine aw_iconst dX9_isIncomplete_44 ?_
        exact aw_zret dX9_isIncomplete_45 rfl (by first | omega | exact hb_b01 _) (by first | exact hb_oi1 ⟨j, by omega, by assumption, by assumption⟩ | exact hb_oi0 (by have e9 : j = 4 := (by omega); subst e9; exact hno)) rfl rfl (by decide) (by decide)
      · skip
        refine aw_ald0 dX9_isIncomplete_7 ?_
        refine aw_getf dX9_isIncomplete_8 hbf_X9_7 rfl rfl ?_
        refine aw_iconst dX9_isIncomplete_11 ?_
        refine aw_ald0 dX9_isIncomplete_12 ?_
        refine aw_getf dX9_isIncomplete_13 hbf_X9_19 rfl rfl ?_
        refine aw_ild1 dX9_isIncomplete_16 ?_
        refine aw_iald dX9_isIncomplete_17 rfl (by constructor <;> omega) (by decide) ?_
        refine aw_imul dX9_isIncomplete_18 ?_
        refine aw_ild2 dX9_isIncomplete_19 ?_
        refine aw_iadd dX9_isIncomplete_20 ?_
        refine aw_iald dX9_isIncomplete_21 rfl (by constructor <;> omega) (by decide) ?_
        refine aw_iconst dX9_isIncomplete_22 ?_
        refine aw_icmp_eq (tg := 38) dX9_isIncomplete_23 (by decide) (by first | exact hG _ _ | assumption | (constructor <;> omega)) (by first | exact hG _ _ | assumption | (constructor <;> omega)) (fun c23 => ?_) (fun c23 => ?_)
        · skip
          refine aw_iinc2 dX9_isIncomplete_38 (by decide) ?_
          refine aw_goto (tg := 2) dX9_isIncomplete_41 (by decide) ?_
          exact ih (j + 1) (by omega) (by omega) (by omega) (by unfold hb_jp at hno ⊢; rw [hb_exs h1]; rintro (h9 | h9); exact hno h9; first | exact absurd h9.1 (by omega) | exact absurd h9.2 (by assumption))
        · skip
          refine aw_ald0 dX9_isIncomplete_26 ?_
          refine aw_ild1 dX9_isIncomplete_27 ?_
          refine aw_ild2 dX9_isIncomplete_28 ?_
          refine aw_V2v dX9_isIncomplete_29 (c_mHanging (by first | assumption | (constructor <;> omega) | exact hG _ _) (by first | assumption | (constructor <;> omega) | exact hG _ _) hG) rfl rfl hbY_X9_hanging hbm_X9_140 hbi_X9_hanging hbe_X9_X9_hanging (Nat.le_of_ble_eq_true rfl) ⟨by decide, by decide⟩ (by decide) (by decide) ?_
          refine aw_iconst dX9_isIncomplete_32 ?_
          refine aw_icmp_ne (tg := 38) dX9_isIncomplete_33 (by decide) (by constructor <;> omega) (by decide) (fun c33 => ?_) (fun c33 => ?_)
          · skip
            refine aw_iinc2 dX9_isIncomplete_38 (by decide) ?_
            refine aw_goto (tg := 2) dX9_isIncomplete_41 (by decide) ?_
            exact ih (j + 1) (by omega) (by omega) (by omega) (by unfold hb_jp at hno ⊢; rw [hb_exs h1]; rintro (h9 | h9); exact hno h9; first | exact absurd h9.1 (by omega) | exact absurd h9.2 (by assumption))
          · skip
            refine aw_iconst dX9_isIncomplete_36 ?_
            exact aw_zret dX9_isIncomplete_37 rfl (by first | omega | exact hb_b01 _) (by first | exact hb_oi1 ⟨j, by omega, by assumption, by assumption⟩ | exact hb_oi0 (by have e9 : j = 4 := (by omega); subst e9; exact hno)) rfl rfl (by decide) (by decide)
  refine aw_iconst dX9_isIncomplete_0 ?_
  refine aw_ipu2 dX9_isIncomplete_1 (by decide) ?_
  exact key 5 0 (by omega) (by omega) (by omega) (fun ⟨p9, h8, _⟩ => by omega)
def hb_jw (G : hb_G) (t pt : Int) (n : Nat) (OV : Int → Prop) (j : Int) : Prop := ∃ o9, (0 ≤ o9 ∧ o9 < j) ∧ (G 58 o9 ≠ -1 ∧ hb_jb G o9 t pt n ∧ hb_jq G t (G 61 o9) pt n ∧ OV (G 61 o9))
set_option maxRecDepth 20000 in
set_option maxHeartbeats 1000000 in
theorem c_mIsHeld {l : Launch} {G : hb_G} {F : hb_F} {na : Nat} {t pt : Int} {n : Nat} {OV : Int → Prop} (ht : 0 ≤ t ∧ t < 40) (ip : hb_in pt) (hn : G 47 17 = n) (hn2 : n ≤ 200) (hot : ∀ j, 0 ≤ j ∧ j < 8 → G 58 j ≠ -1 → (0 ≤ G 61 j ∧ G 61 j < 16) ∧ hb_M l yX9_isOverdue cX9_isOverdue 5 (some .boolean) 2 0 0 [hb_r 47, hb_i t, hb_i (G 61 j), hb_i pt] (hb_w G F na) (77 + na) (.inl (some (hb_i (hb_b (OV (G 61 j)))))) (hb_w G F na) (77 + na)) (hG : hb_rg G) : hb_M l yX9_isHeld cX9_isHeld 4 (some .boolean) 3 0 0 [hb_r 47, hb_i t, hb_i pt] (hb_w G F na) (77 + na) (.inl (some (hb_i (hb_b (hb_jw G t pt n OV 8))))) (hb_w G F na) (77 + na) := by
  refine hb_M_in rfl rfl (by decide) rfl (Nat.le_of_ble_eq_true rfl) ?_
  intro E z0 σ0
  have key : ∀ (r : Nat) (j : Int), 0 ≤ j → j ≤ 8 → 8 - j < r → ¬ hb_jw G t pt n OV j → hb_W l RX9 cX9_isHeld 4 (some .boolean) "isHeld" [] E z0 (hb_rm 3 0 0) σ0 (77 + na) (.inl (some (hb_i (hb_b (hb_jw G t pt n OV 8))))) (hb_w G F na) (77 + na) 0 0 2 [hb_r 47, hb_i t, hb_i pt, hb_i j] [] (hb_w G F na) (77 + na) := by
    intro r
    induction r with
    | zero => intro j h1 h2 h3; omega
    | succ r ih =>
      intro j h1 h2 h3 hno
      refine aw_ild3 dX9_isHeld_2 ?_
      refine aw_bipush dX9_isHeld_3 (by decide) ?_
      refine aw_icmp_ge (tg := 66) dX9_isHeld_5 (by decide) (by first | exact hG _ _ | assumption | (constructor <;> omega)) (by first | exact hG _ _ | assumption | (constructor <;> omega)) (fun c5 => ?_) (fun c5 => ?_)
      · skip
        refine aw_iconst dX9_isHeld_66 ?_
        exact aw_zret dX9_isHeld_67 rfl (by first | omega | exact hb_b01 _) (by first | exact hb_oi1 ⟨j, by omega, by assumption, by assumption, by assumption, by assumption⟩ | exact hb_oi0 (by have e9 : j = 8 := (by omega); subst e9; exact hno)) rfl rfl (by decide) (by decide)
      · skip
        refine aw_ald0 dX9_isHeld_8 ?_
        refine aw_getf dX9_isHeld_9 hbf_X9_40 rfl rfl ?_
        refine aw_ild3 dX9_isHeld_12 ?_
        refine aw_iald dX9_isHeld_13 rfl (by constructor <;> omega) (by decide) ?_
        refine aw_iconst dX9_isHeld_14 ?_
        refine aw_icmp_eq (tg := 60) dX9_isHeld_15 (by decide) (by first | exact hG _ _ | assumption | (constructor <;> omega)) (by first | exact hG _ _ | assumption | (constructor <;> omega)) (fun c15 => ?_) (fun c15 => ?_)
        · skip
          refine aw_iinc3 dX9_isHeld_60 (by decide) ?_
          refine aw_goto (tg := 2) dX9_isHeld_63 (by decide) ?_
          exact ih (j + 1) (by omega) (by omega) (by omega) (by unfold hb_jw at hno ⊢; rw [hb_exs h1]; rintro (h9 | h9); exact hno h9; first | exact absurd h9.1 (by omega) | exact absurd h9.2.1 (by assumption) | exact absurd h9.2.2.1 (by assumption) | exact absurd h9.2.2.2 (by assumption))
        · skip
          have q1 := hot j (by omega) (by assumption)
          refine aw_ald0 dX9_isHeld_18 ?_
          refine aw_ild3 dX9_isHeld_19 ?_
          refine aw_ild1 dX9_isHeld_20 ?_
          refine aw_ild2 dX9_isHeld_21 ?_
          refine aw_V3v dX9_isHeld_22 (c_mBinds (by omega) ht ip hn hn2 hG) rfl rfl hbY_X9_binds hbm_X9_210 hbi_X9_binds hbe_X9_X9_binds (Nat.le_of_ble_eq_true rfl) ⟨by decide, by decide⟩ (by decide) (by decide) ?_
          refine aw_ifb_eq (tg := 60) dX9_isHeld_25 (by decide) (fun c25 => ?_) (fun c25 => ?_)
          · skip
            refine aw_iinc3 dX9_isHeld_60 (by decide) ?_
            refine aw_goto (tg := 2) dX9_isHeld_63 (by decide) ?_
            exact ih (j + 1) (by omega) (by omega) (by omega) (by unfold hb_jw at hno ⊢; rw [hb_exs h1]; rintro (h9 | h9); exact hno h9; first | exact absurd h9.1 (by omega) | exact absurd h9.2.1 (by assumption) | exact absurd h9.2.2.1 (by assumption) | exact absurd h9.2.2.2 (by assumption))
          · skip
            refine aw_ald0 dX9_isHeld_28 ?_
            refine aw_ild1 dX9_isHeld_29 ?_
            refine aw_ald0 dX9_isHeld_30 ?_
            refine aw_getf dX9_isHeld_31 hbf_X9_49 rfl rfl ?_
            refine aw_ild3 dX9_isHeld_34 ?_
            refine aw_iald dX9_isHeld_35 rfl (by constructor <;> omega) (by decide) ?_
            refine aw_ild2 dX9_isHeld_36 ?_
            refine aw_V3v dX9_isHeld_37 (c_mIsAsked ht q1.1 ip hn hn2 hG) rfl rfl hbY_X9_isAsked hbm_X9_213 hbi_X9_isAsked hbe_X9_X9_isAsked (Nat.le_of_ble_eq_true rfl) ⟨by decide, by decide⟩ (by decide) (by decide) ?_
            refine aw_ifb_eq (tg := 60) dX9_isHeld_40 (by decide) (fun c40 => ?_) (fun c40 => ?_)
            · skip
              refine aw_iinc3 dX9_isHeld_60 (by decide) ?_
              refine aw_goto (tg := 2) dX9_isHeld_63 (by decide) ?_
              exact ih (j + 1) (by omega) (by omega) (by omega) (by unfold hb_jw at hno ⊢; rw [hb_exs h1]; rintro (h9 | h9); exact hno h9; first | exact absurd h9.1 (by omega) | exact absurd h9.2.1 (by assumption) | exact absurd h9.2.2.1 (by assumption) | exact absurd h9.2.2.2 (by assumption))
            · skip
              refine aw_ald0 dX9_isHeld_43 ?_
              refine aw_ild1 dX9_isHeld_44 ?_
              refine aw_ald0 dX9_isHeld_45 ?_
              refine aw_getf dX9_isHeld_46 hbf_X9_49 rfl rfl ?_
              refine aw_ild3 dX9_isHeld_49 ?_
              refine aw_iald dX9_isHeld_50 rfl (by constructor <;> omega) (by decide) ?_
              refine aw_ild2 dX9_isHeld_51 ?_
              refine aw_V3v dX9_isHeld_52 (q1.2) rfl rfl hbY_X9_isOverdue hbm_X9_216 hbi_X9_isOverdue hbe_X9_X9_isOverdue (Nat.le_of_ble_eq_true rfl) ⟨by decide, by decide⟩ (by decide) (by decide) ?_
              refine aw_ifb_eq (tg := 60) dX9_isHeld_55 (by decide) (fun c55 => ?_) (fun c55 => ?_)
              · skip
                refine aw_iinc3 dX9_isHeld_60 (by decide) ?_
                refine aw_goto (tg := 2) dX9_isHeld_63 (by decide) ?_
                exact ih (j + 1) (by omega) (by omega) (by omega) (by unfold hb_jw at hno ⊢; rw [hb_exs h1]; rintro (h9 | h9); exact hno h9; first | exact absurd h9.1 (by omega) | exact absurd h9.2.1 (by assumption) | exact absurd h9.2.2.1 (by assumption) | exact absurd h9.2.2.2 (by assumption))
              · skip
                refine aw_iconst dX9_isHeld_58 ?_
                exact aw_zret dX9_isHeld_59 rfl (by first | omega | exact hb_b01 _) (by first | exact hb_oi1 ⟨j, by omega, by assumption, by assumption, by assumption, by assumption⟩ | exact hb_oi0 (by have e9 : j = 8 := (by omega); subst e9; exact hno)) rfl rfl (by decide) (by decide)
  refine aw_iconst dX9_isHeld_0 ?_
  refine aw_ipu3 dX9_isHeld_1 (by decide) ?_
  exact key 9 0 (by omega) (by omega) (by omega) (fun ⟨p9, h8, _⟩ => by omega)
