set_option maxRecDepth 20000 in
set_option maxHeartbeats 1000000 in
theorem c_placeY {l : Launch} {G : hb_G} {F : hb_F} {na : Nat} {k p c : Int} (ik : hb_in k) (ip : hb_in p) (ic : hb_in c) (hP : (0 ≤ k ∧ k < 12) ∧ (0 ≤ p ∧ p < 4) ∧ (c = -1 ∨ (0 ≤ c ∧ c < 12)) ∧ G 6 4 ≤ 0) (hG : hb_rg G) : hb_M l yX8_place cX8_place 5 (some .boolean) 1 0 0 [hb_r 0, hb_i k, hb_i p, hb_i c] (hb_w G F na) (77 + na) (.inl (some (hb_i (1)))) (hb_w (hb_u2 G 2 (k * 4 + p) c) F na) (77 + na) := by
  refine hb_M_in rfl rfl (by decide) rfl (Nat.le_of_ble_eq_true rfl) ?_
  intro E z0 σ0
  refine aw_ild3 dX8_place_0 ?_
  refine aw_iconst dX8_place_1 ?_
  refine aw_icmp_eq (tg := 14) dX8_place_2 (by decide) (by first | exact hG _ _ | assumption | (constructor <;> omega)) (by first | exact hG _ _ | assumption | (constructor <;> omega)) (fun c2 => ?_) (fun c2 => ?_)
  · skip
    refine aw_iconst dX8_place_14 ?_
    refine aw_goto (tg := 19) dX8_place_15 (by decide) ?_
    refine aw_ipu4 dX8_place_19 (by decide) ?_
    refine aw_ild1 dX8_place_21 ?_
    refine aw_bipush dX8_place_22 (by decide) ?_
    refine aw_S2v dX8_place_24 (c_isBelow (by first | assumption | omega | (constructor <;> omega) | exact hG _ _) (by first | assumption | omega | (constructor <;> omega) | exact hG _ _)) hbY_X8_isBelow hbm_X8_64 hbs_X8_isBelow (Nat.le_of_ble_eq_true rfl) ⟨by decide, by decide⟩ (by decide) (by decide) ?_
    refine aw_ifb_eq (tg := 53) dX8_place_27 (by decide) (fun c27 => ?_) (fun c27 => ?_)
    · skip
      exact absurd hP (by omega)
    · skip
      refine aw_ild2 dX8_place_30 ?_
      refine aw_iconst dX8_place_31 ?_
      refine aw_S2v dX8_place_32 (c_isBelow (by first | assumption | omega | (constructor <;> omega) | exact hG _ _) (by first | assumption | omega | (constructor <;> omega) | exact hG _ _)) hbY_X8_isBelow hbm_X8_64 hbs_X8_isBelow (Nat.le_of_ble_eq_true rfl) ⟨by decide, by decide⟩ (by decide) (by decide) ?_
      refine aw_ifb_eq (tg := 53) dX8_place_35 (by decide) (fun c35 => ?_) (fun c35 => ?_)
      · skip
        exact absurd hP (by omega)
      · skip
        refine aw_ild4 dX8_place_38 ?_
        refine aw_if_eq (tg := 53) dX8_place_40 (by decide) (by decide) (fun c40 => absurd c40 (by decide)) (fun c40 => ?_)
        refine aw_ald0 dX8_place_43 ?_
        refine aw_getf dX8_place_44 hbf_X8_21 rfl rfl ?_
        refine aw_getf dX8_place_47 hbf_X8_68 rfl rfl ?_
        refine aw_if_le (tg := 55) dX8_place_50 (by decide) (by first | exact hG _ _ | assumption | (constructor <;> omega)) (fun c50 => ?_) (fun c50 => ?_)
        · skip
          refine aw_ald0 dX8_place_55 ?_
          refine aw_getf dX8_place_56 hbf_X8_12 rfl rfl ?_
          refine aw_getf dX8_place_59 hbf_X8_72 rfl rfl ?_
          refine aw_ild1 dX8_place_62 ?_
          refine aw_iconst dX8_place_63 ?_
          refine aw_imul dX8_place_64 ?_
          refine aw_ild2 dX8_place_65 ?_
          refine aw_iadd dX8_place_66 ?_
          refine aw_ild3 dX8_place_67 ?_
          refine aw_iastw dX8_place_68 (fun _ => rfl) rfl (by constructor <;> omega) (by decide) ?_
          refine aw_iconst dX8_place_69 ?_
          exact aw_zret dX8_place_70 rfl (by first | omega | exact hb_b01 _) (by rfl) rfl rfl (by decide) (by decide)
        · skip
          exact absurd hP (by omega)
  · skip
    refine aw_ild3 dX8_place_5 ?_
    refine aw_bipush dX8_place_6 (by decide) ?_
    refine aw_S2v dX8_place_8 (c_isBelow (by first | assumption | omega | (constructor <;> omega) | exact hG _ _) (by first | assumption | omega | (constructor <;> omega) | exact hG _ _)) hbY_X8_isBelow hbm_X8_64 hbs_X8_isBelow (Nat.le_of_ble_eq_true rfl) ⟨by decide, by decide⟩ (by decide) (by decide) ?_
    refine aw_ifb_eq (tg := 18) dX8_place_11 (by decide) (fun c11 => ?_) (fun c11 => ?_)
    · skip
      refine aw_iconst dX8_place_18 ?_
      refine aw_ipu4 dX8_place_19 (by decide) ?_
      refine aw_ild1 dX8_place_21 ?_
      refine aw_bipush dX8_place_22 (by decide) ?_
      refine aw_S2v dX8_place_24 (c_isBelow (by first | assumption | omega | (constructor <;> omega) | exact hG _ _) (by first | assumption | omega | (constructor <;> omega) | exact hG _ _)) hbY_X8_isBelow hbm_X8_64 hbs_X8_isBelow (Nat.le_of_ble_eq_true rfl) ⟨by decide, by decide⟩ (by decide) (by decide) ?_
      refine aw_ifb_eq (tg := 53) dX8_place_27 (by decide) (fun c27 => ?_) (fun c27 => ?_)
      · skip
        exact absurd hP (by omega)
      · skip
        refine aw_ild2 dX8_place_30 ?_
        refine aw_iconst dX8_place_31 ?_
        refine aw_S2v dX8_place_32 (c_isBelow (by first | assumption | omega | (constructor <;> omega) | exact hG _ _) (by first | assumption | omega | (constructor <;> omega) | exact hG _ _)) hbY_X8_isBelow hbm_X8_64 hbs_X8_isBelow (Nat.le_of_ble_eq_true rfl) ⟨by decide, by decide⟩ (by decide) (by decide) ?_
        refine aw_ifb_eq (tg := 53) dX8_place_35 (by decide) (fun c35 => ?_) (fun c35 => ?_)
        · skip
          exact absurd hP (by omega)
        · skip
          refine aw_ild4 dX8_place_38 ?_
          refine aw_if_eq (tg := 53) dX8_place_40 (by decide) (by decide) (fun c40 => ?_) (fun c40 => absurd c40 (by decide))
          exact absurd hP (by omega)
    · skip
      refine aw_iconst dX8_place_14 ?_
      refine aw_goto (tg := 19) dX8_place_15 (by decide) ?_
      refine aw_ipu4 dX8_place_19 (by decide) ?_
      refine aw_ild1 dX8_place_21 ?_
      refine aw_bipush dX8_place_22 (by decide) ?_
      refine aw_S2v dX8_place_24 (c_isBelow (by first | assumption | omega | (constructor <;> omega) | exact hG _ _) (by first | assumption | omega | (constructor <;> omega) | exact hG _ _)) hbY_X8_isBelow hbm_X8_64 hbs_X8_isBelow (Nat.le_of_ble_eq_true rfl) ⟨by decide, by decide⟩ (by decide) (by decide) ?_
      refine aw_ifb_eq (tg := 53) dX8_place_27 (by decide) (fun c27 => ?_) (fun c27 => ?_)
      · skip
        exact absurd hP (by omega)
      · skip
        refine aw_ild2 dX8_place_30 ?_
        refine aw_iconst dX8_place_31 ?_
        refine aw_S2v dX8_place_32 (c_isBelow (by first | assumption | omega | (constructor <;> omega) | exact hG _ _) (by first | assumption | omega | (constructor <;> omega) | exact hG _ _)) hbY_X8_isBelow hbm_X8_64 hbs_X8_isBelow (Nat.le_of_ble_eq_true rfl) ⟨by decide, by decide⟩ (by decide) (by decide) ?_
        refine aw_ifb_eq (tg := 53) dX8_place_35 (by decide) (fun c35 => ?_) (fun c35 => ?_)
        · skip
          exact absurd hP (by omega)
        · skip
          refine aw_ild4 dX8_place_38 ?_
          refine aw_if_eq (tg := 53) dX8_place_40 (by decide) (by decide) (fun c40 => absurd c40 (by decide)) (fun c40 => ?_)
          refine aw_ald0 dX8_place_43 ?_
          refine aw_getf dX8_place_44 hbf_X8_21 rfl rfl ?_
          refine aw_getf dX8_place_47 hbf_X8_68 rfl rfl ?_
          refine aw_if_le (tg := 55) dX8_place_50 (by decide) (by first | exact hG _ _ | assumption | (constructor <;> omega)) (fun c50 => ?_) (fun c50 => ?_)
          · skip
            refine aw_ald0 dX8_place_55 ?_
            refine aw_getf dX8_place_56 hbf_X8_12 rfl rfl ?_
            refine aw_getf dX8_place_59 hbf_X8_72 rfl rfl ?_
            refine aw_ild1 dX8_place_62 ?_
            refine aw_iconst dX8_place_63 ?_
            refine aw_imul dX8_place_64 ?_
            refine aw_ild2 dX8_place_65 ?_
            refine aw_iadd dX8_place_66 ?_
            refine aw_ild3 dX8_place_67 ?_
            refine aw_iastw dX8_place_68 (fun _ => rfl) rfl (by constructor <;> omega) (by decide) ?_
            refine aw_iconst dX8_place_69 ?_
            exact aw_zret dX8_place_70 rfl (by first | omega | exact hb_b01 _) (by rfl) rfl rfl (by decide) (by decide)
          · skip
            exact absurd hP (by omega)
set_option maxRecDepth 20000 in
set_option maxHeartbeats 1000000 in
theorem c_placeN {l : Launch} {G : hb_G} {F : hb_F} {na : Nat} {k p c : Int} (ik : hb_in k) (ip : hb_in p) (ic : hb_in c) (hP : ¬ ((0 ≤ k ∧ k < 12) ∧ (0 ≤ p ∧ p < 4) ∧ (c = -1 ∨ (0 ≤ c ∧ c < 12)) ∧ G 6 4 ≤ 0)) (hG : hb_rg G) : hb_M l yX8_place cX8_place 5 (some .boolean) 1 0 0 [hb_r 0, hb_i k, hb_i p, hb_i c] (hb_w G F na) (77 + na) (.inl (some (hb_i (0)))) (hb_w G F na) (77 + na) := by
  refine hb_M_in rfl rfl (by decide) rfl (Nat.le_of_ble_eq_true rfl) ?_
  intro E z0 σ0
  refine aw_ild3 dX8_place_0 ?_
  refine aw_iconst dX8_place_1 ?_
  refine aw_icmp_eq (tg := 14) dX8_place_2 (by decide) (by first | exact hG _ _ | assumption | (constructor <;> omega)) (by first | exact hG _ _ | assumption | (constructor <;> omega)) (fun c2 => ?_) (fun c2 => ?_)
  · skip
    refine aw_iconst dX8_place_14 ?_
    refine aw_goto (tg := 19) dX8_place_15 (by decide) ?_
    refine aw_ipu4 dX8_place_19 (by decide) ?_
    refine aw_ild1 dX8_place_21 ?_
    refine aw_bipush dX8_place_22 (by decide) ?_
    refine aw_S2v dX8_place_24 (c_isBelow (by first | assumption | omega | (constructor <;> omega) | exact hG _ _) (by first | assumption | omega | (constructor <;> omega) | exact hG _ _)) hbY_X8_isBelow hbm_X8_64 hbs_X8_isBelow (Nat.le_of_ble_eq_true rfl) ⟨by decide, by decide⟩ (by decide) (by decide) ?_
    refine aw_ifb_eq (tg := 53) dX8_place_27 (by decide) (fun c27 => ?_) (fun c27 => ?_)
    · skip
      refine aw_iconst dX8_place_53 ?_
      exact aw_zret dX8_place_54 rfl (by first | omega | exact hb_b01 _) (by rfl) rfl rfl (by decide) (by decide)
    · skip
      refine aw_ild2 dX8_place_30 ?_
      refine aw_iconst dX8_place_31 ?_
      refine aw_S2v dX8_place_32 (c_isBelow (by first | assumption | omega | (constructor <;> omega) | exact hG _ _) (by first | assumption | omega | (constructor <;> omega) | exact hG _ _)) hbY_X8_isBelow hbm_X8_64 hbs_X8_isBelow (Nat.le_of_ble_eq_true rfl) ⟨by decide, by decide⟩ (by decide) (by decide) ?_
      refine aw_ifb_eq (tg := 53) dX8_place_35 (by decide) (fun c35 => ?_) (fun c35 => ?_)
      · skip
        refine aw_iconst dX8_place_53 ?_
        exact aw_zret dX8_place_54 rfl (by first | omega | exact hb_b01 _) (by rfl) rfl rfl (by decide) (by decide)
      · skip
        refine aw_ild4 dX8_place_38 ?_
        refine aw_if_eq (tg := 53) dX8_place_40 (by decide) (by decide) (fun c40 => absurd c40 (by decide)) (fun c40 => ?_)
        refine aw_ald0 dX8_place_43 ?_
        refine aw_getf dX8_place_44 hbf_X8_21 rfl rfl ?_
        refine aw_getf dX8_place_47 hbf_X8_68 rfl rfl ?_
        refine aw_if_le (tg := 55) dX8_place_50 (by decide) (by first | exact hG _ _ | assumption | (constructor <;> omega)) (fun c50 => ?_) (fun c50 => ?_)
        · skip
          exact absurd (by omega) hP
        · skip
          refine aw_iconst dX8_place_53 ?_
          exact aw_zret dX8_place_54 rfl (by first | omega | exact hb_b01 _) (by rfl) rfl rfl (by decide) (by decide)
  · skip
    refine aw_ild3 dX8_place_5 ?_
    refine aw_bipush dX8_place_6 (by decide) ?_
    refine aw_S2v dX8_place_8 (c_isBelow (by first | assumption | omega | (constructor <;> omega) | exact hG _ _) (by first | assumption | omega | (constructor <;> omega) | exact hG _ _)) hbY_X8_isBelow hbm_X8_64 hbs_X8_isBelow (Nat.le_of_ble_eq_true rfl) ⟨by decide, by decide⟩ (by decide) (by decide) ?_
    refine aw_ifb_eq (tg := 18) dX8_place_11 (by decide) (fun c11 => ?_) (fun c11 => ?_)
    · skip
      refine aw_iconst dX8_place_18 ?_
      refine aw_ipu4 dX8_place_19 (by decide) ?_
      refine aw_ild1 dX8_place_21 ?_
      refine aw_bipush dX8_place_22 (by decide) ?_
      refine aw_S2v dX8_place_24 (c_isBelow (by first | assumption | omega | (constructor <;> omega) | exact hG _ _) (by first | assumption | omega | (constructor <;> omega) | exact hG _ _)) hbY_X8_isBelow hbm_X8_64 hbs_X8_isBelow (Nat.le_of_ble_eq_true rfl) ⟨by decide, by decide⟩ (by decide) (by decide) ?_
      refine aw_ifb_eq (tg := 53) dX8_place_27 (by decide) (fun c27 => ?_) (fun c27 => ?_)
      · skip
        refine aw_iconst dX8_place_53 ?_
        exact aw_zret dX8_place_54 rfl (by first | omega | exact hb_b01 _) (by rfl) rfl rfl (by decide) (by decide)
      · skip
        refine aw_ild2 dX8_place_30 ?_
        refine aw_iconst dX8_place_31 ?_
        refine aw_S2v dX8_place_32 (c_isBelow (by first | assumption | omega | (constructor <;> omega) | exact hG _ _) (by first | assumption | omega | (constructor <;> omega) | exact hG _ _)) hbY_X8_isBelow hbm_X8_64 hbs_X8_isBelow (Nat.le_of_ble_eq_true rfl) ⟨by decide, by decide⟩ (by decide) (by decide) ?_
        refine aw_ifb_eq (tg := 53) dX8_place_35 (by decide) (fun c35 => ?_) (fun c35 => ?_)
        · skip
          refine aw_iconst dX8_place_53 ?_
          exact aw_zret dX8_place_54 rfl (by first | omega | exact hb_b01 _) (by rfl) rfl rfl (by decide) (by decide)
        · skip
          refine aw_ild4 dX8_place_38 ?_
          refine aw_if_eq (tg := 53) dX8_place_40 (by decide) (by decide) (fun c40 => ?_) (fun c40 => absurd c40 (by decide))
          refine aw_iconst dX8_place_53 ?_
          exact aw_zret dX8_place_54 rfl (by first | omega | exact hb_b01 _) (by rfl) rfl rfl (by decide) (by decide)
    · skip
      refine aw_iconst dX8_place_14 ?_
      refine aw_goto (tg := 19) dX8_place_15 (by decide) ?_
      refine aw_ipu4 dX8_place_19 (by decide) ?_
      refine aw_ild1 dX8_place_21 ?_
      refine aw_bipush dX8_place_22 (by decide) ?_
      refine aw_S2v dX8_place_24 (c_isBelow (by first | assumption | omega | (constructor <;> omega) | exact hG _ _) (by first | assumption | omega | (constructor <;> omega) | exact hG _ _)) hbY_X8_isBelow hbm_X8_64 hbs_X8_isBelow (Nat.le_of_ble_eq_true rfl) ⟨by decide, by decide⟩ (by decide) (by decide) ?_
      refine aw_ifb_eq (tg := 53) dX8_place_27 (by decide) (fun c27 => ?_) (fun c27 => ?_)
      · skip
        refine aw_iconst dX8_place_53 ?_
        exact aw_zret dX8_place_54 rfl (by first | omega | exact hb_b01 _) (by rfl) rfl rfl (by decide) (by decide)
      · skip
        refine aw_ild2 dX8_place_30 ?_
        refine aw_iconst dX8_place_31 ?_
        refine aw_S2v dX8_place_32 (c_isBelow (by first | assumption | omega | (constructor <;> omega) | exact hG _ _) (by first | assumption | omega | (constructor <;> omega) | exact hG _ _)) hbY_X8_isBelow hbm_X8_64 hbs_X8_isBelow (Nat.le_of_ble_eq_true rfl) ⟨by decide, by decide⟩ (by decide) (by decide) ?_
        refine aw_ifb_eq (tg := 53) dX8_place_35 (by decide) (fun c35 => ?_) (fun c35 => ?_)
        · skip
          refine aw_iconst dX8_place_53 ?_
          exact aw_zret dX8_place_54 rfl (by first | omega | exact hb_b01 _) (by rfl) rfl rfl (by decide) (by decide)
        · skip
          refine aw_ild4 dX8_place_38 ?_
          refine aw_if_eq (tg := 53) dX8_place_40 (by decide) (by decide) (fun c40 => absurd c40 (by decide)) (fun c40 => ?_)
          refine aw_ald0 dX8_place_43 ?_
          refine aw_getf dX8_place_44 hbf_X8_21 rfl rfl ?_
          refine aw_getf dX8_place_47 hbf_X8_68 rfl rfl ?_
          refine aw_if_le (tg := 55) dX8_place_50 (by decide) (by first | exact hG _ _ | assumption | (constructor <;> omega)) (fun c50 => ?_) (fun c50 => ?_)
          · skip
            exact absurd (by omega) hP
          · skip
            refine aw_iconst dX8_place_53 ?_
            exact aw_zret dX8_place_54 rfl (by first | omega | exact hb_b01 _) (by rfl) rfl rfl (by decide) (by decide)
set_option maxRecDepth 20000 in
set_option maxHeartbeats 1000000 in
theorem c_lifeY {l : Launch} {G : hb_G} {F : hb_F} {na : Nat} {k m c : Int} (ik : hb_in k) (im : hb_in m) (ic : hb_in c) (hP : (0 ≤ k ∧ k < 12) ∧ (0 ≤ m ∧ m ≤ 1000000) ∧ (0 ≤ c ∧ c ≤ 1000000)) (hG : hb_rg G) : hb_M l yX8_life cX8_life 4 (some .boolean) 1 0 0 [hb_r 0, hb_i k, hb_i m, hb_i c] (hb_w G F na) (77 + na) (.inl (some (hb_i (1)))) (hb_w (hb_u2 (hb_u2 G 4 k m) 5 k c) F na) (77 + na) := by
  refine hb_M_in rfl rfl (by decide) rfl (Nat.le_of_ble_eq_true rfl) ?_
  intro E z0 σ0
  refine aw_ild1 dX8_life_0 ?_
  refine aw_bipush dX8_life_1 (by decide) ?_
  refine aw_S2v dX8_life_3 (c_isBelow (by first | assumption | omega | (constructor <;> omega) | exact hG _ _) (by first | assumption | omega | (constructor <;> omega) | exact hG _ _)) hbY_X8_isBelow hbm_X8_64 hbs_X8_isBelow (Nat.le_of_ble_eq_true rfl) ⟨by decide, by decide⟩ (by decide) (by decide) ?_
  refine aw_ifb_eq (tg := 27) dX8_life_6 (by decide) (fun c6 => ?_) (fun c6 => ?_)
  · skip
    exact absurd hP (by omega)
  · skip
    refine aw_ild2 dX8_life_9 ?_
    refine aw_ldc (z := 1000000) dX8_life_10 hbk_X8_82 ?_
    refine aw_S2v dX8_life_12 (c_isUpTo (by first | assumption | omega | (constructor <;> omega) | exact hG _ _) (by first | assumption | omega | (constructor <;> omega) | exact hG _ _)) hbY_X8_isUpTo hbm_X8_83 hbs_X8_isUpTo (Nat.le_of_ble_eq_true rfl) ⟨by decide, by decide⟩ (by decide) (by decide) ?_
    refine aw_ifb_eq (tg := 27) dX8_life_15 (by decide) (fun c15 => ?_) (fun c15 => ?_)
    · skip
      exact absurd hP (by omega)
    · skip
      refine aw_ild3 dX8_life_18 ?_
      refine aw_ldc (z := 1000000) dX8_life_19 hbk_X8_82 ?_
      refine aw_S2v dX8_life_21 (c_isUpTo (by first | assumption | omega | (constructor <;> omega) | exact hG _ _) (by first | assumption | omega | (constructor <;> omega) | exact hG _ _)) hbY_X8_isUpTo hbm_X8_83 hbs_X8_isUpTo (Nat.le_of_ble_eq_true rfl) ⟨by decide, by decide⟩ (by decide) (by decide) ?_
      refine aw_ifb_ne (tg := 29) dX8_life_24 (by decide) (fun c24 => ?_) (fun c24 => ?_)
      · skip
        refine aw_ald0 dX8_life_29 ?_
        refine aw_getf dX8_life_30 hbf_X8_12 rfl rfl ?_
        refine aw_getf dX8_life_33 hbf_X8_105 rfl rfl ?_
        refine aw_iconst dX8_life_36 ?_
        refine aw_gald (r := some 4) dX8_life_37 rfl (by constructor <;> omega) (by decide) rfl ?_
        refine aw_ild1 dX8_life_38 ?_
        refine aw_ild2 dX8_life_39 ?_
        refine aw_iastw dX8_life_40 (fun _ => rfl) rfl (by constructor <;> omega) (by decide) ?_
        refine aw_ald0 dX8_life_41 ?_
        refine aw_getf dX8_life_42 hbf_X8_12 rfl rfl ?_
        refine aw_getf dX8_life_45 hbf_X8_105 rfl rfl ?_
        refine aw_iconst dX8_life_48 ?_
        refine aw_gald (r := some 5) dX8_life_49 rfl (by constructor <;> omega) (by decide) rfl ?_
        refine aw_ild1 dX8_life_50 ?_
        refine aw_ild3 dX8_life_51 ?_
        refine aw_iastw dX8_life_52 (fun _ => rfl) rfl (by constructor <;> omega) (by decide) ?_
        refine aw_iconst dX8_life_53 ?_
        exact aw_zret dX8_life_54 rfl (by first | omega | exact hb_b01 _) (by rfl) rfl rfl (by decide) (by decide)
      · skip
        exact absurd hP (by omega)
set_option maxRecDepth 20000 in
set_option maxHeartbeats 1000000 in
theorem c_lifeN {l : Launch} {G : hb_G} {F : hb_F} {na : Nat} {k m c : Int} (ik : hb_in k) (im : hb_in m) (ic : hb_in c) (hP : ¬ ((0 ≤ k ∧ k < 12) ∧ (0 ≤ m ∧ m ≤ 1000000) ∧ (0 ≤ c ∧ c ≤ 1000000))) (hG : hb_rg G) : hb_M l yX8_life cX8_life 4 (some .boolean) 1 0 0 [hb_r 0, hb_i k, hb_i m, hb_i c] (hb_w G F na) (77 + na) (.inl (some (hb_i (0)))) (hb_w G F na) (77 + na) := by
  refine hb_M_in rfl rfl (by decide) rfl (Nat.le_of_ble_eq_true rfl) ?_
  intro E z0 σ0
  refine aw_ild1 dX8_life_0 ?_
  refine aw_bipush dX8_life_1 (by decide) ?_
  refine aw_S2v dX8_life_3 (c_isBelow (by first | assumption | omega | (constructor <;> omega) | exact hG _ _) (by first | assumption | omega | (constructor <;> omega) | exact hG _ _)) hbY_X8_isBelow hbm_X8_64 hbs_X8_isBelow (Nat.le_of_ble_eq_true rfl) ⟨by decide, by decide⟩ (by decide) (by decide) ?_
  refine aw_ifb_eq (tg := 27) dX8_life_6 (by decide) (fun c6 => ?_) (fun c6 => ?_)
  · skip
    refine aw_iconst dX8_life_27 ?_
    exact aw_zret dX8_life_28 rfl (by first | omega | exact hb_b01 _) (by rfl) rfl rfl (by decide) (by decide)
  · skip
    refine aw_ild2 dX8_life_9 ?_
    refine aw_ldc (z := 1000000) dX8_life_10 hbk_X8_82 ?_
    refine aw_S2v dX8_life_12 (c_isUpTo (by first | assumption | omega | (constructor <;> omega) | exact hG _ _) (by first | assumption | omega | (constructor <;> omega) | exact hG _ _)) hbY_X8_isUpTo hbm_X8_83 hbs_X8_isUpTo (Nat.le_of_ble_eq_true rfl) ⟨by decide, by decide⟩ (by decide) (by decide) ?_
    refine aw_ifb_eq (tg := 27) dX8_life_15 (by decide) (fun c15 => ?_) (fun c15 => ?_)
    · skip
      refine aw_iconst dX8_life_27 ?_
      exact aw_zret dX8_life_28 rfl (by first | omega | exact hb_b01 _) (by rfl) rfl rfl (by decide) (by decide)
    · skip
      refine aw_ild3 dX8_life_18 ?_
      refine aw_ldc (z := 1000000) dX8_life_19 hbk_X8_82 ?_
      refine aw_S2v dX8_life_21 (c_isUpTo (by first | assumption | omega | (constructor <;> omega) | exact hG _ _) (by first | assumption | omega | (constructor <;> omega) | exact hG _ _)) hbY_X8_isUpTo hbm_X8_83 hbs_X8_isUpTo (Nat.le_of_ble_eq_true rfl) ⟨by decide, by decide⟩ (by decide) (by decide) ?_
      refine aw_ifb_ne (tg := 29) dX8_life_24 (by decide) (fun c24 => ?_) (fun c24 => ?_)
      · skip
        exact absurd (by omega) hP
      · skip
        refine aw_iconst dX8_life_27 ?_
        exact aw_zret dX8_life_28 rfl (by first | omega | exact hb_b01 _) (by rfl) rfl rfl (by decide) (by decide)
set_option maxRecDepth 20000 in
set_option maxHeartbeats 1000000 in
theorem c_thingY {l : Launch} {G : hb_G} {F : hb_F} {na : Nat} {t k m c d : Int} (it : hb_in t) (ik : hb_in k) (im : hb_in m) (ic : hb_in c) (id : hb_in d) (hP : (0 ≤ t ∧ t < 40) ∧ G 7 t = -1 ∧ (0 ≤ k ∧ k < 12) ∧ (0 ≤ m ∧ m ≤ 1000000) ∧ (0 ≤ c ∧ c ≤ 1000000) ∧ (0 ≤ d ∧ d ≤ 30000)) (hG : hb_rg G) : hb_M l yX8_thing cX8_thing 6 (some .boolean) 2 0 0 [hb_r 0, hb_i t, hb_i k, hb_i m, hb_i c, hb_i d] (hb_w G F na) (77 + na) (.inl (some (hb_i (1)))) (hb_w (hb_u2 (hb_ta G t k m c d) 32 9 (-1)) F na) (77 + na) := by
  refine hb_M_in rfl rfl (by decide) rfl (Nat.le_of_ble_eq_true rfl) ?_
  intro E z0 σ0
  refine aw_ild1 dX8_thing_0 ?_
  refine aw_bipush dX8_thing_1 (by decide) ?_
  refine aw_S2v dX8_thing_3 (c_isBelow (by first | assumption | omega | (constructor <;> omega) | exact hG _ _) (by first | assumption | omega | (constructor <;> omega) | exact hG _ _)) hbY_X8_isBelow hbm_X8_64 hbs_X8_isBelow (Nat.le_of_ble_eq_true rfl) ⟨by decide, by decide⟩ (by decide) (by decide) ?_
  refine aw_ifb_eq (tg := 37) dX8_thing_6 (by decide) (fun c6 => ?_) (fun c6 => ?_)
  · skip
    exact absurd hP (by omega)
  · skip
    refine aw_ald0 dX8_thing_9 ?_
    refine aw_getf dX8_thing_10 hbf_X8_21 rfl rfl ?_
    refine aw_ild1 dX8_thing_13 ?_
    refine aw_V1v dX8_thing_14 (c_thingsHas (by first | assumption | omega | (constructor <;> omega) | exact hG _ _) hG) rfl rfl hbY_X6_has hbm_X8_75 hbi_X6_has hbe_X6_X6_has (Nat.le_of_ble_eq_true rfl) ⟨by decide, by decide⟩ (by decide) (by decide) ?_
    refine aw_ifb_ne (tg := 37) dX8_thing_17 (by decide) (fun c17 => ?_) (fun c17 => ?_)
    · skip
      exact absurd hP (by omega)
    · skip
      refine aw_ild2 dX8_thing_20 ?_
      refine aw_bipush dX8_thing_21 (by decide) ?_
      refine aw_S2v dX8_thing_23 (c_isBelow (by first | assumption | omega | (constructor <;> omega) | exact hG _ _) (by first | assumption | omega | (constructor <;> omega) | exact hG _ _)) hbY_X8_isBelow hbm_X8_64 hbs_X8_isBelow (Nat.le_of_ble_eq_true rfl) ⟨by decide, by decide⟩ (by decide) (by decide) ?_
      refine aw_ifb_eq (tg := 37) dX8_thing_26 (by decide) (fun c26 => ?_) (fun c26 => ?_)
      · skip
        exact absurd hP (by omega)
      · skip
        refine aw_ild5 dX8_thing_29 ?_
        refine aw_S1v dX8_thing_31 (c_isDay (by first | assumption | omega | (constructor <;> omega) | exact hG _ _)) hbY_X8_isDay hbm_X8_79 hbs_X8_isDay (Nat.le_of_ble_eq_true rfl) ⟨by decide, by decide⟩ (by decide) (by decide) ?_
        refine aw_ifb_ne (tg := 39) dX8_thing_34 (by decide) (fun c34 => ?_) (fun c34 => ?_)
        · skip
          refine aw_ild3 dX8_thing_39 ?_
          refine aw_ldc (z := 1000000) dX8_thing_40 hbk_X8_82 ?_
          refine aw_S2v dX8_thing_42 (c_isUpTo (by first | assumption | omega | (constructor <;> omega) | exact hG _ _) (by first | assumption | omega | (constructor <;> omega) | exact hG _ _)) hbY_X8_isUpTo hbm_X8_83 hbs_X8_isUpTo (Nat.le_of_ble_eq_true rfl) ⟨by decide, by decide⟩ (by decide) (by decide) ?_
          refine aw_ifb_eq (tg := 58) dX8_thing_45 (by decide) (fun c45 => ?_) (fun c45 => ?_)
          · skip
            exact absurd hP (by omega)
          · skip
            refine aw_ild4 dX8_thing_48 ?_
            refine aw_ldc (z := 1000000) dX8_thing_50 hbk_X8_82 ?_
            refine aw_S2v dX8_thing_52 (c_isUpTo (by first | assumption | omega | (constructor <;> omega) | exact hG _ _) (by first | assumption | omega | (constructor <;> omega) | exact hG _ _)) hbY_X8_isUpTo hbm_X8_83 hbs_X8_isUpTo (Nat.le_of_ble_eq_true rfl) ⟨by decide, by decide⟩ (by decide) (by decide) ?_
            refine aw_ifb_ne (tg := 60) dX8_thing_55 (by decide) (fun c55 => ?_) (fun c55 => ?_)
            · skip
              refine aw_ald0 dX8_thing_60 ?_
              refine aw_getf dX8_thing_61 hbf_X8_21 rfl rfl ?_
              refine aw_ild1 dX8_thing_64 ?_
              refine aw_ild2 dX8_thing_65 ?_
              refine aw_ild3 dX8_thing_66 ?_
              refine aw_ild4 dX8_thing_67 ?_
              refine aw_ild5 dX8_thing_69 ?_
              refine aw_V5n dX8_thing_71 (c_thingsAdd (by first | assumption | omega | (constructor <;> omega) | exact hG _ _)) rfl rfl hbY_X6_add hbm_X8_86 hbi_X6_add hbe_X6_X6_add (Nat.le_of_ble_eq_true rfl) ⟨by decide, by decide⟩ (by decide) (by decide) ?_
              refine aw_ald0 dX8_thing_74 ?_
              refine aw_getf dX8_thing_75 hbf_X8_56 rfl rfl ?_
              refine aw_V0n dX8_thing_78 (c_forget ) rfl rfl hbY_X4_forget hbm_X8_90 hbi_X4_forget hbe_X4_X4_forget (Nat.le_of_ble_eq_true rfl) ⟨by decide, by decide⟩ (by decide) (by decide) ?_
              refine aw_iconst dX8_thing_81 ?_
              exact aw_zret dX8_thing_82 rfl (by first | omega | exact hb_b01 _) (by rfl) rfl rfl (by decide) (by decide)
            · skip
              exact absurd hP (by omega)
        · skip
          exact absurd hP (by omega)
set_option maxRecDepth 20000 in
set_option maxHeartbeats 1000000 in
theorem c_thingN {l : Launch} {G : hb_G} {F : hb_F} {na : Nat} {t k m c d : Int} (it : hb_in t) (ik : hb_in k) (im : hb_in m) (ic : hb_in c) (id : hb_in d) (hP : ¬ ((0 ≤ t ∧ t < 40) ∧ G 7 t = -1 ∧ (0 ≤ k ∧ k < 12) ∧ (0 ≤ m ∧ m ≤ 1000000) ∧ (0 ≤ c ∧ c ≤ 1000000) ∧ (0 ≤ d ∧ d ≤ 30000))) (hG : hb_rg G) : hb_M l yX8_thing cX8_thing 6 (some .boolean) 2 0 0 [hb_r 0, hb_i t, hb_i k, hb_i m, hb_i c, hb_i d] (hb_w G F na) (77 + na) (.inl (some (hb_i (0)))) (hb_w G F na) (77 + na) := by
  refine hb_M_in rfl rfl (by decide) rfl (Nat.le_of_ble_eq_true rfl) ?_
  intro E z0 σ0
  refine aw_ild1 dX8_thing_0 ?_
  refine aw_bipush dX8_thing_1 (by decide) ?_
  refine aw_S2v dX8_thing_3 (c_isBelow (by first | assumption | omega | (constructor <;> omega) | exact hG _ _) (by first | assumption | omega | (constructor <;> omega) | exact hG _ _)) hbY_X8_isBelow hbm_X8_64 hbs_X8_isBelow (Nat.le_of_ble_eq_true rfl) ⟨by decide, by decide⟩ (by decide) (by decide) ?_
  refine aw_ifb_eq (tg := 37) dX8_thing_6 (by decide) (fun c6 => ?_) (fun c6 => ?_)
  · skip
    refine aw_iconst dX8_thing_37 ?_
    exact aw_zret dX8_thing_38 rfl (by first | omega | exact hb_b01 _) (by rfl) rfl rfl (by decide) (by decide)
  · skip
    refine aw_ald0 dX8_thing_9 ?_
    refine aw_getf dX8_thing_10 hbf_X8_21 rfl rfl ?_
    refine aw_ild1 dX8_thing_13 ?_
    refine aw_V1v dX8_thing_14 (c_thingsHas (by first | assumption | omega | (constructor <;> omega) | exact hG _ _) hG) rfl rfl hbY_X6_has hbm_X8_75 hbi_X6_has hbe_X6_X6_has (Nat.le_of_ble_eq_true rfl) ⟨by decide, by decide⟩ (by decide) (by decide) ?_
    refine aw_ifb_ne (tg := 37) dX8_thing_17 (by decide) (fun c17 => ?_) (fun c17 => ?_)
    · skip
      refine aw_iconst dX8_thing_37 ?_
      exact aw_zret dX8_thing_38 rfl (by first | omega | exact hb_b01 _) (by rfl) rfl rfl (by decide) (by decide)
    · skip
      refine aw_ild2 dX8_thing_20 ?_
      refine aw_bipush dX8_thing_21 (by decide) ?_
      refine aw_S2v dX8_thing_23 (c_isBelow (by first | assumption | omega | (constructor <;> omega) | exact hG _ _) (by first | assumption | omega | (constructor <;> omega) | exact hG _ _)) hbY_X8_isBelow hbm_X8_64 hbs_X8_isBelow (Nat.le_of_ble_eq_true rfl) ⟨by decide, by decide⟩ (by decide) (by decide) ?_
      refine aw_ifb_eq (tg := 37) dX8_thing_26 (by decide) (fun c26 => ?_) (fun c26 => ?_)
      · skip
        refine aw_iconst dX8_thing_37 ?_
        exact aw_zret dX8_thing_38 rfl (by first | omega | exact hb_b01 _) (by rfl) rfl rfl (by decide) (by decide)
      · skip
        refine aw_ild5 dX8_thing_29 ?_
        refine aw_S1v dX8_thing_31 (c_isDay (by first | assumption | omega | (constructor <;> omega) | exact hG _ _)) hbY_X8_isDay hbm_X8_79 hbs_X8_isDay (Nat.le_of_ble_eq_true rfl) ⟨by decide, by decide⟩ (by decide) (by decide) ?_
        refine aw_ifb_ne (tg := 39) dX8_thing_34 (by decide) (fun c34 => ?_) (fun c34 => ?_)
        · skip
          refine aw_ild3 dX8_thing_39 ?_
          refine aw_ldc (z := 1000000) dX8_thing_40 hbk_X8_82 ?_
          refine aw_S2v dX8_thing_42 (c_isUpTo (by first | assumption | omega | (constructor <;> omega) | exact hG _ _) (by first | assumption | omega | (constructor <;> omega) | exact hG _ _)) hbY_X8_isUpTo hbm_X8_83 hbs_X8_isUpTo (Nat.le_of_ble_eq_true rfl) ⟨by decide, by decide⟩ (by decide) (by decide) ?_
          refine aw_ifb_eq (tg := 58) dX8_thing_45 (by decide) (fun c45 => ?_) (fun c45 => ?_)
          · skip
            refine aw_iconst dX8_thing_58 ?_
            exact aw_zret dX8_thing_59 rfl (by first | omega | exact hb_b01 _) (by rfl) rfl rfl (by decide) (by decide)
          · skip
            refine aw_ild4 dX8_thing_48 ?_
            refine aw_ldc (z := 1000000) dX8_thing_50 hbk_X8_82 ?_
            refine aw_S2v dX8_thing_52 (c_isUpTo (by first | assumption | omega | (constructor <;> omega) | exact hG _ _) (by first | assumption | omega | (constructor <;> omega) | exact hG _ _)) hbY_X8_isUpTo hbm_X8_83 hbs_X8_isUpTo (Nat.le_of_ble_eq_true rfl) ⟨by decide, by decide⟩ (by decide) (by decide) ?_
            refine aw_ifb_ne (tg := 60) dX8_thing_55 (by decide) (fun c55 => ?_) (fun c55 => ?_)
            · skip
              exact absurd (by omega) hP
            · skip
              refine aw_iconst dX8_thing_58 ?_
              exact aw_zret dX8_thing_59 rfl (by first | omega | exact hb_b01 _) (by rfl) rfl rfl (by decide) (by decide)
        · skip
          refine aw_iconst dX8_thing_37 ?_
          exact aw_zret dX8_thing_38 rfl (by first | omega | exact hb_b01 _) (by rfl) rfl rfl (by decide) (by decide)
set_option maxRecDepth 20000 in
set_option maxHeartbeats 1000000 in
theorem c_taskY {l : Launch} {G : hb_G} {F : hb_F} {na : Nat} {t k m c w : Int} (it : hb_in t) (ik : hb_in k) (im : hb_in m) (ic : hb_in c) (iw : hb_in w) (hP : (0 ≤ t ∧ t < 16) ∧ (0 ≤ k ∧ k < 12) ∧ 0 ≤ w ∧ (G 13 t = -1 ∨ G 13 t = k) ∧ (0 ≤ m ∧ m ≤ 100000) ∧ (0 ≤ c ∧ c ≤ 100000) ∧ w / 1000 ≤ 100000 ∧ w % 1000 ≤ 500) (hG : hb_rg G) : hb_M l yX8_task cX8_task 8 (some .boolean) 2 0 0 [hb_r 0, hb_i t, hb_i k, hb_i m, hb_i c, hb_i w] (hb_w G F na) (77 + na) (.inl (some (hb_i (1)))) (hb_w (hb_u2 (hb_ts G t k m c (w / 1000) (w % 1000)) 32 9 (-1)) F na) (77 + na) := by
  refine hb_M_in rfl rfl (by decide) rfl (Nat.le_of_ble_eq_true rfl) ?_
  intro E z0 σ0
  refine aw_ild1 dX8_task_0 ?_
  refine aw_bipush dX8_task_1 (by decide) ?_
  refine aw_S2v dX8_task_3 (c_isBelow (by first | assumption | omega | (constructor <;> omega) | exact hG _ _) (by first | assumption | omega | (constructor <;> omega) | exact hG _ _)) hbY_X8_isBelow hbm_X8_64 hbs_X8_isBelow (Nat.le_of_ble_eq_true rfl) ⟨by decide, by decide⟩ (by decide) (by decide) ?_
  refine aw_ifb_eq (tg := 23) dX8_task_6 (by decide) (fun c6 => ?_) (fun c6 => ?_)
  · skip
    exact absurd hP (by omega)
  · skip
    refine aw_ild2 dX8_task_9 ?_
    refine aw_bipush dX8_task_10 (by decide) ?_
    refine aw_S2v dX8_task_12 (c_isBelow (by first | assumption | omega | (constructor <;> omega) | exact hG _ _) (by first | assumption | omega | (constructor <;> omega) | exact hG _ _)) hbY_X8_isBelow hbm_X8_64 hbs_X8_isBelow (Nat.le_of_ble_eq_true rfl) ⟨by decide, by decide⟩ (by decide) (by decide) ?_
    refine aw_ifb_eq (tg := 23) dX8_task_15 (by decide) (fun c15 => ?_) (fun c15 => ?_)
    · skip
      exact absurd hP (by omega)
    · skip
      refine aw_ild5 dX8_task_18 ?_
      refine aw_if_ge (tg := 25) dX8_task_20 (by decide) (by first | exact hG _ _ | assumption | (constructor <;> omega)) (fun c20 => ?_) (fun c20 => ?_)
      · skip
        refine aw_ald0 dX8_task_25 ?_
        refine aw_getf dX8_task_26 hbf_X8_28 rfl rfl ?_
        refine aw_ild1 dX8_task_29 ?_
        refine aw_V1v dX8_task_30 (c_tasksHas (by first | assumption | omega | (constructor <;> omega) | exact hG _ _) hG) rfl rfl hbY_X5_has hbm_X8_93 hbi_X5_has hbe_X5_X5_has (Nat.le_of_ble_eq_true rfl) ⟨by decide, by decide⟩ (by decide) (by decide) ?_
        refine aw_ifb_eq (tg := 51) dX8_task_33 (by decide) (fun c33 => ?_) (fun c33 => ?_)
        · skip
          refine aw_ild5 dX8_task_51 ?_
          refine aw_sipush dX8_task_53 (by decide) ?_
          refine aw_idiv dX8_task_56 (by first | exact hG _ _ | assumption | (constructor <;> omega)) (by first | exact hG _ _ | assumption | (constructor <;> omega)) (by omega) (by omega) ?_
          refine aw_ipu6 dX8_task_57 (by decide) ?_
          refine aw_ild5 dX8_task_59 ?_
          refine aw_sipush dX8_task_61 (by decide) ?_
          refine aw_irem dX8_task_64 (by first | exact hG _ _ | assumption | (constructor <;> omega)) (by first | exact hG _ _ | assumption | (constructor <;> omega)) (by omega) (by omega) ?_
          refine aw_ipu7 dX8_task_65 (by decide) ?_
          refine aw_ild3 dX8_task_67 ?_
          refine aw_S1v dX8_task_68 (c_isInterval (by first | assumption | omega | (constructor <;> omega) | exact hG _ _)) hbY_X8_isInterval hbm_X8_97 hbs_X8_isInterval (Nat.le_of_ble_eq_true rfl) ⟨by decide, by decide⟩ (by decide) (by decide) ?_
          refine aw_ifb_eq (tg := 98) dX8_task_71 (by decide) (fun c71 => ?_) (fun c71 => ?_)
          · skip
            exact absurd hP (by omega)
          · skip
            refine aw_ild4 dX8_task_74 ?_
            refine aw_S1v dX8_task_76 (c_isInterval (by first | assumption | omega | (constructor <;> omega) | exact hG _ _)) hbY_X8_isInterval hbm_X8_97 hbs_X8_isInterval (Nat.le_of_ble_eq_true rfl) ⟨by decide, by decide⟩ (by decide) (by decide) ?_
            refine aw_ifb_eq (tg := 98) dX8_task_79 (by decide) (fun c79 => ?_) (fun c79 => ?_)
            · skip
              exact absurd hP (by omega)
            · skip
              refine aw_ild6 dX8_task_82 ?_
              refine aw_S1v dX8_task_84 (c_isInterval (by first | assumption | omega | (constructor <;> omega) | exact hG _ _)) hbY_X8_isInterval hbm_X8_97 hbs_X8_isInterval (Nat.le_of_ble_eq_true rfl) ⟨by decide, by decide⟩ (by decide) (by decide) ?_
              refine aw_ifb_eq (tg := 98) dX8_task_87 (by decide) (fun c87 => ?_) (fun c87 => ?_)
              · skip
                exact absurd hP (by omega)
              · skip
                refine aw_ild7 dX8_task_90 ?_
                refine aw_sipush dX8_task_92 (by decide) ?_
                refine aw_icmp_le (tg := 100) dX8_task_95 (by decide) (by first | exact hG _ _ | assumption | (constructor <;> omega)) (by first | exact hG _ _ | assumption | (constructor <;> omega)) (fun c95 => ?_) (fun c95 => ?_)
                · skip
                  refine aw_ald0 dX8_task_100 ?_
                  refine aw_getf dX8_task_101 hbf_X8_28 rfl rfl ?_
                  refine aw_ild1 dX8_task_104 ?_
                  refine aw_ild2 dX8_task_105 ?_
                  refine aw_ild3 dX8_task_106 ?_
                  refine aw_ild4 dX8_task_107 ?_
                  refine aw_ild6 dX8_task_109 ?_
                  refine aw_ild7 dX8_task_111 ?_
                  refine aw_V6n dX8_task_113 (c_tasksSet (by first | assumption | omega | (constructor <;> omega) | exact hG _ _)) rfl rfl hbY_X5_set hbm_X8_100 hbi_X5_set hbe_X5_X5_set (Nat.le_of_ble_eq_true rfl) ⟨by decide, by decide⟩ (by decide) (by decide) ?_
                  refine aw_ald0 dX8_task_116 ?_
                  refine aw_getf dX8_task_117 hbf_X8_56 rfl rfl ?_
                  refine aw_V0n dX8_task_120 (c_forget ) rfl rfl hbY_X4_forget hbm_X8_90 hbi_X4_forget hbe_X4_X4_forget (Nat.le_of_ble_eq_true rfl) ⟨by decide, by decide⟩ (by decide) (by decide) ?_
                  refine aw_iconst dX8_task_123 ?_
                  exact aw_zret dX8_task_124 rfl (by first | omega | exact hb_b01 _) (by rfl) rfl rfl (by decide) (by decide)
                · skip
                  exact absurd hP (by omega)
        · skip
          refine aw_ald0 dX8_task_36 ?_
          refine aw_getf dX8_task_37 hbf_X8_28 rfl rfl ?_
          refine aw_getf dX8_task_40 hbf_X8_94 rfl rfl ?_
          refine aw_ild1 dX8_task_43 ?_
          refine aw_iald dX8_task_44 rfl (by constructor <;> omega) (by decide) ?_
          refine aw_ild2 dX8_task_45 ?_
          refine aw_icmp_eq (tg := 51) dX8_task_46 (by decide) (by first | exact hG _ _ | assumption | (constructor <;> omega)) (by first | exact hG _ _ | assumption | (constructor <;> omega)) (fun c46 => ?_) (fun c46 => ?_)
          · skip
            refine aw_ild5 dX8_task_51 ?_
            refine aw_sipush dX8_task_53 (by decide) ?_
            refine aw_idiv dX8_task_56 (by first | exact hG _ _ | assumption | (constructor <;> omega)) (by first | exact hG _ _ | assumption | (constructor <;> omega)) (by omega) (by omega) ?_
            refine aw_ipu6 dX8_task_57 (by decide) ?_
            refine aw_ild5 dX8_task_59 ?_
            refine aw_sipush dX8_task_61 (by decide) ?_
            refine aw_irem dX8_task_64 (by first | exact hG _ _ | assumption | (constructor <;> omega)) (by first | exact hG _ _ | assumption | (constructor <;> omega)) (by omega) (by omega) ?_
            refine aw_ipu7 dX8_task_65 (by decide) ?_
            refine aw_ild3 dX8_task_67 ?_
            refine aw_S1v dX8_task_68 (c_isInterval (by first | assumption | omega | (constructor <;> omega) | exact hG _ _)) hbY_X8_isInterval hbm_X8_97 hbs_X8_isInterval (Nat.le_of_ble_eq_true rfl) ⟨by decide, by decide⟩ (by decide) (by decide) ?_
            refine aw_ifb_eq (tg := 98) dX8_task_71 (by decide) (fun c71 => ?_) (fun c71 => ?_)
            · skip
              exact absurd hP (by omega)
            · skip
              refine aw_ild4 dX8_task_74 ?_
              refine aw_S1v dX8_task_76 (c_isInterval (by first | assumption | omega | (constructor <;> omega) | exact hG _ _)) hbY_X8_isInterval hbm_X8_97 hbs_X8_isInterval (Nat.le_of_ble_eq_true rfl) ⟨by decide, by decide⟩ (by decide) (by decide) ?_
              refine aw_ifb_eq (tg := 98) dX8_task_79 (by decide) (fun c79 => ?_) (fun c79 => ?_)
              · skip
                exact absurd hP (by omega)
              · skip
                refine aw_ild6 dX8_task_82 ?_
                refine aw_S1v dX8_task_84 (c_isInterval (by first | assumption | omega | (constructor <;> omega) | exact hG _ _)) hbY_X8_isInterval hbm_X8_97 hbs_X8_isInterval (Nat.le_of_ble_eq_true rfl) ⟨by decide, by decide⟩ (by decide) (by decide) ?_
                refine aw_ifb_eq (tg := 98) dX8_task_87 (by decide) (fun c87 => ?_) (fun c87 => ?_)
                · skip
                  exact absurd hP (by omega)
                · skip
                  refine aw_ild7 dX8_task_90 ?_
                  refine aw_sipush dX8_task_92 (by decide) ?_
                  refine aw_icmp_le (tg := 100) dX8_task_95 (by decide) (by first | exact hG _ _ | assumption | (constructor <;> omega)) (by first | exact hG _ _ | assumption | (constructor <;> omega)) (fun c95 => ?_) (fun c95 => ?_)
                  · skip
                    refine aw_ald0 dX8_task_100 ?_
                    refine aw_getf dX8_task_101 hbf_X8_28 rfl rfl ?_
                    refine aw_ild1 dX8_task_104 ?_
                    refine aw_ild2 dX8_task_105 ?_
                    refine aw_ild3 dX8_task_106 ?_
                    refine aw_ild4 dX8_task_107 ?_
                    refine aw_ild6 dX8_task_109 ?_
                    refine aw_ild7 dX8_task_111 ?_
                    refine aw_V6n dX8_task_113 (c_tasksSet (by first | assumption | omega | (constructor <;> omega) | exact hG _ _)) rfl rfl hbY_X5_set hbm_X8_100 hbi_X5_set hbe_X5_X5_set (Nat.le_of_ble_eq_true rfl) ⟨by decide, by decide⟩ (by decide) (by decide) ?_
                    refine aw_ald0 dX8_task_116 ?_
                    refine aw_getf dX8_task_117 hbf_X8_56 rfl rfl ?_
                    refine aw_V0n dX8_task_120 (c_forget ) rfl rfl hbY_X4_forget hbm_X8_90 hbi_X4_forget hbe_X4_X4_forget (Nat.le_of_ble_eq_true rfl) ⟨by decide, by decide⟩ (by decide) (by decide) ?_
                    refine aw_iconst dX8_task_123 ?_
                    exact aw_zret dX8_task_124 rfl (by first | omega | exact hb_b01 _) (by rfl) rfl rfl (by decide) (by decide)
                  · skip
                    exact absurd hP (by omega)
          · skip
            exact absurd hP (by omega)
      · skip
        exact absurd hP (by omega)
set_option maxRecDepth 20000 in
set_option maxHeartbeats 1000000 in
theorem c_taskN {l : Launch} {G : hb_G} {F : hb_F} {na : Nat} {t k m c w : Int} (it : hb_in t) (ik : hb_in k) (im : hb_in m) (ic : hb_in c) (iw : hb_in w) (hP : ¬ ((0 ≤ t ∧ t < 16) ∧ (0 ≤ k ∧ k < 12) ∧ 0 ≤ w ∧ (G 13 t = -1 ∨ G 13 t = k) ∧ (0 ≤ m ∧ m ≤ 100000) ∧ (0 ≤ c ∧ c ≤ 100000) ∧ w / 1000 ≤ 100000 ∧ w % 1000 ≤ 500)) (hG : hb_rg G) : hb_M l yX8_task cX8_task 8 (some .boolean) 2 0 0 [hb_r 0, hb_i t, hb_i k, hb_i m, hb_i c, hb_i w] (hb_w G F na) (77 + na) (.inl (some (hb_i (0)))) (hb_w G F na) (77 + na) := by
  refine hb_M_in rfl rfl (by decide) rfl (Nat.le_of_ble_eq_true rfl) ?_
  intro E z0 σ0
  refine aw_ild1 dX8_task_0 ?_
  refine aw_bipush dX8_task_1 (by decide) ?_
  refine aw_S2v dX8_task_3 (c_isBelow (by first | assumption | omega | (constructor <;> omega) | exact hG _ _) (by first | assumption | omega | (constructor <;> omega) | exact hG _ _)) hbY_X8_isBelow hbm_X8_64 hbs_X8_isBelow (Nat.le_of_ble_eq_true rfl) ⟨by decide, by decide⟩ (by decide) (by decide) ?_
  refine aw_ifb_eq (tg := 23) dX8_task_6 (by decide) (fun c6 => ?_) (fun c6 => ?_)
  · skip
    refine aw_iconst dX8_task_23 ?_
    exact aw_zret dX8_task_24 rfl (by first | omega | exact hb_b01 _) (by rfl) rfl rfl (by decide) (by decide)
  · skip
    refine aw_ild2 dX8_task_9 ?_
    refine aw_bipush dX8_task_10 (by decide) ?_
    refine aw_S2v dX8_task_12 (c_isBelow (by first | assumption | omega | (constructor <;> omega) | exact hG _ _) (by first | assumption | omega | (constructor <;> omega) | exact hG _ _)) hbY_X8_isBelow hbm_X8_64 hbs_X8_isBelow (Nat.le_of_ble_eq_true rfl) ⟨by decide, by decide⟩ (by decide) (by decide) ?_
    refine aw_ifb_eq (tg := 23) dX8_task_15 (by decide) (fun c15 => ?_) (fun c15 => ?_)
    · skip
      refine aw_iconst dX8_task_23 ?_
      exact aw_zret dX8_task_24 rfl (by first | omega | exact hb_b01 _) (by rfl) rfl rfl (by decide) (by decide)
    · skip
      refine aw_ild5 dX8_task_18 ?_
      refine aw_if_ge (tg := 25) dX8_task_20 (by decide) (by first | exact hG _ _ | assumption | (constructor <;> omega)) (fun c20 => ?_) (fun c20 => ?_)
      · skip
        refine aw_ald0 dX8_task_25 ?_
        refine aw_getf dX8_task_26 hbf_X8_28 rfl rfl ?_
        refine aw_ild1 dX8_task_29 ?_
        refine aw_V1v dX8_task_30 (c_tasksHas (by first | assumption | omega | (constructor <;> omega) | exact hG _ _) hG) rfl rfl hbY_X5_has hbm_X8_93 hbi_X5_has hbe_X5_X5_has (Nat.le_of_ble_eq_true rfl) ⟨by decide, by decide⟩ (by decide) (by decide) ?_
        refine aw_ifb_eq (tg := 51) dX8_task_33 (by decide) (fun c33 => ?_) (fun c33 => ?_)
        · skip
          refine aw_ild5 dX8_task_51 ?_
          refine aw_sipush dX8_task_53 (by decide) ?_
          refine aw_idiv dX8_task_56 (by first | exact hG _ _ | assumption | (constructor <;> omega)) (by first | exact hG _ _ | assumption | (constructor <;> omega)) (by omega) (by omega) ?_
          refine aw_ipu6 dX8_task_57 (by decide) ?_
          refine aw_ild5 dX8_task_59 ?_
          refine aw_sipush dX8_task_61 (by decide) ?_
          refine aw_irem dX8_task_64 (by first | exact hG _ _ | assumption | (constructor <;> omega)) (by first | exact hG _ _ | assumption | (constructor <;> omega)) (by omega) (by omega) ?_
          refine aw_ipu7 dX8_task_65 (by decide) ?_
          refine aw_ild3 dX8_task_67 ?_
          refine aw_S1v dX8_task_68 (c_isInterval (by first | assumption | omega | (constructor <;> omega) | exact hG _ _)) hbY_X8_isInterval hbm_X8_97 hbs_X8_isInterval (Nat.le_of_ble_eq_true rfl) ⟨by decide, by decide⟩ (by decide) (by decide) ?_
          refine aw_ifb_eq (tg := 98) dX8_task_71 (by decide) (fun c71 => ?_) (fun c71 => ?_)
          · skip
            refine aw_iconst dX8_task_98 ?_
            exact aw_zret dX8_task_99 rfl (by first | omega | exact hb_b01 _) (by rfl) rfl rfl (by decide) (by decide)
          · skip
            refine aw_ild4 dX8_task_74 ?_
            refine aw_S1v dX8_task_76 (c_isInterval (by first | assumption | omega | (constructor <;> omega) | exact hG _ _)) hbY_X8_isInterval hbm_X8_97 hbs_X8_isInterval (Nat.le_of_ble_eq_true rfl) ⟨by decide, by decide⟩ (by decide) (by decide) ?_
            refine aw_ifb_eq (tg := 98) dX8_task_79 (by decide) (fun c79 => ?_) (fun c79 => ?_)
            · skip
              refine aw_iconst dX8_task_98 ?_
              exact aw_zret dX8_task_99 rfl (by first | omega | exact hb_b01 _) (by rfl) rfl rfl (by decide) (by decide)
            · skip
              refine aw_ild6 dX8_task_82 ?_
              refine aw_S1v dX8_task_84 (c_isInterval (by first | assumption | omega | (constructor <;> omega) | exact hG _ _)) hbY_X8_isInterval hbm_X8_97 hbs_X8_isInterval (Nat.le_of_ble_eq_true rfl) ⟨by decide, by decide⟩ (by decide) (by decide) ?_
              refine aw_ifb_eq (tg := 98) dX8_task_87 (by decide) (fun c87 => ?_) (fun c87 => ?_)
              · skip
                refine aw_iconst dX8_task_98 ?_
                exact aw_zret dX8_task_99 rfl (by first | omega | exact hb_b01 _) (by rfl) rfl rfl (by decide) (by decide)
              · skip
                refine aw_ild7 dX8_task_90 ?_
                refine aw_sipush dX8_task_92 (by decide) ?_
                refine aw_icmp_le (tg := 100) dX8_task_95 (by decide) (by first | exact hG _ _ | assumption | (constructor <;> omega)) (by first | exact hG _ _ | assumption | (constructor <;> omega)) (fun c95 => ?_) (fun c95 => ?_)
                · skip
                  exact absurd (by omega) hP
                · skip
                  refine aw_iconst dX8_task_98 ?_
                  exact aw_zret dX8_task_99 rfl (by first | omega | exact hb_b01 _) (by rfl) rfl rfl (by decide) (by decide)
        · skip
          refine aw_ald0 dX8_task_36 ?_
          refine aw_getf dX8_task_37 hbf_X8_28 rfl rfl ?_
          refine aw_getf dX8_task_40 hbf_X8_94 rfl rfl ?_
          refine aw_ild1 dX8_task_43 ?_
          refine aw_iald dX8_task_44 rfl (by constructor <;> omega) (by decide) ?_
          refine aw_ild2 dX8_task_45 ?_
          refine aw_icmp_eq (tg := 51) dX8_task_46 (by decide) (by first | exact hG _ _ | assumption | (constructor <;> omega)) (by first | exact hG _ _ | assumption | (constructor <;> omega)) (fun c46 => ?_) (fun c46 => ?_)
          · skip
            refine aw_ild5 dX8_task_51 ?_
            refine aw_sipush dX8_task_53 (by decide) ?_
            refine aw_idiv dX8_task_56 (by first | exact hG _ _ | assumption | (constructor <;> omega)) (by first | exact hG _ _ | assumption | (constructor <;> omega)) (by omega) (by omega) ?_
            refine aw_ipu6 dX8_task_57 (by decide) ?_
            refine aw_ild5 dX8_task_59 ?_
            refine aw_sipush dX8_task_61 (by decide) ?_
            refine aw_irem dX8_task_64 (by first | exact hG _ _ | assumption | (constructor <;> omega)) (by first | exact hG _ _ | assumption | (constructor <;> omega)) (by omega) (by omega) ?_
            refine aw_ipu7 dX8_task_65 (by decide) ?_
            refine aw_ild3 dX8_task_67 ?_
            refine aw_S1v dX8_task_68 (c_isInterval (by first | assumption | omega | (constructor <;> omega) | exact hG _ _)) hbY_X8_isInterval hbm_X8_97 hbs_X8_isInterval (Nat.le_of_ble_eq_true rfl) ⟨by decide, by decide⟩ (by decide) (by decide) ?_
            refine aw_ifb_eq (tg := 98) dX8_task_71 (by decide) (fun c71 => ?_) (fun c71 => ?_)
            · skip
              refine aw_iconst dX8_task_98 ?_
              exact aw_zret dX8_task_99 rfl (by first | omega | exact hb_b01 _) (by rfl) rfl rfl (by decide) (by decide)
            · skip
              refine aw_ild4 dX8_task_74 ?_
              refine aw_S1v dX8_task_76 (c_isInterval (by first | assumption | omega | (constructor <;> omega) | exact hG _ _)) hbY_X8_isInterval hbm_X8_97 hbs_X8_isInterval (Nat.le_of_ble_eq_true rfl) ⟨by decide, by decide⟩ (by decide) (by decide) ?_
              refine aw_ifb_eq (tg := 98) dX8_task_79 (by decide) (fun c79 => ?_) (fun c79 => ?_)
              · skip
                refine aw_iconst dX8_task_98 ?_
                exact aw_zret dX8_task_99 rfl (by first | omega | exact hb_b01 _) (by rfl) rfl rfl (by decide) (by decide)
              · skip
                refine aw_ild6 dX8_task_82 ?_
                refine aw_S1v dX8_task_84 (c_isInterval (by first | assumption | omega | (constructor <;> omega) | exact hG _ _)) hbY_X8_isInterval hbm_X8_97 hbs_X8_isInterval (Nat.le_of_ble_eq_true rfl) ⟨by decide, by decide⟩ (by decide) (by decide) ?_
                refine aw_ifb_eq (tg := 98) dX8_task_87 (by decide) (fun c87 => ?_) (fun c87 => ?_)
                · skip
                  refine aw_iconst dX8_task_98 ?_
                  exact aw_zret dX8_task_99 rfl (by first | omega | exact hb_b01 _) (by rfl) rfl rfl (by decide) (by decide)
                · skip
                  refine aw_ild7 dX8_task_90 ?_
                  refine aw_sipush dX8_task_92 (by decide) ?_
                  refine aw_icmp_le (tg := 100) dX8_task_95 (by decide) (by first | exact hG _ _ | assumption | (constructor <;> omega)) (by first | exact hG _ _ | assumption | (constructor <;> omega)) (fun c95 => ?_) (fun c95 => ?_)
                  · skip
                    exact absurd (by omega) hP
                  · skip
                    refine aw_iconst dX8_task_98 ?_
                    exact aw_zret dX8_task_99 rfl (by first | omega | exact hb_b01 _) (by rfl) rfl rfl (by decide) (by decide)
          · skip
            refine aw_iconst dX8_task_49 ?_
            exact aw_zret dX8_task_50 rfl (by first | omega | exact hb_b01 _) (by rfl) rfl rfl (by decide) (by decide)
      · skip
        refine aw_iconst dX8_task_23 ?_
        exact aw_zret dX8_task_24 rfl (by first | omega | exact hb_b01 _) (by rfl) rfl rfl (by decide) (by decide)
set_option maxRecDepth 20000 in
set_option maxHeartbeats 1000000 in
theorem c_orderY {l : Launch} {G : hb_G} {F : hb_F} {na : Nat} {q k s t r : Int} (iq : hb_in q) (ik : hb_in k) (is : hb_in s) (it : hb_in t) (ir : hb_in r) (hP : (0 ≤ q ∧ q < 8) ∧ (0 ≤ k ∧ k < 12) ∧ (0 ≤ s ∧ s < 1600) ∧ s / 40 ≤ s % 40 ∧ (0 ≤ t ∧ t < 16 ∧ G 13 t ≠ -1) ∧ (r = -1 ∨ (0 ≤ r ∧ r < 16 ∧ G 13 r ≠ -1))) (hG : hb_rg G) : hb_M l yX8_order cX8_order 8 (some .boolean) 2 0 0 [hb_r 0, hb_i q, hb_i k, hb_i s, hb_i t, hb_i r] (hb_w G F na) (77 + na) (.inl (some (hb_i (1)))) (hb_w (hb_os G q k (s / 40) (s % 40) t r) F na) (77 + na) := by
  refine hb_M_in rfl rfl (by decide) rfl (Nat.le_of_ble_eq_true rfl) ?_
  intro E z0 σ0
  refine aw_ild1 dX8_order_0 ?_
  refine aw_bipush dX8_order_1 (by decide) ?_
  refine aw_S2v dX8_order_3 (c_isBelow (by first | assumption | omega | (constructor <;> omega) | exact hG _ _) (by first | assumption | omega | (constructor <;> omega) | exact hG _ _)) hbY_X8_isBelow hbm_X8_64 hbs_X8_isBelow (Nat.le_of_ble_eq_true rfl) ⟨by decide, by decide⟩ (by decide) (by decide) ?_
  refine aw_ifb_eq (tg := 28) dX8_order_6 (by decide) (fun c6 => ?_) (fun c6 => ?_)
  · skip
    exact absurd hP (by omega)
  · skip
    refine aw_ild2 dX8_order_9 ?_
    refine aw_bipush dX8_order_10 (by decide) ?_
    refine aw_S2v dX8_order_12 (c_isBelow (by first | assumption | omega | (constructor <;> omega) | exact hG _ _) (by first | assumption | omega | (constructor <;> omega) | exact hG _ _)) hbY_X8_isBelow hbm_X8_64 hbs_X8_isBelow (Nat.le_of_ble_eq_true rfl) ⟨by decide, by decide⟩ (by decide) (by decide) ?_
    refine aw_ifb_eq (tg := 28) dX8_order_15 (by decide) (fun c15 => ?_) (fun c15 => ?_)
    · skip
      exact absurd hP (by omega)
    · skip
      refine aw_ild3 dX8_order_18 ?_
      refine aw_sipush dX8_order_19 (by decide) ?_
      refine aw_S2v dX8_order_22 (c_isBelow (by first | assumption | omega | (constructor <;> omega) | exact hG _ _) (by first | assumption | omega | (constructor <;> omega) | exact hG _ _)) hbY_X8_isBelow hbm_X8_64 hbs_X8_isBelow (Nat.le_of_ble_eq_true rfl) ⟨by decide, by decide⟩ (by decide) (by decide) ?_
      refine aw_ifb_ne (tg := 30) dX8_order_25 (by decide) (fun c25 => ?_) (fun c25 => ?_)
      · skip
        refine aw_ild3 dX8_order_30 ?_
        refine aw_bipush dX8_order_31 (by decide) ?_
        refine aw_idiv dX8_order_33 (by first | exact hG _ _ | assumption | (constructor <;> omega)) (by first | exact hG _ _ | assumption | (constructor <;> omega)) (by omega) (by omega) ?_
        refine aw_ipu6 dX8_order_34 (by decide) ?_
        refine aw_ild3 dX8_order_36 ?_
        refine aw_bipush dX8_order_37 (by decide) ?_
        refine aw_irem dX8_order_39 (by first | exact hG _ _ | assumption | (constructor <;> omega)) (by first | exact hG _ _ | assumption | (constructor <;> omega)) (by omega) (by omega) ?_
        refine aw_ipu7 dX8_order_40 (by decide) ?_
        refine aw_ild6 dX8_order_42 ?_
        refine aw_ild7 dX8_order_44 ?_
        refine aw_icmp_gt (tg := 79) dX8_order_46 (by decide) (by first | exact hG _ _ | assumption | (constructor <;> omega)) (by first | exact hG _ _ | assumption | (constructor <;> omega)) (fun c46 => ?_) (fun c46 => ?_)
        · skip
          exact absurd hP (by omega)
        · skip
          refine aw_ald0 dX8_order_49 ?_
          refine aw_getf dX8_order_50 hbf_X8_28 rfl rfl ?_
          refine aw_ild4 dX8_order_53 ?_
          refine aw_V1v dX8_order_55 (c_tasksHas (by first | assumption | omega | (constructor <;> omega) | exact hG _ _) hG) rfl rfl hbY_X5_has hbm_X8_93 hbi_X5_has hbe_X5_X5_has (Nat.le_of_ble_eq_true rfl) ⟨by decide, by decide⟩ (by decide) (by decide) ?_
          refine aw_ifb_eq (tg := 79) dX8_order_58 (by decide) (fun c58 => ?_) (fun c58 => ?_)
          · skip
            exact absurd hP (by omega)
          · skip
            refine aw_ild5 dX8_order_61 ?_
            refine aw_iconst dX8_order_63 ?_
            refine aw_icmp_eq (tg := 81) dX8_order_64 (by decide) (by first | exact hG _ _ | assumption | (constructor <;> omega)) (by first | exact hG _ _ | assumption | (constructor <;> omega)) (fun c64 => ?_) (fun c64 => ?_)
            · skip
              refine aw_ald0 dX8_order_81 ?_
              refine aw_getf dX8_order_82 hbf_X8_35 rfl rfl ?_
              refine aw_ild1 dX8_order_85 ?_
              refine aw_ild2 dX8_order_86 ?_
              refine aw_ild6 dX8_order_87 ?_
              refine aw_ild7 dX8_order_89 ?_
              refine aw_ild4 dX8_order_91 ?_
              refine aw_ild5 dX8_order_93 ?_
              refine aw_V6n dX8_order_95 (c_ordersSet (by first | assumption | omega | (constructor <;> omega) | exact hG _ _)) rfl rfl hbY_X3_set hbm_X8_104 hbi_X3_set hbe_X3_X3_set (Nat.le_of_ble_eq_true rfl) ⟨by decide, by decide⟩ (by decide) (by decide) ?_
              refine aw_iconst dX8_order_98 ?_
              exact aw_zret dX8_order_99 rfl (by first | omega | exact hb_b01 _) (by rfl) rfl rfl (by decide) (by decide)
            · skip
              refine aw_ald0 dX8_order_67 ?_
              refine aw_getf dX8_order_68 hbf_X8_28 rfl rfl ?_
              refine aw_ild5 dX8_order_71 ?_
              refine aw_V1v dX8_order_73 (c_tasksHas (by first | assumption | omega | (constructor <;> omega) | exact hG _ _) hG) rfl rfl hbY_X5_has hbm_X8_93 hbi_X5_has hbe_X5_X5_has (Nat.le_of_ble_eq_true rfl) ⟨by decide, by decide⟩ (by decide) (by decide) ?_
              refine aw_ifb_ne (tg := 81) dX8_order_76 (by decide) (fun c76 => ?_) (fun c76 => ?_)
              · skip
                refine aw_ald0 dX8_order_81 ?_
                refine aw_getf dX8_order_82 hbf_X8_35 rfl rfl ?_
                refine aw_ild1 dX8_order_85 ?_
                refine aw_ild2 dX8_order_86 ?_
                refine aw_ild6 dX8_order_87 ?_
                refine aw_ild7 dX8_order_89 ?_
                refine aw_ild4 dX8_order_91 ?_
                refine aw_ild5 dX8_order_93 ?_
                refine aw_V6n dX8_order_95 (c_ordersSet (by first | assumption | omega | (constructor <;> omega) | exact hG _ _)) rfl rfl hbY_X3_set hbm_X8_104 hbi_X3_set hbe_X3_X3_set (Nat.le_of_ble_eq_true rfl) ⟨by decide, by decide⟩ (by decide) (by decide) ?_
                refine aw_iconst dX8_order_98 ?_
                exact aw_zret dX8_order_99 rfl (by first | omega | exact hb_b01 _) (by rfl) rfl rfl (by decide) (by decide)
              · skip
                exact absurd hP (by omega)
      · skip
        exact absurd hP (by omega)
set_option maxRecDepth 20000 in
set_option maxHeartbeats 1000000 in
theorem c_orderN {l : Launch} {G : hb_G} {F : hb_F} {na : Nat} {q k s t r : Int} (iq : hb_in q) (ik : hb_in k) (is : hb_in s) (it : hb_in t) (ir : hb_in r) (hP : ¬ ((0 ≤ q ∧ q < 8) ∧ (0 ≤ k ∧ k < 12) ∧ (0 ≤ s ∧ s < 1600) ∧ s / 40 ≤ s % 40 ∧ (0 ≤ t ∧ t < 16 ∧ G 13 t ≠ -1) ∧ (r = -1 ∨ (0 ≤ r ∧ r < 16 ∧ G 13 r ≠ -1)))) (hG : hb_rg G) : hb_M l yX8_order cX8_order 8 (some .boolean) 2 0 0 [hb_r 0, hb_i q, hb_i k, hb_i s, hb_i t, hb_i r] (hb_w G F na) (77 + na) (.inl (some (hb_i (0)))) (hb_w G F na) (77 + na) := by
  refine hb_M_in rfl rfl (by decide) rfl (Nat.le_of_ble_eq_true rfl) ?_
  intro E z0 σ0
  refine aw_ild1 dX8_order_0 ?_
  refine aw_bipush dX8_order_1 (by decide) ?_
  refine aw_S2v dX8_order_3 (c_isBelow (by first | assumption | omega | (constructor <;> omega) | exact hG _ _) (by first | assumption | omega | (constructor <;> omega) | exact hG _ _)) hbY_X8_isBelow hbm_X8_64 hbs_X8_isBelow (Nat.le_of_ble_eq_true rfl) ⟨by decide, by decide⟩ (by decide) (by decide) ?_
  refine aw_ifb_eq (tg := 28) dX8_order_6 (by decide) (fun c6 => ?_) (fun c6 => ?_)
  · skip
    refine aw_iconst dX8_order_28 ?_
    exact aw_zret dX8_order_29 rfl (by first | omega | exact hb_b01 _) (by rfl) rfl rfl (by decide) (by decide)
  · skip
    refine aw_ild2 dX8_order_9 ?_
    refine aw_bipush dX8_order_10 (by decide) ?_
    refine aw_S2v dX8_order_12 (c_isBelow (by first | assumption | omega | (constructor <;> omega) | exact hG _ _) (by first | assumption | omega | (constructor <;> omega) | exact hG _ _)) hbY_X8_isBelow hbm_X8_64 hbs_X8_isBelow (Nat.le_of_ble_eq_true rfl) ⟨by decide, by decide⟩ (by decide) (by decide) ?_
    refine aw_ifb_eq (tg := 28) dX8_order_15 (by decide) (fun c15 => ?_) (fun c15 => ?_)
    · skip
      refine aw_iconst dX8_order_28 ?_
      exact aw_zret dX8_order_29 rfl (by first | omega | exact hb_b01 _) (by rfl) rfl rfl (by decide) (by decide)
    · skip
      refine aw_ild3 dX8_order_18 ?_
      refine aw_sipush dX8_order_19 (by decide) ?_
      refine aw_S2v dX8_order_22 (c_isBelow (by first | assumption | omega | (constructor <;> omega) | exact hG _ _) (by first | assumption | omega | (constructor <;> omega) | exact hG _ _)) hbY_X8_isBelow hbm_X8_64 hbs_X8_isBelow (Nat.le_of_ble_eq_true rfl) ⟨by decide, by decide⟩ (by decide) (by decide) ?_
      refine aw_ifb_ne (tg := 30) dX8_order_25 (by decide) (fun c25 => ?_) (fun c25 => ?_)
      · skip
        refine aw_ild3 dX8_order_30 ?_
        refine aw_bipush dX8_order_31 (by decide) ?_
        refine aw_idiv dX8_order_33 (by first | exact hG _ _ | assumption | (constructor <;> omega)) (by first | exact hG _ _ | assumption | (constructor <;> omega)) (by omega) (by omega) ?_
        refine aw_ipu6 dX8_order_34 (by decide) ?_
        refine aw_ild3 dX8_order_36 ?_
        refine aw_bipush dX8_order_37 (by decide) ?_
        refine aw_irem dX8_order_39 (by first | exact hG _ _ | assumption | (constructor <;> omega)) (by first | exact hG _ _ | assumption | (constructor <;> omega)) (by omega) (by omega) ?_
        refine aw_ipu7 dX8_order_40 (by decide) ?_
        refine aw_ild6 dX8_order_42 ?_
        refine aw_ild7 dX8_order_44 ?_
        refine aw_icmp_gt (tg := 79) dX8_order_46 (by decide) (by first | exact hG _ _ | assumption | (constructor <;> omega)) (by first | exact hG _ _ | assumption | (constructor <;> omega)) (fun c46 => ?_) (fun c46 => ?_)
        · skip
          refine aw_iconst dX8_order_79 ?_
          exact aw_zret dX8_order_80 rfl (by first | omega | exact hb_b01 _) (by rfl) rfl rfl (by decide) (by decide)
        · skip
          refine aw_ald0 dX8_order_49 ?_
          refine aw_getf dX8_order_50 hbf_X8_28 rfl rfl ?_
          refine aw_ild4 dX8_order_53 ?_
          refine aw_V1v dX8_order_55 (c_tasksHas (by first | assumption | omega | (constructor <;> omega) | exact hG _ _) hG) rfl rfl hbY_X5_has hbm_X8_93 hbi_X5_has hbe_X5_X5_has (Nat.le_of_ble_eq_true rfl) ⟨by decide, by decide⟩ (by decide) (by decide) ?_
          refine aw_ifb_eq (tg := 79) dX8_order_58 (by decide) (fun c58 => ?_) (fun c58 => ?_)
          · skip
            refine aw_iconst dX8_order_79 ?_
            exact aw_zret dX8_order_80 rfl (by first | omega | exact hb_b01 _) (by rfl) rfl rfl (by decide) (by decide)
          · skip
            refine aw_ild5 dX8_order_61 ?_
            refine aw_iconst dX8_order_63 ?_
            refine aw_icmp_eq (tg := 81) dX8_order_64 (by decide) (by first | exact hG _ _ | assumption | (constructor <;> omega)) (by first | exact hG _ _ | assumption | (constructor <;> omega)) (fun c64 => ?_) (fun c64 => ?_)
            · skip
              exact absurd (by omega) hP
            · skip
              refine aw_ald0 dX8_order_67 ?_
              refine aw_getf dX8_order_68 hbf_X8_28 rfl rfl ?_
              refine aw_ild5 dX8_order_71 ?_
              refine aw_V1v dX8_order_73 (c_tasksHas (by first | assumption | omega | (constructor <;> omega) | exact hG _ _) hG) rfl rfl hbY_X5_has hbm_X8_93 hbi_X5_has hbe_X5_X5_has (Nat.le_of_ble_eq_true rfl) ⟨by decide, by decide⟩ (by decide) (by decide) ?_
              refine aw_ifb_ne (tg := 81) dX8_order_76 (by decide) (fun c76 => ?_) (fun c76 => ?_)
              · skip
                exact absurd (by omega) hP
              · skip
                refine aw_iconst dX8_order_79 ?_
                exact aw_zret dX8_order_80 rfl (by first | omega | exact hb_b01 _) (by rfl) rfl rfl (by decide) (by decide)
      · skip
        refine aw_iconst dX8_order_28 ?_
        exact aw_zret dX8_order_29 rfl (by first | omega | exact hb_b01 _) (by rfl) rfl rfl (by decide) (by decide)
set_option maxRecDepth 20000 in
set_option maxHeartbeats 1000000 in
theorem c_count0 {l : Launch} {G : hb_G} {F : hb_F} {na : Nat}  : hb_M l yX8_count cX8_count 2 (some .int) 0 0 0 [hb_r 0, hb_i 0] (hb_w G F na) (77 + na) (.inl (some (hb_i (G 25 3)))) (hb_w G F na) (77 + na) := by
  refine hb_M_in rfl rfl (by decide) rfl (Nat.le_of_ble_eq_true rfl) ?_
  intro E z0 σ0
  refine aw_ild1 dX8_count_0 ?_
  refine aw_tableIn (off := 27) (tg := 28) dX8_count_1 (by decide) (by decide) (by decide) rfl (by decide) ?_
  refine aw_ald0 dX8_count_28 ?_
  refine aw_getf dX8_count_29 hbf_X8_44 rfl rfl ?_
  refine aw_getf dX8_count_32 hbf_X8_158 rfl rfl ?_
  exact aw_iret dX8_count_35 rfl (by rfl) rfl rfl (by decide) (by decide)
set_option maxRecDepth 20000 in
set_option maxHeartbeats 1000000 in
theorem c_count1 {l : Launch} {G : hb_G} {F : hb_F} {na : Nat}  : hb_M l yX8_count cX8_count 2 (some .int) 0 0 0 [hb_r 0, hb_i 1] (hb_w G F na) (77 + na) (.inl (some (hb_i (G 25 4)))) (hb_w G F na) (77 + na) := by
  refine hb_M_in rfl rfl (by decide) rfl (Nat.le_of_ble_eq_true rfl) ?_
  intro E z0 σ0
  refine aw_ild1 dX8_count_0 ?_
  refine aw_tableIn (off := 35) (tg := 36) dX8_count_1 (by decide) (by decide) (by decide) rfl (by decide) ?_
  refine aw_ald0 dX8_count_36 ?_
  refine aw_getf dX8_count_37 hbf_X8_44 rfl rfl ?_
  refine aw_getf dX8_count_40 hbf_X8_161 rfl rfl ?_
  exact aw_iret dX8_count_43 rfl (by rfl) rfl rfl (by decide) (by decide)
set_option maxRecDepth 20000 in
set_option maxHeartbeats 1000000 in
theorem c_count2 {l : Launch} {G : hb_G} {F : hb_F} {na : Nat}  : hb_M l yX8_count cX8_count 2 (some .int) 0 0 0 [hb_r 0, hb_i 2] (hb_w G F na) (77 + na) (.inl (some (hb_i (G 6 4)))) (hb_w G F na) (77 + na) := by
  refine hb_M_in rfl rfl (by decide) rfl (Nat.le_of_ble_eq_true rfl) ?_
  intro E z0 σ0
  refine aw_ild1 dX8_count_0 ?_
  refine aw_tableIn (off := 43) (tg := 44) dX8_count_1 (by decide) (by decide) (by decide) rfl (by decide) ?_
  refine aw_ald0 dX8_count_44 ?_
  refine aw_getf dX8_count_45 hbf_X8_21 rfl rfl ?_
  refine aw_getf dX8_count_48 hbf_X8_68 rfl rfl ?_
  exact aw_iret dX8_count_51 rfl (by rfl) rfl rfl (by decide) (by decide)
set_option maxRecDepth 20000 in
set_option maxHeartbeats 1000000 in
theorem c_countN {l : Launch} {G : hb_G} {F : hb_F} {na : Nat} {w : Int} (iw : hb_in w) (hP : w < 0 ∨ 2 < w) : hb_M l yX8_count cX8_count 2 (some .int) 0 0 0 [hb_r 0, hb_i w] (hb_w G F na) (77 + na) (.inl (some (hb_i (-1)))) (hb_w G F na) (77 + na) := by
  refine hb_M_in rfl rfl (by decide) rfl (Nat.le_of_ble_eq_true rfl) ?_
  intro E z0 σ0
  refine aw_ild1 dX8_count_0 ?_
  refine aw_tableOut (tg := 52) dX8_count_1 iw (by omega) (by decide) ?_
  refine aw_iconst dX8_count_52 ?_
  exact aw_iret dX8_count_53 rfl (by rfl) rfl rfl (by decide) (by decide)
def hb_hs (G : hb_G) (t : Int) : Prop := 0 ≤ t ∧ t < 40 ∧ G 7 t ≠ -1
def hb_im (G : hb_G) (t : Int) : Prop := hb_hs G t ∧ ¬ ∃ i, 0 ≤ i ∧ i < 48 ∧ G 2 i = G 7 t
def hb_it (G : hb_G) (m t : Int) : Prop := hb_hs G t ∧ hb_tp (G 34) 4 t = m
set_option maxRecDepth 20000 in
set_option maxHeartbeats 1000000 in
theorem c_isInTreeOf {l : Launch} {G : hb_G} {F : hb_F} {na : Nat} {m t : Int} (im : hb_in m) (it : hb_in t) (hp : hb_tr (G 34)) (hG : hb_rg G) : hb_M l yX8_isInTreeOf cX8_isInTreeOf 3 (some .boolean) 2 0 0 [hb_r 0, hb_i m, hb_i t] (hb_w G F na) (77 + na) (.inl (some (hb_i (hb_b (hb_it G m t))))) (hb_w G F na) (77 + na) := by
  refine hb_M_in rfl rfl (by decide) rfl (Nat.le_of_ble_eq_true rfl) ?_
  intro E z0 σ0
  refine aw_ald0 dX8_isInTreeOf_0 ?_
  refine aw_getf dX8_isInTreeOf_1 hbf_X8_21 rfl rfl ?_
  refine aw_ild2 dX8_isInTreeOf_4 ?_
  refine aw_V1v dX8_isInTreeOf_5 (c_thingsHas (by first | assumption | omega | (constructor <;> omega) | exact hG _ _) hG) rfl rfl hbY_X6_has hbm_X8_75 hbi_X6_has hbe_X6_X6_has (Nat.le_of_ble_eq_true rfl) ⟨by decide, by decide⟩ (by decide) (by decide) ?_
  refine aw_ifb_eq (tg := 30) dX8_isInTreeOf_8 (by decide) (fun c8 => ?_) (fun c8 => ?_)
  · skip
    refine aw_iconst dX8_isInTreeOf_30 ?_
    exact aw_zret dX8_isInTreeOf_31 rfl (by first | omega | exact hb_b01 _) (by first | exact hb_oi1 ⟨by assumption, by assumption⟩ | exact hb_oi0 (fun h9 => absurd h9.1 (by assumption)) | exact hb_oi0 (fun h9 => absurd h9.2 (by assumption))) rfl rfl (by decide) (by decide)
  · skip
    refine aw_ald0 dX8_isInTreeOf_11 ?_
    refine aw_getf dX8_isInTreeOf_12 hbf_X8_56 rfl rfl ?_
    refine aw_getf dX8_isInTreeOf_15 hbf_X8_168 rfl rfl ?_
    refine aw_ild2 dX8_isInTreeOf_18 ?_
    refine aw_V1v dX8_isInTreeOf_19 (c_topOf33 (by first | assumption | omega | (constructor <;> omega) | exact hG _ _) hp hG) rfl rfl hbY_X7_topOf hbm_X8_241 hbi_X7_topOf hbe_X7_X7_topOf (Nat.le_of_ble_eq_true rfl) ⟨by decide, by decide⟩ (by decide) (by decide) ?_
    refine aw_ild1 dX8_isInTreeOf_22 ?_
    refine aw_icmp_ne (tg := 30) dX8_isInTreeOf_23 (by decide) (by first | exact im | (have h8 := hb_tp_in hp 4 t (by omega); constructor <;> omega)) (by first | exact im | (have h8 := hb_tp_in hp 4 t (by omega); constructor <;> omega)) (fun c23 => ?_) (fun c23 => ?_)
    · skip
      refine aw_iconst dX8_isInTreeOf_30 ?_
      exact aw_zret dX8_isInTreeOf_31 rfl (by first | omega | exact hb_b01 _) (by first | exact hb_oi1 ⟨by assumption, by assumption⟩ | exact hb_oi0 (fun h9 => absurd h9.1 (by assumption)) | exact hb_oi0 (fun h9 => absurd h9.2 (by assumption))) rfl rfl (by decide) (by decide)
    · skip
      refine aw_iconst dX8_isInTreeOf_26 ?_
      refine aw_goto (tg := 31) dX8_isInTreeOf_27 (by decide) ?_
      exact aw_zret dX8_isInTreeOf_31 rfl (by first | omega | exact hb_b01 _) (by first | exact hb_oi1 ⟨by assumption, by assumption⟩ | exact hb_oi0 (fun h9 => absurd h9.1 (by assumption)) | exact hb_oi0 (fun h9 => absurd h9.2 (by assumption))) rfl rfl (by decide) (by decide)
set_option maxRecDepth 20000 in
set_option maxHeartbeats 1000000 in
theorem c_machineOfY {l : Launch} {G : hb_G} {F : hb_F} {na : Nat} {t : Int} (ht : 0 ≤ t ∧ t < 40) (hm : hb_im G (hb_tp (G 34) 4 t)) (hp : hb_tr (G 34)) (hG : hb_rg G) : hb_M l yX8_machineOf cX8_machineOf 3 (some .int) 3 0 0 [hb_r 0, hb_i t] (hb_w G F na) (77 + na) (.inl (some (hb_i (hb_tp (G 34) 4 t)))) (hb_w G F na) (77 + na) := by
  refine hb_M_in rfl rfl (by decide) rfl (Nat.le_of_ble_eq_true rfl) ?_
  intro E z0 σ0
  refine aw_ald0 dX8_machineOf_0 ?_
  refine aw_getf dX8_machineOf_1 hbf_X8_56 rfl rfl ?_
  refine aw_getf dX8_machineOf_4 hbf_X8_168 rfl rfl ?_
  refine aw_ild1 dX8_machineOf_7 ?_
  refine aw_V1v dX8_machineOf_8 (c_topOf33 (by first | assumption | omega | (constructor <;> omega) | exact hG _ _) hp hG) rfl rfl hbY_X7_topOf hbm_X8_241 hbi_X7_topOf hbe_X7_X7_topOf (Nat.le_of_ble_eq_true rfl) ⟨by decide, by decide⟩ (by decide) (by decide) ?_
  refine aw_ipu2 dX8_machineOf_11 (by decide) ?_
  refine aw_ald0 dX8_machineOf_12 ?_
  refine aw_getf dX8_machineOf_13 hbf_X8_21 rfl rfl ?_
  refine aw_ild2 dX8_machineOf_16 ?_
  refine aw_V1v dX8_machineOf_17 (c_isMachine (by have h8 := hb_tp_in hp 4 t ht; constructor <;> omega) hG) rfl rfl hbY_X6_isMachine hbm_X8_109 hbi_X6_isMachine hbe_X6_X6_isMachine (Nat.le_of_ble_eq_true rfl) ⟨by decide, by decide⟩ (by decide) (by decide) ?_
  refine aw_ifb_eq (tg := 27) dX8_machineOf_20 (by decide) (fun c20 => absurd c20 (by exact fun h8 => h8 hm)) (fun c20 => ?_)
  refine aw_ild2 dX8_machineOf_23 ?_
  refine aw_goto (tg := 28) dX8_machineOf_24 (by decide) ?_
  exact aw_iret dX8_machineOf_28 rfl (by rfl) rfl rfl (by decide) (by decide)
set_option maxRecDepth 20000 in
set_option maxHeartbeats 1000000 in
theorem c_machineOfN {l : Launch} {G : hb_G} {F : hb_F} {na : Nat} {t : Int} (ht : 0 ≤ t ∧ t < 40) (hm : ¬ hb_im G (hb_tp (G 34) 4 t)) (hp : hb_tr (G 34)) (hG : hb_rg G) : hb_M l yX8_machineOf cX8_machineOf 3 (some .int) 3 0 0 [hb_r 0, hb_i t] (hb_w G F na) (77 + na) (.inl (some (hb_i (-1)))) (hb_w G F na) (77 + na) := by
  refine hb_M_in rfl rfl (by decide) rfl (Nat.le_of_ble_eq_true rfl) ?_
  intro E z0 σ0
  refine aw_ald0 dX8_machineOf_0 ?_
  refine aw_getf dX8_machineOf_1 hbf_X8_56 rfl rfl ?_
  refine aw_getf dX8_machineOf_4 hbf_X8_168 rfl rfl ?_
  refine aw_ild1 dX8_machineOf_7 ?_
  refine aw_V1v dX8_machineOf_8 (c_topOf33 (by first | assumption | omega | (constructor <;> omega) | exact hG _ _) hp hG) rfl rfl hbY_X7_topOf hbm_X8_241 hbi_X7_topOf hbe_X7_X7_topOf (Nat.le_of_ble_eq_true rfl) ⟨by decide, by decide⟩ (by decide) (by decide) ?_
  refine aw_ipu2 dX8_machineOf_11 (by decide) ?_
  refine aw_ald0 dX8_machineOf_12 ?_
  refine aw_getf dX8_machineOf_13 hbf_X8_21 rfl rfl ?_
  refine aw_ild2 dX8_machineOf_16 ?_
  refine aw_V1v dX8_machineOf_17 (c_isMachine (by have h8 := hb_tp_in hp 4 t ht; constructor <;> omega) hG) rfl rfl hbY_X6_isMachine hbm_X8_109 hbi_X6_isMachine hbe_X6_X6_isMachine (Nat.le_of_ble_eq_true rfl) ⟨by decide, by decide⟩ (by decide) (by decide) ?_
  refine aw_ifb_eq (tg := 27) dX8_machineOf_20 (by decide) (fun c20 => ?_) (fun c20 => absurd c20 (by exact fun h8 => hm h8))
  refine aw_iconst dX8_machineOf_27 ?_
  exact aw_iret dX8_machineOf_28 rfl (by rfl) rfl rfl (by decide) (by decide)
def hb_ep (G : hb_G) (t n : Int) : Prop := ∃ p9, (0 ≤ p9 ∧ p9 < n) ∧ (G 2 (G 7 t * 4 + p9) ≠ -1 ∧ G 36 (t * 4 + p9) = -1)
set_option maxRecDepth 20000 in
set_option maxHeartbeats 1000000 in
theorem c_hasEmptyPlace {l : Launch} {G : hb_G} {F : hb_F} {na : Nat} {t : Int} (ht : 0 ≤ t ∧ t < 40) (hk : 0 ≤ G 7 t ∧ G 7 t < 12) (hG : hb_rg G) : hb_M l yX8_hasEmptyPlace cX8_hasEmptyPlace 4 (some .boolean) 0 0 0 [hb_r 0, hb_i t] (hb_w G F na) (77 + na) (.inl (some (hb_i (hb_b (hb_ep G t 4))))) (hb_w G F na) (77 + na) := by
  refine hb_M_in rfl rfl (by decide) rfl (Nat.le_of_ble_eq_true rfl) ?_
  intro E z0 σ0
  have key : ∀ (n : Nat) (j : Int), 0 ≤ j → j ≤ 4 → 4 - j < n → ¬ hb_ep G t j → hb_W l RX8 cX8_hasEmptyPlace 4 (some .boolean) "hasEmptyPlace" [] E z0 (hb_rm 0 0 0) σ0 (77 + na) (.inl (some (hb_i (hb_b (hb_ep G t 4))))) (hb_w G F na) (77 + na) 0 0 12 [hb_r 0, hb_i t, hb_i (G 7 t), hb_i j] [] (hb_w G F na) (77 + na) := by
    intro n
    induction n with
    | zero => intro j h1 h2 h3; omega
    | succ n ih =>
      intro j h1 h2 h3 hno
      refine aw_ild3 dX8_hasEmptyPlace_12 ?_
      refine aw_iconst dX8_hasEmptyPlace_13 ?_
      refine aw_icmp_ge (tg := 62) dX8_hasEmptyPlace_14 (by decide) (by first | exact hG _ _ | assumption | (constructor <;> omega)) (by first | exact hG _ _ | assumption | (constructor <;> omega)) (fun c14 => ?_) (fun c14 => ?_)
      · skip
        refine aw_iconst dX8_hasEmptyPlace_62 ?_
        exact aw_zret dX8_hasEmptyPlace_63 rfl (by first | omega | exact hb_b01 _) (by first | exact hb_oi1 ⟨j, by omega, by assumption, by assumption⟩ | exact hb_oi0 (by have e9 : j = 4 := (by omega); subst e9; exact hno)) rfl rfl (by decide) (by decide)
      · skip
        refine aw_ald0 dX8_hasEmptyPlace_17 ?_
        refine aw_getf dX8_hasEmptyPlace_18 hbf_X8_12 rfl rfl ?_
        refine aw_getf dX8_hasEmptyPlace_21 hbf_X8_72 rfl rfl ?_
        refine aw_ild2 dX8_hasEmptyPlace_24 ?_
        refine aw_iconst dX8_hasEmptyPlace_25 ?_
        refine aw_imul dX8_hasEmptyPlace_26 ?_
        refine aw_ild3 dX8_hasEmptyPlace_27 ?_
        refine aw_iadd dX8_hasEmptyPlace_28 ?_
        refine aw_iald dX8_hasEmptyPlace_29 rfl (by constructor <;> omega) (by decide) ?_
        refine aw_iconst dX8_hasEmptyPlace_30 ?_
        refine aw_icmp_eq (tg := 56) dX8_hasEmptyPlace_31 (by decide) (by first | exact hG _ _ | assumption | (constructor <;> omega)) (by first | exact hG _ _ | assumption | (constructor <;> omega)) (fun c31 => ?_) (fun c31 => ?_)
        · skip
          refine aw_iinc3 dX8_hasEmptyPlace_56 (by decide) ?_
          refine aw_goto (tg := 12) dX8_hasEmptyPlace_59 (by decide) ?_
          exact ih (j + 1) (by omega) (by omega) (by omega) (by unfold hb_ep at hno ⊢; rw [hb_exs h1]; grind)
        · skip
          refine aw_ald0 dX8_hasEmptyPlace_34 ?_
          refine aw_getf dX8_hasEmptyPlace_35 hbf_X8_56 rfl rfl ?_
          refine aw_getf dX8_hasEmptyPlace_38 hbf_X8_168 rfl rfl ?_
          refine aw_getf dX8_hasEmptyPlace_41 hbf_X8_184 rfl rfl ?_
          refine aw_ild1 dX8_hasEmptyPlace_44 ?_
          refine aw_iconst dX8_hasEmptyPlace_45 ?_
          refine aw_imul dX8_hasEmptyPlace_46 ?_
          refine aw_ild3 dX8_hasEmptyPlace_47 ?_
          refine aw_iadd dX8_hasEmptyPlace_48 ?_
          refine aw_iald dX8_hasEmptyPlace_49 rfl (by constructor <;> omega) (by decide) ?_
          refine aw_iconst dX8_hasEmptyPlace_50 ?_
          refine aw_icmp_ne (tg := 56) dX8_hasEmptyPlace_51 (by decide) (by first | exact hG _ _ | assumption | (constructor <;> omega)) (by first | exact hG _ _ | assumption | (constructor <;> omega)) (fun c51 => ?_) (fun c51 => ?_)
          · skip
            refine aw_iinc3 dX8_hasEmptyPlace_56 (by decide) ?_
            refine aw_goto (tg := 12) dX8_hasEmptyPlace_59 (by decide) ?_
            exact ih (j + 1) (by omega) (by omega) (by omega) (by unfold hb_ep at hno ⊢; rw [hb_exs h1]; grind)
          · skip
            refine aw_iconst dX8_hasEmptyPlace_54 ?_
            exact aw_zret dX8_hasEmptyPlace_55 rfl (by first | omega | exact hb_b01 _) (by first | exact hb_oi1 ⟨j, by omega, by assumption, by assumption⟩ | exact hb_oi0 (by have e9 : j = 4 := (by omega); subst e9; exact hno)) rfl rfl (by decide) (by decide)
  refine aw_ald0 dX8_hasEmptyPlace_0 ?_
  refine aw_getf dX8_hasEmptyPlace_1 hbf_X8_21 rfl rfl ?_
  refine aw_getf dX8_hasEmptyPlace_4 hbf_X8_234 rfl rfl ?_
  refine aw_ild1 dX8_hasEmptyPlace_7 ?_
  refine aw_iald dX8_hasEmptyPlace_8 rfl (by constructor <;> omega) (by decide) ?_
  refine aw_ipu2 dX8_hasEmptyPlace_9 (by decide) ?_
  refine aw_iconst dX8_hasEmptyPlace_10 ?_
  refine aw_ipu3 dX8_hasEmptyPlace_11 (by decide) ?_
  exact key 5 0 (by omega) (by omega) (by omega) (fun ⟨p9, h8, _⟩ => by omega)
set_option maxRecDepth 20000 in
set_option maxHeartbeats 1000000 in
theorem c_isPastItsLife {l : Launch} {G : hb_G} {F : hb_F} {na : Nat} {t d : Int} (ht : 0 ≤ t ∧ t < 40) (hk : 0 ≤ G 7 t ∧ G 7 t < 12) (hG : hb_rg G) : hb_M l yX8_isPastItsLife cX8_isPastItsLife 6 (some .boolean) 1 0 0 [hb_r 0, hb_i t, hb_i d] (hb_w G F na) (77 + na) (.inl (some (hb_i (hb_b ((0 < G 4 (G 7 t) ∧ G 4 (G 7 t) < G 38 t) ∨ (0 < G 5 (G 7 t) ∧ G 5 (G 7 t) < G 39 t)))))) (hb_w G F na) (77 + na) := by
  refine hb_M_in rfl rfl (by decide) rfl (Nat.le_of_ble_eq_true rfl) ?_
  intro E z0 σ0
  have k2 : ∀ (h1 : ¬ (0 < G 4 (G 7 t) ∧ G 4 (G 7 t) < G 38 t)) (h2 : ¬ (0 < G 5 (G 7 t) ∧ G 5 (G 7 t) < G 39 t)), hb_W l RX8 cX8_isPastItsLife 6 (some .boolean) "isPastItsLife" [] E z0 (hb_rm 1 0 0) σ0 (77 + na) (.inl (some (hb_i (hb_b ((0 < G 4 (G 7 t) ∧ G 4 (G 7 t) < G 38 t) ∨ (0 < G 5 (G 7 t) ∧ G 5 (G 7 t) < G 39 t)))))) (hb_w G F na) (77 + na) 0 0 13 [hb_r 0, hb_i t, hb_i d, hb_i (G 7 t), hb_i 2] [] (hb_w G F na) (77 + na) := by
    intro h1 h2
    refine aw_ild4 dX8_isPastItsLife_13 ?_
    refine aw_iconst dX8_isPastItsLife_15 ?_
    refine aw_icmp_ge (tg := 62) dX8_isPastItsLife_16 (by decide) (by decide) (by decide) (fun c16 => ?_) (fun c16 => absurd c16 (by decide))
    refine aw_iconst dX8_isPastItsLife_62 ?_
    exact aw_zret dX8_isPastItsLife_63 rfl (by first | omega | exact hb_b01 _) (by first | exact hb_oi1 (by omega) | exact hb_oi0 (by omega)) rfl rfl (by decide) (by decide)
  have k1 : ∀ (h1 : ¬ (0 < G 4 (G 7 t) ∧ G 4 (G 7 t) < G 38 t)), hb_W l RX8 cX8_isPastItsLife 6 (some .boolean) "isPastItsLife" [] E z0 (hb_rm 1 0 0) σ0 (77 + na) (.inl (some (hb_i (hb_b ((0 < G 4 (G 7 t) ∧ G 4 (G 7 t) < G 38 t) ∨ (0 < G 5 (G 7 t) ∧ G 5 (G 7 t) < G 39 t)))))) (hb_w G F na) (77 + na) 0 0 13 [hb_r 0, hb_i t, hb_i d, hb_i (G 7 t), hb_i 1] [] (hb_w G F na) (77 + na) := by
    intro h1
    refine aw_ild4 dX8_isPastItsLife_13 ?_
    refine aw_iconst dX8_isPastItsLife_15 ?_
    refine aw_icmp_ge (tg := 62) dX8_isPastItsLife_16 (by decide) (by decide) (by decide) (fun c16 => absurd c16 (by decide)) (fun c16 => ?_)
    refine aw_ald0 dX8_isPastItsLife_19 ?_
    refine aw_getf dX8_isPastItsLife_20 hbf_X8_12 rfl rfl ?_
    refine aw_getf dX8_isPastItsLife_23 hbf_X8_105 rfl rfl ?_
    refine aw_ild4 dX8_isPastItsLife_26 ?_
    refine aw_gald (r := some 5) dX8_isPastItsLife_28 rfl (by decide) (by decide) rfl ?_
    refine aw_ild3 dX8_isPastItsLife_29 ?_
    refine aw_iald dX8_isPastItsLife_30 rfl (by constructor <;> omega) (by decide) ?_
    refine aw_ipu5 dX8_isPastItsLife_31 (by decide) ?_
    refine aw_ild5 dX8_isPastItsLife_33 ?_
    refine aw_if_le (tg := 56) dX8_isPastItsLife_35 (by decide) (by first | exact hG _ _ | (constructor <;> omega)) (fun c35 => ?_) (fun c35 => ?_)
    · skip
      refine aw_iinc4 dX8_isPastItsLife_56 (by decide) ?_
      refine aw_goto (tg := 13) dX8_isPastItsLife_59 (by decide) ?_
      refine aw_dk_5_1 ?_
      exact k2 h1 (by omega)
    · skip
      refine aw_ald0 dX8_isPastItsLife_38 ?_
      refine aw_getf dX8_isPastItsLife_39 hbf_X8_56 rfl rfl ?_
      refine aw_ild1 dX8_isPastItsLife_42 ?_
      refine aw_ild4 dX8_isPastItsLife_43 ?_
      refine aw_ild2 dX8_isPastItsLife_45 ?_
      refine aw_V3v dX8_isPastItsLife_46 (c_counterOf1 ht) rfl rfl hbY_X4_counterOf hbm_X8_190 hbi_X4_counterOf hbe_X4_X4_counterOf (Nat.le_of_ble_eq_true rfl) ⟨by decide, by decide⟩ (by decide) (by decide) ?_
      refine aw_top (c9 := G 39 t) rfl ?_
      refine aw_ild5 dX8_isPastItsLife_49 ?_
      refine aw_icmp_le (tg := 56) dX8_isPastItsLife_51 (by decide) (by first | exact hG _ _ | (constructor <;> omega)) (by first | exact hG _ _ | (constructor <;> omega)) (fun c51 => ?_) (fun c51 => ?_)
      · skip
        refine aw_iinc4 dX8_isPastItsLife_56 (by decide) ?_
        refine aw_goto (tg := 13) dX8_isPastItsLife_59 (by decide) ?_
        refine aw_dk_5_1 ?_
        exact k2 h1 (by omega)
      · skip
        refine aw_iconst dX8_isPastItsLife_54 ?_
        exact aw_zret dX8_isPastItsLife_55 rfl (by first | omega | exact hb_b01 _) (by first | exact hb_oi1 (by omega) | exact hb_oi0 (by omega)) rfl rfl (by decide) (by decide)
  have k0 : hb_W l RX8 cX8_isPastItsLife 6 (some .boolean) "isPastItsLife" [] E z0 (hb_rm 1 0 0) σ0 (77 + na) (.inl (some (hb_i (hb_b ((0 < G 4 (G 7 t) ∧ G 4 (G 7 t) < G 38 t) ∨ (0 < G 5 (G 7 t) ∧ G 5 (G 7 t) < G 39 t)))))) (hb_w G F na) (77 + na) 0 0 13 [hb_r 0, hb_i t, hb_i d, hb_i (G 7 t), hb_i 0] [] (hb_w G F na) (77 + na) := by
    refine aw_ild4 dX8_isPastItsLife_13 ?_
    refine aw_iconst dX8_isPastItsLife_15 ?_
    refine aw_icmp_ge (tg := 62) dX8_isPastItsLife_16 (by decide) (by decide) (by decide) (fun c16 => absurd c16 (by decide)) (fun c16 => ?_)
    refine aw_ald0 dX8_isPastItsLife_19 ?_
    refine aw_getf dX8_isPastItsLife_20 hbf_X8_12 rfl rfl ?_
    refine aw_getf dX8_isPastItsLife_23 hbf_X8_105 rfl rfl ?_
    refine aw_ild4 dX8_isPastItsLife_26 ?_
    refine aw_gald (r := some 4) dX8_isPastItsLife_28 rfl (by decide) (by decide) rfl ?_
    refine aw_ild3 dX8_isPastItsLife_29 ?_
    refine aw_iald dX8_isPastItsLife_30 rfl (by constructor <;> omega) (by decide) ?_
    refine aw_ipu5 dX8_isPastItsLife_31 (by decide) ?_
    refine aw_ild5 dX8_isPastItsLife_33 ?_
    refine aw_if_le (tg := 56) dX8_isPastItsLife_35 (by decide) (by first | exact hG _ _ | (constructor <;> omega)) (fun c35 => ?_) (fun c35 => ?_)
    · skip
      refine aw_iinc4 dX8_isPastItsLife_56 (by decide) ?_
      refine aw_goto (tg := 13) dX8_isPastItsLife_59 (by decide) ?_
      refine aw_dk_5_1 ?_
      exact k1 (by omega)
    · skip
      refine aw_ald0 dX8_isPastItsLife_38 ?_
      refine aw_getf dX8_isPastItsLife_39 hbf_X8_56 rfl rfl ?_
      refine aw_ild1 dX8_isPastItsLife_42 ?_
      refine aw_ild4 dX8_isPastItsLife_43 ?_
      refine aw_ild2 dX8_isPastItsLife_45 ?_
      refine aw_V3v dX8_isPastItsLife_46 (c_counterOf0 ht) rfl rfl hbY_X4_counterOf hbm_X8_190 hbi_X4_counterOf hbe_X4_X4_counterOf (Nat.le_of_ble_eq_true rfl) ⟨by decide, by decide⟩ (by decide) (by decide) ?_
      refine aw_top (c9 := G 38 t) rfl ?_
      refine aw_ild5 dX8_isPastItsLife_49 ?_
      refine aw_icmp_le (tg := 56) dX8_isPastItsLife_51 (by decide) (by first | exact hG _ _ | (constructor <;> omega)) (by first | exact hG _ _ | (constructor <;> omega)) (fun c51 => ?_) (fun c51 => ?_)
      · skip
        refine aw_iinc4 dX8_isPastItsLife_56 (by decide) ?_
        refine aw_goto (tg := 13) dX8_isPastItsLife_59 (by decide) ?_
        refine aw_dk_5_1 ?_
        exact k1 (by omega)
      · skip
        refine aw_iconst dX8_isPastItsLife_54 ?_
        exact aw_zret dX8_isPastItsLife_55 rfl (by first | omega | exact hb_b01 _) (by first | exact hb_oi1 (by omega) | exact hb_oi0 (by omega)) rfl rfl (by decide) (by decide)
  refine aw_ald0 dX8_isPastItsLife_0 ?_
  refine aw_getf dX8_isPastItsLife_1 hbf_X8_21 rfl rfl ?_
  refine aw_getf dX8_isPastItsLife_4 hbf_X8_234 rfl rfl ?_
  refine aw_ild1 dX8_isPastItsLife_7 ?_
  refine aw_iald dX8_isPastItsLife_8 rfl (by constructor <;> omega) (by decide) ?_
  refine aw_ipu3 dX8_isPastItsLife_9 (by decide) ?_
  refine aw_iconst dX8_isPastItsLife_10 ?_
  refine aw_ipu4 dX8_isPastItsLife_11 (by decide) ?_
  exact k0
def hb_ow (G : hb_G) (t d n : Int) : Prop := ∃ o9, (0 ≤ o9 ∧ o9 < n) ∧ (hb_bd G o9 t ∧ (hb_ak G t (G 23 o9) ∧ hb_fo G t (G 23 o9) d 0 0 = d))
set_option maxRecDepth 20000 in
set_option maxHeartbeats 1000000 in
theorem c_owesAnOrder {l : Launch} {G : hb_G} {F : hb_F} {na : Nat} {t d : Int} (ht : 0 ≤ t ∧ t < 40) (hd : 0 ≤ d ∧ d ≤ 30000) (hot : ∀ j, 0 ≤ j ∧ j < 8 → hb_bd G j t → 0 ≤ G 23 j ∧ G 23 j < 16) (hbn : hb_bn G) (hG : hb_rg G) : hb_M l yX8_owesAnOrder cX8_owesAnOrder 4 (some .boolean) 5 0 0 [hb_r 0, hb_i t, hb_i d] (hb_w G F na) (77 + na) (.inl (some (hb_i (hb_b (hb_ow G t d 8))))) (hb_w G F na) (77 + na) := by
  refine hb_M_in rfl rfl (by decide) rfl (Nat.le_of_ble_eq_true rfl) ?_
  intro E z0 σ0
  have key : ∀ (n : Nat) (j : Int), 0 ≤ j → j ≤ 8 → 8 - j < n → ¬ hb_ow G t d j → hb_W l RX8 cX8_owesAnOrder 4 (some .boolean) "owesAnOrder" [] E z0 (hb_rm 5 0 0) σ0 (77 + na) (.inl (some (hb_i (hb_b (hb_ow G t d 8))))) (hb_w G F na) (77 + na) 0 0 2 [hb_r 0, hb_i t, hb_i d, hb_i j] [] (hb_w G F na) (77 + na) := by
    intro n
    induction n with
    | zero => intro j h1 h2 h3; omega
    | succ n ih =>
      intro j h1 h2 h3 hno
      refine aw_ild3 dX8_owesAnOrder_2 ?_
      refine aw_bipush dX8_owesAnOrder_3 (by decide) ?_
      refine aw_icmp_ge (tg := 49) dX8_owesAnOrder_5 (by decide) (by first | exact hG _ _ | assumption | (constructor <;> omega)) (by first | exact hG _ _ | assumption | (constructor <;> omega)) (fun c5 => ?_) (fun c5 => ?_)
      · skip
        refine aw_iconst dX8_owesAnOrder_49 ?_
        exact aw_zret dX8_owesAnOrder_50 rfl (by first | omega | exact hb_b01 _) (by first | exact hb_oi1 ⟨j, by omega, by assumption, by assumption⟩ | exact hb_oi0 (by have e9 : j = 8 := (by omega); subst e9; exact hno)) rfl rfl (by decide) (by decide)
      · skip
        refine aw_ald0 dX8_owesAnOrder_8 ?_
        refine aw_getf dX8_owesAnOrder_9 hbf_X8_56 rfl rfl ?_
        refine aw_ild3 dX8_owesAnOrder_12 ?_
        refine aw_ild1 dX8_owesAnOrder_13 ?_
        refine aw_V2v dX8_owesAnOrder_14 (c_binds (by first | assumption | omega | (constructor <;> omega) | exact hG _ _) (by first | assumption | omega | (constructor <;> omega) | exact hG _ _) hG) rfl rfl hbY_X4_binds hbm_X8_235 hbi_X4_binds hbe_X4_X4_binds (Nat.le_of_ble_eq_true rfl) ⟨by decide, by decide⟩ (by decide) (by decide) ?_
        refine aw_ifb_eq (tg := 43) dX8_owesAnOrder_17 (by decide) (fun c17 => ?_) (fun c17 => ?_)
        · skip
          refine aw_iinc3 dX8_owesAnOrder_43 (by decide) ?_
          refine aw_goto (tg := 2) dX8_owesAnOrder_46 (by decide) ?_
          exact ih (j + 1) (by omega) (by omega) (by omega) (by unfold hb_ow at hno ⊢; rw [hb_exs h1]; grind)
        · skip
          refine aw_ald0 dX8_owesAnOrder_20 ?_
          refine aw_getf dX8_owesAnOrder_21 hbf_X8_56 rfl rfl ?_
          refine aw_ild1 dX8_owesAnOrder_24 ?_
          refine aw_ald0 dX8_owesAnOrder_25 ?_
          refine aw_getf dX8_owesAnOrder_26 hbf_X8_35 rfl rfl ?_
          refine aw_getf dX8_owesAnOrder_29 hbf_X8_238 rfl rfl ?_
          refine aw_ild3 dX8_owesAnOrder_32 ?_
          refine aw_iald dX8_owesAnOrder_33 rfl (by constructor <;> omega) (by decide) ?_
          refine aw_ild2 dX8_owesAnOrder_34 ?_
          refine aw_V3v dX8_owesAnOrder_35 (c_isAskedAndOverdue ht (hot j (by omega) (by assumption)) hd hbn hG) rfl rfl hbY_X4_isAskedAndOverdue hbm_X8_210 hbi_X4_isAskedAndOverdue hbe_X4_X4_isAskedAndOverdue (Nat.le_of_ble_eq_true rfl) ⟨by decide, by decide⟩ (by decide) (by decide) ?_
          refine aw_ifb_eq (tg := 43) dX8_owesAnOrder_38 (by decide) (fun c38 => ?_) (fun c38 => ?_)
          · skip
            refine aw_iinc3 dX8_owesAnOrder_43 (by decide) ?_
            refine aw_goto (tg := 2) dX8_owesAnOrder_46 (by decide) ?_
            exact ih (j + 1) (by omega) (by omega) (by omega) (by unfold hb_ow at hno ⊢; rw [hb_exs h1]; grind)
          · skip
            refine aw_iconst dX8_owesAnOrder_41 ?_
            exact aw_zret dX8_owesAnOrder_42 rfl (by first | omega | exact hb_b01 _) (by first | exact hb_oi1 ⟨j, by omega, by assumption, by assumption⟩ | exact hb_oi0 (by have e9 : j = 8 := (by omega); subst e9; exact hno)) rfl rfl (by decide) (by decide)
  refine aw_iconst dX8_owesAnOrder_0 ?_
  refine aw_ipu3 dX8_owesAnOrder_1 (by decide) ?_
  exact key 9 0 (by omega) (by omega) (by omega) (fun ⟨p9, h8, _⟩ => by omega)
