set_option maxRecDepth 20000 in
set_option maxHeartbeats 1000000 in
theorem c_mPutN {l : Launch} {G : hb_G} {F : hb_F} {na : Nat} {t q r p : Int} (it : hb_in t) (iq : hb_in q) (ir : hb_in r) (ip : hb_in p) (hP : ¬ ((0 ≤ t ∧ t < 40 ∧ G 51 t ≠ -1) ∧ (0 ≤ q ∧ q < 40 ∧ G 51 q ≠ -1) ∧ (0 ≤ r ∧ r ≤ 3) ∧ (0 ≤ p ∧ p ≤ 3000099))) {v9 : Int} {G1 : hb_G} (hT : hb_M l yX9_tryMove cX9_tryMove 9 (some .int) 6 0 0 [hb_r 47, hb_i 0, hb_i 1, hb_i t, hb_i p, hb_i q, hb_i r] (hb_w G F na) (77 + na) (.inl (some (hb_i (v9)))) (hb_w G1 F na) (77 + na)) (hG : hb_rg G) : hb_M l yX9_put cX9_put 5 (some .int) 7 0 0 [hb_r 47, hb_i t, hb_i q, hb_i r, hb_i p] (hb_w G F na) (77 + na) (.inl (some (hb_i (v9)))) (hb_w G1 F na) (77 + na) := by
  refine hb_M_in rfl rfl (by decide) rfl (Nat.le_of_ble_eq_true rfl) ?_
  intro E z0 σ0
  refine aw_ald0 dX9_put_0 ?_
  refine aw_ald0 dX9_put_1 ?_
  refine aw_ild1 dX9_put_2 ?_
  refine aw_V1v dX9_put_3 (c_mIsThing (by first | assumption | (constructor <;> omega) | exact hG _ _) hG) rfl rfl hbY_X9_isThing hbm_X9_104 hbi_X9_isThing hbe_X9_X9_isThing (Nat.le_of_ble_eq_true rfl) ⟨by decide, by decide⟩ (by decide) (by decide) ?_
  refine aw_ifb_eq (tg := 38) dX9_put_6 (by decide) (fun c6 => ?_) (fun c6 => ?_)
  · skip
    refine aw_iconst dX9_put_38 ?_
    refine aw_iconst dX9_put_39 ?_
    refine aw_ild1 dX9_put_40 ?_
    refine aw_ild4 dX9_put_41 ?_
    refine aw_ild2 dX9_put_43 ?_
    refine aw_ild3 dX9_put_44 ?_
    refine aw_V6v dX9_put_45 hT rfl rfl hbY_X9_tryMove hbm_X9_185 hbi_X9_tryMove hbe_X9_X9_tryMove (Nat.le_of_ble_eq_true rfl) ⟨by decide, by decide⟩ (by decide) (by decide) ?_
    exact aw_iret dX9_put_48 rfl (by rfl) rfl rfl (by decide) (by decide)
  · skip
    refine aw_ald0 dX9_put_9 ?_
    refine aw_ild2 dX9_put_10 ?_
    refine aw_V1v dX9_put_11 (c_mIsThing (by first | assumption | (constructor <;> omega) | exact hG _ _) hG) rfl rfl hbY_X9_isThing hbm_X9_104 hbi_X9_isThing hbe_X9_X9_isThing (Nat.le_of_ble_eq_true rfl) ⟨by decide, by decide⟩ (by decide) (by decide) ?_
    refine aw_ifb_eq (tg := 38) dX9_put_14 (by decide) (fun c14 => ?_) (fun c14 => ?_)
    · skip
      refine aw_iconst dX9_put_38 ?_
      refine aw_iconst dX9_put_39 ?_
      refine aw_ild1 dX9_put_40 ?_
      refine aw_ild4 dX9_put_41 ?_
      refine aw_ild2 dX9_put_43 ?_
      refine aw_ild3 dX9_put_44 ?_
      refine aw_V6v dX9_put_45 hT rfl rfl hbY_X9_tryMove hbm_X9_185 hbi_X9_tryMove hbe_X9_X9_tryMove (Nat.le_of_ble_eq_true rfl) ⟨by decide, by decide⟩ (by decide) (by decide) ?_
      exact aw_iret dX9_put_48 rfl (by rfl) rfl rfl (by decide) (by decide)
    · skip
      refine aw_ild3 dX9_put_17 ?_
      refine aw_iconst dX9_put_18 ?_
      refine aw_iconst dX9_put_19 ?_
      refine aw_S3v dX9_put_20 (c_within (by first | assumption | (constructor <;> omega) | exact hG _ _) (by first | assumption | (constructor <;> omega) | exact hG _ _) (by first | assumption | (constructor <;> omega) | exact hG _ _)) hbY_X9_within hbm_X9_99 hbs_X9_within (Nat.le_of_ble_eq_true rfl) ⟨by decide, by decide⟩ (by decide) (by decide) ?_
      refine aw_ifb_eq (tg := 38) dX9_put_23 (by decide) (fun c23 => ?_) (fun c23 => ?_)
      · skip
        refine aw_iconst dX9_put_38 ?_
        refine aw_iconst dX9_put_39 ?_
        refine aw_ild1 dX9_put_40 ?_
        refine aw_ild4 dX9_put_41 ?_
        refine aw_ild2 dX9_put_43 ?_
        refine aw_ild3 dX9_put_44 ?_
        refine aw_V6v dX9_put_45 hT rfl rfl hbY_X9_tryMove hbm_X9_185 hbi_X9_tryMove hbe_X9_X9_tryMove (Nat.le_of_ble_eq_true rfl) ⟨by decide, by decide⟩ (by decide) (by decide) ?_
        exact aw_iret dX9_put_48 rfl (by rfl) rfl rfl (by decide) (by decide)
      · skip
        refine aw_ild4 dX9_put_26 ?_
        refine aw_S1v dX9_put_28 (c_mIsPoint (by first | assumption | (constructor <;> omega) | exact hG _ _)) hbY_X9_isPoint hbm_X9_178 hbs_X9_isPoint (Nat.le_of_ble_eq_true rfl) ⟨by decide, by decide⟩ (by decide) (by decide) ?_
        refine aw_ifb_eq (tg := 38) dX9_put_31 (by decide) (fun c31 => ?_) (fun c31 => ?_)
        · skip
          refine aw_iconst dX9_put_38 ?_
          refine aw_iconst dX9_put_39 ?_
          refine aw_ild1 dX9_put_40 ?_
          refine aw_ild4 dX9_put_41 ?_
          refine aw_ild2 dX9_put_43 ?_
          refine aw_ild3 dX9_put_44 ?_
          refine aw_V6v dX9_put_45 hT rfl rfl hbY_X9_tryMove hbm_X9_185 hbi_X9_tryMove hbe_X9_X9_tryMove (Nat.le_of_ble_eq_true rfl) ⟨by decide, by decide⟩ (by decide) (by decide) ?_
          exact aw_iret dX9_put_48 rfl (by rfl) rfl rfl (by decide) (by decide)
        · skip
          exact absurd (by omega) hP
set_option maxRecDepth 20000 in
set_option maxHeartbeats 1000000 in
theorem c_mPutY {l : Launch} {G : hb_G} {F : hb_F} {na : Nat} {t q r p : Int} (it : hb_in t) (iq : hb_in q) (ir : hb_in r) (ip : hb_in p) (hP : (0 ≤ t ∧ t < 40 ∧ G 51 t ≠ -1) ∧ (0 ≤ q ∧ q < 40 ∧ G 51 q ≠ -1) ∧ (0 ≤ r ∧ r ≤ 3) ∧ (0 ≤ p ∧ p ≤ 3000099)) {v9 : Int} {G1 : hb_G} (hT : hb_M l yX9_tryMove cX9_tryMove 9 (some .int) 6 0 0 [hb_r 47, hb_i 1, hb_i 1, hb_i t, hb_i p, hb_i q, hb_i r] (hb_w G F na) (77 + na) (.inl (some (hb_i (v9)))) (hb_w G1 F na) (77 + na)) (hG : hb_rg G) : hb_M l yX9_put cX9_put 5 (some .int) 7 0 0 [hb_r 47, hb_i t, hb_i q, hb_i r, hb_i p] (hb_w G F na) (77 + na) (.inl (some (hb_i (v9)))) (hb_w G1 F na) (77 + na) := by
  refine hb_M_in rfl rfl (by decide) rfl (Nat.le_of_ble_eq_true rfl) ?_
  intro E z0 σ0
  refine aw_ald0 dX9_put_0 ?_
  refine aw_ald0 dX9_put_1 ?_
  refine aw_ild1 dX9_put_2 ?_
  refine aw_V1v dX9_put_3 (c_mIsThing (by first | assumption | (constructor <;> omega) | exact hG _ _) hG) rfl rfl hbY_X9_isThing hbm_X9_104 hbi_X9_isThing hbe_X9_X9_isThing (Nat.le_of_ble_eq_true rfl) ⟨by decide, by decide⟩ (by decide) (by decide) ?_
  refine aw_ifb_eq (tg := 38) dX9_put_6 (by decide) (fun c6 => ?_) (fun c6 => ?_)
  · skip
    exact absurd hP (by omega)
  · skip
    refine aw_ald0 dX9_put_9 ?_
    refine aw_ild2 dX9_put_10 ?_
    refine aw_V1v dX9_put_11 (c_mIsThing (by first | assumption | (constructor <;> omega) | exact hG _ _) hG) rfl rfl hbY_X9_isThing hbm_X9_104 hbi_X9_isThing hbe_X9_X9_isThing (Nat.le_of_ble_eq_true rfl) ⟨by decide, by decide⟩ (by decide) (by decide) ?_
    refine aw_ifb_eq (tg := 38) dX9_put_14 (by decide) (fun c14 => ?_) (fun c14 => ?_)
    · skip
      exact absurd hP (by omega)
    · skip
      refine aw_ild3 dX9_put_17 ?_
      refine aw_iconst dX9_put_18 ?_
      refine aw_iconst dX9_put_19 ?_
      refine aw_S3v dX9_put_20 (c_within (by first | assumption | (constructor <;> omega) | exact hG _ _) (by first | assumption | (constructor <;> omega) | exact hG _ _) (by first | assumption | (constructor <;> omega) | exact hG _ _)) hbY_X9_within hbm_X9_99 hbs_X9_within (Nat.le_of_ble_eq_true rfl) ⟨by decide, by decide⟩ (by decide) (by decide) ?_
      refine aw_ifb_eq (tg := 38) dX9_put_23 (by decide) (fun c23 => ?_) (fun c23 => ?_)
      · skip
        exact absurd hP (by omega)
      · skip
        refine aw_ild4 dX9_put_26 ?_
        refine aw_S1v dX9_put_28 (c_mIsPoint (by first | assumption | (constructor <;> omega) | exact hG _ _)) hbY_X9_isPoint hbm_X9_178 hbs_X9_isPoint (Nat.le_of_ble_eq_true rfl) ⟨by decide, by decide⟩ (by decide) (by decide) ?_
        refine aw_ifb_eq (tg := 38) dX9_put_31 (by decide) (fun c31 => ?_) (fun c31 => ?_)
        · skip
          exact absurd hP (by omega)
        · skip
          refine aw_iconst dX9_put_34 ?_
          refine aw_goto (tg := 39) dX9_put_35 (by decide) ?_
          refine aw_iconst dX9_put_39 ?_
          refine aw_ild1 dX9_put_40 ?_
          refine aw_ild4 dX9_put_41 ?_
          refine aw_ild2 dX9_put_43 ?_
          refine aw_ild3 dX9_put_44 ?_
          refine aw_V6v dX9_put_45 hT rfl rfl hbY_X9_tryMove hbm_X9_185 hbi_X9_tryMove hbe_X9_X9_tryMove (Nat.le_of_ble_eq_true rfl) ⟨by decide, by decide⟩ (by decide) (by decide) ?_
          exact aw_iret dX9_put_48 rfl (by rfl) rfl rfl (by decide) (by decide)
set_option maxRecDepth 20000 in
set_option maxHeartbeats 1000000 in
theorem c_mTakeN {l : Launch} {G : hb_G} {F : hb_F} {na : Nat} {t p : Int} (it : hb_in t) (ip : hb_in p) (hP : ¬ ((0 ≤ t ∧ t < 40 ∧ G 51 t ≠ -1) ∧ (0 ≤ p ∧ p ≤ 3000099))) {v9 : Int} {G1 : hb_G} (hT : hb_M l yX9_tryMove cX9_tryMove 9 (some .int) 6 0 0 [hb_r 47, hb_i 0, hb_i 2, hb_i t, hb_i p, hb_i 0, hb_i 0] (hb_w G F na) (77 + na) (.inl (some (hb_i (v9)))) (hb_w G1 F na) (77 + na)) (hG : hb_rg G) : hb_M l yX9_take cX9_take 3 (some .int) 7 0 0 [hb_r 47, hb_i t, hb_i p] (hb_w G F na) (77 + na) (.inl (some (hb_i (v9)))) (hb_w G1 F na) (77 + na) := by
  refine hb_M_in rfl rfl (by decide) rfl (Nat.le_of_ble_eq_true rfl) ?_
  intro E z0 σ0
  refine aw_ald0 dX9_take_0 ?_
  refine aw_ald0 dX9_take_1 ?_
  refine aw_ild1 dX9_take_2 ?_
  refine aw_V1v dX9_take_3 (c_mIsThing (by first | assumption | (constructor <;> omega) | exact hG _ _) hG) rfl rfl hbY_X9_isThing hbm_X9_104 hbi_X9_isThing hbe_X9_X9_isThing (Nat.le_of_ble_eq_true rfl) ⟨by decide, by decide⟩ (by decide) (by decide) ?_
  refine aw_ifb_eq (tg := 20) dX9_take_6 (by decide) (fun c6 => ?_) (fun c6 => ?_)
  · skip
    refine aw_iconst dX9_take_20 ?_
    refine aw_iconst dX9_take_21 ?_
    refine aw_ild1 dX9_take_22 ?_
    refine aw_ild2 dX9_take_23 ?_
    refine aw_iconst dX9_take_24 ?_
    refine aw_iconst dX9_take_25 ?_
    refine aw_V6v dX9_take_26 hT rfl rfl hbY_X9_tryMove hbm_X9_185 hbi_X9_tryMove hbe_X9_X9_tryMove (Nat.le_of_ble_eq_true rfl) ⟨by decide, by decide⟩ (by decide) (by decide) ?_
    exact aw_iret dX9_take_29 rfl (by rfl) rfl rfl (by decide) (by decide)
  · skip
    refine aw_ild2 dX9_take_9 ?_
    refine aw_S1v dX9_take_10 (c_mIsPoint (by first | assumption | (constructor <;> omega) | exact hG _ _)) hbY_X9_isPoint hbm_X9_178 hbs_X9_isPoint (Nat.le_of_ble_eq_true rfl) ⟨by decide, by decide⟩ (by decide) (by decide) ?_
    refine aw_ifb_eq (tg := 20) dX9_take_13 (by decide) (fun c13 => ?_) (fun c13 => ?_)
    · skip
      refine aw_iconst dX9_take_20 ?_
      refine aw_iconst dX9_take_21 ?_
      refine aw_ild1 dX9_take_22 ?_
      refine aw_ild2 dX9_take_23 ?_
      refine aw_iconst dX9_take_24 ?_
      refine aw_iconst dX9_take_25 ?_
      refine aw_V6v dX9_take_26 hT rfl rfl hbY_X9_tryMove hbm_X9_185 hbi_X9_tryMove hbe_X9_X9_tryMove (Nat.le_of_ble_eq_true rfl) ⟨by decide, by decide⟩ (by decide) (by decide) ?_
      exact aw_iret dX9_take_29 rfl (by rfl) rfl rfl (by decide) (by decide)
    · skip
      exact absurd (by omega) hP
set_option maxRecDepth 20000 in
set_option maxHeartbeats 1000000 in
theorem c_mTakeY {l : Launch} {G : hb_G} {F : hb_F} {na : Nat} {t p : Int} (it : hb_in t) (ip : hb_in p) (hP : (0 ≤ t ∧ t < 40 ∧ G 51 t ≠ -1) ∧ (0 ≤ p ∧ p ≤ 3000099)) {v9 : Int} {G1 : hb_G} (hT : hb_M l yX9_tryMove cX9_tryMove 9 (some .int) 6 0 0 [hb_r 47, hb_i 1, hb_i 2, hb_i t, hb_i p, hb_i 0, hb_i 0] (hb_w G F na) (77 + na) (.inl (some (hb_i (v9)))) (hb_w G1 F na) (77 + na)) (hG : hb_rg G) : hb_M l yX9_take cX9_take 3 (some .int) 7 0 0 [hb_r 47, hb_i t, hb_i p] (hb_w G F na) (77 + na) (.inl (some (hb_i (v9)))) (hb_w G1 F na) (77 + na) := by
  refine hb_M_in rfl rfl (by decide) rfl (Nat.le_of_ble_eq_true rfl) ?_
  intro E z0 σ0
  refine aw_ald0 dX9_take_0 ?_
  refine aw_ald0 dX9_take_1 ?_
  refine aw_ild1 dX9_take_2 ?_
  refine aw_V1v dX9_take_3 (c_mIsThing (by first | assumption | (constructor <;> omega) | exact hG _ _) hG) rfl rfl hbY_X9_isThing hbm_X9_104 hbi_X9_isThing hbe_X9_X9_isThing (Nat.le_of_ble_eq_true rfl) ⟨by decide, by decide⟩ (by decide) (by decide) ?_
  refine aw_ifb_eq (tg := 20) dX9_take_6 (by decide) (fun c6 => ?_) (fun c6 => ?_)
  · skip
    exact absurd hP (by omega)
  · skip
    refine aw_ild2 dX9_take_9 ?_
    refine aw_S1v dX9_take_10 (c_mIsPoint (by first | assumption | (constructor <;> omega) | exact hG _ _)) hbY_X9_isPoint hbm_X9_178 hbs_X9_isPoint (Nat.le_of_ble_eq_true rfl) ⟨by decide, by decide⟩ (by decide) (by decide) ?_
    refine aw_ifb_eq (tg := 20) dX9_take_13 (by decide) (fun c13 => ?_) (fun c13 => ?_)
    · skip
      exact absurd hP (by omega)
    · skip
      refine aw_iconst dX9_take_16 ?_
      refine aw_goto (tg := 21) dX9_take_17 (by decide) ?_
      refine aw_iconst dX9_take_21 ?_
      refine aw_ild1 dX9_take_22 ?_
      refine aw_ild2 dX9_take_23 ?_
      refine aw_iconst dX9_take_24 ?_
      refine aw_iconst dX9_take_25 ?_
      refine aw_V6v dX9_take_26 hT rfl rfl hbY_X9_tryMove hbm_X9_185 hbi_X9_tryMove hbe_X9_X9_tryMove (Nat.le_of_ble_eq_true rfl) ⟨by decide, by decide⟩ (by decide) (by decide) ?_
      exact aw_iret dX9_take_29 rfl (by rfl) rfl rfl (by decide) (by decide)
set_option maxRecDepth 20000 in
set_option maxHeartbeats 1000000 in
theorem c_mDoneN {l : Launch} {G : hb_G} {F : hb_F} {na : Nat} {t k p : Int} (it : hb_in t) (ik : hb_in k) (ip : hb_in p) (hP : ¬ ((0 ≤ t ∧ t < 40 ∧ G 51 t ≠ -1) ∧ (0 ≤ k ∧ k < 16 ∧ G 55 k ≠ -1) ∧ (0 ≤ p ∧ p ≤ 3000099))) {v9 : Int} {G1 : hb_G} (hT : hb_M l yX9_note cX9_note 8 (some .int) 1 0 0 [hb_r 47, hb_i 0, hb_i 3, hb_i t, hb_i p, hb_i k, hb_i 0, hb_i 0] (hb_w G F na) (77 + na) (.inl (some (hb_i (v9)))) (hb_w G1 F na) (77 + na)) (hG : hb_rg G) : hb_M l yX9_done cX9_done 4 (some .int) 2 0 0 [hb_r 47, hb_i t, hb_i k, hb_i p] (hb_w G F na) (77 + na) (.inl (some (hb_i (v9)))) (hb_w G1 F na) (77 + na) := by
  refine hb_M_in rfl rfl (by decide) rfl (Nat.le_of_ble_eq_true rfl) ?_
  intro E z0 σ0
  refine aw_ald0 dX9_done_0 ?_
  refine aw_ald0 dX9_done_1 ?_
  refine aw_ild1 dX9_done_2 ?_
  refine aw_V1v dX9_done_3 (c_mIsThing (by first | assumption | (constructor <;> omega) | exact hG _ _) hG) rfl rfl hbY_X9_isThing hbm_X9_104 hbi_X9_isThing hbe_X9_X9_isThing (Nat.le_of_ble_eq_true rfl) ⟨by decide, by decide⟩ (by decide) (by decide) ?_
  refine aw_ifb_eq (tg := 28) dX9_done_6 (by decide) (fun c6 => ?_) (fun c6 => ?_)
  · skip
    refine aw_iconst dX9_done_28 ?_
    refine aw_iconst dX9_done_29 ?_
    refine aw_ild1 dX9_done_30 ?_
    refine aw_ild3 dX9_done_31 ?_
    refine aw_ild2 dX9_done_32 ?_
    refine aw_iconst dX9_done_33 ?_
    refine aw_iconst dX9_done_34 ?_
    refine aw_V7v dX9_done_35 hT rfl rfl hbY_X9_note hbm_X9_181 hbi_X9_note hbe_X9_X9_note (Nat.le_of_ble_eq_true rfl) ⟨by decide, by decide⟩ (by decide) (by decide) ?_
    exact aw_iret dX9_done_38 rfl (by rfl) rfl rfl (by decide) (by decide)
  · skip
    refine aw_ald0 dX9_done_9 ?_
    refine aw_ild2 dX9_done_10 ?_
    refine aw_V1v dX9_done_11 (c_mIsTask (by first | assumption | (constructor <;> omega) | exact hG _ _) hG) rfl rfl hbY_X9_isTask hbm_X9_120 hbi_X9_isTask hbe_X9_X9_isTask (Nat.le_of_ble_eq_true rfl) ⟨by decide, by decide⟩ (by decide) (by decide) ?_
    refine aw_ifb_eq (tg := 28) dX9_done_14 (by decide) (fun c14 => ?_) (fun c14 => ?_)
    · skip
      refine aw_iconst dX9_done_28 ?_
      refine aw_iconst dX9_done_29 ?_
      refine aw_ild1 dX9_done_30 ?_
      refine aw_ild3 dX9_done_31 ?_
      refine aw_ild2 dX9_done_32 ?_
      refine aw_iconst dX9_done_33 ?_
      refine aw_iconst dX9_done_34 ?_
      refine aw_V7v dX9_done_35 hT rfl rfl hbY_X9_note hbm_X9_181 hbi_X9_note hbe_X9_X9_note (Nat.le_of_ble_eq_true rfl) ⟨by decide, by decide⟩ (by decide) (by decide) ?_
      exact aw_iret dX9_done_38 rfl (by rfl) rfl rfl (by decide) (by decide)
    · skip
      refine aw_ild3 dX9_done_17 ?_
      refine aw_S1v dX9_done_18 (c_mIsPoint (by first | assumption | (constructor <;> omega) | exact hG _ _)) hbY_X9_isPoint hbm_X9_178 hbs_X9_isPoint (Nat.le_of_ble_eq_true rfl) ⟨by decide, by decide⟩ (by decide) (by decide) ?_
      refine aw_ifb_eq (tg := 28) dX9_done_21 (by decide) (fun c21 => ?_) (fun c21 => ?_)
      · skip
        refine aw_iconst dX9_done_28 ?_
        refine aw_iconst dX9_done_29 ?_
        refine aw_ild1 dX9_done_30 ?_
        refine aw_ild3 dX9_done_31 ?_
        refine aw_ild2 dX9_done_32 ?_
        refine aw_iconst dX9_done_33 ?_
        refine aw_iconst dX9_done_34 ?_
        refine aw_V7v dX9_done_35 hT rfl rfl hbY_X9_note hbm_X9_181 hbi_X9_note hbe_X9_X9_note (Nat.le_of_ble_eq_true rfl) ⟨by decide, by decide⟩ (by decide) (by decide) ?_
        exact aw_iret dX9_done_38 rfl (by rfl) rfl rfl (by decide) (by decide)
      · skip
        exact absurd (by omega) hP
set_option maxRecDepth 20000 in
set_option maxHeartbeats 1000000 in
theorem c_mDoneY {l : Launch} {G : hb_G} {F : hb_F} {na : Nat} {t k p : Int} (it : hb_in t) (ik : hb_in k) (ip : hb_in p) (hP : (0 ≤ t ∧ t < 40 ∧ G 51 t ≠ -1) ∧ (0 ≤ k ∧ k < 16 ∧ G 55 k ≠ -1) ∧ (0 ≤ p ∧ p ≤ 3000099)) {v9 : Int} {G1 : hb_G} (hT : hb_M l yX9_note cX9_note 8 (some .int) 1 0 0 [hb_r 47, hb_i 1, hb_i 3, hb_i t, hb_i p, hb_i k, hb_i 0, hb_i 0] (hb_w G F na) (77 + na) (.inl (some (hb_i (v9)))) (hb_w G1 F na) (77 + na)) (hG : hb_rg G) : hb_M l yX9_done cX9_done 4 (some .int) 2 0 0 [hb_r 47, hb_i t, hb_i k, hb_i p] (hb_w G F na) (77 + na) (.inl (some (hb_i (v9)))) (hb_w G1 F na) (77 + na) := by
  refine hb_M_in rfl rfl (by decide) rfl (Nat.le_of_ble_eq_true rfl) ?_
  intro E z0 σ0
  refine aw_ald0 dX9_done_0 ?_
  refine aw_ald0 dX9_done_1 ?_
  refine aw_ild1 dX9_done_2 ?_
  refine aw_V1v dX9_done_3 (c_mIsThing (by first | assumption | (constructor <;> omega) | exact hG _ _) hG) rfl rfl hbY_X9_isThing hbm_X9_104 hbi_X9_isThing hbe_X9_X9_isThing (Nat.le_of_ble_eq_true rfl) ⟨by decide, by decide⟩ (by decide) (by decide) ?_
  refine aw_ifb_eq (tg := 28) dX9_done_6 (by decide) (fun c6 => ?_) (fun c6 => ?_)
  · skip
    exact absurd hP (by omega)
  · skip
    refine aw_ald0 dX9_done_9 ?_
    refine aw_ild2 dX9_done_10 ?_
    refine aw_V1v dX9_done_11 (c_mIsTask (by first | assumption | (constructor <;> omega) | exact hG _ _) hG) rfl rfl hbY_X9_isTask hbm_X9_120 hbi_X9_isTask hbe_X9_X9_isTask (Nat.le_of_ble_eq_true rfl) ⟨by decide, by decide⟩ (by decide) (by decide) ?_
    refine aw_ifb_eq (tg := 28) dX9_done_14 (by decide) (fun c14 => ?_) (fun c14 => ?_)
    · skip
      exact absurd hP (by omega)
    · skip
      refine aw_ild3 dX9_done_17 ?_
      refine aw_S1v dX9_done_18 (c_mIsPoint (by first | assumption | (constructor <;> omega) | exact hG _ _)) hbY_X9_isPoint hbm_X9_178 hbs_X9_isPoint (Nat.le_of_ble_eq_true rfl) ⟨by decide, by decide⟩ (by decide) (by decide) ?_
      refine aw_ifb_eq (tg := 28) dX9_done_21 (by decide) (fun c21 => ?_) (fun c21 => ?_)
      · skip
        exact absurd hP (by omega)
      · skip
        refine aw_iconst dX9_done_24 ?_
        refine aw_goto (tg := 29) dX9_done_25 (by decide) ?_
        refine aw_iconst dX9_done_29 ?_
        refine aw_ild1 dX9_done_30 ?_
        refine aw_ild3 dX9_done_31 ?_
        refine aw_ild2 dX9_done_32 ?_
        refine aw_iconst dX9_done_33 ?_
        refine aw_iconst dX9_done_34 ?_
        refine aw_V7v dX9_done_35 hT rfl rfl hbY_X9_note hbm_X9_181 hbi_X9_note hbe_X9_X9_note (Nat.le_of_ble_eq_true rfl) ⟨by decide, by decide⟩ (by decide) (by decide) ?_
        exact aw_iret dX9_done_38 rfl (by rfl) rfl rfl (by decide) (by decide)
set_option maxRecDepth 20000 in
set_option maxHeartbeats 1000000 in
theorem c_mConcedeN {l : Launch} {G : hb_G} {F : hb_F} {na : Nat} {t k p m w : Int} (it : hb_in t) (ik : hb_in k) (ip : hb_in p) (im : hb_in m) (iw : hb_in w) (hP : ¬ ((0 ≤ t ∧ t < 40 ∧ G 51 t ≠ -1) ∧ (0 ≤ k ∧ k < 16 ∧ G 55 k ≠ -1) ∧ (0 ≤ p ∧ p ≤ 3000099) ∧ (0 ≤ m ∧ m ≤ 10000) ∧ 0 ≤ w ∧ w / 10001 ≤ 10000)) {v9 : Int} {G1 : hb_G} (hT : hb_M l yX9_note cX9_note 8 (some .int) 1 0 0 [hb_r 47, hb_i 0, hb_i 4, hb_i t, hb_i p, hb_i k, hb_i m, hb_i w] (hb_w G F na) (77 + na) (.inl (some (hb_i (v9)))) (hb_w G1 F na) (77 + na)) (hG : hb_rg G) : hb_M l yX9_concede cX9_concede 7 (some .int) 2 0 0 [hb_r 47, hb_i t, hb_i k, hb_i p, hb_i m, hb_i w] (hb_w G F na) (77 + na) (.inl (some (hb_i (v9)))) (hb_w G1 F na) (77 + na) := by
  refine hb_M_in rfl rfl (by decide) rfl (Nat.le_of_ble_eq_true rfl) ?_
  intro E z0 σ0
  refine aw_ald0 dX9_concede_0 ?_
  refine aw_ild1 dX9_concede_1 ?_
  refine aw_V1v dX9_concede_2 (c_mIsThing (by first | assumption | (constructor <;> omega) | exact hG _ _) hG) rfl rfl hbY_X9_isThing hbm_X9_104 hbi_X9_isThing hbe_X9_X9_isThing (Nat.le_of_ble_eq_true rfl) ⟨by decide, by decide⟩ (by decide) (by decide) ?_
  refine aw_ifb_eq (tg := 56) dX9_concede_5 (by decide) (fun c5 => ?_) (fun c5 => ?_)
  · skip
    refine aw_iconst dX9_concede_56 ?_
    refine aw_ipu6 dX9_concede_57 (by decide) ?_
    refine aw_ald0 dX9_concede_59 ?_
    refine aw_ild6 dX9_concede_60 ?_
    refine aw_iconst dX9_concede_62 ?_
    refine aw_ild1 dX9_concede_63 ?_
    refine aw_ild3 dX9_concede_64 ?_
    refine aw_ild2 dX9_concede_65 ?_
    refine aw_ild4 dX9_concede_66 ?_
    refine aw_ild5 dX9_concede_68 ?_
    refine aw_V7v dX9_concede_70 hT rfl rfl hbY_X9_note hbm_X9_181 hbi_X9_note hbe_X9_X9_note (Nat.le_of_ble_eq_true rfl) ⟨by decide, by decide⟩ (by decide) (by decide) ?_
    exact aw_iret dX9_concede_73 rfl (by rfl) rfl rfl (by decide) (by decide)
  · skip
    refine aw_ald0 dX9_concede_8 ?_
    refine aw_ild2 dX9_concede_9 ?_
    refine aw_V1v dX9_concede_10 (c_mIsTask (by first | assumption | (constructor <;> omega) | exact hG _ _) hG) rfl rfl hbY_X9_isTask hbm_X9_120 hbi_X9_isTask hbe_X9_X9_isTask (Nat.le_of_ble_eq_true rfl) ⟨by decide, by decide⟩ (by decide) (by decide) ?_
    refine aw_ifb_eq (tg := 56) dX9_concede_13 (by decide) (fun c13 => ?_) (fun c13 => ?_)
    · skip
      refine aw_iconst dX9_concede_56 ?_
      refine aw_ipu6 dX9_concede_57 (by decide) ?_
      refine aw_ald0 dX9_concede_59 ?_
      refine aw_ild6 dX9_concede_60 ?_
      refine aw_iconst dX9_concede_62 ?_
      refine aw_ild1 dX9_concede_63 ?_
      refine aw_ild3 dX9_concede_64 ?_
      refine aw_ild2 dX9_concede_65 ?_
      refine aw_ild4 dX9_concede_66 ?_
      refine aw_ild5 dX9_concede_68 ?_
      refine aw_V7v dX9_concede_70 hT rfl rfl hbY_X9_note hbm_X9_181 hbi_X9_note hbe_X9_X9_note (Nat.le_of_ble_eq_true rfl) ⟨by decide, by decide⟩ (by decide) (by decide) ?_
      exact aw_iret dX9_concede_73 rfl (by rfl) rfl rfl (by decide) (by decide)
    · skip
      refine aw_ild3 dX9_concede_16 ?_
      refine aw_S1v dX9_concede_17 (c_mIsPoint (by first | assumption | (constructor <;> omega) | exact hG _ _)) hbY_X9_isPoint hbm_X9_178 hbs_X9_isPoint (Nat.le_of_ble_eq_true rfl) ⟨by decide, by decide⟩ (by decide) (by decide) ?_
      refine aw_ifb_eq (tg := 56) dX9_concede_20 (by decide) (fun c20 => ?_) (fun c20 => ?_)
      · skip
        refine aw_iconst dX9_concede_56 ?_
        refine aw_ipu6 dX9_concede_57 (by decide) ?_
        refine aw_ald0 dX9_concede_59 ?_
        refine aw_ild6 dX9_concede_60 ?_
        refine aw_iconst dX9_concede_62 ?_
        refine aw_ild1 dX9_concede_63 ?_
        refine aw_ild3 dX9_concede_64 ?_
        refine aw_ild2 dX9_concede_65 ?_
        refine aw_ild4 dX9_concede_66 ?_
        refine aw_ild5 dX9_concede_68 ?_
        refine aw_V7v dX9_concede_70 hT rfl rfl hbY_X9_note hbm_X9_181 hbi_X9_note hbe_X9_X9_note (Nat.le_of_ble_eq_true rfl) ⟨by decide, by decide⟩ (by decide) (by decide) ?_
        exact aw_iret dX9_concede_73 rfl (by rfl) rfl rfl (by decide) (by decide)
      · skip
        refine aw_ild4 dX9_concede_23 ?_
        refine aw_iconst dX9_concede_25 ?_
        refine aw_sipush dX9_concede_26 (by decide) ?_
        refine aw_S3v dX9_concede_29 (c_within (by first | assumption | (constructor <;> omega) | exact hG _ _) (by first | assumption | (constructor <;> omega) | exact hG _ _) (by first | assumption | (constructor <;> omega) | exact hG _ _)) hbY_X9_within hbm_X9_99 hbs_X9_within (Nat.le_of_ble_eq_true rfl) ⟨by decide, by decide⟩ (by decide) (by decide) ?_
        refine aw_ifb_eq (tg := 56) dX9_concede_32 (by decide) (fun c32 => ?_) (fun c32 => ?_)
        · skip
          refine aw_iconst dX9_concede_56 ?_
          refine aw_ipu6 dX9_concede_57 (by decide) ?_
          refine aw_ald0 dX9_concede_59 ?_
          refine aw_ild6 dX9_concede_60 ?_
          refine aw_iconst dX9_concede_62 ?_
          refine aw_ild1 dX9_concede_63 ?_
          refine aw_ild3 dX9_concede_64 ?_
          refine aw_ild2 dX9_concede_65 ?_
          refine aw_ild4 dX9_concede_66 ?_
          refine aw_ild5 dX9_concede_68 ?_
          refine aw_V7v dX9_concede_70 hT rfl rfl hbY_X9_note hbm_X9_181 hbi_X9_note hbe_X9_X9_note (Nat.le_of_ble_eq_true rfl) ⟨by decide, by decide⟩ (by decide) (by decide) ?_
          exact aw_iret dX9_concede_73 rfl (by rfl) rfl rfl (by decide) (by decide)
        · skip
          refine aw_ild5 dX9_concede_35 ?_
          refine aw_if_lt (tg := 56) dX9_concede_37 (by decide) (by first | exact hG _ _ | assumption | (constructor <;> omega)) (fun c37 => ?_) (fun c37 => ?_)
          · skip
            refine aw_iconst dX9_concede_56 ?_
            refine aw_ipu6 dX9_concede_57 (by decide) ?_
            refine aw_ald0 dX9_concede_59 ?_
            refine aw_ild6 dX9_concede_60 ?_
            refine aw_iconst dX9_concede_62 ?_
            refine aw_ild1 dX9_concede_63 ?_
            refine aw_ild3 dX9_concede_64 ?_
            refine aw_ild2 dX9_concede_65 ?_
            refine aw_ild4 dX9_concede_66 ?_
            refine aw_ild5 dX9_concede_68 ?_
            refine aw_V7v dX9_concede_70 hT rfl rfl hbY_X9_note hbm_X9_181 hbi_X9_note hbe_X9_X9_note (Nat.le_of_ble_eq_true rfl) ⟨by decide, by decide⟩ (by decide) (by decide) ?_
            exact aw_iret dX9_concede_73 rfl (by rfl) rfl rfl (by decide) (by decide)
          · skip
            refine aw_ild5 dX9_concede_40 ?_
            refine aw_sipush dX9_concede_42 (by decide) ?_
            refine aw_idiv dX9_concede_45 (by first | exact hG _ _ | assumption | (constructor <;> omega)) (by first | exact hG _ _ | assumption | (constructor <;> omega)) (by omega) (by omega) ?_
            refine aw_sipush dX9_concede_46 (by decide) ?_
            refine aw_icmp_gt (tg := 56) dX9_concede_49 (by decide) (by first | exact hG _ _ | assumption | (constructor <;> omega)) (by first | exact hG _ _ | assumption | (constructor <;> omega)) (fun c49 => ?_) (fun c49 => ?_)
            · skip
              refine aw_iconst dX9_concede_56 ?_
              refine aw_ipu6 dX9_concede_57 (by decide) ?_
              refine aw_ald0 dX9_concede_59 ?_
              refine aw_ild6 dX9_concede_60 ?_
              refine aw_iconst dX9_concede_62 ?_
              refine aw_ild1 dX9_concede_63 ?_
              refine aw_ild3 dX9_concede_64 ?_
              refine aw_ild2 dX9_concede_65 ?_
              refine aw_ild4 dX9_concede_66 ?_
              refine aw_ild5 dX9_concede_68 ?_
              refine aw_V7v dX9_concede_70 hT rfl rfl hbY_X9_note hbm_X9_181 hbi_X9_note hbe_X9_X9_note (Nat.le_of_ble_eq_true rfl) ⟨by decide, by decide⟩ (by decide) (by decide) ?_
              exact aw_iret dX9_concede_73 rfl (by rfl) rfl rfl (by decide) (by decide)
            · skip
              exact absurd (by omega) hP
set_option maxRecDepth 20000 in
set_option maxHeartbeats 1000000 in
theorem c_mConcedeY {l : Launch} {G : hb_G} {F : hb_F} {na : Nat} {t k p m w : Int} (it : hb_in t) (ik : hb_in k) (ip : hb_in p) (im : hb_in m) (iw : hb_in w) (hP : (0 ≤ t ∧ t < 40 ∧ G 51 t ≠ -1) ∧ (0 ≤ k ∧ k < 16 ∧ G 55 k ≠ -1) ∧ (0 ≤ p ∧ p ≤ 3000099) ∧ (0 ≤ m ∧ m ≤ 10000) ∧ 0 ≤ w ∧ w / 10001 ≤ 10000) {v9 : Int} {G1 : hb_G} (hT : hb_M l yX9_note cX9_note 8 (some .int) 1 0 0 [hb_r 47, hb_i 1, hb_i 4, hb_i t, hb_i p, hb_i k, hb_i m, hb_i w] (hb_w G F na) (77 + na) (.inl (some (hb_i (v9)))) (hb_w G1 F na) (77 + na)) (hG : hb_rg G) : hb_M l yX9_concede cX9_concede 7 (some .int) 2 0 0 [hb_r 47, hb_i t, hb_i k, hb_i p, hb_i m, hb_i w] (hb_w G F na) (77 + na) (.inl (some (hb_i (v9)))) (hb_w G1 F na) (77 + na) := by
  refine hb_M_in rfl rfl (by decide) rfl (Nat.le_of_ble_eq_true rfl) ?_
  intro E z0 σ0
  refine aw_ald0 dX9_concede_0 ?_
  refine aw_ild1 dX9_concede_1 ?_
  refine aw_V1v dX9_concede_2 (c_mIsThing (by first | assumption | (constructor <;> omega) | exact hG _ _) hG) rfl rfl hbY_X9_isThing hbm_X9_104 hbi_X9_isThing hbe_X9_X9_isThing (Nat.le_of_ble_eq_true rfl) ⟨by decide, by decide⟩ (by decide) (by decide) ?_
  refine aw_ifb_eq (tg := 56) dX9_concede_5 (by decide) (fun c5 => ?_) (fun c5 => ?_)
  · skip
    exact absurd hP (by omega)
  · skip
    refine aw_ald0 dX9_concede_8 ?_
    refine aw_ild2 dX9_concede_9 ?_
    refine aw_V1v dX9_concede_10 (c_mIsTask (by first | assumption | (constructor <;> omega) | exact hG _ _) hG) rfl rfl hbY_X9_isTask hbm_X9_120 hbi_X9_isTask hbe_X9_X9_isTask (Nat.le_of_ble_eq_true rfl) ⟨by decide, by decide⟩ (by decide) (by decide) ?_
    refine aw_ifb_eq (tg := 56) dX9_concede_13 (by decide) (fun c13 => ?_) (fun c13 => ?_)
    · skip
      exact absurd hP (by omega)
    · skip
      refine aw_ild3 dX9_concede_16 ?_
      refine aw_S1v dX9_concede_17 (c_mIsPoint (by first | assumption | (constructor <;> omega) | exact hG _ _)) hbY_X9_isPoint hbm_X9_178 hbs_X9_isPoint (Nat.le_of_ble_eq_true rfl) ⟨by decide, by decide⟩ (by decide) (by decide) ?_
      refine aw_ifb_eq (tg := 56) dX9_concede_20 (by decide) (fun c20 => ?_) (fun c20 => ?_)
      · skip
        exact absurd hP (by omega)
      · skip
        refine aw_ild4 dX9_concede_23 ?_
        refine aw_iconst dX9_concede_25 ?_
        refine aw_sipush dX9_concede_26 (by decide) ?_
        refine aw_S3v dX9_concede_29 (c_within (by first | assumption | (constructor <;> omega) | exact hG _ _) (by first | assumption | (constructor <;> omega) | exact hG _ _) (by first | assumption | (constructor <;> omega) | exact hG _ _)) hbY_X9_within hbm_X9_99 hbs_X9_within (Nat.le_of_ble_eq_true rfl) ⟨by decide, by decide⟩ (by decide) (by decide) ?_
        refine aw_ifb_eq (tg := 56) dX9_concede_32 (by decide) (fun c32 => ?_) (fun c32 => ?_)
        · skip
          exact absurd hP (by omega)
        · skip
          refine aw_ild5 dX9_concede_35 ?_
          refine aw_if_lt (tg := 56) dX9_concede_37 (by decide) (by first | exact hG _ _ | assumption | (constructor <;> omega)) (fun c37 => ?_) (fun c37 => ?_)
          · skip
            exact absurd hP (by omega)
          · skip
            refine aw_ild5 dX9_concede_40 ?_
            refine aw_sipush dX9_concede_42 (by decide) ?_
            refine aw_idiv dX9_concede_45 (by first | exact hG _ _ | assumption | (constructor <;> omega)) (by first | exact hG _ _ | assumption | (constructor <;> omega)) (by omega) (by omega) ?_
            refine aw_sipush dX9_concede_46 (by decide) ?_
            refine aw_icmp_gt (tg := 56) dX9_concede_49 (by decide) (by first | exact hG _ _ | assumption | (constructor <;> omega)) (by first | exact hG _ _ | assumption | (constructor <;> omega)) (fun c49 => ?_) (fun c49 => ?_)
            · skip
              exact absurd hP (by omega)
            · skip
              refine aw_iconst dX9_concede_52 ?_
              refine aw_goto (tg := 57) dX9_concede_53 (by decide) ?_
              refine aw_ipu6 dX9_concede_57 (by decide) ?_
              refine aw_ald0 dX9_concede_59 ?_
              refine aw_ild6 dX9_concede_60 ?_
              refine aw_iconst dX9_concede_62 ?_
              refine aw_ild1 dX9_concede_63 ?_
              refine aw_ild3 dX9_concede_64 ?_
              refine aw_ild2 dX9_concede_65 ?_
              refine aw_ild4 dX9_concede_66 ?_
              refine aw_ild5 dX9_concede_68 ?_
              refine aw_V7v dX9_concede_70 hT rfl rfl hbY_X9_note hbm_X9_181 hbi_X9_note hbe_X9_X9_note (Nat.le_of_ble_eq_true rfl) ⟨by decide, by decide⟩ (by decide) (by decide) ?_
              exact aw_iret dX9_concede_73 rfl (by rfl) rfl rfl (by decide) (by decide)
set_option maxRecDepth 20000 in
set_option maxHeartbeats 1000000 in
theorem c_mRebuildN {l : Launch} {G : hb_G} {F : hb_F} {na : Nat} {t q p : Int} (it : hb_in t) (iq : hb_in q) (ip : hb_in p) (hP : ¬ ((0 ≤ t ∧ t < 40 ∧ G 51 t ≠ -1) ∧ (0 ≤ q ∧ q ≤ 7 ∧ G 58 q ≠ -1) ∧ (0 ≤ p ∧ p ≤ 3000099))) {v9 : Int} {G1 : hb_G} (hT : hb_M l yX9_note cX9_note 8 (some .int) 1 0 0 [hb_r 47, hb_i 0, hb_i 5, hb_i t, hb_i p, hb_i q, hb_i 0, hb_i 0] (hb_w G F na) (77 + na) (.inl (some (hb_i (v9)))) (hb_w G1 F na) (77 + na)) (hG : hb_rg G) : hb_M l yX9_rebuild cX9_rebuild 4 (some .int) 2 0 0 [hb_r 47, hb_i t, hb_i q, hb_i p] (hb_w G F na) (77 + na) (.inl (some (hb_i (v9)))) (hb_w G1 F na) (77 + na) := by
  refine hb_M_in rfl rfl (by decide) rfl (Nat.le_of_ble_eq_true rfl) ?_
  intro E z0 σ0
  refine aw_ald0 dX9_rebuild_0 ?_
  refine aw_ald0 dX9_rebuild_1 ?_
  refine aw_ild1 dX9_rebuild_2 ?_
  refine aw_V1v dX9_rebuild_3 (c_mIsThing (by first | assumption | (constructor <;> omega) | exact hG _ _) hG) rfl rfl hbY_X9_isThing hbm_X9_104 hbi_X9_isThing hbe_X9_X9_isThing (Nat.le_of_ble_eq_true rfl) ⟨by decide, by decide⟩ (by decide) (by decide) ?_
  refine aw_ifb_eq (tg := 40) dX9_rebuild_6 (by decide) (fun c6 => ?_) (fun c6 => ?_)
  · skip
    refine aw_iconst dX9_rebuild_40 ?_
    refine aw_iconst dX9_rebuild_41 ?_
    refine aw_ild1 dX9_rebuild_42 ?_
    refine aw_ild3 dX9_rebuild_43 ?_
    refine aw_ild2 dX9_rebuild_44 ?_
    refine aw_iconst dX9_rebuild_45 ?_
    refine aw_iconst dX9_rebuild_46 ?_
    refine aw_V7v dX9_rebuild_47 hT rfl rfl hbY_X9_note hbm_X9_181 hbi_X9_note hbe_X9_X9_note (Nat.le_of_ble_eq_true rfl) ⟨by decide, by decide⟩ (by decide) (by decide) ?_
    exact aw_iret dX9_rebuild_50 rfl (by rfl) rfl rfl (by decide) (by decide)
  · skip
    refine aw_ild2 dX9_rebuild_9 ?_
    refine aw_iconst dX9_rebuild_10 ?_
    refine aw_bipush dX9_rebuild_11 (by decide) ?_
    refine aw_S3v dX9_rebuild_13 (c_within (by first | assumption | (constructor <;> omega) | exact hG _ _) (by first | assumption | (constructor <;> omega) | exact hG _ _) (by first | assumption | (constructor <;> omega) | exact hG _ _)) hbY_X9_within hbm_X9_99 hbs_X9_within (Nat.le_of_ble_eq_true rfl) ⟨by decide, by decide⟩ (by decide) (by decide) ?_
    refine aw_ifb_eq (tg := 40) dX9_rebuild_16 (by decide) (fun c16 => ?_) (fun c16 => ?_)
    · skip
      refine aw_iconst dX9_rebuild_40 ?_
      refine aw_iconst dX9_rebuild_41 ?_
      refine aw_ild1 dX9_rebuild_42 ?_
      refine aw_ild3 dX9_rebuild_43 ?_
      refine aw_ild2 dX9_rebuild_44 ?_
      refine aw_iconst dX9_rebuild_45 ?_
      refine aw_iconst dX9_rebuild_46 ?_
      refine aw_V7v dX9_rebuild_47 hT rfl rfl hbY_X9_note hbm_X9_181 hbi_X9_note hbe_X9_X9_note (Nat.le_of_ble_eq_true rfl) ⟨by decide, by decide⟩ (by decide) (by decide) ?_
      exact aw_iret dX9_rebuild_50 rfl (by rfl) rfl rfl (by decide) (by decide)
    · skip
      refine aw_ald0 dX9_rebuild_19 ?_
      refine aw_getf dX9_rebuild_20 hbf_X9_40 rfl rfl ?_
      refine aw_ild2 dX9_rebuild_23 ?_
      refine aw_iald dX9_rebuild_24 rfl (by constructor <;> omega) (by decide) ?_
      refine aw_iconst dX9_rebuild_25 ?_
      refine aw_icmp_eq (tg := 40) dX9_rebuild_26 (by decide) (by first | exact hG _ _ | assumption | (constructor <;> omega)) (by first | exact hG _ _ | assumption | (constructor <;> omega)) (fun c26 => ?_) (fun c26 => ?_)
      · skip
        refine aw_iconst dX9_rebuild_40 ?_
        refine aw_iconst dX9_rebuild_41 ?_
        refine aw_ild1 dX9_rebuild_42 ?_
        refine aw_ild3 dX9_rebuild_43 ?_
        refine aw_ild2 dX9_rebuild_44 ?_
        refine aw_iconst dX9_rebuild_45 ?_
        refine aw_iconst dX9_rebuild_46 ?_
        refine aw_V7v dX9_rebuild_47 hT rfl rfl hbY_X9_note hbm_X9_181 hbi_X9_note hbe_X9_X9_note (Nat.le_of_ble_eq_true rfl) ⟨by decide, by decide⟩ (by decide) (by decide) ?_
        exact aw_iret dX9_rebuild_50 rfl (by rfl) rfl rfl (by decide) (by decide)
      · skip
        refine aw_ild3 dX9_rebuild_29 ?_
        refine aw_S1v dX9_rebuild_30 (c_mIsPoint (by first | assumption | (constructor <;> omega) | exact hG _ _)) hbY_X9_isPoint hbm_X9_178 hbs_X9_isPoint (Nat.le_of_ble_eq_true rfl) ⟨by decide, by decide⟩ (by decide) (by decide) ?_
        refine aw_ifb_eq (tg := 40) dX9_rebuild_33 (by decide) (fun c33 => ?_) (fun c33 => ?_)
        · skip
          refine aw_iconst dX9_rebuild_40 ?_
          refine aw_iconst dX9_rebuild_41 ?_
          refine aw_ild1 dX9_rebuild_42 ?_
          refine aw_ild3 dX9_rebuild_43 ?_
          refine aw_ild2 dX9_rebuild_44 ?_
          refine aw_iconst dX9_rebuild_45 ?_
          refine aw_iconst dX9_rebuild_46 ?_
          refine aw_V7v dX9_rebuild_47 hT rfl rfl hbY_X9_note hbm_X9_181 hbi_X9_note hbe_X9_X9_note (Nat.le_of_ble_eq_true rfl) ⟨by decide, by decide⟩ (by decide) (by decide) ?_
          exact aw_iret dX9_rebuild_50 rfl (by rfl) rfl rfl (by decide) (by decide)
        · skip
          exact absurd (by omega) hP
set_option maxRecDepth 20000 in
set_option maxHeartbeats 1000000 in
theorem c_mRebuildY {l : Launch} {G : hb_G} {F : hb_F} {na : Nat} {t q p : Int} (it : hb_in t) (iq : hb_in q) (ip : hb_in p) (hP : (0 ≤ t ∧ t < 40 ∧ G 51 t ≠ -1) ∧ (0 ≤ q ∧ q ≤ 7 ∧ G 58 q ≠ -1) ∧ (0 ≤ p ∧ p ≤ 3000099)) {v9 : Int} {G1 : hb_G} (hT : hb_M l yX9_note cX9_note 8 (some .int) 1 0 0 [hb_r 47, hb_i 1, hb_i 5, hb_i t, hb_i p, hb_i q, hb_i 0, hb_i 0] (hb_w G F na) (77 + na) (.inl (some (hb_i (v9)))) (hb_w G1 F na) (77 + na)) (hG : hb_rg G) : hb_M l yX9_rebuild cX9_rebuild 4 (some .int) 2 0 0 [hb_r 47, hb_i t, hb_i q, hb_i p] (hb_w G F na) (77 + na) (.inl (some (hb_i (v9)))) (hb_w G1 F na) (77 + na) := by
  refine hb_M_in rfl rfl (by decide) rfl (Nat.le_of_ble_eq_true rfl) ?_
  intro E z0 σ0
  refine aw_ald0 dX9_rebuild_0 ?_
  refine aw_ald0 dX9_rebuild_1 ?_
  refine aw_ild1 dX9_rebuild_2 ?_
  refine aw_V1v dX9_rebuild_3 (c_mIsThing (by first | assumption | (constructor <;> omega) | exact hG _ _) hG) rfl rfl hbY_X9_isThing hbm_X9_104 hbi_X9_isThing hbe_X9_X9_isThing (Nat.le_of_ble_eq_true rfl) ⟨by decide, by decide⟩ (by decide) (by decide) ?_
  refine aw_ifb_eq (tg := 40) dX9_rebuild_6 (by decide) (fun c6 => ?_) (fun c6 => ?_)
  · skip
    exact absurd hP (by omega)
  · skip
    refine aw_ild2 dX9_rebuild_9 ?_
    refine aw_iconst dX9_rebuild_10 ?_
    refine aw_bipush dX9_rebuild_11 (by decide) ?_
    refine aw_S3v dX9_rebuild_13 (c_within (by first | assumption | (constructor <;> omega) | exact hG _ _) (by first | assumption | (constructor <;> omega) | exact hG _ _) (by first | assumption | (constructor <;> omega) | exact hG _ _)) hbY_X9_within hbm_X9_99 hbs_X9_within (Nat.le_of_ble_eq_true rfl) ⟨by decide, by decide⟩ (by decide) (by decide) ?_
    refine aw_ifb_eq (tg := 40) dX9_rebuild_16 (by decide) (fun c16 => ?_) (fun c16 => ?_)
    · skip
      exact absurd hP (by omega)
    · skip
      refine aw_ald0 dX9_rebuild_19 ?_
      refine aw_getf dX9_rebuild_20 hbf_X9_40 rfl rfl ?_
      refine aw_ild2 dX9_rebuild_23 ?_
      refine aw_iald dX9_rebuild_24 rfl (by constructor <;> omega) (by decide) ?_
      refine aw_iconst dX9_rebuild_25 ?_
      refine aw_icmp_eq (tg := 40) dX9_rebuild_26 (by decide) (by first | exact hG _ _ | assumption | (constructor <;> omega)) (by first | exact hG _ _ | assumption | (constructor <;> omega)) (fun c26 => ?_) (fun c26 => ?_)
      · skip
        exact absurd hP (by omega)
      · skip
        refine aw_ild3 dX9_rebuild_29 ?_
        refine aw_S1v dX9_rebuild_30 (c_mIsPoint (by first | assumption | (constructor <;> omega) | exact hG _ _)) hbY_X9_isPoint hbm_X9_178 hbs_X9_isPoint (Nat.le_of_ble_eq_true rfl) ⟨by decide, by decide⟩ (by decide) (by decide) ?_
        refine aw_ifb_eq (tg := 40) dX9_rebuild_33 (by decide) (fun c33 => ?_) (fun c33 => ?_)
        · skip
          exact absurd hP (by omega)
        · skip
          refine aw_iconst dX9_rebuild_36 ?_
          refine aw_goto (tg := 41) dX9_rebuild_37 (by decide) ?_
          refine aw_iconst dX9_rebuild_41 ?_
          refine aw_ild1 dX9_rebuild_42 ?_
          refine aw_ild3 dX9_rebuild_43 ?_
          refine aw_ild2 dX9_rebuild_44 ?_
          refine aw_iconst dX9_rebuild_45 ?_
          refine aw_iconst dX9_rebuild_46 ?_
          refine aw_V7v dX9_rebuild_47 hT rfl rfl hbY_X9_note hbm_X9_181 hbi_X9_note hbe_X9_X9_note (Nat.le_of_ble_eq_true rfl) ⟨by decide, by decide⟩ (by decide) (by decide) ?_
          exact aw_iret dX9_rebuild_50 rfl (by rfl) rfl rfl (by decide) (by decide)
set_option maxRecDepth 20000 in
set_option maxHeartbeats 1000000 in
theorem c_mFlightN1 {l : Launch} {G : hb_G} {F : hb_F} {na : Nat} {t p m c : Int} (it : hb_in t) (ip : hb_in p) (im : hb_in m) (ic : hb_in c) (hP : ¬ (hb_jm G t ∧ (0 ≤ p ∧ p ≤ 3000099) ∧ (0 ≤ m ∧ m ≤ 100000) ∧ (0 ≤ c ∧ c ≤ 100000))) {v9 : Int} {G1 : hb_G} (hT : hb_M l yX9_note cX9_note 8 (some .int) 1 0 0 [hb_r 47, hb_i 0, hb_i 0, hb_i t, hb_i p, hb_i m, hb_i c, hb_i 0] (hb_w G F na) (77 + na) (.inl (some (hb_i (v9)))) (hb_w G1 F na) (77 + na)) (hG1 : hb_rg G1) (h1 : G1 47 0 ≠ 0) (hG : hb_rg G) : hb_M l yX9_flight cX9_flight 7 (some .int) 6 0 0 [hb_r 47, hb_i t, hb_i p, hb_i m, hb_i c] (hb_w G F na) (77 + na) (.inl (some (hb_i (v9)))) (hb_w G1 F na) (77 + na) := by
  refine hb_M_in rfl rfl (by decide) rfl (Nat.le_of_ble_eq_true rfl) ?_
  intro E z0 σ0
  refine aw_ald0 dX9_flight_0 ?_
  refine aw_ald0 dX9_flight_1 ?_
  refine aw_ild1 dX9_flight_2 ?_
  refine aw_V1v dX9_flight_3 (c_mIsMachine (by first | assumption | (constructor <;> omega) | exact hG _ _) hG) rfl rfl hbY_X9_isMachine hbm_X9_153 hbi_X9_isMachine hbe_X9_X9_isMachine (Nat.le_of_ble_eq_true rfl) ⟨by decide, by decide⟩ (by decide) (by decide) ?_
  refine aw_ifb_eq (tg := 41) dX9_flight_6 (by decide) (fun c6 => ?_) (fun c6 => ?_)
  · skip
    refine aw_iconst dX9_flight_41 ?_
    refine aw_iconst dX9_flight_42 ?_
    refine aw_ild1 dX9_flight_43 ?_
    refine aw_ild2 dX9_flight_44 ?_
    refine aw_ild3 dX9_flight_45 ?_
    refine aw_ild4 dX9_flight_46 ?_
    refine aw_iconst dX9_flight_48 ?_
    refine aw_V7v dX9_flight_49 hT rfl rfl hbY_X9_note hbm_X9_181 hbi_X9_note hbe_X9_X9_note (Nat.le_of_ble_eq_true rfl) ⟨by decide, by decide⟩ (by decide) (by decide) ?_
    refine aw_ipu5 dX9_flight_52 (by decide) ?_
    refine aw_ald0 dX9_flight_54 ?_
    refine aw_getf dX9_flight_55 hbf_X9_95 rfl rfl ?_
    refine aw_if_ne (tg := 68) dX9_flight_58 (by decide) (hG1 _ _) (fun c58 => ?_) (fun c58 => absurd c58 (by omega))
    refine aw_iconst dX9_flight_68 ?_
    refine aw_goto (tg := 73) dX9_flight_69 (by decide) ?_
    refine aw_ipu6 dX9_flight_73 (by decide) ?_
    refine aw_ild5 dX9_flight_75 ?_
    exact aw_iret dX9_flight_77 rfl (by rfl) rfl rfl (by decide) (by decide)
  · skip
    refine aw_ild2 dX9_flight_9 ?_
    refine aw_S1v dX9_flight_10 (c_mIsPoint (by first | assumption | (constructor <;> omega) | exact hG _ _)) hbY_X9_isPoint hbm_X9_178 hbs_X9_isPoint (Nat.le_of_ble_eq_true rfl) ⟨by decide, by decide⟩ (by decide) (by decide) ?_
    refine aw_ifb_eq (tg := 41) dX9_flight_13 (by decide) (fun c13 => ?_) (fun c13 => ?_)
    · skip
      refine aw_iconst dX9_flight_41 ?_
      refine aw_iconst dX9_flight_42 ?_
      refine aw_ild1 dX9_flight_43 ?_
      refine aw_ild2 dX9_flight_44 ?_
      refine aw_ild3 dX9_flight_45 ?_
      refine aw_ild4 dX9_flight_46 ?_
      refine aw_iconst dX9_flight_48 ?_
      refine aw_V7v dX9_flight_49 hT rfl rfl hbY_X9_note hbm_X9_181 hbi_X9_note hbe_X9_X9_note (Nat.le_of_ble_eq_true rfl) ⟨by decide, by decide⟩ (by decide) (by decide) ?_
      refine aw_ipu5 dX9_flight_52 (by decide) ?_
      refine aw_ald0 dX9_flight_54 ?_
      refine aw_getf dX9_flight_55 hbf_X9_95 rfl rfl ?_
      refine aw_if_ne (tg := 68) dX9_flight_58 (by decide) (hG1 _ _) (fun c58 => ?_) (fun c58 => absurd c58 (by omega))
      refine aw_iconst dX9_flight_68 ?_
      refine aw_goto (tg := 73) dX9_flight_69 (by decide) ?_
      refine aw_ipu6 dX9_flight_73 (by decide) ?_
      refine aw_ild5 dX9_flight_75 ?_
      exact aw_iret dX9_flight_77 rfl (by rfl) rfl rfl (by decide) (by decide)
    · skip
      refine aw_ild3 dX9_flight_16 ?_
      refine aw_iconst dX9_flight_17 ?_
      refine aw_ldc (z := 100000) dX9_flight_18 hbk_X9_118 ?_
      refine aw_S3v dX9_flight_20 (c_within (by first | assumption | (constructor <;> omega) | exact hG _ _) (by first | assumption | (constructor <;> omega) | exact hG _ _) (by first | assumption | (constructor <;> omega) | exact hG _ _)) hbY_X9_within hbm_X9_99 hbs_X9_within (Nat.le_of_ble_eq_true rfl) ⟨by decide, by decide⟩ (by decide) (by decide) ?_
      refine aw_ifb_eq (tg := 41) dX9_flight_23 (by decide) (fun c23 => ?_) (fun c23 => ?_)
      · skip
        refine aw_iconst dX9_flight_41 ?_
        refine aw_iconst dX9_flight_42 ?_
        refine aw_ild1 dX9_flight_43 ?_
        refine aw_ild2 dX9_flight_44 ?_
        refine aw_ild3 dX9_flight_45 ?_
        refine aw_ild4 dX9_flight_46 ?_
        refine aw_iconst dX9_flight_48 ?_
        refine aw_V7v dX9_flight_49 hT rfl rfl hbY_X9_note hbm_X9_181 hbi_X9_note hbe_X9_X9_note (Nat.le_of_ble_eq_true rfl) ⟨by decide, by decide⟩ (by decide) (by decide) ?_
        refine aw_ipu5 dX9_flight_52 (by decide) ?_
        refine aw_ald0 dX9_flight_54 ?_
        refine aw_getf dX9_flight_55 hbf_X9_95 rfl rfl ?_
        refine aw_if_ne (tg := 68) dX9_flight_58 (by decide) (hG1 _ _) (fun c58 => ?_) (fun c58 => absurd c58 (by omega))
        refine aw_iconst dX9_flight_68 ?_
        refine aw_goto (tg := 73) dX9_flight_69 (by decide) ?_
        refine aw_ipu6 dX9_flight_73 (by decide) ?_
        refine aw_ild5 dX9_flight_75 ?_
        exact aw_iret dX9_flight_77 rfl (by rfl) rfl rfl (by decide) (by decide)
      · skip
        refine aw_ild4 dX9_flight_26 ?_
        refine aw_iconst dX9_flight_28 ?_
        refine aw_ldc (z := 100000) dX9_flight_29 hbk_X9_118 ?_
        refine aw_S3v dX9_flight_31 (c_within (by first | assumption | (constructor <;> omega) | exact hG _ _) (by first | assumption | (constructor <;> omega) | exact hG _ _) (by first | assumption | (constructor <;> omega) | exact hG _ _)) hbY_X9_within hbm_X9_99 hbs_X9_within (Nat.le_of_ble_eq_true rfl) ⟨by decide, by decide⟩ (by decide) (by decide) ?_
        refine aw_ifb_eq (tg := 41) dX9_flight_34 (by decide) (fun c34 => ?_) (fun c34 => ?_)
        · skip
          refine aw_iconst dX9_flight_41 ?_
          refine aw_iconst dX9_flight_42 ?_
          refine aw_ild1 dX9_flight_43 ?_
          refine aw_ild2 dX9_flight_44 ?_
          refine aw_ild3 dX9_flight_45 ?_
          refine aw_ild4 dX9_flight_46 ?_
          refine aw_iconst dX9_flight_48 ?_
          refine aw_V7v dX9_flight_49 hT rfl rfl hbY_X9_note hbm_X9_181 hbi_X9_note hbe_X9_X9_note (Nat.le_of_ble_eq_true rfl) ⟨by decide, by decide⟩ (by decide) (by decide) ?_
          refine aw_ipu5 dX9_flight_52 (by decide) ?_
          refine aw_ald0 dX9_flight_54 ?_
          refine aw_getf dX9_flight_55 hbf_X9_95 rfl rfl ?_
          refine aw_if_ne (tg := 68) dX9_flight_58 (by decide) (hG1 _ _) (fun c58 => ?_) (fun c58 => absurd c58 (by omega))
          refine aw_iconst dX9_flight_68 ?_
          refine aw_goto (tg := 73) dX9_flight_69 (by decide) ?_
          refine aw_ipu6 dX9_flight_73 (by decide) ?_
          refine aw_ild5 dX9_flight_75 ?_
          exact aw_iret dX9_flight_77 rfl (by rfl) rfl rfl (by decide) (by decide)
        · skip
          exact absurd ⟨by assumption, by assumption, by assumption, by assumption⟩ hP
set_option maxRecDepth 20000 in
set_option maxHeartbeats 1000000 in
theorem c_mFlightY1 {l : Launch} {G : hb_G} {F : hb_F} {na : Nat} {t p m c : Int} (it : hb_in t) (ip : hb_in p) (im : hb_in m) (ic : hb_in c) (hP : hb_jm G t ∧ (0 ≤ p ∧ p ≤ 3000099) ∧ (0 ≤ m ∧ m ≤ 100000) ∧ (0 ≤ c ∧ c ≤ 100000)) {v9 : Int} {G1 : hb_G} (hT : hb_M l yX9_note cX9_note 8 (some .int) 1 0 0 [hb_r 47, hb_i 1, hb_i 0, hb_i t, hb_i p, hb_i m, hb_i c, hb_i 0] (hb_w G F na) (77 + na) (.inl (some (hb_i (v9)))) (hb_w G1 F na) (77 + na)) (hG1 : hb_rg G1) (h1 : G1 47 0 ≠ 0) (hG : hb_rg G) : hb_M l yX9_flight cX9_flight 7 (some .int) 6 0 0 [hb_r 47, hb_i t, hb_i p, hb_i m, hb_i c] (hb_w G F na) (77 + na) (.inl (some (hb_i (v9)))) (hb_w G1 F na) (77 + na) := by
  refine hb_M_in rfl rfl (by decide) rfl (Nat.le_of_ble_eq_true rfl) ?_
  intro E z0 σ0
  refine aw_ald0 dX9_flight_0 ?_
  refine aw_ald0 dX9_flight_1 ?_
  refine aw_ild1 dX9_flight_2 ?_
  refine aw_V1v dX9_flight_3 (c_mIsMachine (by first | assumption | (constructor <;> omega) | exact hG _ _) hG) rfl rfl hbY_X9_isMachine hbm_X9_153 hbi_X9_isMachine hbe_X9_X9_isMachine (Nat.le_of_ble_eq_true rfl) ⟨by decide, by decide⟩ (by decide) (by decide) ?_
  refine aw_ifb_eq (tg := 41) dX9_flight_6 (by decide) (fun c6 => absurd c6 (by exact fun h8 => h8 hP.1)) (fun c6 => ?_)
  refine aw_ild2 dX9_flight_9 ?_
  refine aw_S1v dX9_flight_10 (c_mIsPoint (by first | assumption | (constructor <;> omega) | exact hG _ _)) hbY_X9_isPoint hbm_X9_178 hbs_X9_isPoint (Nat.le_of_ble_eq_true rfl) ⟨by decide, by decide⟩ (by decide) (by decide) ?_
  refine aw_ifb_eq (tg := 41) dX9_flight_13 (by decide) (fun c13 => absurd c13 (by exact fun h8 => h8 hP.2.1)) (fun c13 => ?_)
  refine aw_ild3 dX9_flight_16 ?_
  refine aw_iconst dX9_flight_17 ?_
  refine aw_ldc (z := 100000) dX9_flight_18 hbk_X9_118 ?_
  refine aw_S3v dX9_flight_20 (c_within (by first | assumption | (constructor <;> omega) | exact hG _ _) (by first | assumption | (constructor <;> omega) | exact hG _ _) (by first | assumption | (constructor <;> omega) | exact hG _ _)) hbY_X9_within hbm_X9_99 hbs_X9_within (Nat.le_of_ble_eq_true rfl) ⟨by decide, by decide⟩ (by decide) (by decide) ?_
  refine aw_ifb_eq (tg := 41) dX9_flight_23 (by decide) (fun c23 => absurd c23 (by exact fun h8 => h8 hP.2.2.1)) (fun c23 => ?_)
  refine aw_ild4 dX9_flight_26 ?_
  refine aw_iconst dX9_flight_28 ?_
  refine aw_ldc (z := 100000) dX9_flight_29 hbk_X9_118 ?_
  refine aw_S3v dX9_flight_31 (c_within (by first | assumption | (constructor <;> omega) | exact hG _ _) (by first | assumption | (constructor <;> omega) | exact hG _ _) (by first | assumption | (constructor <;> omega) | exact hG _ _)) hbY_X9_within hbm_X9_99 hbs_X9_within (Nat.le_of_ble_eq_true rfl) ⟨by decide, by decide⟩ (by decide) (by decide) ?_
  refine aw_ifb_eq (tg := 41) dX9_flight_34 (by decide) (fun c34 => absurd c34 (by exact fun h8 => h8 hP.2.2.2)) (fun c34 => ?_)
  refine aw_iconst dX9_flight_37 ?_
  refine aw_goto (tg := 42) dX9_flight_38 (by decide) ?_
  refine aw_iconst dX9_flight_42 ?_
  refine aw_ild1 dX9_flight_43 ?_
  refine aw_ild2 dX9_flight_44 ?_
  refine aw_ild3 dX9_flight_45 ?_
  refine aw_ild4 dX9_flight_46 ?_
  refine aw_iconst dX9_flight_48 ?_
  refine aw_V7v dX9_flight_49 hT rfl rfl hbY_X9_note hbm_X9_181 hbi_X9_note hbe_X9_X9_note (Nat.le_of_ble_eq_true rfl) ⟨by decide, by decide⟩ (by decide) (by decide) ?_
  refine aw_ipu5 dX9_flight_52 (by decide) ?_
  refine aw_ald0 dX9_flight_54 ?_
  refine aw_getf dX9_flight_55 hbf_X9_95 rfl rfl ?_
  refine aw_if_ne (tg := 68) dX9_flight_58 (by decide) (hG1 _ _) (fun c58 => ?_) (fun c58 => absurd c58 (by omega))
  refine aw_iconst dX9_flight_68 ?_
  refine aw_goto (tg := 73) dX9_flight_69 (by decide) ?_
  refine aw_ipu6 dX9_flight_73 (by decide) ?_
  refine aw_ild5 dX9_flight_75 ?_
  exact aw_iret dX9_flight_77 rfl (by rfl) rfl rfl (by decide) (by decide)
set_option maxRecDepth 20000 in
set_option maxHeartbeats 1000000 in
theorem c_mFlightY {l : Launch} {G : hb_G} {F : hb_F} {na : Nat} {t p m c : Int} (it : hb_in t) (ip : hb_in p) (im : hb_in m) (ic : hb_in c) (hP : hb_jm G t ∧ (0 ≤ p ∧ p ≤ 3000099) ∧ (0 ≤ m ∧ m ≤ 100000) ∧ (0 ≤ c ∧ c ≤ 100000)) {v9 : Int} {G1 G2 : hb_G} (hT : hb_M l yX9_note cX9_note 8 (some .int) 1 0 0 [hb_r 47, hb_i 1, hb_i 0, hb_i t, hb_i p, hb_i m, hb_i c, hb_i 0] (hb_w G F na) (77 + na) (.inl (some (hb_i (v9)))) (hb_w G1 F na) (77 + na)) (hG1 : hb_rg G1) (h1 : G1 47 0 = 0) (hC : hb_M l yX9_check cX9_check 3 (some .boolean) 5 0 0 [hb_r 47] (hb_w G1 F na) (77 + na) (.inl (some (hb_i (1)))) (hb_w G2 F na) (77 + na)) (hG : hb_rg G) : hb_M l yX9_flight cX9_flight 7 (some .int) 6 0 0 [hb_r 47, hb_i t, hb_i p, hb_i m, hb_i c] (hb_w G F na) (77 + na) (.inl (some (hb_i (v9)))) (hb_w G2 F na) (77 + na) := by
  refine hb_M_in rfl rfl (by decide) rfl (Nat.le_of_ble_eq_true rfl) ?_
  intro E z0 σ0
  refine aw_ald0 dX9_flight_0 ?_
  refine aw_ald0 dX9_flight_1 ?_
  refine aw_ild1 dX9_flight_2 ?_
  refine aw_V1v dX9_flight_3 (c_mIsMachine (by first | assumption | (constructor <;> omega) | exact hG _ _) hG) rfl rfl hbY_X9_isMachine hbm_X9_153 hbi_X9_isMachine hbe_X9_X9_isMachine (Nat.le_of_ble_eq_true rfl) ⟨by decide, by decide⟩ (by decide) (by decide) ?_
  refine aw_ifb_eq (tg := 41) dX9_flight_6 (by decide) (fun c6 => absurd c6 (by exact fun h8 => h8 hP.1)) (fun c6 => ?_)
  refine aw_ild2 dX9_flight_9 ?_
  refine aw_S1v dX9_flight_10 (c_mIsPoint (by first | assumption | (constructor <;> omega) | exact hG _ _)) hbY_X9_isPoint hbm_X9_178 hbs_X9_isPoint (Nat.le_of_ble_eq_true rfl) ⟨by decide, by decide⟩ (by decide) (by decide) ?_
  refine aw_ifb_eq (tg := 41) dX9_flight_13 (by decide) (fun c13 => absurd c13 (by exact fun h8 => h8 hP.2.1)) (fun c13 => ?_)
  refine aw_ild3 dX9_flight_16 ?_
  refine aw_iconst dX9_flight_17 ?_
  refine aw_ldc (z := 100000) dX9_flight_18 hbk_X9_118 ?_
  refine aw_S3v dX9_flight_20 (c_within (by first | assumption | (constructor <;> omega) | exact hG _ _) (by first | assumption | (constructor <;> omega) | exact hG _ _) (by first | assumption | (constructor <;> omega) | exact hG _ _)) hbY_X9_within hbm_X9_99 hbs_X9_within (Nat.le_of_ble_eq_true rfl) ⟨by decide, by decide⟩ (by decide) (by decide) ?_
  refine aw_ifb_eq (tg := 41) dX9_flight_23 (by decide) (fun c23 => absurd c23 (by exact fun h8 => h8 hP.2.2.1)) (fun c23 => ?_)
  refine aw_ild4 dX9_flight_26 ?_
  refine aw_iconst dX9_flight_28 ?_
  refine aw_ldc (z := 100000) dX9_flight_29 hbk_X9_118 ?_
  refine aw_S3v dX9_flight_31 (c_within (by first | assumption | (constructor <;> omega) | exact hG _ _) (by first | assumption | (constructor <;> omega) | exact hG _ _) (by first | assumption | (constructor <;> omega) | exact hG _ _)) hbY_X9_within hbm_X9_99 hbs_X9_within (Nat.le_of_ble_eq_true rfl) ⟨by decide, by decide⟩ (by decide) (by decide) ?_
  refine aw_ifb_eq (tg := 41) dX9_flight_34 (by decide) (fun c34 => absurd c34 (by exact fun h8 => h8 hP.2.2.2)) (fun c34 => ?_)
  refine aw_iconst dX9_flight_37 ?_
  refine aw_goto (tg := 42) dX9_flight_38 (by decide) ?_
  refine aw_iconst dX9_flight_42 ?_
  refine aw_ild1 dX9_flight_43 ?_
  refine aw_ild2 dX9_flight_44 ?_
  refine aw_ild3 dX9_flight_45 ?_
  refine aw_ild4 dX9_flight_46 ?_
  refine aw_iconst dX9_flight_48 ?_
  refine aw_V7v dX9_flight_49 hT rfl rfl hbY_X9_note hbm_X9_181 hbi_X9_note hbe_X9_X9_note (Nat.le_of_ble_eq_true rfl) ⟨by decide, by decide⟩ (by decide) (by decide) ?_
  refine aw_ipu5 dX9_flight_52 (by decide) ?_
  refine aw_ald0 dX9_flight_54 ?_
  refine aw_getf dX9_flight_55 hbf_X9_95 rfl rfl ?_
  refine aw_if_ne (tg := 68) dX9_flight_58 (by decide) (hG1 _ _) (fun c58 => absurd c58 (by omega)) (fun c58 => ?_)
  refine aw_ald0 dX9_flight_61 ?_
  refine aw_V0v dX9_flight_62 hC rfl rfl hbY_X9_check hbm_X9_174 hbi_X9_check hbe_X9_X9_check (Nat.le_of_ble_eq_true rfl) ⟨by decide, by decide⟩ (by decide) (by decide) ?_
  refine aw_if_eq (tg := 72) dX9_flight_65 (by decide) (by decide) (fun c65 => absurd c65 (by decide)) (fun c65 => ?_)
  refine aw_iconst dX9_flight_68 ?_
  refine aw_goto (tg := 73) dX9_flight_69 (by decide) ?_
  refine aw_ipu6 dX9_flight_73 (by decide) ?_
  refine aw_ild5 dX9_flight_75 ?_
  exact aw_iret dX9_flight_77 rfl (by rfl) rfl rfl (by decide) (by decide)
set_option maxRecDepth 20000 in
set_option maxHeartbeats 1000000 in
theorem c_mStrikeN {l : Launch} {G : hb_G} {F : hb_F} {na : Nat} {e : Int} (ie : hb_in e) (hn : G 47 17 ≤ 200) (hP : ¬ ((0 ≤ e ∧ e < G 47 17) ∧ G 64 e ≠ 0)) (hG : hb_rg G) : hb_M l yX9_strike cX9_strike 3 none 6 0 0 [hb_r 47, hb_i e] (hb_w G F na) (77 + na) (.inl none) (hb_w (hb_u2 G 47 0 1) F na) (77 + na) := by
  refine hb_M_in rfl rfl (by decide) rfl (Nat.le_of_ble_eq_true rfl) ?_
  intro E z0 σ0
  refine aw_ald0 dX9_strike_0 ?_
  refine aw_ild1 dX9_strike_1 ?_
  refine aw_if_lt (tg := 22) dX9_strike_2 (by decide) (by first | exact hG _ _ | assumption | (constructor <;> omega)) (fun c2 => ?_) (fun c2 => ?_)
  · skip
    refine aw_iconst dX9_strike_22 ?_
    refine aw_goto (tg := 27) dX9_strike_23 (by decide) ?_
    refine aw_putz (jz := 0) dX9_strike_27 hbf_X9_95 hbS_X9 (fun C T n h9 => by cases h9; exact ⟨rfl, by decide +kernel, fun h8 => by cases h8⟩) rfl rfl rfl rfl ?_
    refine aw_ald0 dX9_strike_30 ?_
    refine aw_getf dX9_strike_31 hbf_X9_95 rfl rfl ?_
    refine aw_top (c9 := 1) rfl ?_
    refine aw_if_eq (tg := 38) dX9_strike_34 (by decide) (by decide) (fun c34 => absurd c34 (by decide)) (fun c34 => ?_)
    exact aw_vret dX9_strike_37 rfl rfl rfl rfl (by decide) (by decide)
  · skip
    refine aw_ild1 dX9_strike_5 ?_
    refine aw_ald0 dX9_strike_6 ?_
    refine aw_getf dX9_strike_7 hbf_X9_126 rfl rfl ?_
    refine aw_icmp_ge (tg := 22) dX9_strike_10 (by decide) (by first | exact hG _ _ | assumption | (constructor <;> omega)) (by first | exact hG _ _ | assumption | (constructor <;> omega)) (fun c10 => ?_) (fun c10 => ?_)
    · skip
      refine aw_iconst dX9_strike_22 ?_
      refine aw_goto (tg := 27) dX9_strike_23 (by decide) ?_
      refine aw_putz (jz := 0) dX9_strike_27 hbf_X9_95 hbS_X9 (fun C T n h9 => by cases h9; exact ⟨rfl, by decide +kernel, fun h8 => by cases h8⟩) rfl rfl rfl rfl ?_
      refine aw_ald0 dX9_strike_30 ?_
      refine aw_getf dX9_strike_31 hbf_X9_95 rfl rfl ?_
      refine aw_top (c9 := 1) rfl ?_
      refine aw_if_eq (tg := 38) dX9_strike_34 (by decide) (by decide) (fun c34 => absurd c34 (by decide)) (fun c34 => ?_)
      exact aw_vret dX9_strike_37 rfl rfl rfl rfl (by decide) (by decide)
    · skip
      refine aw_ald0 dX9_strike_13 ?_
      refine aw_getf dX9_strike_14 hbf_X9_58 rfl rfl ?_
      refine aw_ild1 dX9_strike_17 ?_
      refine aw_zald dX9_strike_18 rfl (by constructor <;> omega) (by decide) ?_
      refine aw_if_ne (tg := 26) dX9_strike_19 (by decide) (by first | exact hG _ _ | assumption | (constructor <;> omega)) (fun c19 => ?_) (fun c19 => ?_)
      · skip
        exact absurd (by omega) hP
      · skip
        refine aw_iconst dX9_strike_22 ?_
        refine aw_goto (tg := 27) dX9_strike_23 (by decide) ?_
        refine aw_putz (jz := 0) dX9_strike_27 hbf_X9_95 hbS_X9 (fun C T n h9 => by cases h9; exact ⟨rfl, by decide +kernel, fun h8 => by cases h8⟩) rfl rfl rfl rfl ?_
        refine aw_ald0 dX9_strike_30 ?_
        refine aw_getf dX9_strike_31 hbf_X9_95 rfl rfl ?_
        refine aw_top (c9 := 1) rfl ?_
        refine aw_if_eq (tg := 38) dX9_strike_34 (by decide) (by decide) (fun c34 => absurd c34 (by decide)) (fun c34 => ?_)
        exact aw_vret dX9_strike_37 rfl rfl rfl rfl (by decide) (by decide)
set_option maxRecDepth 20000 in
set_option maxHeartbeats 1000000 in
theorem c_mStrikeY {l : Launch} {G : hb_G} {F : hb_F} {na : Nat} {e : Int} (ie : hb_in e) (hn : G 47 17 ≤ 200) (hP : (0 ≤ e ∧ e < G 47 17) ∧ G 64 e ≠ 0) {G1 : hb_G} (hC : hb_M l yX9_check cX9_check 3 (some .boolean) 5 0 0 [hb_r 47] (hb_w (hb_u2 (hb_u2 (hb_u2 G 47 0 0) 64 e 0) 47 18 (G 47 18 - 1)) F na) (77 + na) (.inl (some (hb_i (1)))) (hb_w G1 F na) (77 + na)) (hG : hb_rg G) : hb_M l yX9_strike cX9_strike 3 none 6 0 0 [hb_r 47, hb_i e] (hb_w G F na) (77 + na) (.inl none) (hb_w G1 F na) (77 + na) := by
  refine hb_M_in rfl rfl (by decide) rfl (Nat.le_of_ble_eq_true rfl) ?_
  intro E z0 σ0
  refine aw_ald0 dX9_strike_0 ?_
  refine aw_ild1 dX9_strike_1 ?_
  refine aw_if_lt (tg := 22) dX9_strike_2 (by decide) (by first | exact hG _ _ | assumption | (constructor <;> omega)) (fun c2 => absurd c2 (by omega)) (fun c2 => ?_)
  refine aw_ild1 dX9_strike_5 ?_
  refine aw_ald0 dX9_strike_6 ?_
  refine aw_getf dX9_strike_7 hbf_X9_126 rfl rfl ?_
  refine aw_icmp_ge (tg := 22) dX9_strike_10 (by decide) (by first | exact hG _ _ | assumption | (constructor <;> omega)) (by first | exact hG _ _ | assumption | (constructor <;> omega)) (fun c10 => absurd c10 (by omega)) (fun c10 => ?_)
  refine aw_ald0 dX9_strike_13 ?_
  refine aw_getf dX9_strike_14 hbf_X9_58 rfl rfl ?_
  refine aw_ild1 dX9_strike_17 ?_
  refine aw_zald dX9_strike_18 rfl (by constructor <;> omega) (by decide) ?_
  refine aw_if_ne (tg := 26) dX9_strike_19 (by decide) (by first | exact hG _ _ | assumption | (constructor <;> omega)) (fun c19 => ?_) (fun c19 => absurd c19 (by omega))
  refine aw_iconst dX9_strike_26 ?_
  refine aw_putz (jz := 0) dX9_strike_27 hbf_X9_95 hbS_X9 (fun C T n h9 => by cases h9; exact ⟨rfl, by decide +kernel, fun h8 => by cases h8⟩) rfl rfl rfl rfl ?_
  refine aw_ald0 dX9_strike_30 ?_
  refine aw_getf dX9_strike_31 hbf_X9_95 rfl rfl ?_
  refine aw_top (c9 := 0) rfl ?_
  refine aw_if_eq (tg := 38) dX9_strike_34 (by decide) (by decide) (fun c34 => ?_) (fun c34 => absurd c34 (by decide))
  refine aw_ald0 dX9_strike_38 ?_
  refine aw_getf dX9_strike_39 hbf_X9_58 rfl rfl ?_
  refine aw_ild1 dX9_strike_42 ?_
  refine aw_iconst dX9_strike_43 ?_
  refine aw_zastw dX9_strike_44 (fun _ => rfl) rfl (by constructor <;> omega) (by decide) (by omega) ?_
  refine aw_ald0 dX9_strike_45 ?_
  refine aw_dup dX9_strike_46 rfl ?_
  refine aw_getf dX9_strike_47 hbf_X9_167 rfl rfl ?_
  refine aw_top (c9 := G 47 18) rfl ?_
  refine aw_iconst dX9_strike_50 ?_
  refine aw_isub dX9_strike_51 ?_
  refine aw_putz (jz := 18) dX9_strike_52 hbf_X9_167 hbS_X9 (fun C T n h9 => by cases h9; exact ⟨rfl, by decide +kernel, fun h8 => by cases h8⟩) rfl rfl rfl rfl ?_
  refine aw_ald0 dX9_strike_55 ?_
  refine aw_V0v dX9_strike_56 hC rfl rfl hbY_X9_check hbm_X9_174 hbi_X9_check hbe_X9_X9_check (Nat.le_of_ble_eq_true rfl) ⟨by decide, by decide⟩ (by decide) (by decide) ?_
  refine aw_if_eq (tg := 63) dX9_strike_59 (by decide) (by decide) (fun c59 => absurd c59 (by decide)) (fun c59 => ?_)
  exact aw_vret dX9_strike_62 rfl rfl rfl rfl (by decide) (by decide)
set_option maxRecDepth 20000 in
set_option maxHeartbeats 1000000 in
theorem c_mStrikeR {l : Launch} {G : hb_G} {F : hb_F} {na : Nat} {e : Int} (ie : hb_in e) (hn : G 47 17 ≤ 200) (hP : (0 ≤ e ∧ e < G 47 17) ∧ G 64 e ≠ 0) {G1 G3 : hb_G} {r9 : Int} (hC : hb_M l yX9_check cX9_check 3 (some .boolean) 5 0 0 [hb_r 47] (hb_w (hb_u2 (hb_u2 (hb_u2 G 47 0 0) 64 e 0) 47 18 (G 47 18 - 1)) F na) (77 + na) (.inl (some (hb_i (0)))) (hb_w G1 F na) (77 + na)) (hC2 : hb_M l yX9_check cX9_check 3 (some .boolean) 5 0 0 [hb_r 47] (hb_w (hb_u2 (hb_u2 G1 64 e 1) 47 18 (G1 47 18 + 1)) F na) (77 + na) (.inl (some (hb_i (r9)))) (hb_w G3 F na) (77 + na)) (hG : hb_rg G) : hb_M l yX9_strike cX9_strike 3 none 6 0 0 [hb_r 47, hb_i e] (hb_w G F na) (77 + na) (.inl none) (hb_w (hb_u2 G3 47 0 2) F na) (77 + na) := by
  refine hb_M_in rfl rfl (by decide) rfl (Nat.le_of_ble_eq_true rfl) ?_
  intro E z0 σ0
  refine aw_ald0 dX9_strike_0 ?_
  refine aw_ild1 dX9_strike_1 ?_
  refine aw_if_lt (tg := 22) dX9_strike_2 (by decide) (by first | exact hG _ _ | assumption | (constructor <;> omega)) (fun c2 => absurd c2 (by omega)) (fun c2 => ?_)
  refine aw_ild1 dX9_strike_5 ?_
  refine aw_ald0 dX9_strike_6 ?_
  refine aw_getf dX9_strike_7 hbf_X9_126 rfl rfl ?_
  refine aw_icmp_ge (tg := 22) dX9_strike_10 (by decide) (by first | exact hG _ _ | assumption | (constructor <;> omega)) (by first | exact hG _ _ | assumption | (constructor <;> omega)) (fun c10 => absurd c10 (by omega)) (fun c10 => ?_)
  refine aw_ald0 dX9_strike_13 ?_
  refine aw_getf dX9_strike_14 hbf_X9_58 rfl rfl ?_
  refine aw_ild1 dX9_strike_17 ?_
  refine aw_zald dX9_strike_18 rfl (by constructor <;> omega) (by decide) ?_
  refine aw_if_ne (tg := 26) dX9_strike_19 (by decide) (by first | exact hG _ _ | assumption | (constructor <;> omega)) (fun c19 => ?_) (fun c19 => absurd c19 (by omega))
  refine aw_iconst dX9_strike_26 ?_
  refine aw_putz (jz := 0) dX9_strike_27 hbf_X9_95 hbS_X9 (fun C T n h9 => by cases h9; exact ⟨rfl, by decide +kernel, fun h8 => by cases h8⟩) rfl rfl rfl rfl ?_
  refine aw_ald0 dX9_strike_30 ?_
  refine aw_getf dX9_strike_31 hbf_X9_95 rfl rfl ?_
  refine aw_top (c9 := 0) rfl ?_
  refine aw_if_eq (tg := 38) dX9_strike_34 (by decide) (by decide) (fun c34 => ?_) (fun c34 => absurd c34 (by decide))
  refine aw_ald0 dX9_strike_38 ?_
  refine aw_getf dX9_strike_39 hbf_X9_58 rfl rfl ?_
  refine aw_ild1 dX9_strike_42 ?_
  refine aw_iconst dX9_strike_43 ?_
  refine aw_zastw dX9_strike_44 (fun _ => rfl) rfl (by constructor <;> omega) (by decide) (by omega) ?_
  refine aw_ald0 dX9_strike_45 ?_
  refine aw_dup dX9_strike_46 rfl ?_
  refine aw_getf dX9_strike_47 hbf_X9_167 rfl rfl ?_
  refine aw_top (c9 := G 47 18) rfl ?_
  refine aw_iconst dX9_strike_50 ?_
  refine aw_isub dX9_strike_51 ?_
  refine aw_putz (jz := 18) dX9_strike_52 hbf_X9_167 hbS_X9 (fun C T n h9 => by cases h9; exact ⟨rfl, by decide +kernel, fun h8 => by cases h8⟩) rfl rfl rfl rfl ?_
  refine aw_ald0 dX9_strike_55 ?_
  refine aw_V0v dX9_strike_56 hC rfl rfl hbY_X9_check hbm_X9_174 hbi_X9_check hbe_X9_X9_check (Nat.le_of_ble_eq_true rfl) ⟨by decide, by decide⟩ (by decide) (by decide) ?_
  refine aw_if_eq (tg := 63) dX9_strike_59 (by decide) (by decide) (fun c59 => ?_) (fun c59 => absurd c59 (by decide))
  refine aw_ald0 dX9_strike_63 ?_
  refine aw_getf dX9_strike_64 hbf_X9_58 rfl rfl ?_
  refine aw_ild1 dX9_strike_67 ?_
  refine aw_iconst dX9_strike_68 ?_
  refine aw_zastw dX9_strike_69 (fun _ => rfl) rfl (by constructor <;> omega) (by decide) (by omega) ?_
  refine aw_ald0 dX9_strike_70 ?_
  refine aw_dup dX9_strike_71 rfl ?_
  refine aw_getf dX9_strike_72 hbf_X9_167 rfl rfl ?_
  refine aw_top (c9 := G1 47 18) rfl ?_
  refine aw_iconst dX9_strike_75 ?_
  refine aw_iadd dX9_strike_76 ?_
  refine aw_putz (jz := 18) dX9_strike_77 hbf_X9_167 hbS_X9 (fun C T n h9 => by cases h9; exact ⟨rfl, by decide +kernel, fun h8 => by cases h8⟩) rfl rfl rfl rfl ?_
  refine aw_ald0 dX9_strike_80 ?_
  refine aw_V0v dX9_strike_81 hC2 rfl rfl hbY_X9_check hbm_X9_174 hbi_X9_check hbe_X9_X9_check (Nat.le_of_ble_eq_true rfl) ⟨by decide, by decide⟩ (by decide) (by decide) ?_
  refine aw_ipu2 dX9_strike_84 (by decide) ?_
  refine aw_ald0 dX9_strike_85 ?_
  refine aw_iconst dX9_strike_86 ?_
  refine aw_putz (jz := 0) dX9_strike_87 hbf_X9_95 hbS_X9 (fun C T n h9 => by cases h9; exact ⟨rfl, by decide +kernel, fun h8 => by cases h8⟩) rfl rfl rfl rfl ?_
  exact aw_vret dX9_strike_90 rfl rfl rfl rfl (by decide) (by decide)
set_option maxRecDepth 20000 in
set_option maxHeartbeats 1000000 in
theorem c_mCount0 {l : Launch} {G : hb_G} {F : hb_F} {na : Nat}  : hb_M l yX9_count cX9_count 2 (some .int) 0 0 0 [hb_r 47, hb_i 0] (hb_w G F na) (77 + na) (.inl (some (hb_i (G 47 17)))) (hb_w (hb_u2 G 47 0 0) F na) (77 + na) := by
  refine hb_M_in rfl rfl (by decide) rfl (Nat.le_of_ble_eq_true rfl) ?_
  intro E z0 σ0
  refine aw_ald0 dX9_count_0 ?_
  refine aw_iconst dX9_count_1 ?_
  refine aw_putz (jz := 0) dX9_count_2 hbf_X9_95 hbS_X9 (fun C T n h9 => by cases h9; exact ⟨rfl, by decide +kernel, fun h8 => by cases h8⟩) rfl rfl rfl rfl ?_
  refine aw_ild1 dX9_count_5 ?_
  refine aw_if_ne (tg := 16) dX9_count_6 (by decide) (by decide) (fun c6 => absurd c6 (by decide)) (fun c6 => ?_)
  refine aw_ald0 dX9_count_9 ?_
  refine aw_getf dX9_count_10 hbf_X9_126 rfl rfl ?_
  refine aw_goto (tg := 41) dX9_count_13 (by decide) ?_
  exact aw_iret dX9_count_41 rfl (by rfl) rfl rfl (by decide) (by decide)
set_option maxRecDepth 20000 in
set_option maxHeartbeats 1000000 in
theorem c_mCount1 {l : Launch} {G : hb_G} {F : hb_F} {na : Nat}  : hb_M l yX9_count cX9_count 2 (some .int) 0 0 0 [hb_r 47, hb_i 1] (hb_w G F na) (77 + na) (.inl (some (hb_i (G 47 18)))) (hb_w (hb_u2 G 47 0 0) F na) (77 + na) := by
  refine hb_M_in rfl rfl (by decide) rfl (Nat.le_of_ble_eq_true rfl) ?_
  intro E z0 σ0
  refine aw_ald0 dX9_count_0 ?_
  refine aw_iconst dX9_count_1 ?_
  refine aw_putz (jz := 0) dX9_count_2 hbf_X9_95 hbS_X9 (fun C T n h9 => by cases h9; exact ⟨rfl, by decide +kernel, fun h8 => by cases h8⟩) rfl rfl rfl rfl ?_
  refine aw_ild1 dX9_count_5 ?_
  refine aw_if_ne (tg := 16) dX9_count_6 (by decide) (by decide) (fun c6 => ?_) (fun c6 => absurd c6 (by decide))
  refine aw_ild1 dX9_count_16 ?_
  refine aw_iconst dX9_count_17 ?_
  refine aw_icmp_ne (tg := 28) dX9_count_18 (by decide) (by decide) (by decide) (fun c18 => absurd c18 (by decide)) (fun c18 => ?_)
  refine aw_ald0 dX9_count_21 ?_
  refine aw_getf dX9_count_22 hbf_X9_167 rfl rfl ?_
  refine aw_goto (tg := 41) dX9_count_25 (by decide) ?_
  exact aw_iret dX9_count_41 rfl (by rfl) rfl rfl (by decide) (by decide)
set_option maxRecDepth 20000 in
set_option maxHeartbeats 1000000 in
theorem c_mCount2 {l : Launch} {G : hb_G} {F : hb_F} {na : Nat}  : hb_M l yX9_count cX9_count 2 (some .int) 0 0 0 [hb_r 47, hb_i 2] (hb_w G F na) (77 + na) (.inl (some (hb_i (G 47 4)))) (hb_w (hb_u2 G 47 0 0) F na) (77 + na) := by
  refine hb_M_in rfl rfl (by decide) rfl (Nat.le_of_ble_eq_true rfl) ?_
  intro E z0 σ0
  refine aw_ald0 dX9_count_0 ?_
  refine aw_iconst dX9_count_1 ?_
  refine aw_putz (jz := 0) dX9_count_2 hbf_X9_95 hbS_X9 (fun C T n h9 => by cases h9; exact ⟨rfl, by decide +kernel, fun h8 => by cases h8⟩) rfl rfl rfl rfl ?_
  refine aw_ild1 dX9_count_5 ?_
  refine aw_if_ne (tg := 16) dX9_count_6 (by decide) (by decide) (fun c6 => ?_) (fun c6 => absurd c6 (by decide))
  refine aw_ild1 dX9_count_16 ?_
  refine aw_iconst dX9_count_17 ?_
  refine aw_icmp_ne (tg := 28) dX9_count_18 (by decide) (by decide) (by decide) (fun c18 => ?_) (fun c18 => absurd c18 (by decide))
  refine aw_ild1 dX9_count_28 ?_
  refine aw_iconst dX9_count_29 ?_
  refine aw_icmp_ne (tg := 40) dX9_count_30 (by decide) (by decide) (by decide) (fun c30 => absurd c30 (by decide)) (fun c30 => ?_)
  refine aw_ald0 dX9_count_33 ?_
  refine aw_getf dX9_count_34 hbf_X9_111 rfl rfl ?_
  refine aw_goto (tg := 41) dX9_count_37 (by decide) ?_
  exact aw_iret dX9_count_41 rfl (by rfl) rfl rfl (by decide) (by decide)
set_option maxRecDepth 20000 in
set_option maxHeartbeats 1000000 in
theorem c_mCountN {l : Launch} {G : hb_G} {F : hb_F} {na : Nat} {w : Int} (iw : hb_in w) (hP : w < 0 ∨ 2 < w) : hb_M l yX9_count cX9_count 2 (some .int) 0 0 0 [hb_r 47, hb_i w] (hb_w G F na) (77 + na) (.inl (some (hb_i (-1)))) (hb_w (hb_u2 G 47 0 0) F na) (77 + na) := by
  refine hb_M_in rfl rfl (by decide) rfl (Nat.le_of_ble_eq_true rfl) ?_
  intro E z0 σ0
  refine aw_ald0 dX9_count_0 ?_
  refine aw_iconst dX9_count_1 ?_
  refine aw_putz (jz := 0) dX9_count_2 hbf_X9_95 hbS_X9 (fun C T n h9 => by cases h9; exact ⟨rfl, by decide +kernel, fun h8 => by cases h8⟩) rfl rfl rfl rfl ?_
  refine aw_ild1 dX9_count_5 ?_
  refine aw_if_ne (tg := 16) dX9_count_6 (by decide) (by first | exact hG _ _ | assumption | (constructor <;> omega)) (fun c6 => ?_) (fun c6 => absurd c6 (by omega))
  refine aw_ild1 dX9_count_16 ?_
  refine aw_iconst dX9_count_17 ?_
  refine aw_icmp_ne (tg := 28) dX9_count_18 (by decide) (by first | exact hG _ _ | assumption | (constructor <;> omega)) (by first | exact hG _ _ | assumption | (constructor <;> omega)) (fun c18 => ?_) (fun c18 => absurd c18 (by omega))
  refine aw_ild1 dX9_count_28 ?_
  refine aw_iconst dX9_count_29 ?_
  refine aw_icmp_ne (tg := 40) dX9_count_30 (by decide) (by first | exact hG _ _ | assumption | (constructor <;> omega)) (by first | exact hG _ _ | assumption | (constructor <;> omega)) (fun c30 => ?_) (fun c30 => absurd c30 (by omega))
  refine aw_iconst dX9_count_40 ?_
  exact aw_iret dX9_count_41 rfl (by rfl) rfl rfl (by decide) (by decide)
set_option maxRecDepth 20000 in
set_option maxHeartbeats 1000000 in
theorem c_mWhereN {l : Launch} {G : hb_G} {F : hb_F} {na : Nat} {t p w : Int} (it : hb_in t) (ip : hb_in p) (iw : hb_in w) (hP : ¬ ((0 ≤ t ∧ t < 40 ∧ hb_u2 G 47 0 0 51 t ≠ -1) ∧ (0 ≤ p ∧ p ≤ 3000099) ∧ (0 ≤ w ∧ w ≤ 3))) (hG : hb_rg G) : hb_M l yX9_where cX9_where 5 (some .int) 4 0 0 [hb_r 47, hb_i t, hb_i p, hb_i w] (hb_w G F na) (77 + na) (.inl (some (hb_i (-1)))) (hb_w (hb_u2 G 47 0 0) F na) (77 + na) := by
  refine hb_M_in rfl rfl (by decide) rfl (Nat.le_of_ble_eq_true rfl) ?_
  intro E z0 σ0
  have hG0 := hG
  have hG : hb_rg (hb_u2 G 47 0 0) := hG0.u2 (by decide)
  refine aw_ald0 dX9_where_0 ?_
  refine aw_iconst dX9_where_1 ?_
  refine aw_putz (jz := 0) dX9_where_2 hbf_X9_95 hbS_X9 (fun C T n h9 => by cases h9; exact ⟨rfl, by decide +kernel, fun h8 => by cases h8⟩) rfl rfl rfl rfl ?_
  refine aw_ald0 dX9_where_5 ?_
  refine aw_ild1 dX9_where_6 ?_
  refine aw_V1v dX9_where_7 (c_mIsThing (by first | assumption | (constructor <;> omega) | exact hG _ _) hG) rfl rfl hbY_X9_isThing hbm_X9_104 hbi_X9_isThing hbe_X9_X9_isThing (Nat.le_of_ble_eq_true rfl) ⟨by decide, by decide⟩ (by decide) (by decide) ?_
  refine aw_ifb_eq (tg := 29) dX9_where_10 (by decide) (fun c10 => ?_) (fun c10 => ?_)
  · skip
    refine aw_iconst dX9_where_29 ?_
    exact aw_iret dX9_where_30 rfl (by rfl) rfl rfl (by decide) (by decide)
  · skip
    refine aw_ild2 dX9_where_13 ?_
    refine aw_S1v dX9_where_14 (c_mIsPoint (by first | assumption | (constructor <;> omega) | exact hG _ _)) hbY_X9_isPoint hbm_X9_178 hbs_X9_isPoint (Nat.le_of_ble_eq_true rfl) ⟨by decide, by decide⟩ (by decide) (by decide) ?_
    refine aw_ifb_eq (tg := 29) dX9_where_17 (by decide) (fun c17 => ?_) (fun c17 => ?_)
    · skip
      refine aw_iconst dX9_where_29 ?_
      exact aw_iret dX9_where_30 rfl (by rfl) rfl rfl (by decide) (by decide)
    · skip
      refine aw_ild3 dX9_where_20 ?_
      refine aw_iconst dX9_where_21 ?_
      refine aw_iconst dX9_where_22 ?_
      refine aw_S3v dX9_where_23 (c_within (by first | assumption | (constructor <;> omega) | exact hG _ _) (by first | assumption | (constructor <;> omega) | exact hG _ _) (by first | assumption | (constructor <;> omega) | exact hG _ _)) hbY_X9_within hbm_X9_99 hbs_X9_within (Nat.le_of_ble_eq_true rfl) ⟨by decide, by decide⟩ (by decide) (by decide) ?_
      refine aw_ifb_ne (tg := 31) dX9_where_26 (by decide) (fun c26 => ?_) (fun c26 => ?_)
      · skip
        exact absurd (by omega) hP
      · skip
        refine aw_iconst dX9_where_29 ?_
        exact aw_iret dX9_where_30 rfl (by rfl) rfl rfl (by decide) (by decide)
set_option maxRecDepth 20000 in
set_option maxHeartbeats 1000000 in
theorem c_mWhere0 {l : Launch} {G : hb_G} {F : hb_F} {na : Nat} {t p : Int} (it : hb_in t) (ip : hb_in p) (hP : (0 ≤ t ∧ t < 40 ∧ hb_u2 G 47 0 0 51 t ≠ -1) ∧ (0 ≤ p ∧ p ≤ 3000099)) {G1 : hb_G} (hA : hb_M l yX9_arrange cX9_arrange 3 (some .boolean) 3 0 0 [hb_r 47, hb_i (p)] (hb_w (hb_u2 G 47 0 0) F na) (77 + na) (.inl (some (hb_i (1)))) (hb_w G1 F na) (77 + na)) (hG1 : hb_rg G1)   (hG : hb_rg G) : hb_M l yX9_where cX9_where 5 (some .int) 4 0 0 [hb_r 47, hb_i t, hb_i p, hb_i 0] (hb_w G F na) (77 + na) (.inl (some (hb_i (G1 71 t)))) (hb_w G1 F na) (77 + na) := by
  refine hb_M_in rfl rfl (by decide) rfl (Nat.le_of_ble_eq_true rfl) ?_
  intro E z0 σ0
  have hG0 := hG
  have hG : hb_rg (hb_u2 G 47 0 0) := hG0.u2 (by decide)
  refine aw_ald0 dX9_where_0 ?_
  refine aw_iconst dX9_where_1 ?_
  refine aw_putz (jz := 0) dX9_where_2 hbf_X9_95 hbS_X9 (fun C T n h9 => by cases h9; exact ⟨rfl, by decide +kernel, fun h8 => by cases h8⟩) rfl rfl rfl rfl ?_
  refine aw_ald0 dX9_where_5 ?_
  refine aw_ild1 dX9_where_6 ?_
  refine aw_V1v dX9_where_7 (c_mIsThing (by first | assumption | (constructor <;> omega) | exact hG _ _) hG) rfl rfl hbY_X9_isThing hbm_X9_104 hbi_X9_isThing hbe_X9_X9_isThing (Nat.le_of_ble_eq_true rfl) ⟨by decide, by decide⟩ (by decide) (by decide) ?_
  refine aw_ifb_eq (tg := 29) dX9_where_10 (by decide) (fun c10 => ?_) (fun c10 => ?_)
  · skip
    exact absurd hP (by omega)
  · skip
    refine aw_ild2 dX9_where_13 ?_
    refine aw_S1v dX9_where_14 (c_mIsPoint (by first | assumption | (constructor <;> omega) | exact hG _ _)) hbY_X9_isPoint hbm_X9_178 hbs_X9_isPoint (Nat.le_of_ble_eq_true rfl) ⟨by decide, by decide⟩ (by decide) (by decide) ?_
    refine aw_ifb_eq (tg := 29) dX9_where_17 (by decide) (fun c17 => ?_) (fun c17 => ?_)
    · skip
      exact absurd hP (by omega)
    · skip
      refine aw_ild3 dX9_where_20 ?_
      refine aw_iconst dX9_where_21 ?_
      refine aw_iconst dX9_where_22 ?_
      refine aw_S3v dX9_where_23 (c_within (by first | assumption | (constructor <;> omega) | exact hG _ _) (by first | assumption | (constructor <;> omega) | exact hG _ _) (by first | assumption | (constructor <;> omega) | exact hG _ _)) hbY_X9_within hbm_X9_99 hbs_X9_within (Nat.le_of_ble_eq_true rfl) ⟨by decide, by decide⟩ (by decide) (by decide) ?_
      refine aw_ifb_ne (tg := 31) dX9_where_26 (by decide) (fun c26 => ?_) (fun c26 => ?_)
      · skip
        refine aw_ald0 dX9_where_31 ?_
        refine aw_ild2 dX9_where_32 ?_
        refine aw_V1v dX9_where_33 hA rfl rfl hbY_X9_arrange hbm_X9_189 hbi_X9_arrange hbe_X9_X9_arrange (Nat.le_of_ble_eq_true rfl) ⟨by decide, by decide⟩ (by decide) (by decide) ?_
        have hG := hG1
        refine aw_ipu4 dX9_where_36 (by decide) ?_
        refine aw_ild3 dX9_where_38 ?_
        refine aw_if_ne (tg := 49) dX9_where_39 (by decide) (by decide) (fun c39 => absurd c39 (by decide)) (fun c39 => ?_)
        refine aw_ald0 dX9_where_42 ?_
        refine aw_getf dX9_where_43 hbf_X9_80 rfl rfl ?_
        refine aw_ild1 dX9_where_46 ?_
        refine aw_iald dX9_where_47 rfl (by constructor <;> omega) (by decide) ?_
        exact aw_iret dX9_where_48 rfl (by rfl) rfl rfl (by decide) (by decide)
      · skip
        exact absurd hP (by omega)
set_option maxRecDepth 20000 in
set_option maxHeartbeats 1000000 in
theorem c_mWhere1 {l : Launch} {G : hb_G} {F : hb_F} {na : Nat} {t p : Int} (it : hb_in t) (ip : hb_in p) (hP : (0 ≤ t ∧ t < 40 ∧ hb_u2 G 47 0 0 51 t ≠ -1) ∧ (0 ≤ p ∧ p ≤ 3000099)) {G1 : hb_G} (hA : hb_M l yX9_arrange cX9_arrange 3 (some .boolean) 3 0 0 [hb_r 47, hb_i (p)] (hb_w (hb_u2 G 47 0 0) F na) (77 + na) (.inl (some (hb_i (1)))) (hb_w G1 F na) (77 + na)) (hG1 : hb_rg G1)   (hG : hb_rg G) : hb_M l yX9_where cX9_where 5 (some .int) 4 0 0 [hb_r 47, hb_i t, hb_i p, hb_i 1] (hb_w G F na) (77 + na) (.inl (some (hb_i (G1 72 t)))) (hb_w G1 F na) (77 + na) := by
  refine hb_M_in rfl rfl (by decide) rfl (Nat.le_of_ble_eq_true rfl) ?_
  intro E z0 σ0
  have hG0 := hG
  have hG : hb_rg (hb_u2 G 47 0 0) := hG0.u2 (by decide)
  refine aw_ald0 dX9_where_0 ?_
  refine aw_iconst dX9_where_1 ?_
  refine aw_putz (jz := 0) dX9_where_2 hbf_X9_95 hbS_X9 (fun C T n h9 => by cases h9; exact ⟨rfl, by decide +kernel, fun h8 => by cases h8⟩) rfl rfl rfl rfl ?_
  refine aw_ald0 dX9_where_5 ?_
  refine aw_ild1 dX9_where_6 ?_
  refine aw_V1v dX9_where_7 (c_mIsThing (by first | assumption | (constructor <;> omega) | exact hG _ _) hG) rfl rfl hbY_X9_isThing hbm_X9_104 hbi_X9_isThing hbe_X9_X9_isThing (Nat.le_of_ble_eq_true rfl) ⟨by decide, by decide⟩ (by decide) (by decide) ?_
  refine aw_ifb_eq (tg := 29) dX9_where_10 (by decide) (fun c10 => ?_) (fun c10 => ?_)
  · skip
    exact absurd hP (by omega)
  · skip
    refine aw_ild2 dX9_where_13 ?_
    refine aw_S1v dX9_where_14 (c_mIsPoint (by first | assumption | (constructor <;> omega) | exact hG _ _)) hbY_X9_isPoint hbm_X9_178 hbs_X9_isPoint (Nat.le_of_ble_eq_true rfl) ⟨by decide, by decide⟩ (by decide) (by decide) ?_
    refine aw_ifb_eq (tg := 29) dX9_where_17 (by decide) (fun c17 => ?_) (fun c17 => ?_)
    · skip
      exact absurd hP (by omega)
    · skip
      refine aw_ild3 dX9_where_20 ?_
      refine aw_iconst dX9_where_21 ?_
      refine aw_iconst dX9_where_22 ?_
      refine aw_S3v dX9_where_23 (c_within (by first | assumption | (constructor <;> omega) | exact hG _ _) (by first | assumption | (constructor <;> omega) | exact hG _ _) (by first | assumption | (constructor <;> omega) | exact hG _ _)) hbY_X9_within hbm_X9_99 hbs_X9_within (Nat.le_of_ble_eq_true rfl) ⟨by decide, by decide⟩ (by decide) (by decide) ?_
      refine aw_ifb_ne (tg := 31) dX9_where_26 (by decide) (fun c26 => ?_) (fun c26 => ?_)
      · skip
        refine aw_ald0 dX9_where_31 ?_
        refine aw_ild2 dX9_where_32 ?_
        refine aw_V1v dX9_where_33 hA rfl rfl hbY_X9_arrange hbm_X9_189 hbi_X9_arrange hbe_X9_X9_arrange (Nat.le_of_ble_eq_true rfl) ⟨by decide, by decide⟩ (by decide) (by decide) ?_
        have hG := hG1
        refine aw_ipu4 dX9_where_36 (by decide) ?_
        refine aw_ild3 dX9_where_38 ?_
        refine aw_if_ne (tg := 49) dX9_where_39 (by decide) (by decide) (fun c39 => ?_) (fun c39 => absurd c39 (by decide))
        refine aw_ild3 dX9_where_49 ?_
        refine aw_iconst dX9_where_50 ?_
        refine aw_icmp_ne (tg := 61) dX9_where_51 (by decide) (by decide) (by decide) (fun c51 => absurd c51 (by decide)) (fun c51 => ?_)
        refine aw_ald0 dX9_where_54 ?_
        refine aw_getf dX9_where_55 hbf_X9_83 rfl rfl ?_
        refine aw_ild1 dX9_where_58 ?_
        refine aw_iald dX9_where_59 rfl (by constructor <;> omega) (by decide) ?_
        exact aw_iret dX9_where_60 rfl (by rfl) rfl rfl (by decide) (by decide)
      · skip
        exact absurd hP (by omega)
set_option maxRecDepth 20000 in
set_option maxHeartbeats 1000000 in
theorem c_mWhere2 {l : Launch} {G : hb_G} {F : hb_F} {na : Nat} {t p : Int} (it : hb_in t) (ip : hb_in p) (hP : (0 ≤ t ∧ t < 40 ∧ hb_u2 G 47 0 0 51 t ≠ -1) ∧ (0 ≤ p ∧ p ≤ 3000099)) {G1 : hb_G} (hA : hb_M l yX9_arrange cX9_arrange 3 (some .boolean) 3 0 0 [hb_r 47, hb_i (p)] (hb_w (hb_u2 G 47 0 0) F na) (77 + na) (.inl (some (hb_i (1)))) (hb_w G1 F na) (77 + na)) (hG1 : hb_rg G1)  {r9 : Int} (hM : hb_M l yX9_machineOf cX9_machineOf 3 (some .int) 3 0 0 [hb_r 47, hb_i t] (hb_w G1 F na) (77 + na) (.inl (some (hb_i (r9)))) (hb_w G1 F na) (77 + na)) (hG : hb_rg G) : hb_M l yX9_where cX9_where 5 (some .int) 4 0 0 [hb_r 47, hb_i t, hb_i p, hb_i 2] (hb_w G F na) (77 + na) (.inl (some (hb_i (r9)))) (hb_w G1 F na) (77 + na) := by
  refine hb_M_in rfl rfl (by decide) rfl (Nat.le_of_ble_eq_true rfl) ?_
  intro E z0 σ0
  have hG0 := hG
  have hG : hb_rg (hb_u2 G 47 0 0) := hG0.u2 (by decide)
  refine aw_ald0 dX9_where_0 ?_
  refine aw_iconst dX9_where_1 ?_
  refine aw_putz (jz := 0) dX9_where_2 hbf_X9_95 hbS_X9 (fun C T n h9 => by cases h9; exact ⟨rfl, by decide +kernel, fun h8 => by cases h8⟩) rfl rfl rfl rfl ?_
  refine aw_ald0 dX9_where_5 ?_
  refine aw_ild1 dX9_where_6 ?_
  refine aw_V1v dX9_where_7 (c_mIsThing (by first | assumption | (constructor <;> omega) | exact hG _ _) hG) rfl rfl hbY_X9_isThing hbm_X9_104 hbi_X9_isThing hbe_X9_X9_isThing (Nat.le_of_ble_eq_true rfl) ⟨by decide, by decide⟩ (by decide) (by decide) ?_
  refine aw_ifb_eq (tg := 29) dX9_where_10 (by decide) (fun c10 => ?_) (fun c10 => ?_)
  · skip
    exact absurd hP (by omega)
  · skip
    refine aw_ild2 dX9_where_13 ?_
    refine aw_S1v dX9_where_14 (c_mIsPoint (by first | assumption | (constructor <;> omega) | exact hG _ _)) hbY_X9_isPoint hbm_X9_178 hbs_X9_isPoint (Nat.le_of_ble_eq_true rfl) ⟨by decide, by decide⟩ (by decide) (by decide) ?_
    refine aw_ifb_eq (tg := 29) dX9_where_17 (by decide) (fun c17 => ?_) (fun c17 => ?_)
    · skip
      exact absurd hP (by omega)
    · skip
      refine aw_ild3 dX9_where_20 ?_
      refine aw_iconst dX9_where_21 ?_
      refine aw_iconst dX9_where_22 ?_
      refine aw_S3v dX9_where_23 (c_within (by first | assumption | (constructor <;> omega) | exact hG _ _) (by first | assumption | (constructor <;> omega) | exact hG _ _) (by first | assumption | (constructor <;> omega) | exact hG _ _)) hbY_X9_within hbm_X9_99 hbs_X9_within (Nat.le_of_ble_eq_true rfl) ⟨by decide, by decide⟩ (by decide) (by decide) ?_
      refine aw_ifb_ne (tg := 31) dX9_where_26 (by decide) (fun c26 => ?_) (fun c26 => ?_)
      · skip
        refine aw_ald0 dX9_where_31 ?_
        refine aw_ild2 dX9_where_32 ?_
        refine aw_V1v dX9_where_33 hA rfl rfl hbY_X9_arrange hbm_X9_189 hbi_X9_arrange hbe_X9_X9_arrange (Nat.le_of_ble_eq_true rfl) ⟨by decide, by decide⟩ (by decide) (by decide) ?_
        have hG := hG1
        refine aw_ipu4 dX9_where_36 (by decide) ?_
        refine aw_ild3 dX9_where_38 ?_
        refine aw_if_ne (tg := 49) dX9_where_39 (by decide) (by decide) (fun c39 => ?_) (fun c39 => absurd c39 (by decide))
        refine aw_ild3 dX9_where_49 ?_
        refine aw_iconst dX9_where_50 ?_
        refine aw_icmp_ne (tg := 61) dX9_where_51 (by decide) (by decide) (by decide) (fun c51 => ?_) (fun c51 => absurd c51 (by decide))
        refine aw_ild3 dX9_where_61 ?_
        refine aw_iconst dX9_where_62 ?_
        refine aw_icmp_ne (tg := 74) dX9_where_63 (by decide) (by decide) (by decide) (fun c63 => absurd c63 (by decide)) (fun c63 => ?_)
        refine aw_ald0 dX9_where_66 ?_
        refine aw_ild1 dX9_where_67 ?_
        refine aw_V1v dX9_where_68 hM rfl rfl hbY_X9_machineOf hbm_X9_156 hbi_X9_machineOf hbe_X9_X9_machineOf (Nat.le_of_ble_eq_true rfl) ⟨by decide, by decide⟩ (by decide) (by decide) ?_
        refine aw_goto (tg := 79) dX9_where_71 (by decide) ?_
        exact aw_iret dX9_where_79 rfl (by rfl) rfl rfl (by decide) (by decide)
      · skip
        exact absurd hP (by omega)
set_option maxRecDepth 20000 in
set_option maxHeartbeats 1000000 in
theorem c_mWhere3 {l : Launch} {G : hb_G} {F : hb_F} {na : Nat} {t p : Int} (it : hb_in t) (ip : hb_in p) (hP : (0 ≤ t ∧ t < 40 ∧ hb_u2 G 47 0 0 51 t ≠ -1) ∧ (0 ≤ p ∧ p ≤ 3000099)) {G1 : hb_G} (hA : hb_M l yX9_arrange cX9_arrange 3 (some .boolean) 3 0 0 [hb_r 47, hb_i (p)] (hb_w (hb_u2 G 47 0 0) F na) (77 + na) (.inl (some (hb_i (1)))) (hb_w G1 F na) (77 + na)) (hG1 : hb_rg G1)  (hp : hb_tr (G1 71)) (hen : ∀ t, 0 ≤ t ∧ t < 40 → hb_en (G1 71) 4 t) (hG : hb_rg G) : hb_M l yX9_where cX9_where 5 (some .int) 4 0 0 [hb_r 47, hb_i t, hb_i p, hb_i 3] (hb_w G F na) (77 + na) (.inl (some (hb_i (hb_dp (G1 71) 4 t)))) (hb_w G1 F na) (77 + na) := by
  refine hb_M_in rfl rfl (by decide) rfl (Nat.le_of_ble_eq_true rfl) ?_
  intro E z0 σ0
  have hG0 := hG
  have hG : hb_rg (hb_u2 G 47 0 0) := hG0.u2 (by decide)
  refine aw_ald0 dX9_where_0 ?_
  refine aw_iconst dX9_where_1 ?_
  refine aw_putz (jz := 0) dX9_where_2 hbf_X9_95 hbS_X9 (fun C T n h9 => by cases h9; exact ⟨rfl, by decide +kernel, fun h8 => by cases h8⟩) rfl rfl rfl rfl ?_
  refine aw_ald0 dX9_where_5 ?_
  refine aw_ild1 dX9_where_6 ?_
  refine aw_V1v dX9_where_7 (c_mIsThing (by first | assumption | (constructor <;> omega) | exact hG _ _) hG) rfl rfl hbY_X9_isThing hbm_X9_104 hbi_X9_isThing hbe_X9_X9_isThing (Nat.le_of_ble_eq_true rfl) ⟨by decide, by decide⟩ (by decide) (by decide) ?_
  refine aw_ifb_eq (tg := 29) dX9_where_10 (by decide) (fun c10 => ?_) (fun c10 => ?_)
  · skip
    exact absurd hP (by omega)
  · skip
    refine aw_ild2 dX9_where_13 ?_
    refine aw_S1v dX9_where_14 (c_mIsPoint (by first | assumption | (constructor <;> omega) | exact hG _ _)) hbY_X9_isPoint hbm_X9_178 hbs_X9_isPoint (Nat.le_of_ble_eq_true rfl) ⟨by decide, by decide⟩ (by decide) (by decide) ?_
    refine aw_ifb_eq (tg := 29) dX9_where_17 (by decide) (fun c17 => ?_) (fun c17 => ?_)
    · skip
      exact absurd hP (by omega)
    · skip
      refine aw_ild3 dX9_where_20 ?_
      refine aw_iconst dX9_where_21 ?_
      refine aw_iconst dX9_where_22 ?_
      refine aw_S3v dX9_where_23 (c_within (by first | assumption | (constructor <;> omega) | exact hG _ _) (by first | assumption | (constructor <;> omega) | exact hG _ _) (by first | assumption | (constructor <;> omega) | exact hG _ _)) hbY_X9_within hbm_X9_99 hbs_X9_within (Nat.le_of_ble_eq_true rfl) ⟨by decide, by decide⟩ (by decide) (by decide) ?_
      refine aw_ifb_ne (tg := 31) dX9_where_26 (by decide) (fun c26 => ?_) (fun c26 => ?_)
      · skip
        refine aw_ald0 dX9_where_31 ?_
        refine aw_ild2 dX9_where_32 ?_
        refine aw_V1v dX9_where_33 hA rfl rfl hbY_X9_arrange hbm_X9_189 hbi_X9_arrange hbe_X9_X9_arrange (Nat.le_of_ble_eq_true rfl) ⟨by decide, by decide⟩ (by decide) (by decide) ?_
        have hG := hG1
        refine aw_ipu4 dX9_where_36 (by decide) ?_
        refine aw_ild3 dX9_where_38 ?_
        refine aw_if_ne (tg := 49) dX9_where_39 (by decide) (by decide) (fun c39 => ?_) (fun c39 => absurd c39 (by decide))
        refine aw_ild3 dX9_where_49 ?_
        refine aw_iconst dX9_where_50 ?_
        refine aw_icmp_ne (tg := 61) dX9_where_51 (by decide) (by decide) (by decide) (fun c51 => ?_) (fun c51 => absurd c51 (by decide))
        refine aw_ild3 dX9_where_61 ?_
        refine aw_iconst dX9_where_62 ?_
        refine aw_icmp_ne (tg := 74) dX9_where_63 (by decide) (by decide) (by decide) (fun c63 => ?_) (fun c63 => absurd c63 (by decide))
        refine aw_ald0 dX9_where_74 ?_
        refine aw_ild1 dX9_where_75 ?_
        refine aw_V1v dX9_where_76 (c_mDepth (by first | assumption | (constructor <;> omega) | exact hG _ _) hp hen hG) rfl rfl hbY_X9_depth hbm_X9_136 hbi_X9_depth hbe_X9_X9_depth (Nat.le_of_ble_eq_true rfl) ⟨by decide, by decide⟩ (by decide) (by decide) ?_
        exact aw_iret dX9_where_79 rfl (by rfl) rfl rfl (by decide) (by decide)
      · skip
        exact absurd hP (by omega)
set_option maxRecDepth 20000 in
set_option maxHeartbeats 1000000 in
theorem c_mAtN {l : Launch} {G : hb_G} {F : hb_F} {na : Nat} {t q p : Int} (it : hb_in t) (iq : hb_in q) (ip : hb_in p) (hP : ¬ ((0 ≤ t ∧ t < 40 ∧ hb_u2 G 47 0 0 51 t ≠ -1) ∧ (0 ≤ q ∧ q ≤ 3) ∧ (0 ≤ p ∧ p ≤ 3000099))) (hG : hb_rg G) : hb_M l yX9_at cX9_at 5 (some .int) 4 0 0 [hb_r 47, hb_i t, hb_i q, hb_i p] (hb_w G F na) (77 + na) (.inl (some (hb_i (-1)))) (hb_w (hb_u2 G 47 0 0) F na) (77 + na) := by
  refine hb_M_in rfl rfl (by decide) rfl (Nat.le_of_ble_eq_true rfl) ?_
  intro E z0 σ0
  have hG0 := hG
  have hG : hb_rg (hb_u2 G 47 0 0) := hG0.u2 (by decide)
  refine aw_ald0 dX9_at_0 ?_
  refine aw_iconst dX9_at_1 ?_
  refine aw_putz (jz := 0) dX9_at_2 hbf_X9_95 hbS_X9 (fun C T n h9 => by cases h9; exact ⟨rfl, by decide +kernel, fun h8 => by cases h8⟩) rfl rfl rfl rfl ?_
  refine aw_ald0 dX9_at_5 ?_
  refine aw_ild1 dX9_at_6 ?_
  refine aw_V1v dX9_at_7 (c_mIsThing (by first | assumption | (constructor <;> omega) | exact hG _ _) hG) rfl rfl hbY_X9_isThing hbm_X9_104 hbi_X9_isThing hbe_X9_X9_isThing (Nat.le_of_ble_eq_true rfl) ⟨by decide, by decide⟩ (by decide) (by decide) ?_
  refine aw_ifb_eq (tg := 29) dX9_at_10 (by decide) (fun c10 => ?_) (fun c10 => ?_)
  · skip
    refine aw_iconst dX9_at_29 ?_
    exact aw_iret dX9_at_30 rfl (by rfl) rfl rfl (by decide) (by decide)
  · skip
    refine aw_ild2 dX9_at_13 ?_
    refine aw_iconst dX9_at_14 ?_
    refine aw_iconst dX9_at_15 ?_
    refine aw_S3v dX9_at_16 (c_within (by first | assumption | (constructor <;> omega) | exact hG _ _) (by first | assumption | (constructor <;> omega) | exact hG _ _) (by first | assumption | (constructor <;> omega) | exact hG _ _)) hbY_X9_within hbm_X9_99 hbs_X9_within (Nat.le_of_ble_eq_true rfl) ⟨by decide, by decide⟩ (by decide) (by decide) ?_
    refine aw_ifb_eq (tg := 29) dX9_at_19 (by decide) (fun c19 => ?_) (fun c19 => ?_)
    · skip
      refine aw_iconst dX9_at_29 ?_
      exact aw_iret dX9_at_30 rfl (by rfl) rfl rfl (by decide) (by decide)
    · skip
      refine aw_ild3 dX9_at_22 ?_
      refine aw_S1v dX9_at_23 (c_mIsPoint (by first | assumption | (constructor <;> omega) | exact hG _ _)) hbY_X9_isPoint hbm_X9_178 hbs_X9_isPoint (Nat.le_of_ble_eq_true rfl) ⟨by decide, by decide⟩ (by decide) (by decide) ?_
      refine aw_ifb_ne (tg := 31) dX9_at_26 (by decide) (fun c26 => ?_) (fun c26 => ?_)
      · skip
        exact absurd (by omega) hP
      · skip
        refine aw_iconst dX9_at_29 ?_
        exact aw_iret dX9_at_30 rfl (by rfl) rfl rfl (by decide) (by decide)
set_option maxRecDepth 20000 in
set_option maxHeartbeats 1000000 in
theorem c_mAtY {l : Launch} {G : hb_G} {F : hb_F} {na : Nat} {t q p : Int} (it : hb_in t) (iq : hb_in q) (ip : hb_in p) (hP : (0 ≤ t ∧ t < 40 ∧ hb_u2 G 47 0 0 51 t ≠ -1) ∧ (0 ≤ q ∧ q ≤ 3) ∧ (0 ≤ p ∧ p ≤ 3000099)) {G1 : hb_G} (hA : hb_M l yX9_arrange cX9_arrange 3 (some .boolean) 3 0 0 [hb_r 47, hb_i (p)] (hb_w (hb_u2 G 47 0 0) F na) (77 + na) (.inl (some (hb_i (1)))) (hb_w G1 F na) (77 + na)) (hG1 : hb_rg G1)  (hG : hb_rg G) : hb_M l yX9_at cX9_at 5 (some .int) 4 0 0 [hb_r 47, hb_i t, hb_i q, hb_i p] (hb_w G F na) (77 + na) (.inl (some (hb_i (hb_fd (hb_jh G1 t q) 40 0 0)))) (hb_w G1 F na) (77 + na) := by
  refine hb_M_in rfl rfl (by decide) rfl (Nat.le_of_ble_eq_true rfl) ?_
  intro E z0 σ0
  have hG0 := hG
  have hG : hb_rg (hb_u2 G 47 0 0) := hG0.u2 (by decide)
  refine aw_ald0 dX9_at_0 ?_
  refine aw_iconst dX9_at_1 ?_
  refine aw_putz (jz := 0) dX9_at_2 hbf_X9_95 hbS_X9 (fun C T n h9 => by cases h9; exact ⟨rfl, by decide +kernel, fun h8 => by cases h8⟩) rfl rfl rfl rfl ?_
  refine aw_ald0 dX9_at_5 ?_
  refine aw_ild1 dX9_at_6 ?_
  refine aw_V1v dX9_at_7 (c_mIsThing (by first | assumption | (constructor <;> omega) | exact hG _ _) hG) rfl rfl hbY_X9_isThing hbm_X9_104 hbi_X9_isThing hbe_X9_X9_isThing (Nat.le_of_ble_eq_true rfl) ⟨by decide, by decide⟩ (by decide) (by decide) ?_
  refine aw_ifb_eq (tg := 29) dX9_at_10 (by decide) (fun c10 => ?_) (fun c10 => ?_)
  · skip
    exact absurd hP (by omega)
  · skip
    refine aw_ild2 dX9_at_13 ?_
    refine aw_iconst dX9_at_14 ?_
    refine aw_iconst dX9_at_15 ?_
    refine aw_S3v dX9_at_16 (c_within (by first | assumption | (constructor <;> omega) | exact hG _ _) (by first | assumption | (constructor <;> omega) | exact hG _ _) (by first | assumption | (constructor <;> omega) | exact hG _ _)) hbY_X9_within hbm_X9_99 hbs_X9_within (Nat.le_of_ble_eq_true rfl) ⟨by decide, by decide⟩ (by decide) (by decide) ?_
    refine aw_ifb_eq (tg := 29) dX9_at_19 (by decide) (fun c19 => ?_) (fun c19 => ?_)
    · skip
      exact absurd hP (by omega)
    · skip
      refine aw_ild3 dX9_at_22 ?_
      refine aw_S1v dX9_at_23 (c_mIsPoint (by first | assumption | (constructor <;> omega) | exact hG _ _)) hbY_X9_isPoint hbm_X9_178 hbs_X9_isPoint (Nat.le_of_ble_eq_true rfl) ⟨by decide, by decide⟩ (by decide) (by decide) ?_
      refine aw_ifb_ne (tg := 31) dX9_at_26 (by decide) (fun c26 => ?_) (fun c26 => ?_)
      · skip
        refine aw_ald0 dX9_at_31 ?_
        refine aw_ild3 dX9_at_32 ?_
        refine aw_V1v dX9_at_33 hA rfl rfl hbY_X9_arrange hbm_X9_189 hbi_X9_arrange hbe_X9_X9_arrange (Nat.le_of_ble_eq_true rfl) ⟨by decide, by decide⟩ (by decide) (by decide) ?_
        have hG := hG1
        refine aw_ipu4 dX9_at_36 (by decide) ?_
        refine aw_ald0 dX9_at_38 ?_
        refine aw_ild1 dX9_at_39 ?_
        refine aw_ild2 dX9_at_40 ?_
        refine aw_V2v dX9_at_41 (c_mHanging (by first | assumption | (constructor <;> omega) | exact hG _ _) (by first | assumption | (constructor <;> omega) | exact hG _ _) hG) rfl rfl hbY_X9_hanging hbm_X9_140 hbi_X9_hanging hbe_X9_X9_hanging (Nat.le_of_ble_eq_true rfl) ⟨by decide, by decide⟩ (by decide) (by decide) ?_
        exact aw_iret dX9_at_44 rfl (by rfl) rfl rfl (by decide) (by decide)
      · skip
        exact absurd hP (by omega)
def hb_fq (G : hb_G) (t pt : Int) (e : Int) : Prop := G 64 e ≠ 0 ∧ G 63 e = 0 ∧ G 66 e ≤ pt ∧ G 73 (40 * e + t) = G 65 e
noncomputable def hb_sm (G : hb_G) (t u pt : Int) (n : Nat) : Int := match n with
  | 0 => if u = 0 then G 52 t else G 53 t
  | e + 1 => @ite Int (hb_fq G t pt e) (Classical.propDecidable _) (hb_sm G t u pt e + (if u = 0 then G 67 e else G 68 e)) (hb_sm G t u pt e)
theorem hb_sm_y {G : hb_G} {t u pt : Int} {e : Nat} (h : hb_fq G t pt e) : hb_sm G t u pt (e + 1) = hb_sm G t u pt e + (if u = 0 then G 67 e else G 68 e) := by
  conv => lhs; unfold hb_sm
  exact if_pos h
theorem hb_sm_n {G : hb_G} {t u pt : Int} {e : Nat} (h : ¬ hb_fq G t pt e) : hb_sm G t u pt (e + 1) = hb_sm G t u pt e := by
  conv => lhs; unfold hb_sm
  exact if_neg h
/-- a counter by the reference -/
noncomputable def hb_cj (G : hb_G) (t u pt : Int) (n : Nat) : Int := if u = 2 then pt / 100 - G 54 t else hb_sm G t u pt n
set_option maxRecDepth 20000 in
set_option maxHeartbeats 1000000 in
theorem c_mCounterAt0 {l : Launch} {G : hb_G} {F : hb_F} {na : Nat} {t pt : Int} {n : Nat} (ht : 0 ≤ t ∧ t < 40) (ip : hb_in pt) (hp0 : 0 ≤ pt) (hn : G 47 17 = n) (hn2 : n ≤ 200) (hG : hb_rg G) : hb_M l yX9_counterAt cX9_counterAt 6 (some .int) 0 0 0 [hb_r 47, hb_i t, hb_i 0, hb_i pt] (hb_w G F na) (77 + na) (.inl (some (hb_i (hb_cj G t 0 pt n)))) (hb_w G F na) (77 + na) := by
  refine hb_M_in rfl rfl (by decide) rfl (Nat.le_of_ble_eq_true rfl) ?_
  intro E z0 σ0
  have key : ∀ (r e : Nat), e + r = n → hb_W l RX9 cX9_counterAt 6 (some .int) "counterAt" [] E z0 (hb_rm 0 0 0) σ0 (77 + na) (.inl (some (hb_i (hb_cj G t 0 pt n)))) (hb_w G F na) (77 + na) 0 0 41 [hb_r 47, hb_i t, hb_i 0, hb_i pt, hb_i (hb_sm G t 0 pt e), hb_i (e : Int)] [] (hb_w G F na) (77 + na) := by
    intro r
    induction r with
    | zero =>
      intro e g0
      have e9 : e = n := by omega
      subst e9
      refine aw_ild5 dX9_counterAt_41 ?_
      refine aw_ald0 dX9_counterAt_43 ?_
      refine aw_getf dX9_counterAt_44 hbf_X9_126 rfl rfl ?_
      refine aw_icmp_ge (tg := 138) dX9_counterAt_47 (by decide) (by constructor <;> omega) (by constructor <;> omega) (fun c47 => ?_) (fun c47 => absurd c47 (by omega))
      refine aw_ild4 dX9_counterAt_138 ?_
      exact aw_iret dX9_counterAt_140 rfl (by rfl) rfl rfl (by decide) (by decide)
    | succ r ih =>
      intro e g0
      have h9 := ih (e + 1) (by omega)
      refine aw_ild5 dX9_counterAt_41 ?_
      refine aw_ald0 dX9_counterAt_43 ?_
      refine aw_getf dX9_counterAt_44 hbf_X9_126 rfl rfl ?_
      refine aw_icmp_ge (tg := 138) dX9_counterAt_47 (by decide) (by constructor <;> omega) (by constructor <;> omega) (fun c47 => absurd c47 (by omega)) (fun c47 => ?_)
      refine aw_ald0 dX9_counterAt_50 ?_
      refine aw_getf dX9_counterAt_51 hbf_X9_58 rfl rfl ?_
      refine aw_ild5 dX9_counterAt_54 ?_
      refine aw_zald dX9_counterAt_56 rfl (by constructor <;> omega) (by decide) ?_
      refine aw_if_eq (tg := 132) dX9_counterAt_57 (by decide) (by first | exact hG _ _ | assumption | (constructor <;> omega)) (fun c57 => ?_) (fun c57 => ?_)
      · skip
        refine aw_iinc5 dX9_counterAt_132 (by decide) ?_
        refine aw_goto (tg := 41) dX9_counterAt_135 (by decide) ?_
        first | (rw [hb_sm_y (G := G) (t := t) (u := 0) (pt := pt) (e := e) ⟨by omega, by omega, by omega, by assumption⟩] at h9; exact h9) | (rw [hb_sm_n (G := G) (t := t) (u := 0) (pt := pt) (e := e) (fun h8 => by obtain ⟨b1, b2, b3, b4⟩ := h8; omega)] at h9; exact h9)
      · skip
        refine aw_ald0 dX9_counterAt_60 ?_
        refine aw_getf dX9_counterAt_61 hbf_X9_55 rfl rfl ?_
        refine aw_ild5 dX9_counterAt_64 ?_
        refine aw_iald dX9_counterAt_66 rfl (by constructor <;> omega) (by decide) ?_
        refine aw_if_ne (tg := 132) dX9_counterAt_67 (by decide) (by first | exact hG _ _ | assumption | (constructor <;> omega)) (fun c67 => ?_) (fun c67 => ?_)
        · skip
          refine aw_iinc5 dX9_counterAt_132 (by decide) ?_
          refine aw_goto (tg := 41) dX9_counterAt_135 (by decide) ?_
          first | (rw [hb_sm_y (G := G) (t := t) (u := 0) (pt := pt) (e := e) ⟨by omega, by omega, by omega, by assumption⟩] at h9; exact h9) | (rw [hb_sm_n (G := G) (t := t) (u := 0) (pt := pt) (e := e) (fun h8 => by obtain ⟨b1, b2, b3, b4⟩ := h8; omega)] at h9; exact h9)
        · skip
          refine aw_ald0 dX9_counterAt_70 ?_
          refine aw_getf dX9_counterAt_71 hbf_X9_65 rfl rfl ?_
          refine aw_ild5 dX9_counterAt_74 ?_
          refine aw_iald dX9_counterAt_76 rfl (by constructor <;> omega) (by decide) ?_
          refine aw_ild3 dX9_counterAt_77 ?_
          refine aw_icmp_gt (tg := 132) dX9_counterAt_78 (by decide) (by first | exact hG _ _ | assumption | (constructor <;> omega)) (by first | exact hG _ _ | assumption | (constructor <;> omega)) (fun c78 => ?_) (fun c78 => ?_)
          · skip
            refine aw_iinc5 dX9_counterAt_132 (by decide) ?_
            refine aw_goto (tg := 41) dX9_counterAt_135 (by decide) ?_
            first | (rw [hb_sm_y (G := G) (t := t) (u := 0) (pt := pt) (e := e) ⟨by omega, by omega, by omega, by assumption⟩] at h9; exact h9) | (rw [hb_sm_n (G := G) (t := t) (u := 0) (pt := pt) (e := e) (fun h8 => by obtain ⟨b1, b2, b3, b4⟩ := h8; omega)] at h9; exact h9)
          · skip
            refine aw_ald0 dX9_counterAt_81 ?_
            refine aw_getf dX9_counterAt_82 hbf_X9_86 rfl rfl ?_
            refine aw_bipush dX9_counterAt_85 (by decide) ?_
            refine aw_ild5 dX9_counterAt_87 ?_
            refine aw_imul dX9_counterAt_89 ?_
            refine aw_ild1 dX9_counterAt_90 ?_
            refine aw_iadd dX9_counterAt_91 ?_
            refine aw_iald dX9_counterAt_92 rfl (by constructor <;> omega) (by decide) ?_
            refine aw_ald0 dX9_counterAt_93 ?_
            refine aw_getf dX9_counterAt_94 hbf_X9_62 rfl rfl ?_
            refine aw_ild5 dX9_counterAt_97 ?_
            refine aw_iald dX9_counterAt_99 rfl (by constructor <;> omega) (by decide) ?_
            refine aw_icmp_eq (tg := 106) dX9_counterAt_100 (by decide) (by first | exact hG _ _ | assumption | (constructor <;> omega)) (by first | exact hG _ _ | assumption | (constructor <;> omega)) (fun c100 => ?_) (fun c100 => ?_)
            · skip
              refine aw_ild4 dX9_counterAt_106 ?_
              refine aw_ild2 dX9_counterAt_108 ?_
              refine aw_if_ne (tg := 122) dX9_counterAt_109 (by decide) (by decide) (fun c109 => absurd c109 (by decide)) (fun c109 => ?_)
              refine aw_ald0 dX9_counterAt_112 ?_
              refine aw_getf dX9_counterAt_113 hbf_X9_68 rfl rfl ?_
              refine aw_ild5 dX9_counterAt_116 ?_
              refine aw_iald dX9_counterAt_118 rfl (by constructor <;> omega) (by decide) ?_
              refine aw_goto (tg := 129) dX9_counterAt_119 (by decide) ?_
              refine aw_iadd dX9_counterAt_129 ?_
              refine aw_ist4 dX9_counterAt_130 (by decide) ?_
              refine aw_iinc5 dX9_counterAt_132 (by decide) ?_
              refine aw_goto (tg := 41) dX9_counterAt_135 (by decide) ?_
              first | (rw [hb_sm_y (G := G) (t := t) (u := 0) (pt := pt) (e := e) ⟨by omega, by omega, by omega, by assumption⟩] at h9; exact h9) | (rw [hb_sm_n (G := G) (t := t) (u := 0) (pt := pt) (e := e) (fun h8 => by obtain ⟨b1, b2, b3, b4⟩ := h8; omega)] at h9; exact h9)
            · skip
              refine aw_goto (tg := 132) dX9_counterAt_103 (by decide) ?_
              refine aw_iinc5 dX9_counterAt_132 (by decide) ?_
              refine aw_goto (tg := 41) dX9_counterAt_135 (by decide) ?_
              first | (rw [hb_sm_y (G := G) (t := t) (u := 0) (pt := pt) (e := e) ⟨by omega, by omega, by omega, by assumption⟩] at h9; exact h9) | (rw [hb_sm_n (G := G) (t := t) (u := 0) (pt := pt) (e := e) (fun h8 => by obtain ⟨b1, b2, b3, b4⟩ := h8; omega)] at h9; exact h9)
  refine aw_ild2 dX9_counterAt_0 ?_
  refine aw_iconst dX9_counterAt_1 ?_
  refine aw_icmp_ne (tg := 17) dX9_counterAt_2 (by decide) (by decide) (by decide) (fun c2 => ?_) (fun c2 => absurd c2 (by decide))
  refine aw_ild2 dX9_counterAt_17 ?_
  refine aw_if_ne (tg := 30) dX9_counterAt_18 (by decide) (by decide) (fun c18 => absurd c18 (by decide)) (fun c18 => ?_)
  refine aw_ald0 dX9_counterAt_21 ?_
  refine aw_getf dX9_counterAt_22 hbf_X9_22 rfl rfl ?_
  refine aw_ild1 dX9_counterAt_25 ?_
  refine aw_iald dX9_counterAt_26 rfl (by constructor <;> omega) (by decide) ?_
  refine aw_goto (tg := 36) dX9_counterAt_27 (by decide) ?_
  refine aw_ipu4 dX9_counterAt_36 (by decide) ?_
  refine aw_iconst dX9_counterAt_38 ?_
  refine aw_ipu5 dX9_counterAt_39 (by decide) ?_
  exact key n 0 (by omega)
set_option maxRecDepth 20000 in
set_option maxHeartbeats 1000000 in
theorem c_mCounterAt1 {l : Launch} {G : hb_G} {F : hb_F} {na : Nat} {t pt : Int} {n : Nat} (ht : 0 ≤ t ∧ t < 40) (ip : hb_in pt) (hp0 : 0 ≤ pt) (hn : G 47 17 = n) (hn2 : n ≤ 200) (hG : hb_rg G) : hb_M l yX9_counterAt cX9_counterAt 6 (some .int) 0 0 0 [hb_r 47, hb_i t, hb_i 1, hb_i pt] (hb_w G F na) (77 + na) (.inl (some (hb_i (hb_cj G t 1 pt n)))) (hb_w G F na) (77 + na) := by
  refine hb_M_in rfl rfl (by decide) rfl (Nat.le_of_ble_eq_true rfl) ?_
  intro E z0 σ0
  have key : ∀ (r e : Nat), e + r = n → hb_W l RX9 cX9_counterAt 6 (some .int) "counterAt" [] E z0 (hb_rm 0 0 0) σ0 (77 + na) (.inl (some (hb_i (hb_cj G t 1 pt n)))) (hb_w G F na) (77 + na) 0 0 41 [hb_r 47, hb_i t, hb_i 1, hb_i pt, hb_i (hb_sm G t 1 pt e), hb_i (e : Int)] [] (hb_w G F na) (77 + na) := by
    intro r
    induction r with
    | zero =>
      intro e g0
      have e9 : e = n := by omega
      subst e9
      refine aw_ild5 dX9_counterAt_41 ?_
      refine aw_ald0 dX9_counterAt_43 ?_
      refine aw_getf dX9_counterAt_44 hbf_X9_126 rfl rfl ?_
      refine aw_icmp_ge (tg := 138) dX9_counterAt_47 (by decide) (by constructor <;> omega) (by constructor <;> omega) (fun c47 => ?_) (fun c47 => absurd c47 (by omega))
      refine aw_ild4 dX9_counterAt_138 ?_
      exact aw_iret dX9_counterAt_140 rfl (by rfl) rfl rfl (by decide) (by decide)
    | succ r ih =>
      intro e g0
      have h9 := ih (e + 1) (by omega)
      refine aw_ild5 dX9_counterAt_41 ?_
      refine aw_ald0 dX9_counterAt_43 ?_
      refine aw_getf dX9_counterAt_44 hbf_X9_126 rfl rfl ?_
      refine aw_icmp_ge (tg := 138) dX9_counterAt_47 (by decide) (by constructor <;> omega) (by constructor <;> omega) (fun c47 => absurd c47 (by omega)) (fun c47 => ?_)
      refine aw_ald0 dX9_counterAt_50 ?_
      refine aw_getf dX9_counterAt_51 hbf_X9_58 rfl rfl ?_
      refine aw_ild5 dX9_counterAt_54 ?_
      refine aw_zald dX9_counterAt_56 rfl (by constructor <;> omega) (by decide) ?_
      refine aw_if_eq (tg := 132) dX9_counterAt_57 (by decide) (by first | exact hG _ _ | assumption | (constructor <;> omega)) (fun c57 => ?_) (fun c57 => ?_)
      · skip
        refine aw_iinc5 dX9_counterAt_132 (by decide) ?_
        refine aw_goto (tg := 41) dX9_counterAt_135 (by decide) ?_
        first | (rw [hb_sm_y (G := G) (t := t) (u := 1) (pt := pt) (e := e) ⟨by omega, by omega, by omega, by assumption⟩] at h9; exact h9) | (rw [hb_sm_n (G := G) (t := t) (u := 1) (pt := pt) (e := e) (fun h8 => by obtain ⟨b1, b2, b3, b4⟩ := h8; omega)] at h9; exact h9)
      · skip
        refine aw_ald0 dX9_counterAt_60 ?_
        refine aw_getf dX9_counterAt_61 hbf_X9_55 rfl rfl ?_
        refine aw_ild5 dX9_counterAt_64 ?_
        refine aw_iald dX9_counterAt_66 rfl (by constructor <;> omega) (by decide) ?_
        refine aw_if_ne (tg := 132) dX9_counterAt_67 (by decide) (by first | exact hG _ _ | assumption | (constructor <;> omega)) (fun c67 => ?_) (fun c67 => ?_)
        · skip
          refine aw_iinc5 dX9_counterAt_132 (by decide) ?_
          refine aw_goto (tg := 41) dX9_counterAt_135 (by decide) ?_
          first | (rw [hb_sm_y (G := G) (t := t) (u := 1) (pt := pt) (e := e) ⟨by omega, by omega, by omega, by assumption⟩] at h9; exact h9) | (rw [hb_sm_n (G := G) (t := t) (u := 1) (pt := pt) (e := e) (fun h8 => by obtain ⟨b1, b2, b3, b4⟩ := h8; omega)] at h9; exact h9)
        · skip
          refine aw_ald0 dX9_counterAt_70 ?_
          refine aw_getf dX9_counterAt_71 hbf_X9_65 rfl rfl ?_
          refine aw_ild5 dX9_counterAt_74 ?_
          refine aw_iald dX9_counterAt_76 rfl (by constructor <;> omega) (by decide) ?_
          refine aw_ild3 dX9_counterAt_77 ?_
          refine aw_icmp_gt (tg := 132) dX9_counterAt_78 (by decide) (by first | exact hG _ _ | assumption | (constructor <;> omega)) (by first | exact hG _ _ | assumption | (constructor <;> omega)) (fun c78 => ?_) (fun c78 => ?_)
          · skip
            refine aw_iinc5 dX9_counterAt_132 (by decide) ?_
            refine aw_goto (tg := 41) dX9_counterAt_135 (by decide) ?_
            first | (rw [hb_sm_y (G := G) (t := t) (u := 1) (pt := pt) (e := e) ⟨by omega, by omega, by omega, by assumption⟩] at h9; exact h9) | (rw [hb_sm_n (G := G) (t := t) (u := 1) (pt := pt) (e := e) (fun h8 => by obtain ⟨b1, b2, b3, b4⟩ := h8; omega)] at h9; exact h9)
          · skip
            refine aw_ald0 dX9_counterAt_81 ?_
            refine aw_getf dX9_counterAt_82 hbf_X9_86 rfl rfl ?_
            refine aw_bipush dX9_counterAt_85 (by decide) ?_
            refine aw_ild5 dX9_counterAt_87 ?_
            refine aw_imul dX9_counterAt_89 ?_
            refine aw_ild1 dX9_counterAt_90 ?_
            refine aw_iadd dX9_counterAt_91 ?_
            refine aw_iald dX9_counterAt_92 rfl (by constructor <;> omega) (by decide) ?_
            refine aw_ald0 dX9_counterAt_93 ?_
            refine aw_getf dX9_counterAt_94 hbf_X9_62 rfl rfl ?_
            refine aw_ild5 dX9_counterAt_97 ?_
            refine aw_iald dX9_counterAt_99 rfl (by constructor <;> omega) (by decide) ?_
            refine aw_icmp_eq (tg := 106) dX9_counterAt_100 (by decide) (by first | exact hG _ _ | assumption | (constructor <;> omega)) (by first | exact hG _ _ | assumption | (constructor <;> omega)) (fun c100 => ?_) (fun c100 => ?_)
            · skip
              refine aw_ild4 dX9_counterAt_106 ?_
              refine aw_ild2 dX9_counterAt_108 ?_
              refine aw_if_ne (tg := 122) dX9_counterAt_109 (by decide) (by decide) (fun c109 => ?_) (fun c109 => absurd c109 (by decide))
              refine aw_ald0 dX9_counterAt_122 ?_
              refine aw_getf dX9_counterAt_123 hbf_X9_71 rfl rfl ?_
              refine aw_ild5 dX9_counterAt_126 ?_
              refine aw_iald dX9_counterAt_128 rfl (by constructor <;> omega) (by decide) ?_
              refine aw_iadd dX9_counterAt_129 ?_
              refine aw_ist4 dX9_counterAt_130 (by decide) ?_
              refine aw_iinc5 dX9_counterAt_132 (by decide) ?_
              refine aw_goto (tg := 41) dX9_counterAt_135 (by decide) ?_
              first | (rw [hb_sm_y (G := G) (t := t) (u := 1) (pt := pt) (e := e) ⟨by omega, by omega, by omega, by assumption⟩] at h9; exact h9) | (rw [hb_sm_n (G := G) (t := t) (u := 1) (pt := pt) (e := e) (fun h8 => by obtain ⟨b1, b2, b3, b4⟩ := h8; omega)] at h9; exact h9)
            · skip
              refine aw_goto (tg := 132) dX9_counterAt_103 (by decide) ?_
              refine aw_iinc5 dX9_counterAt_132 (by decide) ?_
              refine aw_goto (tg := 41) dX9_counterAt_135 (by decide) ?_
              first | (rw [hb_sm_y (G := G) (t := t) (u := 1) (pt := pt) (e := e) ⟨by omega, by omega, by omega, by assumption⟩] at h9; exact h9) | (rw [hb_sm_n (G := G) (t := t) (u := 1) (pt := pt) (e := e) (fun h8 => by obtain ⟨b1, b2, b3, b4⟩ := h8; omega)] at h9; exact h9)
  refine aw_ild2 dX9_counterAt_0 ?_
  refine aw_iconst dX9_counterAt_1 ?_
  refine aw_icmp_ne (tg := 17) dX9_counterAt_2 (by decide) (by decide) (by decide) (fun c2 => ?_) (fun c2 => absurd c2 (by decide))
  refine aw_ild2 dX9_counterAt_17 ?_
  refine aw_if_ne (tg := 30) dX9_counterAt_18 (by decide) (by decide) (fun c18 => ?_) (fun c18 => absurd c18 (by decide))
  refine aw_ald0 dX9_counterAt_30 ?_
  refine aw_getf dX9_counterAt_31 hbf_X9_25 rfl rfl ?_
  refine aw_ild1 dX9_counterAt_34 ?_
  refine aw_iald dX9_counterAt_35 rfl (by constructor <;> omega) (by decide) ?_
  refine aw_ipu4 dX9_counterAt_36 (by decide) ?_
  refine aw_iconst dX9_counterAt_38 ?_
  refine aw_ipu5 dX9_counterAt_39 (by decide) ?_
  exact key n 0 (by omega)
set_option maxRecDepth 20000 in
set_option maxHeartbeats 1000000 in
theorem c_mCounterAt2 {l : Launch} {G : hb_G} {F : hb_F} {na : Nat} {t pt : Int} {n : Nat} (ht : 0 ≤ t ∧ t < 40) (ip : hb_in pt) (hp0 : 0 ≤ pt) (hn : G 47 17 = n) (hn2 : n ≤ 200) (hG : hb_rg G) : hb_M l yX9_counterAt cX9_counterAt 6 (some .int) 0 0 0 [hb_r 47, hb_i t, hb_i 2, hb_i pt] (hb_w G F na) (77 + na) (.inl (some (hb_i (hb_cj G t 2 pt n)))) (hb_w G F na) (77 + na) := by
  refine hb_M_in rfl rfl (by decide) rfl (Nat.le_of_ble_eq_true rfl) ?_
  intro E z0 σ0
  refine aw_ild2 dX9_counterAt_0 ?_
  refine aw_iconst dX9_counterAt_1 ?_
  refine aw_icmp_ne (tg := 17) dX9_counterAt_2 (by decide) (by decide) (by decide) (fun c2 => absurd c2 (by decide)) (fun c2 => ?_)
  refine aw_ild3 dX9_counterAt_5 ?_
  refine aw_bipush dX9_counterAt_6 (by decide) ?_
  refine aw_idiv dX9_counterAt_8 ip (by decide) hp0 (by decide) ?_
  refine aw_ald0 dX9_counterAt_9 ?_
  refine aw_getf dX9_counterAt_10 hbf_X9_28 rfl rfl ?_
  refine aw_ild1 dX9_counterAt_13 ?_
  refine aw_iald dX9_counterAt_14 rfl (by constructor <;> omega) (by decide) ?_
  refine aw_isub dX9_counterAt_15 ?_
  exact aw_iret dX9_counterAt_16 rfl (by rfl) rfl rfl (by decide) (by decide)
theorem c_mCounterAt {l : Launch} {G : hb_G} {F : hb_F} {na : Nat} {t u pt : Int} {n : Nat} (hu : u = 0 ∨ u = 1 ∨ u = 2) (ht : 0 ≤ t ∧ t < 40) (ip : hb_in pt) (hp0 : 0 ≤ pt) (hn : G 47 17 = n) (hn2 : n ≤ 200) (hG : hb_rg G) : hb_M l yX9_counterAt cX9_counterAt 6 (some .int) 0 0 0 [hb_r 47, hb_i t, hb_i u, hb_i pt] (hb_w G F na) (77 + na) (.inl (some (hb_i (hb_cj G t u pt n)))) (hb_w G F na) (77 + na) := by
  rcases hu with rfl | rfl | rfl
  · exact c_mCounterAt0 ht ip hp0 hn hn2 hG
  · exact c_mCounterAt1 ht ip hp0 hn hn2 hG
  · exact c_mCounterAt2 ht ip hp0 hn hn2 hG
set_option maxRecDepth 20000 in
set_option maxHeartbeats 1000000 in
theorem c_mCounterN {l : Launch} {G : hb_G} {F : hb_F} {na : Nat} {t u d : Int} (it : hb_in t) (iu : hb_in u) (id : hb_in d) (hP : ¬ ((0 ≤ t ∧ t < 40 ∧ hb_u2 G 47 0 0 51 t ≠ -1) ∧ (0 ≤ u ∧ u ≤ 2) ∧ (0 ≤ d ∧ d ≤ 30000))) (hG : hb_rg G) : hb_M l yX9_counter cX9_counter 4 (some .int) 2 0 0 [hb_r 47, hb_i t, hb_i u, hb_i d] (hb_w G F na) (77 + na) (.inl (some (hb_i (0)))) (hb_w (hb_u2 G 47 0 0) F na) (77 + na) := by
  refine hb_M_in rfl rfl (by decide) rfl (Nat.le_of_ble_eq_true rfl) ?_
  intro E z0 σ0
  have hG0 := hG
  have hG : hb_rg (hb_u2 G 47 0 0) := hG0.u2 (by decide)
  refine aw_ald0 dX9_counter_0 ?_
  refine aw_iconst dX9_counter_1 ?_
  refine aw_putz (jz := 0) dX9_counter_2 hbf_X9_95 hbS_X9 (fun C T n h9 => by cases h9; exact ⟨rfl, by decide +kernel, fun h8 => by cases h8⟩) rfl rfl rfl rfl ?_
  refine aw_ald0 dX9_counter_5 ?_
  refine aw_ild1 dX9_counter_6 ?_
  refine aw_V1v dX9_counter_7 (c_mIsThing (by first | assumption | (constructor <;> omega) | exact hG _ _) hG) rfl rfl hbY_X9_isThing hbm_X9_104 hbi_X9_isThing hbe_X9_X9_isThing (Nat.le_of_ble_eq_true rfl) ⟨by decide, by decide⟩ (by decide) (by decide) ?_
  refine aw_ifb_eq (tg := 45) dX9_counter_10 (by decide) (fun c10 => ?_) (fun c10 => ?_)
  · skip
    refine aw_iconst dX9_counter_45 ?_
    exact aw_iret dX9_counter_46 rfl (by rfl) rfl rfl (by decide) (by decide)
  · skip
    refine aw_ild2 dX9_counter_13 ?_
    refine aw_iconst dX9_counter_14 ?_
    refine aw_iconst dX9_counter_15 ?_
    refine aw_S3v dX9_counter_16 (c_within (by first | assumption | (constructor <;> omega) | exact hG _ _) (by first | assumption | (constructor <;> omega) | exact hG _ _) (by first | assumption | (constructor <;> omega) | exact hG _ _)) hbY_X9_within hbm_X9_99 hbs_X9_within (Nat.le_of_ble_eq_true rfl) ⟨by decide, by decide⟩ (by decide) (by decide) ?_
    refine aw_ifb_eq (tg := 45) dX9_counter_19 (by decide) (fun c19 => ?_) (fun c19 => ?_)
    · skip
      refine aw_iconst dX9_counter_45 ?_
      exact aw_iret dX9_counter_46 rfl (by rfl) rfl rfl (by decide) (by decide)
    · skip
      refine aw_ild3 dX9_counter_22 ?_
      refine aw_S1v dX9_counter_23 (c_mIsDay (by first | assumption | (constructor <;> omega) | exact hG _ _)) hbY_X9_isDay hbm_X9_115 hbs_X9_isDay (Nat.le_of_ble_eq_true rfl) ⟨by decide, by decide⟩ (by decide) (by decide) ?_
      refine aw_ifb_eq (tg := 45) dX9_counter_26 (by decide) (fun c26 => ?_) (fun c26 => ?_)
      · skip
        refine aw_iconst dX9_counter_45 ?_
        exact aw_iret dX9_counter_46 rfl (by rfl) rfl rfl (by decide) (by decide)
      · skip
        exact absurd (by omega) hP
set_option maxRecDepth 20000 in
set_option maxHeartbeats 1000000 in
theorem c_mCounterY {l : Launch} {G : hb_G} {F : hb_F} {na : Nat} {t u d : Int} {n : Nat} (it : hb_in t) (iu : hb_in u) (id : hb_in d) (hP : (0 ≤ t ∧ t < 40 ∧ hb_u2 G 47 0 0 51 t ≠ -1) ∧ (0 ≤ u ∧ u ≤ 2) ∧ (0 ≤ d ∧ d ≤ 30000)) (hn : (hb_u2 G 47 0 0) 47 17 = n) (hn2 : n ≤ 200) (hG : hb_rg G) : hb_M l yX9_counter cX9_counter 4 (some .int) 2 0 0 [hb_r 47, hb_i t, hb_i u, hb_i d] (hb_w G F na) (77 + na) (.inl (some (hb_i (hb_cj (hb_u2 G 47 0 0) t u (100 * d + 99) n)))) (hb_w (hb_u2 G 47 0 0) F na) (77 + na) := by
  refine hb_M_in rfl rfl (by decide) rfl (Nat.le_of_ble_eq_true rfl) ?_
  intro E z0 σ0
  have hG0 := hG
  have hG : hb_rg (hb_u2 G 47 0 0) := hG0.u2 (by decide)
  refine aw_ald0 dX9_counter_0 ?_
  refine aw_iconst dX9_counter_1 ?_
  refine aw_putz (jz := 0) dX9_counter_2 hbf_X9_95 hbS_X9 (fun C T n h9 => by cases h9; exact ⟨rfl, by decide +kernel, fun h8 => by cases h8⟩) rfl rfl rfl rfl ?_
  refine aw_ald0 dX9_counter_5 ?_
  refine aw_ild1 dX9_counter_6 ?_
  refine aw_V1v dX9_counter_7 (c_mIsThing (by first | assumption | (constructor <;> omega) | exact hG _ _) hG) rfl rfl hbY_X9_isThing hbm_X9_104 hbi_X9_isThing hbe_X9_X9_isThing (Nat.le_of_ble_eq_true rfl) ⟨by decide, by decide⟩ (by decide) (by decide) ?_
  refine aw_ifb_eq (tg := 45) dX9_counter_10 (by decide) (fun c10 => ?_) (fun c10 => ?_)
  · skip
    exact absurd hP (by omega)
  · skip
    refine aw_ild2 dX9_counter_13 ?_
    refine aw_iconst dX9_counter_14 ?_
    refine aw_iconst dX9_counter_15 ?_
    refine aw_S3v dX9_counter_16 (c_within (by first | assumption | (constructor <;> omega) | exact hG _ _) (by first | assumption | (constructor <;> omega) | exact hG _ _) (by first | assumption | (constructor <;> omega) | exact hG _ _)) hbY_X9_within hbm_X9_99 hbs_X9_within (Nat.le_of_ble_eq_true rfl) ⟨by decide, by decide⟩ (by decide) (by decide) ?_
    refine aw_ifb_eq (tg := 45) dX9_counter_19 (by decide) (fun c19 => ?_) (fun c19 => ?_)
    · skip
      exact absurd hP (by omega)
    · skip
      refine aw_ild3 dX9_counter_22 ?_
      refine aw_S1v dX9_counter_23 (c_mIsDay (by first | assumption | (constructor <;> omega) | exact hG _ _)) hbY_X9_isDay hbm_X9_115 hbs_X9_isDay (Nat.le_of_ble_eq_true rfl) ⟨by decide, by decide⟩ (by decide) (by decide) ?_
      refine aw_ifb_eq (tg := 45) dX9_counter_26 (by decide) (fun c26 => ?_) (fun c26 => ?_)
      · skip
        exact absurd hP (by omega)
      · skip
        refine aw_ald0 dX9_counter_29 ?_
        refine aw_ild1 dX9_counter_30 ?_
        refine aw_ild2 dX9_counter_31 ?_
        refine aw_bipush dX9_counter_32 (by decide) ?_
        refine aw_ild3 dX9_counter_34 ?_
        refine aw_imul dX9_counter_35 ?_
        refine aw_bipush dX9_counter_36 (by decide) ?_
        refine aw_iadd dX9_counter_38 ?_
        refine aw_V3v dX9_counter_39 (c_mCounterAt (by omega) (by omega) (by constructor <;> omega) (by omega) hn hn2 hG) rfl rfl hbY_X9_counterAt hbm_X9_192 hbi_X9_counterAt hbe_X9_X9_counterAt (Nat.le_of_ble_eq_true rfl) ⟨by decide, by decide⟩ (by decide) (by decide) ?_
        refine aw_goto (tg := 46) dX9_counter_42 (by decide) ?_
        exact aw_iret dX9_counter_46 rfl (by rfl) rfl rfl (by decide) (by decide)
